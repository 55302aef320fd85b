/-! PART cm: words, and what a value begins with. -/
section Wcm
variable {xs : List (Nat × List Int32)} {M : Nat → Prop} {d : Nat} {A B C S Z S0 : wS} {Q : wO → wS → Prop} {T : Int → Int} {n f0 u dp b0 b1 : Int} {N X : List (List Int)} {c i k pm : Nat} {I : List pz_I} {F : List pz_F} {o : pz_O}
variable {PA : Nat → Int} {x y v p t : Int} {J : List Int}
section
variable (K V P : Nat → Int) (f : Int) (R : pz_R)
/-- a word that begins a value -/
def pz_WO (x : Int) (i : Nat) (dp u : Int) (I : List pz_I) (F : List pz_F) (o : pz_O) : Prop := if K i = 41 then (if 400 ≤ f + F.length then o = pz_fa P 7 i else pz_q (pz_fn K P f R (i + 1) dp u I F) (fun i I F g o => o = .inr (i, I ++ [(24, g, 0, u)], F, 0)) o) else if K i = 50 then o = .inr (i + 1, I ++ [(33, 0, 0, u)], F, 0) else if K i = 51 ∨ K i = 52 ∨ K i = 53 then o = .inr (i + 1, I ++ [(0, if K i = 51 then 0 else if K i = 53 then 1 else 2, 0, u)], F, 0) else if K i = 49 then (if x = 0 then o = pz_fa P 1 i else pz_FI49 K P R i dp u I F o) else if 54 ≤ K i ∧ K i < 62 then pz_FI54 K P R i dp u I F o else o = pz_fa P 1 i
end
theorem pzFI_w {K V P : Nat → Int} {f : Int} {R : pz_R} (hd : pz_FI K V P f R x i dp u I F o) (h : K i ≠ 2 ∧ K i ≠ 3 ∧ K i ≠ 4 ∧ K i ≠ 5 ∧ K i ≠ 6 ∧ K i ≠ 10 ∧ K i ≠ 14 ∧ K i ≠ 12) : pz_WO K P f R x i dp u I F o := by
  unfold pz_FI at hd
  rw [if_neg h.1, if_neg h.2.1, if_neg h.2.2.1, if_neg h.2.2.2.1, if_neg h.2.2.2.2.1, if_neg h.2.2.2.2.2.1, if_neg h.2.2.2.2.2.2.1, if_neg h.2.2.2.2.2.2.2] at hd
  exact hd
theorem nu_nn (T : Int → Int) (n p : Int) : ∀ (f : Nat) (t v : Int), 0 ≤ v → 0 ≤ (lx_nu T n p f t v).2 := by
  intro f
  induction f with
  | zero => intro t v h; exact h
  | succ f ih =>
    intro t v h
    rw [lx_nu_s]
    by_cases c : lx_di (lx_at T n t) = true
    · rw [if_pos c]
      refine ih _ _ ?_
      have c2 : 48 ≤ lx_at T n t ∧ lx_at T n t ≤ 57 := by unfold lx_di at c; simpa using c
      split <;> omega
    · rw [if_neg c]; exact h
theorem rL_10 (h : rL T n i S) (hk : kq T n N X i = 2) : S 237 10 = vq T n N X i ∧ 0 ≤ vq T n N X i ∧ vq T n N X i ≤ 2147483647 := by
  have hc := kq_cs T n N X i
  have htk : lx_tk T n 0 (tp T n 0 i) = 2 := by
    have := sk_rx (lx_si T n 0 (tp T n 0 i))
    omega
  have hv : vq T n N X i = lx_va T n (tp T n 0 i) := by
    unfold vq vp
    rw [if_neg (by omega), if_pos htk]
  have hr : lx_va T n (tp T n 0 i) ≤ 2147483647 := by
    have h2 := htk
    unfold lx_tk at h2
    by_cases c1 : n ≤ tp T n 0 i
    · rw [if_pos c1] at h2; omega
    rw [if_neg c1] at h2
    by_cases c2 : lx_le (T (tp T n 0 i)) = true
    · rw [if_pos c2] at h2; split at h2 <;> omega
    rw [if_neg c2] at h2
    by_cases c3 : lx_di (T (tp T n 0 i)) = true
    · rw [if_pos c3] at h2
      by_cases c4 : (lx_nu T n (tp T n 0 i) ((n - tp T n 0 i).toNat + 1) (tp T n 0 i) 0).1 - tp T n 0 i ≤ 10 ∧ (lx_nu T n (tp T n 0 i) ((n - tp T n 0 i).toNat + 1) (tp T n 0 i) 0).2 ≤ 2147483647
      · exact c4.2
      · rw [if_neg c4] at h2; omega
    rw [if_neg c3] at h2
    by_cases c5 : T (tp T n 0 i) = 34
    · rw [if_pos c5] at h2
      have := lx_tx_tk T n ((n - tp T n 0 i).toNat + 1) (tp T n 0 i + 1) []
      omega
    · rw [if_neg c5] at h2
      have := lx_sf_tk (T (tp T n 0 i)) (lx_at T n (tp T n 0 i + 1)) (lx_at T n (tp T n 0 i + 2)) 0
      omega
  have h0 : 0 ≤ lx_va T n (tp T n 0 i) := nu_nn T n _ _ _ _ (Int.le_refl 0)
  obtain ⟨e1, e2, e3, e4⟩ := h
  have h5 := e4.2.2.2.2.2.2.2.1
  have h6 := e4.2.2.2.2.1
  rw [e1, e2, e3] at h6
  rw [e1, e2] at h5
  rw [hv]
  exact ⟨(h5 (h6.trans htk)).trans (wb_l2i_id ⟨by omega, hr⟩), h0, hr⟩
theorem vq3_rg (hl : (XL T n X i).length ≤ 4000) (h : kq T n N X i = 3) : 0 ≤ vq T n N X i ∧ vq T n N X i ≤ 4000 := by
  obtain ⟨-, -, q⟩ := k34 (Or.inl h)
  rcases q with ⟨a, b, c⟩ | ⟨a, b, c, e⟩ | ⟨a, b, c⟩
  · have := List.idxOf_lt_length_iff.mpr a
    omega
  · omega
  · omega
theorem plw (hX : w_X xs) (h : rQ T n N X f0 b0 b1 S0 u dp i I F PA S) : wJ (pe_GA xs) wY0 M (d + 4) t_M_place ((pe_at t_M_place.bl 0).getD (0, [])).2 [(0, (2, 237)), (1, (2, -10 - ((105 : Nat) : Int)))] [] S (fun q Z => S = Z ∧ (((54 ≤ kq T n N X i ∧ kq T n N X i < 62) ∧ q = .inl (some (0, kq T n N X i - 54))) ∨ (¬ (54 ≤ kq T n N X i ∧ kq T n N X i < 62) ∧ q = .inl (some (0, -1))))) := by
  have h7 := rL_7 h.1
  refine wJ_mono (place_ok h.1.2.2.2.1 (wx_105 hX) (by decide) (by decide) ⟨h7.1.1, h7.1.2, h7.2.1, h7.2.2⟩ (by decide)) (fun q Z hz => ⟨hz.1, ?_⟩)
  obtain ⟨-, hz⟩ := hz
  rw [pl_105_w] at hz
  have e14 : lx_w S (kwl 14) = true ↔ kq T n N X i = 54 := rL_wd (N := N) (X := X) h.1 (k := 14) (by decide)
  have e15 : lx_w S (kwl 15) = true ↔ kq T n N X i = 55 := rL_wd (N := N) (X := X) h.1 (k := 15) (by decide)
  have e16 : lx_w S (kwl 16) = true ↔ kq T n N X i = 56 := rL_wd (N := N) (X := X) h.1 (k := 16) (by decide)
  have e17 : lx_w S (kwl 17) = true ↔ kq T n N X i = 57 := rL_wd (N := N) (X := X) h.1 (k := 17) (by decide)
  have e18 : lx_w S (kwl 18) = true ↔ kq T n N X i = 58 := rL_wd (N := N) (X := X) h.1 (k := 18) (by decide)
  have e19 : lx_w S (kwl 19) = true ↔ kq T n N X i = 59 := rL_wd (N := N) (X := X) h.1 (k := 19) (by decide)
  have e20 : lx_w S (kwl 20) = true ↔ kq T n N X i = 60 := rL_wd (N := N) (X := X) h.1 (k := 20) (by decide)
  have e21 : lx_w S (kwl 21) = true ↔ kq T n N X i = 61 := rL_wd (N := N) (X := X) h.1 (k := 21) (by decide)
  by_cases c14 : lx_w S (kwl 14) = true
  · rw [if_pos c14] at hz
    have q14 := e14.1 c14
    exact Or.inl ⟨by omega, by rw [hz, q14]; rfl⟩
  rw [if_neg c14] at hz
  have n14 : kq T n N X i ≠ 54 := fun z => c14 (e14.2 z)
  by_cases c15 : lx_w S (kwl 15) = true
  · rw [if_pos c15] at hz
    have q15 := e15.1 c15
    exact Or.inl ⟨by omega, by rw [hz, q15]; rfl⟩
  rw [if_neg c15] at hz
  have n15 : kq T n N X i ≠ 55 := fun z => c15 (e15.2 z)
  by_cases c16 : lx_w S (kwl 16) = true
  · rw [if_pos c16] at hz
    have q16 := e16.1 c16
    exact Or.inl ⟨by omega, by rw [hz, q16]; rfl⟩
  rw [if_neg c16] at hz
  have n16 : kq T n N X i ≠ 56 := fun z => c16 (e16.2 z)
  by_cases c17 : lx_w S (kwl 17) = true
  · rw [if_pos c17] at hz
    have q17 := e17.1 c17
    exact Or.inl ⟨by omega, by rw [hz, q17]; rfl⟩
  rw [if_neg c17] at hz
  have n17 : kq T n N X i ≠ 57 := fun z => c17 (e17.2 z)
  by_cases c18 : lx_w S (kwl 18) = true
  · rw [if_pos c18] at hz
    have q18 := e18.1 c18
    exact Or.inl ⟨by omega, by rw [hz, q18]; rfl⟩
  rw [if_neg c18] at hz
  have n18 : kq T n N X i ≠ 58 := fun z => c18 (e18.2 z)
  by_cases c19 : lx_w S (kwl 19) = true
  · rw [if_pos c19] at hz
    have q19 := e19.1 c19
    exact Or.inl ⟨by omega, by rw [hz, q19]; rfl⟩
  rw [if_neg c19] at hz
  have n19 : kq T n N X i ≠ 59 := fun z => c19 (e19.2 z)
  by_cases c20 : lx_w S (kwl 20) = true
  · rw [if_pos c20] at hz
    have q20 := e20.1 c20
    exact Or.inl ⟨by omega, by rw [hz, q20]; rfl⟩
  rw [if_neg c20] at hz
  have n20 : kq T n N X i ≠ 60 := fun z => c20 (e20.2 z)
  by_cases c21 : lx_w S (kwl 21) = true
  · rw [if_pos c21] at hz
    have q21 := e21.1 c21
    exact Or.inl ⟨by omega, by rw [hz, q21]; rfl⟩
  rw [if_neg c21] at hz
  have n21 : kq T n N X i ≠ 61 := fun z => c21 (e21.2 z)
  exact Or.inr ⟨by omega, hz⟩
theorem wd_w (hX : w_X xs) (hx107 : pe_at (pe_GA xs).xs 107 = some (1, tx_101)) (hx : 0 ≤ x ∧ x ≤ 1) (hd : pz_WO (kq T n N X) (tp T n 0) f0 (rR xs T n N X f0 b0 b1 S0) x i dp u I F o) : rM xs T n N X f0 b0 b1 S0 (2 + 3 * x) t_M_word [(0, (2, 237)), (1, (0, x))] (fun _ => none) 1 (fun t _ _ => t = 0) dp u i I F o := by
  intro hpre M D S hD h
  obtain ⟨⟨d0, d1⟩, hlen, ip⟩ := hpre
  obtain ⟨D, rfl⟩ : ∃ E, D = E + 12 := ⟨D - 12, by omega⟩
  have krS := kq_rg T n N X i
  have nnS := rQ_n h
  have hf00 := h.2.2.1.1
  refine wa_aload_n (n := 0) rfl ?_
  refine wa_ks ?_
  refine wa_cv 237 rfl (wy_pr rfl) wt_237 (M2 := fun _ => False) rfl at_M_isWord ⟨_, rfl⟩ rfl rfl ⟨(Or.inr ⟨wy_pr rfl, fun q => q⟩), trivial, trivial⟩ trivial (fun _ _ q => False.elim q) (wdw (S := S) (k := 10) h (wx_103 hX) (by decide) (by decide)) (fun oq102 Sq102 hp103 q102 => ?_)
  rcases q102 with ⟨rfl, ⟨rfl, kw101⟩ | ⟨rfl, kw101⟩⟩
  · skip
    show wJ _ _ _ _ _ _ _ _ _ _
    refine wa_ifeq (w_rg0 (by omega) (by omega)) ⟨_, rfl⟩ (fun c104 => ?_) (fun c104 => ?_)
    · skip
      exact absurd c104 (by omega)
    · skip
      refine wa_aload_n (n := 0) rfl ?_
      refine wa_bipush (w_rg2 (by omega) (by omega)) ?_
      refine wa_iconst ?_
      refine wa_iconst ?_
      refine wa_cv 237 rfl (wy_pr rfl) wt_237 (M2 := fun _ => False) rfl at_M_emits ⟨_, rfl⟩ rfl rfl ⟨(Or.inr ⟨wy_pr rfl, fun q => q⟩), trivial, trivial⟩ trivial (fun _ _ q => False.elim q) (emw (S := S) (x := (33, 0, 0, u)) h (by omega) rfl (by show (33 : Int) ≠ 27; decide) rfl ⟨by omega, by omega⟩ ⟨by omega, by omega⟩ ⟨by omega, by omega⟩) (fun oq108 Sq108 hp109 q108 => ?_)
      rcases q108 with ⟨rfl, hz105, l61106, l60107⟩
      show wJ _ _ _ _ _ _ _ _ _ _
      have hSq108 : rQ T n N X f0 b0 b1 S0 u dp i (I ++ [(33, 0, 0, u)]) F (pA F) Sq108 := hz105
      have krSq108 := kq_rg T n N X i
      have nnSq108 := rQ_n hSq108
      have hlSq108 : (I ++ [(33, 0, 0, u)]).length = I.length + 1 := List.length_append
      refine wa_aload_n (n := 0) rfl ?_
      refine wa_cv 237 rfl (wy_pr rfl) wt_237 (M2 := fun _ => False) rfl at_M_next ⟨_, rfl⟩ rfl rfl ⟨(Or.inr ⟨wy_pr rfl, fun q => q⟩), trivial, trivial⟩ trivial (fun _ _ q => False.elim q) (nxw (S := Sq108) hSq108 ⟨by omega, by omega, by omega, by omega, by omega⟩) (fun oq112 Sq112 hp113 q112 => ?_)
      rcases q112 with ⟨rfl, hz110, hl111⟩
      show wJ _ _ _ _ _ _ _ _ _ _
      have hSq112 : rQ T n N X f0 b0 b1 S0 u dp (i + 1) (I ++ [(33, 0, 0, u)]) F (pA F) Sq112 := hz110
      have ipSq112 : (((i + 1) : Nat) : Int) ≤ tp T n 0 (i + 1) := pI_nx (N := N) (X := X) ip (rQ_n hSq108) ⟨by omega, by omega⟩
      have krSq112 := kq_rg T n N X (i + 1)
      have nnSq112 := rQ_n hSq112
      refine wa_goto ⟨_, rfl⟩ ?_
      refine wa_return rfl ?_
      first
        | (exfalso; omega)
        | (unfold pz_WO at hd; (repeat (first | rw [if_pos (by omega)] at hd | rw [if_neg (by omega)] at hd)); subst hd; exact ⟨rfl, hSq112, ⟨by omega, by omega, ipSq112, (px_tr px_rfl (px_ap _ _))⟩, rfl⟩)
  · skip
    show wJ _ _ _ _ _ _ _ _ _ _
    refine wa_ifeq (w_rg0 (by omega) (by omega)) ⟨_, rfl⟩ (fun c114 => ?_) (fun c114 => ?_)
    · skip
      refine wa_aload_n (n := 0) rfl ?_
      refine wa_ks ?_
      refine wa_cv 237 rfl (wy_pr rfl) wt_237 (M2 := fun _ => False) rfl at_M_isWord ⟨_, rfl⟩ rfl rfl ⟨(Or.inr ⟨wy_pr rfl, fun q => q⟩), trivial, trivial⟩ trivial (fun _ _ q => False.elim q) (wdw (S := S) (k := 11) h (wx_65 hX) (by decide) (by decide)) (fun oq116 Sq116 hp117 q116 => ?_)
      rcases q116 with ⟨rfl, ⟨rfl, kw115⟩ | ⟨rfl, kw115⟩⟩
      · skip
        show wJ _ _ _ _ _ _ _ _ _ _
        refine wa_ifne (w_rg0 (by omega) (by omega)) ⟨_, rfl⟩ (fun c118 => ?_) (fun c118 => ?_)
        · skip
          refine wa_aload_n (n := 0) rfl ?_
          refine wa_iconst ?_
          refine wa_aload_n (n := 0) rfl ?_
          refine wa_ks ?_
          refine wa_cv 237 rfl (wy_pr rfl) wt_237 (M2 := fun _ => False) rfl at_M_isWord ⟨_, rfl⟩ rfl rfl ⟨(Or.inr ⟨wy_pr rfl, fun q => q⟩), trivial, trivial⟩ ⟨trivial, (Or.inr ⟨wy_pr rfl, fun q => q⟩), trivial⟩ (fun _ _ q => False.elim q) (wdw (S := S) (k := 11) h (wx_65 hX) (by decide) (by decide)) (fun oq120 Sq120 hp121 q120 => ?_)
          rcases q120 with ⟨rfl, ⟨rfl, kw119⟩ | ⟨rfl, kw119⟩⟩
          · skip
            show wJ _ _ _ _ _ _ _ _ _ _
            refine wa_ifeq (w_rg0 (by omega) (by omega)) ⟨_, rfl⟩ (fun c122 => ?_) (fun c122 => ?_)
            · skip
              exact absurd c122 (by omega)
            · skip
              refine wa_iconst ?_
              refine wa_goto ⟨_, rfl⟩ ?_
              refine wa_iconst ?_
              refine wa_cv 237 rfl (wy_pr rfl) wt_237 (M2 := fun _ => False) rfl at_M_emits ⟨_, rfl⟩ rfl rfl ⟨(Or.inr ⟨wy_pr rfl, fun q => q⟩), trivial, trivial⟩ trivial (fun _ _ q => False.elim q) (emw (S := S) (x := (0, 0, 0, u)) h (by omega) rfl (by show (0 : Int) ≠ 27; decide) rfl ⟨by omega, by omega⟩ ⟨by omega, by omega⟩ ⟨by omega, by omega⟩) (fun oq126 Sq126 hp127 q126 => ?_)
              rcases q126 with ⟨rfl, hz123, l61124, l60125⟩
              show wJ _ _ _ _ _ _ _ _ _ _
              have hSq126 : rQ T n N X f0 b0 b1 S0 u dp i (I ++ [(0, 0, 0, u)]) F (pA F) Sq126 := hz123
              have krSq126 := kq_rg T n N X i
              have nnSq126 := rQ_n hSq126
              have hlSq126 : (I ++ [(0, 0, 0, u)]).length = I.length + 1 := List.length_append
              refine wa_aload_n (n := 0) rfl ?_
              refine wa_cv 237 rfl (wy_pr rfl) wt_237 (M2 := fun _ => False) rfl at_M_next ⟨_, rfl⟩ rfl rfl ⟨(Or.inr ⟨wy_pr rfl, fun q => q⟩), trivial, trivial⟩ trivial (fun _ _ q => False.elim q) (nxw (S := Sq126) hSq126 ⟨by omega, by omega, by omega, by omega, by omega⟩) (fun oq130 Sq130 hp131 q130 => ?_)
              rcases q130 with ⟨rfl, hz128, hl129⟩
              show wJ _ _ _ _ _ _ _ _ _ _
              have hSq130 : rQ T n N X f0 b0 b1 S0 u dp (i + 1) (I ++ [(0, 0, 0, u)]) F (pA F) Sq130 := hz128
              have ipSq130 : (((i + 1) : Nat) : Int) ≤ tp T n 0 (i + 1) := pI_nx (N := N) (X := X) ip (rQ_n hSq126) ⟨by omega, by omega⟩
              have krSq130 := kq_rg T n N X (i + 1)
              have nnSq130 := rQ_n hSq130
              refine wa_goto ⟨_, rfl⟩ ?_
              refine wa_return rfl ?_
              first
                | (exfalso; omega)
                | (unfold pz_WO at hd; (repeat (first | rw [if_pos (by omega)] at hd | rw [if_neg (by omega)] at hd)); subst hd; exact ⟨rfl, hSq130, ⟨by omega, by omega, ipSq130, (px_tr px_rfl (px_ap _ _))⟩, rfl⟩)
          · skip
            show wJ _ _ _ _ _ _ _ _ _ _
            refine wa_ifeq (w_rg0 (by omega) (by omega)) ⟨_, rfl⟩ (fun c132 => ?_) (fun c132 => ?_)
            · skip
              refine wa_aload_n (n := 0) rfl ?_
              refine wa_ks ?_
              refine wa_cv 237 rfl (wy_pr rfl) wt_237 (M2 := fun _ => False) rfl at_M_isWord ⟨_, rfl⟩ rfl rfl ⟨(Or.inr ⟨wy_pr rfl, fun q => q⟩), trivial, trivial⟩ ⟨trivial, (Or.inr ⟨wy_pr rfl, fun q => q⟩), trivial⟩ (fun _ _ q => False.elim q) (wdw (S := S) (k := 13) h (wx_87 hX) (by decide) (by decide)) (fun oq134 Sq134 hp135 q134 => ?_)
              rcases q134 with ⟨rfl, ⟨rfl, kw133⟩ | ⟨rfl, kw133⟩⟩
              · skip
                show wJ _ _ _ _ _ _ _ _ _ _
                refine wa_ifeq (w_rg0 (by omega) (by omega)) ⟨_, rfl⟩ (fun c136 => ?_) (fun c136 => ?_)
                · skip
                  exact absurd c136 (by omega)
                · skip
                  refine wa_iconst ?_
                  refine wa_goto ⟨_, rfl⟩ ?_
                  refine wa_iconst ?_
                  refine wa_cv 237 rfl (wy_pr rfl) wt_237 (M2 := fun _ => False) rfl at_M_emits ⟨_, rfl⟩ rfl rfl ⟨(Or.inr ⟨wy_pr rfl, fun q => q⟩), trivial, trivial⟩ trivial (fun _ _ q => False.elim q) (emw (S := S) (x := (0, 1, 0, u)) h (by omega) rfl (by show (0 : Int) ≠ 27; decide) rfl ⟨by omega, by omega⟩ ⟨by omega, by omega⟩ ⟨by omega, by omega⟩) (fun oq140 Sq140 hp141 q140 => ?_)
                  rcases q140 with ⟨rfl, hz137, l61138, l60139⟩
                  show wJ _ _ _ _ _ _ _ _ _ _
                  have hSq140 : rQ T n N X f0 b0 b1 S0 u dp i (I ++ [(0, 1, 0, u)]) F (pA F) Sq140 := hz137
                  have krSq140 := kq_rg T n N X i
                  have nnSq140 := rQ_n hSq140
                  have hlSq140 : (I ++ [(0, 1, 0, u)]).length = I.length + 1 := List.length_append
                  refine wa_aload_n (n := 0) rfl ?_
                  refine wa_cv 237 rfl (wy_pr rfl) wt_237 (M2 := fun _ => False) rfl at_M_next ⟨_, rfl⟩ rfl rfl ⟨(Or.inr ⟨wy_pr rfl, fun q => q⟩), trivial, trivial⟩ trivial (fun _ _ q => False.elim q) (nxw (S := Sq140) hSq140 ⟨by omega, by omega, by omega, by omega, by omega⟩) (fun oq144 Sq144 hp145 q144 => ?_)
                  rcases q144 with ⟨rfl, hz142, hl143⟩
                  show wJ _ _ _ _ _ _ _ _ _ _
                  have hSq144 : rQ T n N X f0 b0 b1 S0 u dp (i + 1) (I ++ [(0, 1, 0, u)]) F (pA F) Sq144 := hz142
                  have ipSq144 : (((i + 1) : Nat) : Int) ≤ tp T n 0 (i + 1) := pI_nx (N := N) (X := X) ip (rQ_n hSq140) ⟨by omega, by omega⟩
                  have krSq144 := kq_rg T n N X (i + 1)
                  have nnSq144 := rQ_n hSq144
                  refine wa_goto ⟨_, rfl⟩ ?_
                  refine wa_return rfl ?_
                  first
                    | (exfalso; omega)
                    | (unfold pz_WO at hd; (repeat (first | rw [if_pos (by omega)] at hd | rw [if_neg (by omega)] at hd)); subst hd; exact ⟨rfl, hSq144, ⟨by omega, by omega, ipSq144, (px_tr px_rfl (px_ap _ _))⟩, rfl⟩)
              · skip
                show wJ _ _ _ _ _ _ _ _ _ _
                refine wa_ifeq (w_rg0 (by omega) (by omega)) ⟨_, rfl⟩ (fun c146 => ?_) (fun c146 => ?_)
                · skip
                  refine wa_iconst ?_
                  refine wa_fall ⟨_, rfl⟩ ?_
                  refine wa_iconst ?_
                  refine wa_cv 237 rfl (wy_pr rfl) wt_237 (M2 := fun _ => False) rfl at_M_emits ⟨_, rfl⟩ rfl rfl ⟨(Or.inr ⟨wy_pr rfl, fun q => q⟩), trivial, trivial⟩ trivial (fun _ _ q => False.elim q) (emw (S := S) (x := (0, 2, 0, u)) h (by omega) rfl (by show (0 : Int) ≠ 27; decide) rfl ⟨by omega, by omega⟩ ⟨by omega, by omega⟩ ⟨by omega, by omega⟩) (fun oq150 Sq150 hp151 q150 => ?_)
                  rcases q150 with ⟨rfl, hz147, l61148, l60149⟩
                  show wJ _ _ _ _ _ _ _ _ _ _
                  have hSq150 : rQ T n N X f0 b0 b1 S0 u dp i (I ++ [(0, 2, 0, u)]) F (pA F) Sq150 := hz147
                  have krSq150 := kq_rg T n N X i
                  have nnSq150 := rQ_n hSq150
                  have hlSq150 : (I ++ [(0, 2, 0, u)]).length = I.length + 1 := List.length_append
                  refine wa_aload_n (n := 0) rfl ?_
                  refine wa_cv 237 rfl (wy_pr rfl) wt_237 (M2 := fun _ => False) rfl at_M_next ⟨_, rfl⟩ rfl rfl ⟨(Or.inr ⟨wy_pr rfl, fun q => q⟩), trivial, trivial⟩ trivial (fun _ _ q => False.elim q) (nxw (S := Sq150) hSq150 ⟨by omega, by omega, by omega, by omega, by omega⟩) (fun oq154 Sq154 hp155 q154 => ?_)
                  rcases q154 with ⟨rfl, hz152, hl153⟩
                  show wJ _ _ _ _ _ _ _ _ _ _
                  have hSq154 : rQ T n N X f0 b0 b1 S0 u dp (i + 1) (I ++ [(0, 2, 0, u)]) F (pA F) Sq154 := hz152
                  have ipSq154 : (((i + 1) : Nat) : Int) ≤ tp T n 0 (i + 1) := pI_nx (N := N) (X := X) ip (rQ_n hSq150) ⟨by omega, by omega⟩
                  have krSq154 := kq_rg T n N X (i + 1)
                  have nnSq154 := rQ_n hSq154
                  refine wa_goto ⟨_, rfl⟩ ?_
                  refine wa_return rfl ?_
                  first
                    | (exfalso; omega)
                    | (unfold pz_WO at hd; (repeat (first | rw [if_pos (by omega)] at hd | rw [if_neg (by omega)] at hd)); subst hd; exact ⟨rfl, hSq154, ⟨by omega, by omega, ipSq154, (px_tr px_rfl (px_ap _ _))⟩, rfl⟩)
                · skip
                  exact absurd c146 (by omega)
            · skip
              exact absurd c132 (by omega)
        · skip
          exact absurd c118 (by omega)
      · skip
        show wJ _ _ _ _ _ _ _ _ _ _
        refine wa_ifne (w_rg0 (by omega) (by omega)) ⟨_, rfl⟩ (fun c156 => ?_) (fun c156 => ?_)
        · skip
          exact absurd c156 (by omega)
        · skip
          refine wa_aload_n (n := 0) rfl ?_
          refine wa_ks ?_
          refine wa_cv 237 rfl (wy_pr rfl) wt_237 (M2 := fun _ => False) rfl at_M_isWord ⟨_, rfl⟩ rfl rfl ⟨(Or.inr ⟨wy_pr rfl, fun q => q⟩), trivial, trivial⟩ trivial (fun _ _ q => False.elim q) (wdw (S := S) (k := 13) h (wx_87 hX) (by decide) (by decide)) (fun oq158 Sq158 hp159 q158 => ?_)
          rcases q158 with ⟨rfl, ⟨rfl, kw157⟩ | ⟨rfl, kw157⟩⟩
          · skip
            show wJ _ _ _ _ _ _ _ _ _ _
            refine wa_ifne (w_rg0 (by omega) (by omega)) ⟨_, rfl⟩ (fun c160 => ?_) (fun c160 => ?_)
            · skip
              refine wa_aload_n (n := 0) rfl ?_
              refine wa_iconst ?_
              refine wa_aload_n (n := 0) rfl ?_
              refine wa_ks ?_
              refine wa_cv 237 rfl (wy_pr rfl) wt_237 (M2 := fun _ => False) rfl at_M_isWord ⟨_, rfl⟩ rfl rfl ⟨(Or.inr ⟨wy_pr rfl, fun q => q⟩), trivial, trivial⟩ ⟨trivial, (Or.inr ⟨wy_pr rfl, fun q => q⟩), trivial⟩ (fun _ _ q => False.elim q) (wdw (S := S) (k := 11) h (wx_65 hX) (by decide) (by decide)) (fun oq162 Sq162 hp163 q162 => ?_)
              rcases q162 with ⟨rfl, ⟨rfl, kw161⟩ | ⟨rfl, kw161⟩⟩
              · skip
                show wJ _ _ _ _ _ _ _ _ _ _
                refine wa_ifeq (w_rg0 (by omega) (by omega)) ⟨_, rfl⟩ (fun c164 => ?_) (fun c164 => ?_)
                · skip
                  exact absurd c164 (by omega)
                · skip
                  refine wa_iconst ?_
                  refine wa_goto ⟨_, rfl⟩ ?_
                  refine wa_iconst ?_
                  refine wa_cv 237 rfl (wy_pr rfl) wt_237 (M2 := fun _ => False) rfl at_M_emits ⟨_, rfl⟩ rfl rfl ⟨(Or.inr ⟨wy_pr rfl, fun q => q⟩), trivial, trivial⟩ trivial (fun _ _ q => False.elim q) (emw (S := S) (x := (0, 0, 0, u)) h (by omega) rfl (by show (0 : Int) ≠ 27; decide) rfl ⟨by omega, by omega⟩ ⟨by omega, by omega⟩ ⟨by omega, by omega⟩) (fun oq168 Sq168 hp169 q168 => ?_)
                  rcases q168 with ⟨rfl, hz165, l61166, l60167⟩
                  show wJ _ _ _ _ _ _ _ _ _ _
                  have hSq168 : rQ T n N X f0 b0 b1 S0 u dp i (I ++ [(0, 0, 0, u)]) F (pA F) Sq168 := hz165
                  have krSq168 := kq_rg T n N X i
                  have nnSq168 := rQ_n hSq168
                  have hlSq168 : (I ++ [(0, 0, 0, u)]).length = I.length + 1 := List.length_append
                  refine wa_aload_n (n := 0) rfl ?_
                  refine wa_cv 237 rfl (wy_pr rfl) wt_237 (M2 := fun _ => False) rfl at_M_next ⟨_, rfl⟩ rfl rfl ⟨(Or.inr ⟨wy_pr rfl, fun q => q⟩), trivial, trivial⟩ trivial (fun _ _ q => False.elim q) (nxw (S := Sq168) hSq168 ⟨by omega, by omega, by omega, by omega, by omega⟩) (fun oq172 Sq172 hp173 q172 => ?_)
                  rcases q172 with ⟨rfl, hz170, hl171⟩
                  show wJ _ _ _ _ _ _ _ _ _ _
                  have hSq172 : rQ T n N X f0 b0 b1 S0 u dp (i + 1) (I ++ [(0, 0, 0, u)]) F (pA F) Sq172 := hz170
                  have ipSq172 : (((i + 1) : Nat) : Int) ≤ tp T n 0 (i + 1) := pI_nx (N := N) (X := X) ip (rQ_n hSq168) ⟨by omega, by omega⟩
                  have krSq172 := kq_rg T n N X (i + 1)
                  have nnSq172 := rQ_n hSq172
                  refine wa_goto ⟨_, rfl⟩ ?_
                  refine wa_return rfl ?_
                  first
                    | (exfalso; omega)
                    | (unfold pz_WO at hd; (repeat (first | rw [if_pos (by omega)] at hd | rw [if_neg (by omega)] at hd)); subst hd; exact ⟨rfl, hSq172, ⟨by omega, by omega, ipSq172, (px_tr px_rfl (px_ap _ _))⟩, rfl⟩)
              · skip
                show wJ _ _ _ _ _ _ _ _ _ _
                refine wa_ifeq (w_rg0 (by omega) (by omega)) ⟨_, rfl⟩ (fun c174 => ?_) (fun c174 => ?_)
                · skip
                  refine wa_aload_n (n := 0) rfl ?_
                  refine wa_ks ?_
                  refine wa_cv 237 rfl (wy_pr rfl) wt_237 (M2 := fun _ => False) rfl at_M_isWord ⟨_, rfl⟩ rfl rfl ⟨(Or.inr ⟨wy_pr rfl, fun q => q⟩), trivial, trivial⟩ ⟨trivial, (Or.inr ⟨wy_pr rfl, fun q => q⟩), trivial⟩ (fun _ _ q => False.elim q) (wdw (S := S) (k := 13) h (wx_87 hX) (by decide) (by decide)) (fun oq176 Sq176 hp177 q176 => ?_)
                  rcases q176 with ⟨rfl, ⟨rfl, kw175⟩ | ⟨rfl, kw175⟩⟩
                  · skip
                    show wJ _ _ _ _ _ _ _ _ _ _
                    refine wa_ifeq (w_rg0 (by omega) (by omega)) ⟨_, rfl⟩ (fun c178 => ?_) (fun c178 => ?_)
                    · skip
                      exact absurd c178 (by omega)
                    · skip
                      refine wa_iconst ?_
                      refine wa_goto ⟨_, rfl⟩ ?_
                      refine wa_iconst ?_
                      refine wa_cv 237 rfl (wy_pr rfl) wt_237 (M2 := fun _ => False) rfl at_M_emits ⟨_, rfl⟩ rfl rfl ⟨(Or.inr ⟨wy_pr rfl, fun q => q⟩), trivial, trivial⟩ trivial (fun _ _ q => False.elim q) (emw (S := S) (x := (0, 1, 0, u)) h (by omega) rfl (by show (0 : Int) ≠ 27; decide) rfl ⟨by omega, by omega⟩ ⟨by omega, by omega⟩ ⟨by omega, by omega⟩) (fun oq182 Sq182 hp183 q182 => ?_)
                      rcases q182 with ⟨rfl, hz179, l61180, l60181⟩
                      show wJ _ _ _ _ _ _ _ _ _ _
                      have hSq182 : rQ T n N X f0 b0 b1 S0 u dp i (I ++ [(0, 1, 0, u)]) F (pA F) Sq182 := hz179
                      have krSq182 := kq_rg T n N X i
                      have nnSq182 := rQ_n hSq182
                      have hlSq182 : (I ++ [(0, 1, 0, u)]).length = I.length + 1 := List.length_append
                      refine wa_aload_n (n := 0) rfl ?_
                      refine wa_cv 237 rfl (wy_pr rfl) wt_237 (M2 := fun _ => False) rfl at_M_next ⟨_, rfl⟩ rfl rfl ⟨(Or.inr ⟨wy_pr rfl, fun q => q⟩), trivial, trivial⟩ trivial (fun _ _ q => False.elim q) (nxw (S := Sq182) hSq182 ⟨by omega, by omega, by omega, by omega, by omega⟩) (fun oq186 Sq186 hp187 q186 => ?_)
                      rcases q186 with ⟨rfl, hz184, hl185⟩
                      show wJ _ _ _ _ _ _ _ _ _ _
                      have hSq186 : rQ T n N X f0 b0 b1 S0 u dp (i + 1) (I ++ [(0, 1, 0, u)]) F (pA F) Sq186 := hz184
                      have ipSq186 : (((i + 1) : Nat) : Int) ≤ tp T n 0 (i + 1) := pI_nx (N := N) (X := X) ip (rQ_n hSq182) ⟨by omega, by omega⟩
                      have krSq186 := kq_rg T n N X (i + 1)
                      have nnSq186 := rQ_n hSq186
                      refine wa_goto ⟨_, rfl⟩ ?_
                      refine wa_return rfl ?_
                      first
                        | (exfalso; omega)
                        | (unfold pz_WO at hd; (repeat (first | rw [if_pos (by omega)] at hd | rw [if_neg (by omega)] at hd)); subst hd; exact ⟨rfl, hSq186, ⟨by omega, by omega, ipSq186, (px_tr px_rfl (px_ap _ _))⟩, rfl⟩)
                  · skip
                    show wJ _ _ _ _ _ _ _ _ _ _
                    refine wa_ifeq (w_rg0 (by omega) (by omega)) ⟨_, rfl⟩ (fun c188 => ?_) (fun c188 => ?_)
                    · skip
                      refine wa_iconst ?_
                      refine wa_fall ⟨_, rfl⟩ ?_
                      refine wa_iconst ?_
                      refine wa_cv 237 rfl (wy_pr rfl) wt_237 (M2 := fun _ => False) rfl at_M_emits ⟨_, rfl⟩ rfl rfl ⟨(Or.inr ⟨wy_pr rfl, fun q => q⟩), trivial, trivial⟩ trivial (fun _ _ q => False.elim q) (emw (S := S) (x := (0, 2, 0, u)) h (by omega) rfl (by show (0 : Int) ≠ 27; decide) rfl ⟨by omega, by omega⟩ ⟨by omega, by omega⟩ ⟨by omega, by omega⟩) (fun oq192 Sq192 hp193 q192 => ?_)
                      rcases q192 with ⟨rfl, hz189, l61190, l60191⟩
                      show wJ _ _ _ _ _ _ _ _ _ _
                      have hSq192 : rQ T n N X f0 b0 b1 S0 u dp i (I ++ [(0, 2, 0, u)]) F (pA F) Sq192 := hz189
                      have krSq192 := kq_rg T n N X i
                      have nnSq192 := rQ_n hSq192
                      have hlSq192 : (I ++ [(0, 2, 0, u)]).length = I.length + 1 := List.length_append
                      refine wa_aload_n (n := 0) rfl ?_
                      refine wa_cv 237 rfl (wy_pr rfl) wt_237 (M2 := fun _ => False) rfl at_M_next ⟨_, rfl⟩ rfl rfl ⟨(Or.inr ⟨wy_pr rfl, fun q => q⟩), trivial, trivial⟩ trivial (fun _ _ q => False.elim q) (nxw (S := Sq192) hSq192 ⟨by omega, by omega, by omega, by omega, by omega⟩) (fun oq196 Sq196 hp197 q196 => ?_)
                      rcases q196 with ⟨rfl, hz194, hl195⟩
                      show wJ _ _ _ _ _ _ _ _ _ _
                      have hSq196 : rQ T n N X f0 b0 b1 S0 u dp (i + 1) (I ++ [(0, 2, 0, u)]) F (pA F) Sq196 := hz194
                      have ipSq196 : (((i + 1) : Nat) : Int) ≤ tp T n 0 (i + 1) := pI_nx (N := N) (X := X) ip (rQ_n hSq192) ⟨by omega, by omega⟩
                      have krSq196 := kq_rg T n N X (i + 1)
                      have nnSq196 := rQ_n hSq196
                      refine wa_goto ⟨_, rfl⟩ ?_
                      refine wa_return rfl ?_
                      first
                        | (exfalso; omega)
                        | (unfold pz_WO at hd; (repeat (first | rw [if_pos (by omega)] at hd | rw [if_neg (by omega)] at hd)); subst hd; exact ⟨rfl, hSq196, ⟨by omega, by omega, ipSq196, (px_tr px_rfl (px_ap _ _))⟩, rfl⟩)
                    · skip
                      exact absurd c188 (by omega)
                · skip
                  exact absurd c174 (by omega)
            · skip
              exact absurd c160 (by omega)
          · skip
            show wJ _ _ _ _ _ _ _ _ _ _
            refine wa_ifne (w_rg0 (by omega) (by omega)) ⟨_, rfl⟩ (fun c198 => ?_) (fun c198 => ?_)
            · skip
              exact absurd c198 (by omega)
            · skip
              refine wa_aload_n (n := 0) rfl ?_
              refine wa_ks ?_
              refine wa_cv 237 rfl (wy_pr rfl) wt_237 (M2 := fun _ => False) rfl at_M_isWord ⟨_, rfl⟩ rfl rfl ⟨(Or.inr ⟨wy_pr rfl, fun q => q⟩), trivial, trivial⟩ trivial (fun _ _ q => False.elim q) (wdw (S := S) (k := 12) h (wx_89 hX) (by decide) (by decide)) (fun oq200 Sq200 hp201 q200 => ?_)
              rcases q200 with ⟨rfl, ⟨rfl, kw199⟩ | ⟨rfl, kw199⟩⟩
              · skip
                show wJ _ _ _ _ _ _ _ _ _ _
                refine wa_ifeq (w_rg0 (by omega) (by omega)) ⟨_, rfl⟩ (fun c202 => ?_) (fun c202 => ?_)
                · skip
                  exact absurd c202 (by omega)
                · skip
                  refine wa_fall ⟨_, rfl⟩ ?_
                  refine wa_aload_n (n := 0) rfl ?_
                  refine wa_iconst ?_
                  refine wa_aload_n (n := 0) rfl ?_
                  refine wa_ks ?_
                  refine wa_cv 237 rfl (wy_pr rfl) wt_237 (M2 := fun _ => False) rfl at_M_isWord ⟨_, rfl⟩ rfl rfl ⟨(Or.inr ⟨wy_pr rfl, fun q => q⟩), trivial, trivial⟩ ⟨trivial, (Or.inr ⟨wy_pr rfl, fun q => q⟩), trivial⟩ (fun _ _ q => False.elim q) (wdw (S := S) (k := 11) h (wx_65 hX) (by decide) (by decide)) (fun oq204 Sq204 hp205 q204 => ?_)
                  rcases q204 with ⟨rfl, ⟨rfl, kw203⟩ | ⟨rfl, kw203⟩⟩
                  · skip
                    show wJ _ _ _ _ _ _ _ _ _ _
                    refine wa_ifeq (w_rg0 (by omega) (by omega)) ⟨_, rfl⟩ (fun c206 => ?_) (fun c206 => ?_)
                    · skip
                      exact absurd c206 (by omega)
                    · skip
                      refine wa_iconst ?_
                      refine wa_goto ⟨_, rfl⟩ ?_
                      refine wa_iconst ?_
                      refine wa_cv 237 rfl (wy_pr rfl) wt_237 (M2 := fun _ => False) rfl at_M_emits ⟨_, rfl⟩ rfl rfl ⟨(Or.inr ⟨wy_pr rfl, fun q => q⟩), trivial, trivial⟩ trivial (fun _ _ q => False.elim q) (emw (S := S) (x := (0, 0, 0, u)) h (by omega) rfl (by show (0 : Int) ≠ 27; decide) rfl ⟨by omega, by omega⟩ ⟨by omega, by omega⟩ ⟨by omega, by omega⟩) (fun oq210 Sq210 hp211 q210 => ?_)
                      rcases q210 with ⟨rfl, hz207, l61208, l60209⟩
                      show wJ _ _ _ _ _ _ _ _ _ _
                      have hSq210 : rQ T n N X f0 b0 b1 S0 u dp i (I ++ [(0, 0, 0, u)]) F (pA F) Sq210 := hz207
                      have krSq210 := kq_rg T n N X i
                      have nnSq210 := rQ_n hSq210
                      have hlSq210 : (I ++ [(0, 0, 0, u)]).length = I.length + 1 := List.length_append
                      refine wa_aload_n (n := 0) rfl ?_
                      refine wa_cv 237 rfl (wy_pr rfl) wt_237 (M2 := fun _ => False) rfl at_M_next ⟨_, rfl⟩ rfl rfl ⟨(Or.inr ⟨wy_pr rfl, fun q => q⟩), trivial, trivial⟩ trivial (fun _ _ q => False.elim q) (nxw (S := Sq210) hSq210 ⟨by omega, by omega, by omega, by omega, by omega⟩) (fun oq214 Sq214 hp215 q214 => ?_)
                      rcases q214 with ⟨rfl, hz212, hl213⟩
                      show wJ _ _ _ _ _ _ _ _ _ _
                      have hSq214 : rQ T n N X f0 b0 b1 S0 u dp (i + 1) (I ++ [(0, 0, 0, u)]) F (pA F) Sq214 := hz212
                      have ipSq214 : (((i + 1) : Nat) : Int) ≤ tp T n 0 (i + 1) := pI_nx (N := N) (X := X) ip (rQ_n hSq210) ⟨by omega, by omega⟩
                      have krSq214 := kq_rg T n N X (i + 1)
                      have nnSq214 := rQ_n hSq214
                      refine wa_goto ⟨_, rfl⟩ ?_
                      refine wa_return rfl ?_
                      first
                        | (exfalso; omega)
                        | (unfold pz_WO at hd; (repeat (first | rw [if_pos (by omega)] at hd | rw [if_neg (by omega)] at hd)); subst hd; exact ⟨rfl, hSq214, ⟨by omega, by omega, ipSq214, (px_tr px_rfl (px_ap _ _))⟩, rfl⟩)
                  · skip
                    show wJ _ _ _ _ _ _ _ _ _ _
                    refine wa_ifeq (w_rg0 (by omega) (by omega)) ⟨_, rfl⟩ (fun c216 => ?_) (fun c216 => ?_)
                    · skip
                      refine wa_aload_n (n := 0) rfl ?_
                      refine wa_ks ?_
                      refine wa_cv 237 rfl (wy_pr rfl) wt_237 (M2 := fun _ => False) rfl at_M_isWord ⟨_, rfl⟩ rfl rfl ⟨(Or.inr ⟨wy_pr rfl, fun q => q⟩), trivial, trivial⟩ ⟨trivial, (Or.inr ⟨wy_pr rfl, fun q => q⟩), trivial⟩ (fun _ _ q => False.elim q) (wdw (S := S) (k := 13) h (wx_87 hX) (by decide) (by decide)) (fun oq218 Sq218 hp219 q218 => ?_)
                      rcases q218 with ⟨rfl, ⟨rfl, kw217⟩ | ⟨rfl, kw217⟩⟩
                      · skip
                        show wJ _ _ _ _ _ _ _ _ _ _
                        refine wa_ifeq (w_rg0 (by omega) (by omega)) ⟨_, rfl⟩ (fun c220 => ?_) (fun c220 => ?_)
                        · skip
                          exact absurd c220 (by omega)
                        · skip
                          refine wa_iconst ?_
                          refine wa_goto ⟨_, rfl⟩ ?_
                          refine wa_iconst ?_
                          refine wa_cv 237 rfl (wy_pr rfl) wt_237 (M2 := fun _ => False) rfl at_M_emits ⟨_, rfl⟩ rfl rfl ⟨(Or.inr ⟨wy_pr rfl, fun q => q⟩), trivial, trivial⟩ trivial (fun _ _ q => False.elim q) (emw (S := S) (x := (0, 1, 0, u)) h (by omega) rfl (by show (0 : Int) ≠ 27; decide) rfl ⟨by omega, by omega⟩ ⟨by omega, by omega⟩ ⟨by omega, by omega⟩) (fun oq224 Sq224 hp225 q224 => ?_)
                          rcases q224 with ⟨rfl, hz221, l61222, l60223⟩
                          show wJ _ _ _ _ _ _ _ _ _ _
                          have hSq224 : rQ T n N X f0 b0 b1 S0 u dp i (I ++ [(0, 1, 0, u)]) F (pA F) Sq224 := hz221
                          have krSq224 := kq_rg T n N X i
                          have nnSq224 := rQ_n hSq224
                          have hlSq224 : (I ++ [(0, 1, 0, u)]).length = I.length + 1 := List.length_append
                          refine wa_aload_n (n := 0) rfl ?_
                          refine wa_cv 237 rfl (wy_pr rfl) wt_237 (M2 := fun _ => False) rfl at_M_next ⟨_, rfl⟩ rfl rfl ⟨(Or.inr ⟨wy_pr rfl, fun q => q⟩), trivial, trivial⟩ trivial (fun _ _ q => False.elim q) (nxw (S := Sq224) hSq224 ⟨by omega, by omega, by omega, by omega, by omega⟩) (fun oq228 Sq228 hp229 q228 => ?_)
                          rcases q228 with ⟨rfl, hz226, hl227⟩
                          show wJ _ _ _ _ _ _ _ _ _ _
                          have hSq228 : rQ T n N X f0 b0 b1 S0 u dp (i + 1) (I ++ [(0, 1, 0, u)]) F (pA F) Sq228 := hz226
                          have ipSq228 : (((i + 1) : Nat) : Int) ≤ tp T n 0 (i + 1) := pI_nx (N := N) (X := X) ip (rQ_n hSq224) ⟨by omega, by omega⟩
                          have krSq228 := kq_rg T n N X (i + 1)
                          have nnSq228 := rQ_n hSq228
                          refine wa_goto ⟨_, rfl⟩ ?_
                          refine wa_return rfl ?_
                          first
                            | (exfalso; omega)
                            | (unfold pz_WO at hd; (repeat (first | rw [if_pos (by omega)] at hd | rw [if_neg (by omega)] at hd)); subst hd; exact ⟨rfl, hSq228, ⟨by omega, by omega, ipSq228, (px_tr px_rfl (px_ap _ _))⟩, rfl⟩)
                      · skip
                        show wJ _ _ _ _ _ _ _ _ _ _
                        refine wa_ifeq (w_rg0 (by omega) (by omega)) ⟨_, rfl⟩ (fun c230 => ?_) (fun c230 => ?_)
                        · skip
                          refine wa_iconst ?_
                          refine wa_fall ⟨_, rfl⟩ ?_
                          refine wa_iconst ?_
                          refine wa_cv 237 rfl (wy_pr rfl) wt_237 (M2 := fun _ => False) rfl at_M_emits ⟨_, rfl⟩ rfl rfl ⟨(Or.inr ⟨wy_pr rfl, fun q => q⟩), trivial, trivial⟩ trivial (fun _ _ q => False.elim q) (emw (S := S) (x := (0, 2, 0, u)) h (by omega) rfl (by show (0 : Int) ≠ 27; decide) rfl ⟨by omega, by omega⟩ ⟨by omega, by omega⟩ ⟨by omega, by omega⟩) (fun oq234 Sq234 hp235 q234 => ?_)
                          rcases q234 with ⟨rfl, hz231, l61232, l60233⟩
                          show wJ _ _ _ _ _ _ _ _ _ _
                          have hSq234 : rQ T n N X f0 b0 b1 S0 u dp i (I ++ [(0, 2, 0, u)]) F (pA F) Sq234 := hz231
                          have krSq234 := kq_rg T n N X i
                          have nnSq234 := rQ_n hSq234
                          have hlSq234 : (I ++ [(0, 2, 0, u)]).length = I.length + 1 := List.length_append
                          refine wa_aload_n (n := 0) rfl ?_
                          refine wa_cv 237 rfl (wy_pr rfl) wt_237 (M2 := fun _ => False) rfl at_M_next ⟨_, rfl⟩ rfl rfl ⟨(Or.inr ⟨wy_pr rfl, fun q => q⟩), trivial, trivial⟩ trivial (fun _ _ q => False.elim q) (nxw (S := Sq234) hSq234 ⟨by omega, by omega, by omega, by omega, by omega⟩) (fun oq238 Sq238 hp239 q238 => ?_)
                          rcases q238 with ⟨rfl, hz236, hl237⟩
                          show wJ _ _ _ _ _ _ _ _ _ _
                          have hSq238 : rQ T n N X f0 b0 b1 S0 u dp (i + 1) (I ++ [(0, 2, 0, u)]) F (pA F) Sq238 := hz236
                          have ipSq238 : (((i + 1) : Nat) : Int) ≤ tp T n 0 (i + 1) := pI_nx (N := N) (X := X) ip (rQ_n hSq234) ⟨by omega, by omega⟩
                          have krSq238 := kq_rg T n N X (i + 1)
                          have nnSq238 := rQ_n hSq238
                          refine wa_goto ⟨_, rfl⟩ ?_
                          refine wa_return rfl ?_
                          first
                            | (exfalso; omega)
                            | (unfold pz_WO at hd; (repeat (first | rw [if_pos (by omega)] at hd | rw [if_neg (by omega)] at hd)); subst hd; exact ⟨rfl, hSq238, ⟨by omega, by omega, ipSq238, (px_tr px_rfl (px_ap _ _))⟩, rfl⟩)
                        · skip
                          exact absurd c230 (by omega)
                    · skip
                      exact absurd c216 (by omega)
              · skip
                show wJ _ _ _ _ _ _ _ _ _ _
                refine wa_ifeq (w_rg0 (by omega) (by omega)) ⟨_, rfl⟩ (fun c240 => ?_) (fun c240 => ?_)
                · skip
                  refine wa_aload_n (n := 0) rfl ?_
                  refine wa_ks ?_
                  refine wa_cv 237 rfl (wy_pr rfl) wt_237 (M2 := fun _ => False) rfl at_M_isWord ⟨_, rfl⟩ rfl rfl ⟨(Or.inr ⟨wy_pr rfl, fun q => q⟩), trivial, trivial⟩ trivial (fun _ _ q => False.elim q) (wdw (S := S) (k := 1) h (wx_35 hX) (by decide) (by decide)) (fun oq242 Sq242 hp243 q242 => ?_)
                  rcases q242 with ⟨rfl, ⟨rfl, kw241⟩ | ⟨rfl, kw241⟩⟩
                  · skip
                    show wJ _ _ _ _ _ _ _ _ _ _
                    refine wa_ifeq (w_rg0 (by omega) (by omega)) ⟨_, rfl⟩ (fun c244 => ?_) (fun c244 => ?_)
                    · skip
                      exact absurd c244 (by omega)
                    · skip
                      refine wa_aload_n (n := 0) rfl ?_
                      refine wa_aload_n (n := 0) rfl ?_
                      refine wb_gfi 237 rfl (wy_pr rfl) wt_237 wf_15_34 (v := f0) ((rQ_pp h).2.2.2.2.2.1) (fun r245 => ?_)
                      refine wa_aload_n (n := 0) rfl ?_
                      refine wb_gfi 237 rfl (wy_pr rfl) wt_237 wf_15_26 (v := (F.length : Int)) ((rQ_pp h).2.2.2.2.2.2) (fun r246 => ?_)
                      refine wa_iadd ?_
                      refine wa_sipush (by omega) ?_
                      refine wa_icmpge (w_rg0 (by omega) (by omega)) (w_rg0 (by omega) (by omega)) ⟨_, rfl⟩ (fun c247 => ?_) (fun c247 => ?_)
                      · skip
                        refine wa_iconst ?_
                        refine wa_fall ⟨_, rfl⟩ ?_
                        refine wa_bipush (w_rg2 (by omega) (by omega)) ?_
                        refine wa_cv 237 rfl (wy_pr rfl) wt_237 (M2 := fun _ => False) rfl at_M_must ⟨_, rfl⟩ rfl rfl ⟨(Or.inr ⟨wy_pr rfl, fun q => q⟩), trivial, trivial⟩ trivial (fun _ _ q => False.elim q) (must_ok (S := S) (g := 0) (n := 7) (by omega) ⟨by omega, by omega⟩) (fun oq249 Sq249 hp250 q249 => ?_)
                        rcases q249 with ⟨hg248, rfl, rfl⟩ | ⟨hg248, rfl, rfl⟩
                        · skip
                          exact absurd hg248 (by decide)
                        · skip
                          have ho := (show o = .inl (7 + 16 * tp T n 0 i) from (by first | (exfalso; omega) | (unfold pz_WO pz_fa at hd; (repeat (first | rw [if_pos (by omega)] at hd | rw [if_neg (by omega)] at hd)); exact hd)))
                          subst ho
                          exact ⟨rfl, ⟨rfl, (rFu_mk h ip)⟩⟩
                      · skip
                        refine wa_iconst ?_
                        refine wa_goto ⟨_, rfl⟩ ?_
                        refine wa_bipush (w_rg2 (by omega) (by omega)) ?_
                        refine wa_cv 237 rfl (wy_pr rfl) wt_237 (M2 := fun _ => False) rfl at_M_must ⟨_, rfl⟩ rfl rfl ⟨(Or.inr ⟨wy_pr rfl, fun q => q⟩), trivial, trivial⟩ trivial (fun _ _ q => False.elim q) (must_ok (S := S) (g := 1) (n := 7) (by omega) ⟨by omega, by omega⟩) (fun oq252 Sq252 hp253 q252 => ?_)
                        rcases q252 with ⟨hg251, rfl, rfl⟩ | ⟨hg251, rfl, rfl⟩
                        · skip
                          show wJ _ _ _ _ _ _ _ _ _ _
                          refine wa_aload_n (n := 0) rfl ?_
                          refine wa_cv 237 rfl (wy_pr rfl) wt_237 (M2 := fun _ => False) rfl at_M_next ⟨_, rfl⟩ rfl rfl ⟨(Or.inr ⟨wy_pr rfl, fun q => q⟩), trivial, trivial⟩ trivial (fun _ _ q => False.elim q) (nxw (S := S) h ⟨by omega, by omega, by omega, by omega, by omega⟩) (fun oq256 Sq256 hp257 q256 => ?_)
                          rcases q256 with ⟨rfl, hz254, hl255⟩
                          show wJ _ _ _ _ _ _ _ _ _ _
                          have hSq256 : rQ T n N X f0 b0 b1 S0 u dp (i + 1) I F (pA F) Sq256 := hz254
                          have ipSq256 : (((i + 1) : Nat) : Int) ≤ tp T n 0 (i + 1) := pI_nx (N := N) (X := X) ip (rQ_n h) ⟨by omega, by omega⟩
                          have krSq256 := kq_rg T n N X (i + 1)
                          have nnSq256 := rQ_n hSq256
                          refine wa_aload_n (n := 0) rfl ?_
                          refine wa_cv 237 rfl (wy_pr rfl) wt_237 (M2 := fun _ => False) rfl at_M_readsFunction ⟨_, rfl⟩ rfl rfl ⟨(Or.inr ⟨wy_pr rfl, fun q => q⟩), trivial, trivial⟩ trivial (fun _ _ q => False.elim q) (rfn_w (by omega) (by unfold pz_WO at hd; (repeat (first | rw [if_pos (by omega)] at hd | rw [if_neg (by omega)] at hd)); exact hd) ⟨⟨by omega, by omega⟩, by omega, ipSq256⟩ _ _ _ (by omega) hSq256) (fun oq258 Sq258 hp259 q258 => ?_)
                          rcases o with v | ⟨i2, I2, F2, t2⟩
                          · rcases q258 with ⟨rfl, hf⟩
                            exact ⟨rfl, rfl, hf⟩
                          · rcases q258 with ⟨rfl, hz, ⟨p1, p2, p3, p4⟩, he⟩
                            obtain rfl := he
                            show wJ _ _ _ _ _ _ _ _ _ _
                            refine wa_goto ⟨_, rfl⟩ ?_
                            refine wa_return rfl ?_
                            exact ⟨rfl, hz, ⟨by omega, by omega, p3, px_tr px_rfl p4⟩, rfl⟩
                        · skip
                          exact absurd hg251 (by decide)
                  · skip
                    show wJ _ _ _ _ _ _ _ _ _ _
                    refine wa_ifeq (w_rg0 (by omega) (by omega)) ⟨_, rfl⟩ (fun c260 => ?_) (fun c260 => ?_)
                    · skip
                      refine wa_aload_n (n := 0) rfl ?_
                      refine wa_ks ?_
                      refine wa_cv 237 rfl (wy_pr rfl) wt_237 (M2 := fun _ => False) rfl at_M_isWord ⟨_, rfl⟩ rfl rfl ⟨(Or.inr ⟨wy_pr rfl, fun q => q⟩), trivial, trivial⟩ trivial (fun _ _ q => False.elim q) (wdw (S := S) (k := 9) h (wx_25 hX) (by decide) (by decide)) (fun oq262 Sq262 hp263 q262 => ?_)
                      rcases q262 with ⟨rfl, ⟨rfl, kw261⟩ | ⟨rfl, kw261⟩⟩
                      · skip
                        show wJ _ _ _ _ _ _ _ _ _ _
                        refine wa_ifeq (w_rg0 (by omega) (by omega)) ⟨_, rfl⟩ (fun c264 => ?_) (fun c264 => ?_)
                        · skip
                          exact absurd c264 (by omega)
                        · skip
                          refine wa_aload_n (n := 0) rfl ?_
                          refine wa_iload_n (n := 1) rfl ?_
                          refine wa_iconst ?_
                          refine wa_cv 237 rfl (wy_pr rfl) wt_237 (M2 := fun _ => False) rfl at_M_must ⟨_, rfl⟩ rfl rfl ⟨(Or.inr ⟨wy_pr rfl, fun q => q⟩), trivial, trivial⟩ trivial (fun _ _ q => False.elim q) (must_ok (S := S) (g := x) (n := 1) (by omega) ⟨by omega, by omega⟩) (fun oq266 Sq266 hp267 q266 => ?_)
                          rcases q266 with ⟨hg265, rfl, rfl⟩ | ⟨hg265, rfl, rfl⟩
                          · skip
                            show wJ _ _ _ _ _ _ _ _ _ _
                            refine wa_aload_n (n := 0) rfl ?_
                            refine wa_cv 237 rfl (wy_pr rfl) wt_237 (M2 := fun _ => False) rfl at_M_next ⟨_, rfl⟩ rfl rfl ⟨(Or.inr ⟨wy_pr rfl, fun q => q⟩), trivial, trivial⟩ trivial (fun _ _ q => False.elim q) (nxw (S := S) h ⟨by omega, by omega, by omega, by omega, by omega⟩) (fun oq270 Sq270 hp271 q270 => ?_)
                            rcases q270 with ⟨rfl, hz268, hl269⟩
                            show wJ _ _ _ _ _ _ _ _ _ _
                            have hSq270 : rQ T n N X f0 b0 b1 S0 u dp (i + 1) I F (pA F) Sq270 := hz268
                            have ipSq270 : (((i + 1) : Nat) : Int) ≤ tp T n 0 (i + 1) := pI_nx (N := N) (X := X) ip (rQ_n h) ⟨by omega, by omega⟩
                            have krSq270 := kq_rg T n N X (i + 1)
                            have nnSq270 := rQ_n hSq270
                            refine wa_aload_n (n := 0) rfl ?_
                            refine wa_cv 237 rfl (wy_pr rfl) wt_237 (M2 := fun _ => False) rfl at_M_maker ⟨_, rfl⟩ rfl rfl ⟨(Or.inr ⟨wy_pr rfl, fun q => q⟩), trivial, trivial⟩ trivial (fun _ _ q => False.elim q) (mk_w hX (by unfold pz_WO pz_FI49 at hd; (repeat (first | rw [if_pos (by omega)] at hd | rw [if_neg (by omega)] at hd)); exact hd) ⟨⟨by omega, by omega⟩, by omega, ipSq270⟩ _ _ _ (by omega) hSq270) (fun oq272 Sq272 hp273 q272 => ?_)
                            rcases o with v | ⟨i2, I2, F2, t2⟩
                            · rcases q272 with ⟨rfl, hf⟩
                              exact ⟨rfl, rfl, hf⟩
                            · rcases q272 with ⟨rfl, hz, ⟨p1, p2, p3, p4⟩, he⟩
                              obtain rfl := he
                              show wJ _ _ _ _ _ _ _ _ _ _
                              refine wa_goto ⟨_, rfl⟩ ?_
                              refine wa_return rfl ?_
                              exact ⟨rfl, hz, ⟨by omega, by omega, p3, px_tr px_rfl p4⟩, rfl⟩
                          · skip
                            have ho := (show o = .inl (1 + 16 * tp T n 0 i) from (by first | (exfalso; omega) | (unfold pz_WO pz_fa at hd; (repeat (first | rw [if_pos (by omega)] at hd | rw [if_neg (by omega)] at hd)); exact hd)))
                            subst ho
                            exact ⟨rfl, ⟨rfl, (rFu_mk h ip)⟩⟩
                      · skip
                        show wJ _ _ _ _ _ _ _ _ _ _
                        refine wa_ifeq (w_rg0 (by omega) (by omega)) ⟨_, rfl⟩ (fun c274 => ?_) (fun c274 => ?_)
                        · skip
                          refine wa_aload_n (n := 0) rfl ?_
                          refine wa_ks ?_
                          refine wa_cv 237 rfl (wy_pr rfl) wt_237 (M2 := fun _ => False) rfl at_M_place ⟨_, rfl⟩ rfl rfl ⟨(Or.inr ⟨wy_pr rfl, fun q => q⟩), trivial, trivial⟩ trivial (fun _ _ q => False.elim q) (plw (S := S) hX h) (fun oq276 Sq276 hp277 q276 => ?_)
                          rcases q276 with ⟨rfl, ⟨kp275, rfl⟩ | ⟨kp275, rfl⟩⟩
                          · skip
                            show wJ _ _ _ _ _ _ _ _ _ _
                            obtain ⟨kp275a, kp275b⟩ := kp275
                            refine wa_istore_n (n := 2) rfl ?_
                            refine wa_aload_n (n := 0) rfl ?_
                            refine wa_iload_n (n := 2) rfl ?_
                            refine wa_iflt (w_rg0 (by omega) (by omega)) ⟨_, rfl⟩ (fun c278 => ?_) (fun c278 => ?_)
                            · skip
                              refine wa_iconst ?_
                              refine wa_fall ⟨_, rfl⟩ ?_
                              refine wa_iconst ?_
                              refine wa_cv 237 rfl (wy_pr rfl) wt_237 (M2 := fun _ => False) rfl at_M_must ⟨_, rfl⟩ rfl rfl ⟨trivial, (Or.inr ⟨wy_pr rfl, fun q => q⟩), trivial, trivial⟩ trivial (fun _ _ q => False.elim q) (must_ok (S := S) (g := 0) (n := 1) (by omega) ⟨by omega, by omega⟩) (fun oq280 Sq280 hp281 q280 => ?_)
                              rcases q280 with ⟨hg279, rfl, rfl⟩ | ⟨hg279, rfl, rfl⟩
                              · skip
                                exact absurd hg279 (by decide)
                              · skip
                                have ho := (show o = .inl (1 + 16 * tp T n 0 i) from (by first | (exfalso; omega) | (unfold pz_WO pz_fa at hd; (repeat (first | rw [if_pos (by omega)] at hd | rw [if_neg (by omega)] at hd)); exact hd)))
                                subst ho
                                exact ⟨rfl, ⟨rfl, (rFu_mk h ip)⟩⟩
                            · skip
                              refine wa_iconst ?_
                              refine wa_goto ⟨_, rfl⟩ ?_
                              refine wa_iconst ?_
                              refine wa_cv 237 rfl (wy_pr rfl) wt_237 (M2 := fun _ => False) rfl at_M_must ⟨_, rfl⟩ rfl rfl ⟨trivial, (Or.inr ⟨wy_pr rfl, fun q => q⟩), trivial, trivial⟩ trivial (fun _ _ q => False.elim q) (must_ok (S := S) (g := 1) (n := 1) (by omega) ⟨by omega, by omega⟩) (fun oq283 Sq283 hp284 q283 => ?_)
                              rcases q283 with ⟨hg282, rfl, rfl⟩ | ⟨hg282, rfl, rfl⟩
                              · skip
                                show wJ _ _ _ _ _ _ _ _ _ _
                                refine wa_aload_n (n := 0) rfl ?_
                                refine wa_cv 237 rfl (wy_pr rfl) wt_237 (M2 := fun _ => False) rfl at_M_next ⟨_, rfl⟩ rfl rfl ⟨trivial, (Or.inr ⟨wy_pr rfl, fun q => q⟩), trivial, trivial⟩ trivial (fun _ _ q => False.elim q) (nxw (S := S) h ⟨by omega, by omega, by omega, by omega, by omega⟩) (fun oq287 Sq287 hp288 q287 => ?_)
                                rcases q287 with ⟨rfl, hz285, hl286⟩
                                show wJ _ _ _ _ _ _ _ _ _ _
                                have hSq287 : rQ T n N X f0 b0 b1 S0 u dp (i + 1) I F (pA F) Sq287 := hz285
                                have ipSq287 : (((i + 1) : Nat) : Int) ≤ tp T n 0 (i + 1) := pI_nx (N := N) (X := X) ip (rQ_n h) ⟨by omega, by omega⟩
                                have krSq287 := kq_rg T n N X (i + 1)
                                have nnSq287 := rQ_n hSq287
                                refine wa_aload_n (n := 0) rfl ?_
                                refine wa_iload_n (n := 2) rfl ?_
                                refine wa_cv 237 rfl (wy_pr rfl) wt_237 (M2 := fun _ => False) rfl at_M_builtin ⟨_, rfl⟩ rfl rfl ⟨trivial, (Or.inr ⟨wy_pr rfl, fun q => q⟩), trivial, trivial⟩ trivial (fun _ _ q => False.elim q) (bu_w hx107 ⟨by omega, by omega⟩ (by unfold pz_WO pz_FI54 at hd; rw [if_neg (by omega), if_neg (by omega), if_neg (by omega), if_neg (by omega), if_pos (by omega)] at hd; exact hd) ⟨⟨by omega, by omega⟩, by omega, ipSq287⟩ _ _ _ (by omega) hSq287) (fun oq289 Sq289 hp290 q289 => ?_)
                                rcases o with v | ⟨i2, I2, F2, t2⟩
                                · rcases q289 with ⟨rfl, hf⟩
                                  exact ⟨rfl, rfl, hf⟩
                                · rcases q289 with ⟨rfl, hz, ⟨p1, p2, p3, p4⟩, he⟩
                                  obtain rfl := he
                                  show wJ _ _ _ _ _ _ _ _ _ _
                                  refine wa_fall ⟨_, rfl⟩ ?_
                                  refine wa_return rfl ?_
                                  exact ⟨rfl, hz, ⟨by omega, by omega, p3, px_tr px_rfl p4⟩, rfl⟩
                              · skip
                                exact absurd hg282 (by decide)
                          · skip
                            show wJ _ _ _ _ _ _ _ _ _ _
                            refine wa_istore_n (n := 2) rfl ?_
                            refine wa_aload_n (n := 0) rfl ?_
                            refine wa_iload_n (n := 2) rfl ?_
                            refine wa_iflt (w_rg0 (by omega) (by omega)) ⟨_, rfl⟩ (fun c291 => ?_) (fun c291 => ?_)
                            · skip
                              refine wa_iconst ?_
                              refine wa_fall ⟨_, rfl⟩ ?_
                              refine wa_iconst ?_
                              refine wa_cv 237 rfl (wy_pr rfl) wt_237 (M2 := fun _ => False) rfl at_M_must ⟨_, rfl⟩ rfl rfl ⟨trivial, (Or.inr ⟨wy_pr rfl, fun q => q⟩), trivial, trivial⟩ trivial (fun _ _ q => False.elim q) (must_ok (S := S) (g := 0) (n := 1) (by omega) ⟨by omega, by omega⟩) (fun oq293 Sq293 hp294 q293 => ?_)
                              rcases q293 with ⟨hg292, rfl, rfl⟩ | ⟨hg292, rfl, rfl⟩
                              · skip
                                exact absurd hg292 (by decide)
                              · skip
                                have ho := (show o = .inl (1 + 16 * tp T n 0 i) from (by first | (exfalso; omega) | (unfold pz_WO pz_fa at hd; (repeat (first | rw [if_pos (by omega)] at hd | rw [if_neg (by omega)] at hd)); exact hd)))
                                subst ho
                                exact ⟨rfl, ⟨rfl, (rFu_mk h ip)⟩⟩
                            · skip
                              exact absurd c291 (by omega)
                        · skip
                          exact absurd c274 (by omega)
                    · skip
                      exact absurd c260 (by omega)
                · skip
                  exact absurd c240 (by omega)
    · skip
      exact absurd c114 (by omega)
theorem me_fi (hX : w_X xs) (hx107 : pe_at (pe_GA xs).xs 107 = some (1, tx_101)) (hd : pz_FI (kq T n N X) (vq T n N X) (tp T n 0) f0 (rR xs T n N X f0 b0 b1 S0) x i dp u I F o) : rR xs T n N X f0 b0 b1 S0 9 x [] i dp u I F o := by
  show (0 ≤ x ∧ x ≤ 1 → rM xs T n N X f0 b0 b1 S0 (3 + 3 * x) t_M_first [(0, (2, 237)), (1, (0, x))] (fun t => some (0, t)) 1 (tE u I.length) dp u i I F o)
  intro hx
  intro hpre M D S hD h
  obtain ⟨⟨d0, d1⟩, hlen, ip⟩ := hpre
  obtain ⟨D, rfl⟩ : ∃ E, D = E + 12 := ⟨D - 12, by omega⟩
  have krS := kq_rg T n N X i
  have nnS := rQ_n h
  obtain ⟨t6, t7, t8, t9⟩ := rL_tk h.1
  have hq := kq_cs T n N X i
  have hsr := sk_rx (lx_si T n 0 (tp T n 0 i))
  have hXL : (XL T n X i).length ≤ 4000 := h.2.1.2.2.1
  refine wa_aload_n (n := 0) rfl ?_
  refine wb_gfi 237 rfl (wy_pr rfl) wt_237 wf_15_6 (v := (S 237 6)) rfl (fun r101 => ?_)
  refine wa_iconst ?_
  refine wa_icmpne (w_rg0 (by omega) (by omega)) (w_rg0 (by omega) (by omega)) ⟨_, rfl⟩ (fun c102 => ?_) (fun c102 => ?_)
  · skip
    refine wa_aload_n (n := 0) rfl ?_
    refine wb_gfi 237 rfl (wy_pr rfl) wt_237 wf_15_6 (v := (S 237 6)) rfl (fun r103 => ?_)
    refine wa_iconst ?_
    refine wa_icmpne (w_rg0 (by omega) (by omega)) (w_rg0 (by omega) (by omega)) ⟨_, rfl⟩ (fun c104 => ?_) (fun c104 => ?_)
    · skip
      refine wa_aload_n (n := 0) rfl ?_
      refine wa_cv 237 rfl (wy_pr rfl) wt_237 (M2 := fun _ => False) rfl at_M_isName ⟨_, rfl⟩ rfl rfl ⟨(Or.inr ⟨wy_pr rfl, fun q => q⟩), trivial, trivial⟩ trivial (fun _ _ q => False.elim q) (inw (S := S) hX h) (fun oq106 Sq106 hp107 q106 => ?_)
      rcases q106 with ⟨rfl, ⟨rfl, kn105⟩ | ⟨rfl, kn105⟩⟩
      · skip
        show wJ _ _ _ _ _ _ _ _ _ _
        refine wa_ifeq (w_rg0 (by omega) (by omega)) ⟨_, rfl⟩ (fun c108 => ?_) (fun c108 => ?_)
        · skip
          exact absurd c108 (by omega)
        · skip
          refine wa_aload_n (n := 0) rfl ?_
          refine wa_iconst ?_
          refine wa_aload_n (n := 0) rfl ?_
          refine wa_cv 237 rfl (wy_pr rfl) wt_237 (M2 := fun _ => False) rfl at_M_takesName ⟨_, rfl⟩ rfl rfl ⟨(Or.inr ⟨wy_pr rfl, fun q => q⟩), trivial, trivial⟩ ⟨trivial, (Or.inr ⟨wy_pr rfl, fun q => q⟩), trivial⟩ (fun _ _ q => False.elim q) (tnw (S := S) hX h ip) (fun oq114 Sq114 hp115 q114 => ?_)
          rcases q114 with ⟨rfl, ks109, hz110, z60112, z61113⟩ | ⟨rfl, ks109, hf111⟩ | ⟨rfl, ks109, hf111⟩
          · skip
            show wJ _ _ _ _ _ _ _ _ _ _
            have hSq114 : rQ T n N X f0 b0 b1 S0 u dp (i + 1) I F (pA F) Sq114 := hz110
            have ipSq114 : (((i + 1) : Nat) : Int) ≤ tp T n 0 (i + 1) := pI_nx (N := N) (X := X) ip (rQ_n h) ⟨by omega, by omega⟩
            have krSq114 := kq_rg T n N X (i + 1)
            have nnSq114 := rQ_n hSq114
            have vnSq114 := vq_nn ks109
            have vuSq114 : (vq T n N X i) < ((NL T n N (i + 1)).length : Int) := vq_lt ks109
            have vmSq114 : (NL T n N (i + 1)).length ≤ 4000 := hz110.2.1.1.2.1
            refine wa_iconst ?_
            refine wa_cv 237 rfl (wy_pr rfl) wt_237 (M2 := fun _ => False) rfl at_M_emits ⟨_, rfl⟩ rfl rfl ⟨(Or.inr ⟨wy_pr rfl, fun q => q⟩), trivial, trivial⟩ trivial (fun _ _ q => False.elim q) (emw (S := Sq114) (x := (3, (vq T n N X i), 0, u)) hSq114 (by omega) rfl (by show (3 : Int) ≠ 27; decide) rfl ⟨by omega, by omega⟩ ⟨by omega, by omega⟩ ⟨by omega, by omega⟩) (fun oq119 Sq119 hp120 q119 => ?_)
            rcases q119 with ⟨rfl, hz116, l61117, l60118⟩
            show wJ _ _ _ _ _ _ _ _ _ _
            have hSq119 : rQ T n N X f0 b0 b1 S0 u dp (i + 1) (I ++ [(3, (vq T n N X i), 0, u)]) F (pA F) Sq119 := hz116
            have krSq119 := kq_rg T n N X (i + 1)
            have nnSq119 := rQ_n hSq119
            have hlSq119 : (I ++ [(3, (vq T n N X i), 0, u)]).length = I.length + 1 := List.length_append
            refine wa_iconst ?_
            refine wa_ireturn rfl ?_
            have e60 := l60118.trans (if_pos rfl)
            unfold pz_FI at hd
            rw [if_neg (by omega), if_neg (by omega), if_neg (by omega), if_pos (by omega)] at hd
            subst hd
            exact ⟨rfl, hSq119, ⟨by omega, by omega, ipSq114, (px_tr px_rfl (px_ap _ _))⟩, Or.inr ⟨⟨by decide, by decide⟩, _, _, rfl, Nat.le_refl _, Or.inl ⟨rfl, by rw [e60], by rw [e60]; omega⟩⟩⟩
          · skip
            have ho := (show o = .inl (7 + 16 * tp T n 0 i) from (by first | (exfalso; omega) | (unfold pz_FI pz_fa at hd; (repeat (first | rw [if_pos (by omega)] at hd | rw [if_neg (by omega)] at hd)); exact hd)))
            subst ho
            exact ⟨rfl, ⟨rfl, hf111⟩⟩
          · skip
            have ho := (show o = .inl (1 + 16 * tp T n 0 i) from absurd kn105 (by omega))
            subst ho
            exact ⟨rfl, ⟨rfl, hf111⟩⟩
      · skip
        show wJ _ _ _ _ _ _ _ _ _ _
        refine wa_ifeq (w_rg0 (by omega) (by omega)) ⟨_, rfl⟩ (fun c121 => ?_) (fun c121 => ?_)
        · skip
          refine wa_aload_n (n := 0) rfl ?_
          refine wa_bipush (w_rg2 (by omega) (by omega)) ?_
          refine wa_cv 237 rfl (wy_pr rfl) wt_237 (M2 := fun _ => False) rfl at_M_isSign ⟨_, rfl⟩ rfl rfl ⟨(Or.inr ⟨wy_pr rfl, fun q => q⟩), trivial, trivial⟩ trivial (fun _ _ q => False.elim q) (isw (S := S) h (fun _ => sk_40) ⟨by decide, by decide⟩ ⟨by decide, by decide⟩) (fun oq123 Sq123 hp124 q123 => ?_)
          rcases q123 with ⟨rfl, ⟨rfl, ks122⟩ | ⟨rfl, ks122⟩⟩
          · skip
            show wJ _ _ _ _ _ _ _ _ _ _
            have hd1 := (show pz_q (pz_cd (kq T n N X) (tp T n 0) (rR xs T n N X f0 b0 b1 S0) i dp u I F) (fun i I F _ o => o = .inr (i, I, F, 0)) o from (by unfold pz_FI at hd; rw [if_neg (by omega), if_neg (by omega), if_neg (by omega), if_neg (by omega), if_neg (by omega), if_pos ks122] at hd; exact hd))
            unfold pz_cd at hd1
            have hd1b := qas hd1
            refine wa_ifeq (w_rg0 (by omega) (by omega)) ⟨_, rfl⟩ (fun c125 => ?_) (fun c125 => ?_)
            · skip
              exact absurd c125 (by omega)
            · skip
              refine wa_aload_n (n := 0) rfl ?_
              refine wa_bipush (w_rg2 (by omega) (by omega)) ?_
              refine wa_cv 237 rfl (wy_pr rfl) wt_237 (M2 := fun _ => False) rfl at_M_opens ⟨_, rfl⟩ rfl rfl ⟨(Or.inr ⟨wy_pr rfl, fun q => q⟩), trivial, trivial⟩ trivial (fun _ _ q => False.elim q) (opw (S := S) h ip (fun _ => sk_40) ⟨by decide, by decide⟩ ⟨by decide, by decide⟩ ⟨by omega, by omega⟩) (fun oq131 Sq131 hp132 q131 => ?_)
              rcases q131 with ⟨rfl, ⟨ks126, hd5130⟩, hz127, hl128⟩ | ⟨rfl, ks126, hf129⟩ | ⟨rfl, ⟨ks126, hd5130⟩, hf129⟩
              · skip
                show wJ _ _ _ _ _ _ _ _ _ _
                have hSq131 : rQ T n N X f0 b0 b1 S0 u (dp + 1) (i + 1) I F (pA F) Sq131 := hz127
                have ipSq131 : (((i + 1) : Nat) : Int) ≤ tp T n 0 (i + 1) := pI_nx (N := N) (X := X) ip (rQ_n h) ⟨by omega, by omega⟩
                have krSq131 := kq_rg T n N X (i + 1)
                have nnSq131 := rQ_n hSq131
                have hd2 := qop_o hd1b ks126 hd5130
                have hd3 := qas2 hd2
                refine wa_aload_n (n := 0) rfl ?_
                rcases hd3 with ⟨v133, hs134, ho135⟩ | ⟨i136, I137, F138, t139, hs134, hd4⟩
                · refine wa_cv 237 rfl (wy_pr rfl) wt_237 (M2 := fun _ => False) rfl at_M_value ⟨_, rfl⟩ rfl rfl ⟨(Or.inr ⟨wy_pr rfl, fun q => q⟩), trivial, trivial⟩ trivial (fun _ _ q => False.elim q) (r4 hs134 ⟨⟨by omega, by omega⟩, by omega, ipSq131⟩ _ _ _ (by omega) hSq131) (fun oq147 Sq147 hp148 q147 => ?_)
                  rcases q147 with ⟨rfl, hf146⟩
                  subst ho135
                  exact ⟨rfl, ⟨rfl, hf146⟩⟩
                refine wa_cv 237 rfl (wy_pr rfl) wt_237 (M2 := fun _ => False) rfl at_M_value ⟨_, rfl⟩ rfl rfl ⟨(Or.inr ⟨wy_pr rfl, fun q => q⟩), trivial, trivial⟩ trivial (fun _ _ q => False.elim q) (r4 hs134 ⟨⟨by omega, by omega⟩, by omega, ipSq131⟩ _ _ _ (by omega) hSq131) (fun oq149 Sq149 hp150 q149 => ?_)
                rcases q149 with ⟨rfl, hz140, ⟨p141, p142, p143, p144⟩, e145⟩
                show wJ _ _ _ _ _ _ _ _ _ _
                have hSq149 : rQ T n N X f0 b0 b1 S0 u (dp + 1) i136 I137 F138 (pA F138) Sq149 := hz140
                have ipSq149 : ((i136 : Nat) : Int) ≤ tp T n 0 i136 := p143
                have krSq149 := kq_rg T n N X i136
                have nnSq149 := rQ_n hSq149
                have lnSq149 := px_len p144
                refine wa_aload_n (n := 0) rfl ?_
                refine wa_bipush (w_rg2 (by omega) (by omega)) ?_
                refine wa_cv 237 rfl (wy_pr rfl) wt_237 (M2 := fun _ => False) rfl at_M_closes ⟨_, rfl⟩ rfl rfl ⟨(Or.inr ⟨wy_pr rfl, fun q => q⟩), trivial, trivial⟩ trivial (fun _ _ q => False.elim q) (clw (S := Sq149) hSq149 ipSq149 (fun _ => sk_41) ⟨by decide, by decide⟩ ⟨by decide, by decide⟩ ⟨by omega, by omega⟩) (fun oq155 Sq155 hp156 q155 => ?_)
                rcases q155 with ⟨rfl, ks151, hz152, hl153⟩ | ⟨rfl, ks151, hf154⟩
                · skip
                  show wJ _ _ _ _ _ _ _ _ _ _
                  have hSq155 : rQ T n N X f0 b0 b1 S0 u dp (i136 + 1) I137 F138 (pA F138) Sq155 := (by have z := hz152; rw [show (dp + 1) - 1 = dp by omega] at z; exact z)
                  have ipSq155 : (((i136 + 1) : Nat) : Int) ≤ tp T n 0 (i136 + 1) := pI_nx (N := N) (X := X) ipSq149 (rQ_n hSq149) ⟨by omega, by omega⟩
                  have krSq155 := kq_rg T n N X (i136 + 1)
                  have nnSq155 := rQ_n hSq155
                  have hd5 := qtk_o hd4 ks151
                  refine wa_goto ⟨_, rfl⟩ ?_
                  refine wa_iconst ?_
                  refine wa_ireturn rfl ?_
                  subst hd5
                  exact ⟨rfl, hSq155, ⟨by omega, by omega, ipSq155, (px_tr px_rfl p144)⟩, Or.inl rfl⟩
                · skip
                  have ho := qtk_1 hd4 ks151
                  subst ho
                  exact ⟨rfl, ⟨rfl, hf154⟩⟩
              · skip
                have ho := qop_1 hd1b ks126
                subst ho
                exact ⟨rfl, ⟨rfl, hf129⟩⟩
              · skip
                have ho := qop_4 hd1b ks126 hd5130
                subst ho
                exact ⟨rfl, ⟨rfl, hf129⟩⟩
          · skip
            show wJ _ _ _ _ _ _ _ _ _ _
            refine wa_ifeq (w_rg0 (by omega) (by omega)) ⟨_, rfl⟩ (fun c157 => ?_) (fun c157 => ?_)
            · skip
              refine wa_aload_n (n := 0) rfl ?_
              refine wa_bipush (w_rg2 (by omega) (by omega)) ?_
              refine wa_cv 237 rfl (wy_pr rfl) wt_237 (M2 := fun _ => False) rfl at_M_isSign ⟨_, rfl⟩ rfl rfl ⟨(Or.inr ⟨wy_pr rfl, fun q => q⟩), trivial, trivial⟩ trivial (fun _ _ q => False.elim q) (isw (S := S) h (fun _ => sk_91) ⟨by decide, by decide⟩ ⟨by decide, by decide⟩) (fun oq159 Sq159 hp160 q159 => ?_)
              rcases q159 with ⟨rfl, ⟨rfl, ks158⟩ | ⟨rfl, ks158⟩⟩
              · skip
                show wJ _ _ _ _ _ _ _ _ _ _
                have hd6 := (show pz_FI14 (kq T n N X) (tp T n 0) (rR xs T n N X f0 b0 b1 S0) i dp u I F o from (by unfold pz_FI at hd; rw [if_neg (by omega), if_neg (by omega), if_neg (by omega), if_neg (by omega), if_neg (by omega), if_neg (by omega), if_pos ks158] at hd; exact hd))
                unfold pz_FI14 at hd6
                refine wa_ifeq (w_rg0 (by omega) (by omega)) ⟨_, rfl⟩ (fun c161 => ?_) (fun c161 => ?_)
                · skip
                  exact absurd c161 (by omega)
                · skip
                  refine wa_aload_n (n := 0) rfl ?_
                  refine wa_bipush (w_rg2 (by omega) (by omega)) ?_
                  refine wa_cv 237 rfl (wy_pr rfl) wt_237 (M2 := fun _ => False) rfl at_M_opens ⟨_, rfl⟩ rfl rfl ⟨(Or.inr ⟨wy_pr rfl, fun q => q⟩), trivial, trivial⟩ trivial (fun _ _ q => False.elim q) (opw (S := S) h ip (fun _ => sk_91) ⟨by decide, by decide⟩ ⟨by decide, by decide⟩ ⟨by omega, by omega⟩) (fun oq167 Sq167 hp168 q167 => ?_)
                  rcases q167 with ⟨rfl, ⟨ks162, hd5166⟩, hz163, hl164⟩ | ⟨rfl, ks162, hf165⟩ | ⟨rfl, ⟨ks162, hd5166⟩, hf165⟩
                  · skip
                    show wJ _ _ _ _ _ _ _ _ _ _
                    have hSq167 : rQ T n N X f0 b0 b1 S0 u (dp + 1) (i + 1) I F (pA F) Sq167 := hz163
                    have ipSq167 : (((i + 1) : Nat) : Int) ≤ tp T n 0 (i + 1) := pI_nx (N := N) (X := X) ip (rQ_n h) ⟨by omega, by omega⟩
                    have krSq167 := kq_rg T n N X (i + 1)
                    have nnSq167 := rQ_n hSq167
                    have hd7 := qop_o hd6 ks162 hd5166
                    refine wa_iconst ?_
                    refine wa_istore_n (n := 2) rfl ?_
                    refine wa_aload_n (n := 0) rfl ?_
                    refine wa_bipush (w_rg2 (by omega) (by omega)) ?_
                    refine wa_cv 237 rfl (wy_pr rfl) wt_237 (M2 := fun _ => False) rfl at_M_isSign ⟨_, rfl⟩ rfl rfl ⟨trivial, (Or.inr ⟨wy_pr rfl, fun q => q⟩), trivial, trivial⟩ trivial (fun _ _ q => False.elim q) (isw (S := Sq167) hSq167 (fun _ => sk_93) ⟨by decide, by decide⟩ ⟨by decide, by decide⟩) (fun oq170 Sq170 hp171 q170 => ?_)
                    rcases q170 with ⟨rfl, ⟨rfl, ks169⟩ | ⟨rfl, ks169⟩⟩
                    · skip
                      show wJ _ _ _ _ _ _ _ _ _ _
                      have hd8 := qif_r hd7 ks169
                      refine wa_ifne (w_rg0 (by omega) (by omega)) ⟨_, rfl⟩ (fun c172 => ?_) (fun c172 => ?_)
                      · skip
                        refine wa_iconst ?_
                        refine wa_fall ⟨_, rfl⟩ ?_
                        refine wa_istore_n (n := 3) rfl ?_
                        refine wa_fall ⟨_, rfl⟩ ?_
                        refine wa_iload_n (n := 3) rfl ?_
                        refine wa_ifeq (w_rg0 (by omega) (by omega)) ⟨_, rfl⟩ (fun c173 => ?_) (fun c173 => ?_)
                        · skip
                          refine wa_aload_n (n := 0) rfl ?_
                          refine wa_bipush (w_rg2 (by omega) (by omega)) ?_
                          refine wa_cv 237 rfl (wy_pr rfl) wt_237 (M2 := fun _ => False) rfl at_M_closes ⟨_, rfl⟩ rfl rfl ⟨trivial, trivial, (Or.inr ⟨wy_pr rfl, fun q => q⟩), trivial, trivial⟩ trivial (fun _ _ q => False.elim q) (clw (S := Sq167) hSq167 ipSq167 (fun _ => sk_93) ⟨by decide, by decide⟩ ⟨by decide, by decide⟩ ⟨by omega, by omega⟩) (fun oq178 Sq178 hp179 q178 => ?_)
                          rcases q178 with ⟨rfl, ks174, hz175, hl176⟩ | ⟨rfl, ks174, hf177⟩
                          · skip
                            show wJ _ _ _ _ _ _ _ _ _ _
                            have hSq178 : rQ T n N X f0 b0 b1 S0 u dp (i + 2) I F (pA F) Sq178 := (by have z := hz175; rw [show (dp + 1) - 1 = dp by omega] at z; exact z)
                            have ipSq178 : (((i + 2) : Nat) : Int) ≤ tp T n 0 (i + 2) := pI_nx (N := N) (X := X) ipSq167 (rQ_n hSq167) ⟨by omega, by omega⟩
                            have krSq178 := kq_rg T n N X (i + 2)
                            have nnSq178 := rQ_n hSq178
                            have hd10 := qtk_o hd8 ks174
                            refine wa_aload_n (n := 0) rfl ?_
                            refine wa_bipush (w_rg2 (by omega) (by omega)) ?_
                            refine wa_iload_n (n := 2) rfl ?_
                            refine wa_iconst ?_
                            refine wa_cv 237 rfl (wy_pr rfl) wt_237 (M2 := fun _ => False) rfl at_M_emits ⟨_, rfl⟩ rfl rfl ⟨trivial, trivial, (Or.inr ⟨wy_pr rfl, fun q => q⟩), trivial, trivial⟩ trivial (fun _ _ q => False.elim q) (emw (S := Sq178) (x := (25, 0, 0, u)) hSq178 (by omega) rfl (by show (25 : Int) ≠ 27; decide) rfl ⟨by omega, by omega⟩ ⟨by omega, by omega⟩ ⟨by omega, by omega⟩) (fun oq183 Sq183 hp184 q183 => ?_)
                            rcases q183 with ⟨rfl, hz180, l61181, l60182⟩
                            show wJ _ _ _ _ _ _ _ _ _ _
                            have hSq183 : rQ T n N X f0 b0 b1 S0 u dp (i + 2) (I ++ [(25, 0, 0, u)]) F (pA F) Sq183 := hz180
                            have krSq183 := kq_rg T n N X (i + 2)
                            have nnSq183 := rQ_n hSq183
                            have hlSq183 : (I ++ [(25, 0, 0, u)]).length = I.length + 1 := List.length_append
                            refine wa_goto ⟨_, rfl⟩ ?_
                            refine wa_iconst ?_
                            refine wa_ireturn rfl ?_
                            subst hd10
                            exact ⟨rfl, hSq183, ⟨by omega, by omega, ipSq178, (px_tr px_rfl (px_ap _ _))⟩, Or.inl rfl⟩
                          · skip
                            have ho := qtk_1 hd8 ks174
                            subst ho
                            exact ⟨rfl, ⟨rfl, hf177⟩⟩
                        · skip
                          exact absurd c173 (by omega)
                      · skip
                        exact absurd c172 (by omega)
                    · skip
                      show wJ _ _ _ _ _ _ _ _ _ _
                      have hd8 := qif_n hd7 ks169
                      refine wa_ifne (w_rg0 (by omega) (by omega)) ⟨_, rfl⟩ (fun c185 => ?_) (fun c185 => ?_)
                      · skip
                        exact absurd c185 (by omega)
                      · skip
                        refine wa_iconst ?_
                        refine wa_goto ⟨_, rfl⟩ ?_
                        refine wa_istore_n (n := 3) rfl ?_
                        refine wa_fall ⟨_, rfl⟩ ?_
                        rcases hd8 with ⟨v186, hs187, ho188⟩ | ⟨i189, I190, F191, t192, hs187, hd11⟩
                        · refine wJ_S (rq_v (r12 (x := 0) ⟨by omega, by omega⟩ hs187) ⟨⟨by omega, by omega⟩, by omega, ipSq167⟩ (by omega) hSq167 (fun Z193 hz194 => ?_)) ⟨rfl, rfl, rfl, trivial⟩
                          subst ho188
                          exact ⟨rfl, hz194⟩
                        refine wJ_S (rq_i (r12 (x := 0) ⟨by omega, by omega⟩ hs187) ⟨⟨by omega, by omega⟩, by omega, ipSq167⟩ (by omega) hSq167 (fun Z193 hz194 pp195 ea200 => ?_)) ⟨rfl, rfl, rfl, trivial⟩
                        obtain ⟨p196, p197, p198, p199⟩ := pp195
                        have hZ193 : rQ T n N X f0 b0 b1 S0 u (dp + 1) i189 I190 F191 (pA F191) Z193 := hz194
                        have ipZ193 : ((i189 : Nat) : Int) ≤ tp T n 0 i189 := p198
                        have krZ193 := kq_rg T n N X i189
                        have nnZ193 := rQ_n hZ193
                        have lnZ193 := px_len p199
                        have tAea200 := ea200.1
                        have tBea200 := ea200.2
                        refine wa_aload_n (n := 0) rfl ?_
                        refine wa_bipush (w_rg2 (by omega) (by omega)) ?_
                        refine wa_cv 237 rfl (wy_pr rfl) wt_237 (M2 := fun _ => False) rfl at_M_closes ⟨_, rfl⟩ rfl rfl ⟨(Or.inr ⟨wy_pr rfl, fun q => q⟩), trivial, trivial⟩ trivial (fun _ _ q => False.elim q) (clw (S := Z193) hZ193 ipZ193 (fun _ => sk_93) ⟨by decide, by decide⟩ ⟨by decide, by decide⟩ ⟨by omega, by omega⟩) (fun oq205 Sq205 hp206 q205 => ?_)
                        rcases q205 with ⟨rfl, ks201, hz202, hl203⟩ | ⟨rfl, ks201, hf204⟩
                        · skip
                          show wJ _ _ _ _ _ _ _ _ _ _
                          have hSq205 : rQ T n N X f0 b0 b1 S0 u dp (i189 + 1) I190 F191 (pA F191) Sq205 := (by have z := hz202; rw [show (dp + 1) - 1 = dp by omega] at z; exact z)
                          have ipSq205 : (((i189 + 1) : Nat) : Int) ≤ tp T n 0 (i189 + 1) := pI_nx (N := N) (X := X) ipZ193 (rQ_n hZ193) ⟨by omega, by omega⟩
                          have krSq205 := kq_rg T n N X (i189 + 1)
                          have nnSq205 := rQ_n hSq205
                          have hd12 := qtk_o hd11 ks201
                          refine wa_aload_n (n := 0) rfl ?_
                          refine wa_bipush (w_rg2 (by omega) (by omega)) ?_
                          refine wa_iload_n (n := 2) rfl ?_
                          refine wa_iconst ?_
                          refine wa_cv 237 rfl (wy_pr rfl) wt_237 (M2 := fun _ => False) rfl at_M_emits ⟨_, rfl⟩ rfl rfl ⟨(Or.inr ⟨wy_pr rfl, fun q => q⟩), trivial, trivial⟩ trivial (fun _ _ q => False.elim q) (emw (S := Sq205) (x := (25, t192, 0, u)) hSq205 (by omega) rfl (by show (25 : Int) ≠ 27; decide) rfl ⟨by omega, by omega⟩ ⟨by omega, by omega⟩ ⟨by omega, by omega⟩) (fun oq210 Sq210 hp211 q210 => ?_)
                          rcases q210 with ⟨rfl, hz207, l61208, l60209⟩
                          show wJ _ _ _ _ _ _ _ _ _ _
                          have hSq210 : rQ T n N X f0 b0 b1 S0 u dp (i189 + 1) (I190 ++ [(25, t192, 0, u)]) F191 (pA F191) Sq210 := hz207
                          have krSq210 := kq_rg T n N X (i189 + 1)
                          have nnSq210 := rQ_n hSq210
                          have hlSq210 : (I190 ++ [(25, t192, 0, u)]).length = I190.length + 1 := List.length_append
                          refine wa_goto ⟨_, rfl⟩ ?_
                          refine wa_iconst ?_
                          refine wa_ireturn rfl ?_
                          subst hd12
                          exact ⟨rfl, hSq210, ⟨by omega, by omega, ipSq205, (px_tr (px_tr px_rfl p199) (px_ap _ _))⟩, Or.inl rfl⟩
                        · skip
                          have ho := qtk_1 hd11 ks201
                          subst ho
                          exact ⟨rfl, ⟨rfl, hf204⟩⟩
                  · skip
                    have ho := qop_1 hd6 ks162
                    subst ho
                    exact ⟨rfl, ⟨rfl, hf165⟩⟩
                  · skip
                    have ho := qop_4 hd6 ks162 hd5166
                    subst ho
                    exact ⟨rfl, ⟨rfl, hf165⟩⟩
              · skip
                show wJ _ _ _ _ _ _ _ _ _ _
                refine wa_ifeq (w_rg0 (by omega) (by omega)) ⟨_, rfl⟩ (fun c212 => ?_) (fun c212 => ?_)
                · skip
                  refine wa_aload_n (n := 0) rfl ?_
                  refine wa_bipush (w_rg2 (by omega) (by omega)) ?_
                  refine wa_cv 237 rfl (wy_pr rfl) wt_237 (M2 := fun _ => False) rfl at_M_isSign ⟨_, rfl⟩ rfl rfl ⟨(Or.inr ⟨wy_pr rfl, fun q => q⟩), trivial, trivial⟩ trivial (fun _ _ q => False.elim q) (isw (S := S) h (fun _ => sk_123) ⟨by decide, by decide⟩ ⟨by decide, by decide⟩) (fun oq214 Sq214 hp215 q214 => ?_)
                  rcases q214 with ⟨rfl, ⟨rfl, ks213⟩ | ⟨rfl, ks213⟩⟩
                  · skip
                    show wJ _ _ _ _ _ _ _ _ _ _
                    refine wa_ifeq (w_rg0 (by omega) (by omega)) ⟨_, rfl⟩ (fun c216 => ?_) (fun c216 => ?_)
                    · skip
                      exact absurd c216 (by omega)
                    · skip
                      refine wa_aload_n (n := 0) rfl ?_
                      refine wa_cv 237 rfl (wy_pr rfl) wt_237 (M2 := fun _ => False) rfl at_M_object ⟨_, rfl⟩ rfl rfl ⟨(Or.inr ⟨wy_pr rfl, fun q => q⟩), trivial, trivial⟩ trivial (fun _ _ q => False.elim q) (ob_w (by unfold pz_FI at hd; rw [if_neg (by omega), if_neg (by omega), if_neg (by omega), if_neg (by omega), if_neg (by omega), if_neg (by omega), if_neg (by omega), if_pos (by omega)] at hd; exact hd) ⟨⟨by omega, by omega⟩, by omega, ip⟩ _ _ _ (by omega) h) (fun oq217 Sq217 hp218 q217 => ?_)
                      rcases o with v | ⟨i2, I2, F2, t2⟩
                      · rcases q217 with ⟨rfl, hf⟩
                        exact ⟨rfl, rfl, hf⟩
                      · rcases q217 with ⟨rfl, hz, ⟨p1, p2, p3, p4⟩, he⟩
                        obtain rfl := he
                        show wJ _ _ _ _ _ _ _ _ _ _
                        refine wa_goto ⟨_, rfl⟩ ?_
                        refine wa_iconst ?_
                        refine wa_ireturn rfl ?_
                        exact ⟨rfl, hz, ⟨by omega, by omega, p3, px_tr px_rfl p4⟩, Or.inl rfl⟩
                  · skip
                    show wJ _ _ _ _ _ _ _ _ _ _
                    refine wa_ifeq (w_rg0 (by omega) (by omega)) ⟨_, rfl⟩ (fun c219 => ?_) (fun c219 => ?_)
                    · skip
                      refine wa_aload_n (n := 0) rfl ?_
                      refine wa_aload_n (n := 0) rfl ?_
                      refine wb_gfi 237 rfl (wy_pr rfl) wt_237 wf_15_6 (v := (S 237 6)) rfl (fun r220 => ?_)
                      refine wa_iconst ?_
                      refine wa_icmpne (w_rg0 (by omega) (by omega)) (w_rg0 (by omega) (by omega)) ⟨_, rfl⟩ (fun c221 => ?_) (fun c221 => ?_)
                      · skip
                        refine wa_iconst ?_
                        refine wa_fall ⟨_, rfl⟩ ?_
                        refine wa_iconst ?_
                        refine wa_cv 237 rfl (wy_pr rfl) wt_237 (M2 := fun _ => False) rfl at_M_must ⟨_, rfl⟩ rfl rfl ⟨(Or.inr ⟨wy_pr rfl, fun q => q⟩), trivial, trivial⟩ trivial (fun _ _ q => False.elim q) (must_ok (S := S) (g := 0) (n := 1) (by omega) ⟨by omega, by omega⟩) (fun oq223 Sq223 hp224 q223 => ?_)
                        rcases q223 with ⟨hg222, rfl, rfl⟩ | ⟨hg222, rfl, rfl⟩
                        · skip
                          exact absurd hg222 (by decide)
                        · skip
                          have ho := (show o = .inl (1 + 16 * tp T n 0 i) from (by first | (exfalso; omega) | (unfold pz_FI pz_fa at hd; (repeat (first | rw [if_pos (by omega)] at hd | rw [if_neg (by omega)] at hd)); exact hd)))
                          subst ho
                          exact ⟨rfl, ⟨rfl, (rFu_mk h ip)⟩⟩
                      · skip
                        refine wa_iconst ?_
                        refine wa_goto ⟨_, rfl⟩ ?_
                        refine wa_iconst ?_
                        refine wa_cv 237 rfl (wy_pr rfl) wt_237 (M2 := fun _ => False) rfl at_M_must ⟨_, rfl⟩ rfl rfl ⟨(Or.inr ⟨wy_pr rfl, fun q => q⟩), trivial, trivial⟩ trivial (fun _ _ q => False.elim q) (must_ok (S := S) (g := 1) (n := 1) (by omega) ⟨by omega, by omega⟩) (fun oq226 Sq226 hp227 q226 => ?_)
                        rcases q226 with ⟨hg225, rfl, rfl⟩ | ⟨hg225, rfl, rfl⟩
                        · skip
                          show wJ _ _ _ _ _ _ _ _ _ _
                          refine wa_aload_n (n := 0) rfl ?_
                          refine wa_iload_n (n := 1) rfl ?_
                          refine wa_cv 237 rfl (wy_pr rfl) wt_237 (M2 := fun _ => False) rfl at_M_word ⟨_, rfl⟩ rfl rfl ⟨(Or.inr ⟨wy_pr rfl, fun q => q⟩), trivial, trivial⟩ trivial (fun _ _ q => False.elim q) (wd_w hX hx107 hx (pzFI_w hd ⟨by omega, by omega, by omega, by omega, by omega, by omega, by omega, by omega⟩) ⟨⟨by omega, by omega⟩, by omega, ip⟩ _ _ _ (by omega) h) (fun oq228 Sq228 hp229 q228 => ?_)
                          rcases o with v | ⟨i2, I2, F2, t2⟩
                          · rcases q228 with ⟨rfl, hf⟩
                            exact ⟨rfl, rfl, hf⟩
                          · rcases q228 with ⟨rfl, hz, ⟨p1, p2, p3, p4⟩, he⟩
                            obtain rfl := he
                            show wJ _ _ _ _ _ _ _ _ _ _
                            refine wa_fall ⟨_, rfl⟩ ?_
                            refine wa_iconst ?_
                            refine wa_ireturn rfl ?_
                            exact ⟨rfl, hz, ⟨by omega, by omega, p3, px_tr px_rfl p4⟩, Or.inl rfl⟩
                        · skip
                          exact absurd hg225 (by decide)
                    · skip
                      exact absurd c219 (by omega)
                · skip
                  exact absurd c212 (by omega)
            · skip
              exact absurd c157 (by omega)
        · skip
          exact absurd c121 (by omega)
    · skip
      refine wa_aload_n (n := 0) rfl ?_
      refine wa_iconst ?_
      refine wa_iconst ?_
      refine wa_aload_n (n := 0) rfl ?_
      refine wa_cv 237 rfl (wy_pr rfl) wt_237 (M2 := fun _ => False) rfl at_M_takesText ⟨_, rfl⟩ rfl rfl ⟨(Or.inr ⟨wy_pr rfl, fun q => q⟩), trivial, trivial⟩ ⟨trivial, trivial, (Or.inr ⟨wy_pr rfl, fun q => q⟩), trivial⟩ (fun _ _ q => False.elim q) (ttw (S := S) h ip (by omega)) (fun oq235 Sq235 hp236 q235 => ?_)
      rcases q235 with ⟨rfl, ks230, hz231, z233, z234⟩ | ⟨rfl, ks230, hf232⟩
      · skip
        show wJ _ _ _ _ _ _ _ _ _ _
        have hSq235 : rQ T n N X f0 b0 b1 S0 u dp (i + 1) I F (pA F) Sq235 := hz231
        have ipSq235 : (((i + 1) : Nat) : Int) ≤ tp T n 0 (i + 1) := pI_nx (N := N) (X := X) ip (rQ_n h) ⟨by omega, by omega⟩
        have krSq235 := kq_rg T n N X (i + 1)
        have nnSq235 := rQ_n hSq235
        have v3ks230 := vq3_rg hXL ks230
        refine wa_cv 237 rfl (wy_pr rfl) wt_237 (M2 := fun _ => False) rfl at_M_emits ⟨_, rfl⟩ rfl rfl ⟨(Or.inr ⟨wy_pr rfl, fun q => q⟩), trivial, trivial⟩ trivial (fun _ _ q => False.elim q) (emw (S := Sq235) (x := (0, 4, (vq T n N X i), u)) hSq235 (by omega) rfl (by show (0 : Int) ≠ 27; decide) rfl ⟨by omega, by omega⟩ ⟨by omega, by omega⟩ ⟨by omega, by omega⟩) (fun oq240 Sq240 hp241 q240 => ?_)
        rcases q240 with ⟨rfl, hz237, l61238, l60239⟩
        show wJ _ _ _ _ _ _ _ _ _ _
        have hSq240 : rQ T n N X f0 b0 b1 S0 u dp (i + 1) (I ++ [(0, 4, (vq T n N X i), u)]) F (pA F) Sq240 := hz237
        have krSq240 := kq_rg T n N X (i + 1)
        have nnSq240 := rQ_n hSq240
        have hlSq240 : (I ++ [(0, 4, (vq T n N X i), u)]).length = I.length + 1 := List.length_append
        refine wa_goto ⟨_, rfl⟩ ?_
        refine wa_iconst ?_
        refine wa_ireturn rfl ?_
        unfold pz_FI at hd
        first
          | (rw [if_pos (by omega)] at hd; subst hd; exact ⟨rfl, hSq240, ⟨by omega, by omega, ipSq235, (px_tr px_rfl (px_ap _ _))⟩, Or.inl rfl⟩)
          | (rw [if_neg (by omega), if_pos (by omega)] at hd; subst hd; exact ⟨rfl, hSq240, ⟨by omega, by omega, ipSq235, (px_tr px_rfl (px_ap _ _))⟩, Or.inl rfl⟩)
      · skip
        have ho := (show o = .inl (7 + 16 * tp T n 0 i) from (by first | (exfalso; omega) | (unfold pz_FI pz_fa at hd; (repeat (first | rw [if_pos (by omega)] at hd | rw [if_neg (by omega)] at hd)); exact hd)))
        subst ho
        exact ⟨rfl, ⟨rfl, hf232⟩⟩
  · skip
    have v10 := (rL_10 (N := N) (X := X) h.1 (by omega)).2
    refine wa_aload_n (n := 0) rfl ?_
    refine wa_iconst ?_
    refine wa_iconst ?_
    refine wa_aload_n (n := 0) rfl ?_
    refine wb_gfi 237 rfl (wy_pr rfl) wt_237 wf_15_10 (v := (vq T n N X i)) ((rL_10 h.1 (by omega)).1) (fun r242 => ?_)
    refine wa_cv 237 rfl (wy_pr rfl) wt_237 (M2 := fun _ => False) rfl at_M_emits ⟨_, rfl⟩ rfl rfl ⟨(Or.inr ⟨wy_pr rfl, fun q => q⟩), trivial, trivial⟩ trivial (fun _ _ q => False.elim q) (emw (S := S) (x := (0, 3, (vq T n N X i), u)) h (by omega) rfl (by show (0 : Int) ≠ 27; decide) rfl ⟨by omega, by omega⟩ ⟨by omega, by omega⟩ ⟨by omega, by omega⟩) (fun oq246 Sq246 hp247 q246 => ?_)
    rcases q246 with ⟨rfl, hz243, l61244, l60245⟩
    show wJ _ _ _ _ _ _ _ _ _ _
    have hSq246 : rQ T n N X f0 b0 b1 S0 u dp i (I ++ [(0, 3, (vq T n N X i), u)]) F (pA F) Sq246 := hz243
    have krSq246 := kq_rg T n N X i
    have nnSq246 := rQ_n hSq246
    have hlSq246 : (I ++ [(0, 3, (vq T n N X i), u)]).length = I.length + 1 := List.length_append
    refine wa_aload_n (n := 0) rfl ?_
    refine wa_cv 237 rfl (wy_pr rfl) wt_237 (M2 := fun _ => False) rfl at_M_next ⟨_, rfl⟩ rfl rfl ⟨(Or.inr ⟨wy_pr rfl, fun q => q⟩), trivial, trivial⟩ trivial (fun _ _ q => False.elim q) (nxw (S := Sq246) hSq246 ⟨by omega, by omega, by omega, by omega, by omega⟩) (fun oq250 Sq250 hp251 q250 => ?_)
    rcases q250 with ⟨rfl, hz248, hl249⟩
    show wJ _ _ _ _ _ _ _ _ _ _
    have hSq250 : rQ T n N X f0 b0 b1 S0 u dp (i + 1) (I ++ [(0, 3, (vq T n N X i), u)]) F (pA F) Sq250 := hz248
    have ipSq250 : (((i + 1) : Nat) : Int) ≤ tp T n 0 (i + 1) := pI_nx (N := N) (X := X) ip (rQ_n hSq246) ⟨by omega, by omega⟩
    have krSq250 := kq_rg T n N X (i + 1)
    have nnSq250 := rQ_n hSq250
    refine wa_goto ⟨_, rfl⟩ ?_
    refine wa_iconst ?_
    refine wa_ireturn rfl ?_
    unfold pz_FI at hd
    first
      | (rw [if_pos (by omega)] at hd; subst hd; exact ⟨rfl, hSq250, ⟨by omega, by omega, ipSq250, (px_tr px_rfl (px_ap _ _))⟩, Or.inl rfl⟩)
      | (rw [if_neg (by omega), if_pos (by omega)] at hd; subst hd; exact ⟨rfl, hSq250, ⟨by omega, by omega, ipSq250, (px_tr px_rfl (px_ap _ _))⟩, Or.inl rfl⟩)
end Wcm
