/-! PART bw: the reference's texts as a list: takesText. -/
section Wbw
variable {xs : List (Nat × List Int32)} {M : Nat → Prop} {d : Nat} {A B C S Z : wS} {Q : wO → wS → Prop} {L : List (List Int)} {x : List Int}
/-- all lengths together -/
def tls : List (List Int) → Nat
  | [] => 0
  | x :: r => x.length + tls r
theorem tls_ap (L : List (List Int)) (x : List Int) : tls (L ++ [x]) = tls L + x.length := by
  induction L with
  | nil => show x.length + 0 = 0 + x.length; omega
  | cons y r ih => show y.length + tls (r ++ [x]) = y.length + tls r + x.length; rw [ih]; omega
theorem tls_tk {L : List (List Int)} : ∀ {k : Nat}, k < L.length → tls (L.take k) + (L.getD k []).length ≤ tls L := by
  induction L with
  | nil => intro k h; exact absurd h (Nat.not_lt_zero _)
  | cons y r ih =>
    intro k h
    cases k with
    | zero => show 0 + y.length ≤ y.length + tls r; omega
    | succ k =>
      have := ih (Nat.lt_of_succ_lt_succ h)
      show y.length + tls (r.take k) + (r.getD k []).length ≤ y.length + tls r
      omega
theorem tls_60 {L : List (List Int)} (h : ∀ k : Nat, k < L.length → (L.getD k []).length ≤ 60) : tls L ≤ 60 * L.length := by
  induction L with
  | nil => exact Nat.le_refl _
  | cons y r ih =>
    have h0 : y.length ≤ 60 := h 0 (Nat.zero_lt_succ _)
    have h1 := ih (fun k hk => h (k + 1) (Nat.succ_lt_succ hk))
    show y.length + tls r ≤ 60 * (r.length + 1)
    omega
/-- the reference's texts of sources are these -/
def mX (L : List (List Int)) (S : wS) : Prop := S 237 19 = (L.length : Int) ∧ L.length ≤ 4000 ∧ S 237 20 = (tls L : Int) ∧ ∀ k : Nat, k < L.length → S 284 (k : Int) = (tls (L.take k) : Int) ∧ S 285 (k : Int) = ((L.getD k []).length : Int) ∧ (L.getD k []).length ≤ 60 ∧ ∀ y : Nat, y < (L.getD k []).length → S 283 ((tls (L.take k) : Int) + (y : Int)) = (L.getD k []).getD y 0
theorem tx_i {k : Nat} (hM : w_ML S) (hN : mX L S) (hT : lx_tl S x) (hm : x.length ≤ 60) (hk : k < L.length) (h1 : L.getD k [] = x → wJ (pe_GA xs) wY0 M d t_M_takesText ((pe_at t_M_takesText.bl 7).getD (0, [])).2 [(0, (2, 237)), (1, (0, (k : Int))), (2, (0, 1))] [] S Q) (h0 : L.getD k [] ≠ x → wJ (pe_GA xs) wY0 M d t_M_takesText ((pe_at t_M_takesText.bl 7).getD (0, [])).2 [(0, (2, 237)), (1, (0, (k : Int))), (2, (0, 0))] [] S Q) : ∀ (f y : Nat) (sm : Int), x.length - y < f → y ≤ x.length → ((sm = 1 ∧ (L.getD k []).length = x.length ∧ ∀ z : Nat, z < y → (L.getD k []).getD z 0 = x.getD z 0) ∨ (sm = 0 ∧ L.getD k [] ≠ x)) → wJ (pe_GA xs) wY0 M d t_M_takesText ((pe_at t_M_takesText.bl 4).getD (0, [])).2 [(0, (2, 237)), (1, (0, (k : Int))), (2, (0, sm)), (3, (0, (y : Int)))] [] S Q := by
  obtain ⟨n1, n2, n4, n3⟩ := hN
  obtain ⟨k0, k1, k2, k3⟩ := n3 k hk
  have htk := tls_tk hk
  have ht6 := tls_60 (fun k hk => (n3 k hk).2.2.1)
  obtain ⟨t1, t2⟩ := hT
  intro f
  induction f with
  | zero => intro y sm h; exact absurd h (Nat.not_lt_zero _)
  | succ f ih =>
    intro y sm hf hx hs
    have hsr : sm = 0 ∨ sm = 1 := hs.elim (fun q => Or.inr q.1) (fun q => Or.inl q.1)
    refine wa_iload_n (n := 3) rfl ?_
    refine wa_aload_n (n := 0) rfl ?_
    refine wb_gfi 237 rfl (wy_pr rfl) wt_237 wf_15_12 (v := (x.length : Int)) (t1) (fun r101 => ?_)
    refine wa_icmpge (w_rg0 (by omega) (by omega)) (w_rg0 (by omega) (by omega)) ⟨_, rfl⟩ (fun c102 => ?_) (fun c102 => ?_)
    · skip
      rcases hs with ⟨rfl, hs1, hs2⟩ | ⟨rfl, hs1⟩
      · first | omega | exact wJ_S (h1 (ls_ext hs1 (fun z hz => hs2 z (by omega)))) ⟨rfl, rfl, rfl, trivial⟩
      · exact wJ_S (h0 hs1) ⟨rfl, rfl, rfl, trivial⟩
    · skip
      refine wa_iload_n (n := 2) rfl ?_
      refine wa_ifeq (w_rg0 (by omega) (by omega)) ⟨_, rfl⟩ (fun c103 => ?_) (fun c103 => ?_)
      · skip
        rcases hs with ⟨rfl, hs1, hs2⟩ | ⟨rfl, hs1⟩
        · first | omega | exact wJ_S (h1 (ls_ext hs1 (fun z hz => hs2 z (by omega)))) ⟨rfl, rfl, rfl, trivial⟩
        · exact wJ_S (h0 hs1) ⟨rfl, rfl, rfl, trivial⟩
      · skip
        have hs1 : sm = 1 ∧ (L.getD k []).length = x.length ∧ ∀ z : Nat, z < y → (L.getD k []).getD z 0 = x.getD z 0 := hs.elim id (fun q => by omega)
        have hkx := k3 y (by omega)
        have htx := t2 y (by omega)
        refine wa_aload_n (n := 0) rfl ?_
        refine wb_gf4 237 rfl (wy_pr rfl) wt_237 wf_15_21 (v := 283) wl_237_21 ?_
        refine wa_aload_n (n := 0) rfl ?_
        refine wb_gf4 237 rfl (wy_pr rfl) wt_237 wf_15_22 (v := 284) wl_237_22 ?_
        refine wa_iload_n (n := 1) rfl ?_
        refine wb_iald 284 rfl (wy_pr rfl) wt_284 (n := 16000) ((ml_284 hM)) (by omega) (by omega) (v := (tls (L.take k) : Int)) (k0) (fun r104 => ?_)
        refine wa_iload_n (n := 3) rfl ?_
        refine wa_iadd ?_
        refine wb_bald 283 rfl (wy_pr rfl) wt_283 (n := 269632) ((ml_283 hM)) (by omega) (by omega) (v := ((L.getD k []).getD y 0)) (hkx) (fun r105 => ?_)
        refine wa_aload_n (n := 0) rfl ?_
        refine wb_gf4 237 rfl (wy_pr rfl) wt_237 wf_15_11 (v := 240) wl_237_11 ?_
        refine wa_iload_n (n := 3) rfl ?_
        refine wb_bald 240 rfl (wy_pr rfl) wt_240 (n := 64) ((ml_240 hM)) (by omega) (by omega) (v := (x.getD y 0)) (htx) (fun r106 => ?_)
        refine wa_icmpne (w_rg0 (by omega) (by omega)) (w_rg0 (by omega) (by omega)) ⟨_, rfl⟩ (fun c107 => ?_) (fun c107 => ?_)
        · skip
          refine wa_iconst ?_
          refine wa_fall ⟨_, rfl⟩ ?_
          refine wa_istore_n (n := 2) rfl ?_
          refine wa_iinc rfl rfl ?_
          refine wa_goto ⟨_, rfl⟩ ?_
          rw [show ((y : Nat) : Int) + 1 = ((y + 1 : Nat) : Int) from rfl]
          refine wJ_S (ih (y + 1) 0 (by omega) (by omega) (Or.inr ⟨rfl, fun q => ?_⟩)) ⟨rfl, rfl, rfl, rfl, trivial⟩
          have : (L.getD k []).getD y 0 = x.getD y 0 := by rw [q]
          omega
        · skip
          refine wa_iconst ?_
          refine wa_goto ⟨_, rfl⟩ ?_
          refine wa_istore_n (n := 2) rfl ?_
          refine wa_iinc rfl rfl ?_
          refine wa_goto ⟨_, rfl⟩ ?_
          rw [show ((y : Nat) : Int) + 1 = ((y + 1 : Nat) : Int) from rfl]
          refine wJ_S (ih (y + 1) 1 (by omega) (by omega) (Or.inl ⟨rfl, hs1.2.1, fun z hz => ?_⟩)) ⟨rfl, rfl, rfl, rfl, trivial⟩
          by_cases hyx : z = y
          · subst hyx; omega
          · exact hs1.2.2 z (by omega)
theorem tx_o (hM : w_ML S) (hN : mX L S) (hT : lx_tl S x) (hm : x.length ≤ 60) (hin : x ∈ L → wJ (pe_GA xs) wY0 M (d + 3) t_M_takesText ((pe_at t_M_takesText.bl 7).getD (0, [])).2 [(0, (2, 237)), (1, (0, (L.idxOf x : Int))), (2, (0, 1))] [] S Q) (hno : x ∉ L → wJ (pe_GA xs) wY0 M (d + 3) t_M_takesText ((pe_at t_M_takesText.bl 9).getD (0, [])).2 [(0, (2, 237))] [] S Q) : ∀ (f k : Nat), L.length - k < f → k ≤ L.length → (∀ y : Nat, y < k → L.getD y [] ≠ x) → wJ (pe_GA xs) wY0 M (d + 3) t_M_takesText ((pe_at t_M_takesText.bl 1).getD (0, [])).2 [(0, (2, 237)), (1, (0, (k : Int)))] [] S Q := by
  have hN0 := hN
  obtain ⟨n1, n2, n4, n3⟩ := hN
  have t1 := hT.1
  intro f
  induction f with
  | zero => intro k h; exact absurd h (Nat.not_lt_zero _)
  | succ f ih =>
    intro k hf hkl hbe
    refine wa_iload_n (n := 1) rfl ?_
    refine wa_aload_n (n := 0) rfl ?_
    refine wb_gfi 237 rfl (wy_pr rfl) wt_237 wf_15_19 (v := (L.length : Int)) (n1) (fun r101 => ?_)
    refine wa_icmpge (w_rg0 (by omega) (by omega)) (w_rg0 (by omega) (by omega)) ⟨_, rfl⟩ (fun c102 => ?_) (fun c102 => ?_)
    · skip
      refine wJ_S (hno (fun q => ?_)) ⟨rfl, trivial⟩
      obtain ⟨g1, g2⟩ := getD_idx q
      exact hbe _ (by omega) g2
    · skip
      have hkb := (n3 k (by omega)).2.2.1
      refine wa_aload_n (n := 0) rfl ?_
      refine wb_gf4 237 rfl (wy_pr rfl) wt_237 wf_15_23 (v := 285) wl_237_23 ?_
      refine wa_iload_n (n := 1) rfl ?_
      refine wb_iald 285 rfl (wy_pr rfl) wt_285 (n := 16000) ((ml_285 hM)) (by omega) (by omega) (v := ((L.getD k []).length : Int)) (((n3 k (by omega)).2.1)) (fun r103 => ?_)
      refine wa_aload_n (n := 0) rfl ?_
      refine wb_gfi 237 rfl (wy_pr rfl) wt_237 wf_15_12 (v := (x.length : Int)) (t1) (fun r104 => ?_)
      refine wa_icmpne (w_rg0 (by omega) (by omega)) (w_rg0 (by omega) (by omega)) ⟨_, rfl⟩ (fun c105 => ?_) (fun c105 => ?_)
      · skip
        refine wa_iconst ?_
        refine wa_fall ⟨_, rfl⟩ ?_
        refine wa_istore_n (n := 2) rfl ?_
        refine wa_iconst ?_
        refine wa_istore_n (n := 3) rfl ?_
        refine wa_fall ⟨_, rfl⟩ ?_
        refine wJ_S (tx_i (k := k) hM hN0 hT hm (by omega) (fun he => ?_) (fun hne => ?_) (x.length + 1) 0 0 (by omega) (Nat.zero_le _) (Or.inr ⟨rfl, fun q => absurd (show (L.getD k []).length = x.length by rw [q]) (by omega)⟩)) ⟨rfl, rfl, rfl, rfl, trivial⟩
        · have hk2 : k < L.length := by omega
          have hgk : L[k] = x := by rw [← he, List.getD_eq_getElem?_getD, List.getElem?_eq_getElem hk2]; rfl
          have hin2 : x ∈ L := hgk ▸ List.getElem_mem hk2
          obtain ⟨g1, g2⟩ := getD_idx hin2
          have hge : k ≤ L.idxOf x := Nat.le_of_not_lt (fun q => hbe _ q g2)
          have hid : L.idxOf x = k := Nat.le_antisymm (idx_le hk2 hgk) hge
          rw [← hid]
          exact hin hin2
        · skip
          refine wa_iload_n (n := 2) rfl ?_
          refine wa_ifeq (w_rg0 (by omega) (by omega)) ⟨_, rfl⟩ (fun c156 => ?_) (fun c156 => ?_)
          · skip
            refine wa_iinc rfl rfl ?_
            refine wa_goto ⟨_, rfl⟩ ?_
            rw [show ((k : Nat) : Int) + 1 = ((k + 1 : Nat) : Int) from rfl]
            refine wJ_S (ih (k + 1) (by omega) (by omega) (fun y hy => ?_)) ⟨rfl, rfl, trivial⟩
            by_cases hyk : y = k
            · subst hyk; exact hne
            · exact hbe y (by omega)
          · skip
            exact absurd c156 (by omega)
      · skip
        refine wa_iconst ?_
        refine wa_goto ⟨_, rfl⟩ ?_
        refine wa_istore_n (n := 2) rfl ?_
        refine wa_iconst ?_
        refine wa_istore_n (n := 3) rfl ?_
        refine wa_fall ⟨_, rfl⟩ ?_
        refine wJ_S (tx_i (k := k) hM hN0 hT hm (by omega) (fun he => ?_) (fun hne => ?_) (x.length + 1) 0 1 (by omega) (Nat.zero_le _) (Or.inl ⟨rfl, by omega, fun y hy => absurd hy (Nat.not_lt_zero _)⟩)) ⟨rfl, rfl, rfl, rfl, trivial⟩
        · have hk2 : k < L.length := by omega
          have hgk : L[k] = x := by rw [← he, List.getD_eq_getElem?_getD, List.getElem?_eq_getElem hk2]; rfl
          have hin2 : x ∈ L := hgk ▸ List.getElem_mem hk2
          obtain ⟨g1, g2⟩ := getD_idx hin2
          have hge : k ≤ L.idxOf x := Nat.le_of_not_lt (fun q => hbe _ q g2)
          have hid : L.idxOf x = k := Nat.le_antisymm (idx_le hk2 hgk) hge
          rw [← hid]
          exact hin hin2
        · skip
          refine wa_iload_n (n := 2) rfl ?_
          refine wa_ifeq (w_rg0 (by omega) (by omega)) ⟨_, rfl⟩ (fun c156 => ?_) (fun c156 => ?_)
          · skip
            refine wa_iinc rfl rfl ?_
            refine wa_goto ⟨_, rfl⟩ ?_
            rw [show ((k : Nat) : Int) + 1 = ((k + 1 : Nat) : Int) from rfl]
            refine wJ_S (ih (k + 1) (by omega) (by omega) (fun y hy => ?_)) ⟨rfl, rfl, trivial⟩
            by_cases hyk : y = k
            · subst hyk; exact hne
            · exact hbe y (by omega)
          · skip
            exact absurd c156 (by omega)
/-- the first y signs have been copied -/
def xc_ag (S Z : wS) (b : Int) (y : Nat) : Prop := (∀ z : Nat, z < y → Z 283 (b + (z : Int)) = S 240 (z : Int)) ∧ ∀ (j : Nat) (i : Int), (j ≠ 283 ∨ i < b ∨ b + (y : Int) ≤ i) → Z j i = S j i
theorem xc_s {b : Int} {y : Nat} (h : xc_ag S Z b y) : xc_ag S (w_up Z 283 (b + (y : Int)) (S 240 (y : Int))) b (y + 1) := by
  refine ⟨fun z hz => ?_, fun j i hj => (w_up_no (by omega)).trans (h.2 j i (by omega))⟩
  by_cases e : z = y
  · subst e; exact w_up_same _ _ _ _
  · rw [w_up_at (by omega)]; exact h.1 z (by omega)
theorem tx_c {b : Int} {k : Int} (hM : w_ML S) (hT : lx_tl S x) (hm : x.length ≤ 60) (hb : 0 ≤ b ∧ b + 60 ≤ 269632) (h20 : S 237 20 = b) (hkk : ∀ Z, xc_ag S Z b x.length → wJ (pe_GA xs) wY0 M d t_M_takesText ((pe_at t_M_takesText.bl 13).getD (0, [])).2 [(0, (2, 237)), (1, (0, k))] [] Z Q) : ∀ (f y : Nat) (Z : wS), x.length - y < f → y ≤ x.length → xc_ag S Z b y → wJ (pe_GA xs) wY0 M d t_M_takesText ((pe_at t_M_takesText.bl 12).getD (0, [])).2 [(0, (2, 237)), (1, (0, k)), (2, (0, (y : Int)))] [] Z Q := by
  intro f
  induction f with
  | zero => intro y Z h; exact absurd h (Nat.not_lt_zero _)
  | succ f ih =>
    intro y Z hf hy hz
    have z12 : Z 237 12 = (x.length : Int) := (hz.2 237 12 (Or.inl (by decide))).trans hT.1
    have z20 : Z 237 20 = b := (hz.2 237 20 (Or.inl (by decide))).trans h20
    have z240 : Z 240 (y : Int) = S 240 (y : Int) := hz.2 240 _ (Or.inl (by decide))
    have hMZ : w_ML Z := fun q hq => (hz.2 q.1 (-1) (Or.inr (Or.inl (by omega)))).trans (hM q hq)
    refine wa_iload_n (n := 2) rfl ?_
    refine wa_aload_n (n := 0) rfl ?_
    refine wb_gfi 237 rfl (wy_pr rfl) wt_237 wf_15_12 (v := (x.length : Int)) (z12) (fun r101 => ?_)
    refine wa_icmpge (w_rg0 (by omega) (by omega)) (w_rg0 (by omega) (by omega)) ⟨_, rfl⟩ (fun c102 => ?_) (fun c102 => ?_)
    · skip
      have ey : y = x.length := by omega
      subst ey
      exact wJ_S (hkk Z hz) ⟨rfl, rfl, trivial⟩
    · skip
      refine wa_aload_n (n := 0) rfl ?_
      refine wb_gf4 237 rfl (wy_pr rfl) wt_237 wf_15_21 (v := 283) wl_237_21 ?_
      refine wa_aload_n (n := 0) rfl ?_
      refine wb_gfi 237 rfl (wy_pr rfl) wt_237 wf_15_20 (v := b) (z20) (fun r103 => ?_)
      refine wa_iload_n (n := 2) rfl ?_
      refine wa_iadd ?_
      refine wa_aload_n (n := 0) rfl ?_
      refine wb_gf4 237 rfl (wy_pr rfl) wt_237 wf_15_11 (v := 240) wl_237_11 ?_
      refine wa_iload_n (n := 2) rfl ?_
      refine wb_bald 240 rfl (wy_pr rfl) wt_240 (n := 64) ((ml_240 hMZ)) (by omega) (by omega) (v := (S 240 (y : Int))) (z240) (fun r104 => ?_)
      refine wb_bast 283 rfl (wy_pr rfl) wt_283 (n := 269632) ((ml_283 hMZ)) (by omega) (by omega) ⟨(by omega), (by omega)⟩ ?_
      refine wa_iinc rfl rfl ?_
      refine wa_goto ⟨_, rfl⟩ ?_
      have hq := xc_s hz
      rw [show ((y : Nat) : Int) + 1 = ((y + 1 : Nat) : Int) from rfl]
      exact wJ_S (ih (y + 1) _ (by omega) (by omega) hq) ⟨rfl, rfl, rfl, trivial⟩
end Wbw
