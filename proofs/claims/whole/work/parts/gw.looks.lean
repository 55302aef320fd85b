/-! PART gw: isNamed, looksAtRow and looks of the reference. -/
section Wgw
variable {xs : List (Nat × List Int32)} {M : Nat → Prop} {d : Nat} {S Z A : wS} {N : List (List Int)} {x : List Int} {tx : List Int32} {j : Nat} {s kd gk nms wd ec ct : Int} {Q : wO → wS → Prop}
theorem tx_gd {i : Nat} (hi : i < tx.length) : w_tx tx (i : Int) = (tx.map (fun c => c.toInt)).getD i 0 := by
  unfold w_tx
  rw [show ((i : Int)).toNat = i by omega, List.getD_eq_getElem?_getD, List.getD_eq_getElem?_getD, List.getElem?_map, List.getElem?_eq_getElem hi]
  rfl
theorem lsg_e {y : List Int} (hl : x.length = y.length) (h : ∀ i : Nat, i < x.length → x.getD i 0 = y.getD i 0) : x = y := List.ext_getElem hl (fun i h1 h2 => by
  have := h i h1
  rw [List.getD_eq_getElem?_getD, List.getD_eq_getElem?_getD, List.getElem?_eq_getElem h1, List.getElem?_eq_getElem h2] at this
  exact this)
/-- a row's name in the reference: the words 22 .. 25 -/
def wdN (x : List Int) (wd : Int) : Prop := ∀ k : Nat, 22 ≤ k → k ≤ 25 → (x = wl2.getD k [] ↔ wd = (k : Int))
def rwX (g p : Int) (S : wS) : wS := if p = 0 then w_up S 237 167 g else hZ p (w_up S 237 167 g)
theorem isn_l (hM : w_ML S) (hj : pe_at (pe_GA xs).xs j = some (0, tx)) (htl : tx.length ≤ 60) (hn : 0 ≤ nms ∧ nms < 4000) (hxl : x.length = tx.length) (hx : ∀ i : Nat, i < x.length → S 281 (60 * nms + (i : Int)) = x.getD i 0) (hxr : ∀ i : Nat, i < x.length → -128 ≤ x.getD i 0 ∧ x.getD i 0 ≤ 127) (htr : ∀ i : Nat, i < tx.length → 0 ≤ w_tx tx (i : Int) ∧ w_tx tx (i : Int) ≤ 127) : ∀ (f k : Nat), k + f = tx.length → (∀ i : Nat, i < k → x.getD i 0 = w_tx tx (i : Int)) → wJ (pe_GA xs) wY0 M (d + 4) t_M_isNamed ((pe_at t_M_isNamed.bl 3).getD (0, [])).2 [(0, (2, 237)), (1, (0, s)), (2, (2, -10 - (j : Int))), (3, (0, nms)), (4, (0, 1)), (5, (0, (k : Int)))] [] S (fun o Z => S = Z ∧ o = .inl (some (0, if x = tx.map (fun c => c.toInt) then 1 else 0))) := by
  intro f
  induction f with
  | zero =>
    intro k hk hi
    have ek : k = tx.length := by omega
    rw [if_pos (lsg_e (by rw [List.length_map]; exact hxl) (fun i h => (hi i (by omega)).trans (tx_gd (by omega))))]
    refine wa_iload (n := 5) rfl ?_
    refine wa_aload_n (n := 2) rfl ?_
    refine wa_sl j rfl hj rfl rfl ?_
    refine wa_icmpge (w_rg0 (by omega) (by omega)) (w_rg0 (by omega) (by omega)) ⟨_, rfl⟩ (fun c1 => ?_) (fun c1 => ?_)
    · skip
      refine wa_iload (n := 4) rfl ?_
      refine wa_zreturn rfl (Or.inr rfl) ?_
      exact ⟨rfl, rfl⟩
    · skip
      exfalso; omega
  | succ f ih =>
    intro k hk hi
    have hxk := hx k (by omega)
    have hxk2 := hxr k (by omega)
    have htk := htr k (by omega)
    have htg := tx_gd (tx := tx) (i := k) (by omega)
    obtain ⟨xk, ek⟩ : ∃ v : Int, v = x.getD k 0 := ⟨_, rfl⟩
    obtain ⟨tk, et⟩ : ∃ v : Int, v = w_tx tx (k : Int) := ⟨_, rfl⟩
    rw [← ek] at hxk hxk2
    rw [← et] at htk htg
    refine wa_iload (n := 5) rfl ?_
    refine wa_aload_n (n := 2) rfl ?_
    refine wa_sl j rfl hj rfl rfl ?_
    refine wa_icmpge (w_rg0 (by omega) (by omega)) (w_rg0 (by omega) (by omega)) ⟨_, rfl⟩ (fun c101 => ?_) (fun c101 => ?_)
    · skip
      exfalso; omega
    · skip
      refine wa_iload (n := 4) rfl ?_
      refine wa_ifeq (w_rg0 (by omega) (by omega)) ⟨_, rfl⟩ (fun c102 => ?_) (fun c102 => ?_)
      · skip
        exact absurd c102 (by omega)
      · skip
        refine wa_aload_n (n := 0) rfl ?_
        refine wb_gf4 237 rfl (wy_pr rfl) wt_237 wf_15_17 (v := 281) wl_237_17 ?_
        refine wa_bipush (w_rg2 (by omega) (by omega)) ?_
        refine wa_iload_n (n := 3) rfl ?_
        refine wa_imul ?_
        refine wa_iload (n := 5) rfl ?_
        refine wa_iadd ?_
        refine wb_bald 281 rfl (wy_pr rfl) wt_281 (n := 240000) ((ml_281 hM)) (by omega) (by omega) (v := xk) (hxk) (fun r103 => ?_)
        refine wa_aload_n (n := 2) rfl ?_
        refine wa_iload (n := 5) rfl ?_
        refine wa_sc j rfl hj (by omega) rfl rfl (by omega) (by omega) ?_
        rw [← et]
        refine wa_icmpne (w_rg0 (by omega) (by omega)) (w_rg0 (by omega) (by omega)) ⟨_, rfl⟩ (fun c104 => ?_) (fun c104 => ?_)
        · skip
          refine wa_iconst ?_
          refine wa_fall ⟨_, rfl⟩ ?_
          refine wa_istore (n := 4) rfl ?_
          refine wa_iinc rfl rfl ?_
          refine wa_goto ⟨_, rfl⟩ ?_
          rw [if_neg (fun z => by have e : x.getD k 0 = (tx.map (fun c => c.toInt)).getD k 0 := congrArg (fun l => l.getD k 0) z; rw [← ek, ← htg] at e; omega)]
          refine wa_iload (n := 5) rfl ?_
          refine wa_aload_n (n := 2) rfl ?_
          refine wa_sl j rfl hj rfl rfl ?_
          refine wa_icmpge (w_rg0 (by omega) (by omega)) (w_rg0 (by omega) (by omega)) ⟨_, rfl⟩ (fun c105 => ?_) (fun c105 => ?_)
          · skip
            refine wa_iload (n := 4) rfl ?_
            refine wa_zreturn rfl (Or.inl rfl) ?_
            exact ⟨rfl, rfl⟩
          · skip
            refine wa_iload (n := 4) rfl ?_
            refine wa_ifeq (w_rg0 (by omega) (by omega)) ⟨_, rfl⟩ (fun c106 => ?_) (fun c106 => ?_)
            · skip
              refine wa_iload (n := 4) rfl ?_
              refine wa_zreturn rfl (Or.inl rfl) ?_
              exact ⟨rfl, rfl⟩
            · skip
              exact absurd c106 (by omega)
        · skip
          refine wa_iconst ?_
          refine wa_goto ⟨_, rfl⟩ ?_
          refine wa_istore (n := 4) rfl ?_
          refine wa_iinc rfl rfl ?_
          refine wa_goto ⟨_, rfl⟩ ?_
          exact wJ_S (ih (k + 1) (by omega) (fun i hi2 => by
            by_cases c : i = k
            · rw [c, ← ek, ← et]; omega
            · exact hi i (by omega))) ⟨rfl, rfl, rfl, rfl, rfl, rfl, trivial⟩
theorem isn_ok (hM : w_ML S) (hj : pe_at (pe_GA xs).xs j = some (0, tx)) (htl : tx.length ≤ 60) (hn : 0 ≤ nms ∧ nms < 4000) (hs : 0 ≤ s ∧ s < 4000) (h05 : S 305 s = nms) (h82 : S 282 nms = (x.length : Int)) (hx6 : x.length ≤ 60) (hx : ∀ i : Nat, i < x.length → S 281 (60 * nms + (i : Int)) = x.getD i 0) (hxr : ∀ i : Nat, i < x.length → -128 ≤ x.getD i 0 ∧ x.getD i 0 ≤ 127) (htr : ∀ i : Nat, i < tx.length → 0 ≤ w_tx tx (i : Int) ∧ w_tx tx (i : Int) ≤ 127) : wJ (pe_GA xs) wY0 M (d + 4) t_M_isNamed ((pe_at t_M_isNamed.bl 0).getD (0, [])).2 [(0, (2, 237)), (1, (0, s)), (2, (2, -10 - (j : Int)))] [] S (fun o Z => S = Z ∧ o = .inl (some (0, if x = tx.map (fun c => c.toInt) then 1 else 0))) := by
  refine wa_aload_n (n := 0) rfl ?_
  refine wb_gf4 237 rfl (wy_pr rfl) wt_237 wf_15_50 (v := 305) wl_237_50 ?_
  refine wa_iload_n (n := 1) rfl ?_
  refine wb_iald 305 rfl (wy_pr rfl) wt_305 (n := 4000) ((ml_305 hM)) (by omega) (by omega) (v := nms) (h05) (fun r301 => ?_)
  refine wa_istore_n (n := 3) rfl ?_
  refine wa_aload_n (n := 0) rfl ?_
  refine wb_gf4 237 rfl (wy_pr rfl) wt_237 wf_15_18 (v := 282) wl_237_18 ?_
  refine wa_iload_n (n := 3) rfl ?_
  refine wb_iald 282 rfl (wy_pr rfl) wt_282 (n := 4000) ((ml_282 hM)) (by omega) (by omega) (v := (x.length : Int)) (h82) (fun r302 => ?_)
  refine wa_aload_n (n := 2) rfl ?_
  refine wa_sl j rfl hj rfl rfl ?_
  refine wa_icmpne (w_rg0 (by omega) (by omega)) (w_rg0 (by omega) (by omega)) ⟨_, rfl⟩ (fun c303 => ?_) (fun c303 => ?_)
  · skip
    refine wa_iconst ?_
    refine wa_fall ⟨_, rfl⟩ ?_
    refine wa_istore (n := 4) rfl ?_
    refine wa_iconst ?_
    refine wa_istore (n := 5) rfl ?_
    refine wa_fall ⟨_, rfl⟩ ?_
    rw [if_neg (fun z => by have e : x.length = (tx.map (fun c => c.toInt)).length := congrArg List.length z; rw [List.length_map] at e; omega)]
    refine wa_iload (n := 5) rfl ?_
    refine wa_aload_n (n := 2) rfl ?_
    refine wa_sl j rfl hj rfl rfl ?_
    refine wa_icmpge (w_rg0 (by omega) (by omega)) (w_rg0 (by omega) (by omega)) ⟨_, rfl⟩ (fun c304 => ?_) (fun c304 => ?_)
    · skip
      refine wa_iload (n := 4) rfl ?_
      refine wa_zreturn rfl (Or.inl rfl) ?_
      exact ⟨rfl, rfl⟩
    · skip
      refine wa_iload (n := 4) rfl ?_
      refine wa_ifeq (w_rg0 (by omega) (by omega)) ⟨_, rfl⟩ (fun c305 => ?_) (fun c305 => ?_)
      · skip
        refine wa_iload (n := 4) rfl ?_
        refine wa_zreturn rfl (Or.inl rfl) ?_
        exact ⟨rfl, rfl⟩
      · skip
        exact absurd c305 (by omega)
  · skip
    refine wa_iconst ?_
    refine wa_goto ⟨_, rfl⟩ ?_
    refine wa_istore (n := 4) rfl ?_
    refine wa_iconst ?_
    refine wa_istore (n := 5) rfl ?_
    refine wa_fall ⟨_, rfl⟩ ?_
    exact wJ_S (isn_l hM hj htl hn (by omega) hx hxr htr tx.length 0 (by omega) (fun i hi => absurd hi (Nat.not_lt_zero _))) ⟨rfl, rfl, rfl, rfl, rfl, rfl, trivial⟩
theorem tx_rg {tx : List Int32} (h : ∀ c ∈ tx, 0 ≤ c.toInt ∧ c.toInt ≤ 127) : ∀ i : Nat, i < tx.length → 0 ≤ w_tx tx (i : Int) ∧ w_tx tx (i : Int) ≤ 127 := hb_l h
set_option maxHeartbeats 4000000 in
theorem rlr_ok (hX : w_X xs) (hM : w_ML S) (hs : 0 ≤ s ∧ s < 4000) (hgk : gk = 3 ∨ gk = 6) (h74 : S 237 174 = gk) (hnm : kd = 0 ∨ kd = 5 → (0 ≤ nms ∧ nms < 4000) ∧ S 305 s = nms ∧ S 306 s = ec ∧ (0 ≤ ec ∧ ec ≤ 255) ∧ (S 282 nms = (x.length : Int) ∧ x.length ≤ 60 ∧ (∀ i : Nat, i < x.length → S 281 (60 * nms + (i : Int)) = x.getD i 0) ∧ (∀ i : Nat, i < x.length → -128 ≤ x.getD i 0 ∧ x.getD i 0 ≤ 127)) ∧ wdN x wd) (hkd : 0 ≤ kd ∧ kd ≤ 6) : wJ (pe_GA xs) wY0 M (d + 6) t_M_looksAtRow ((pe_at t_M_looksAtRow.bl 0).getD (0, [])).2 [(0, (2, 237)), (1, (0, s)), (2, (0, kd))] [] S (fun o Z => (o = if rwP wd gk kd ec = 0 then .inl none else .inr 238) ∧ rwX (if gk = 6 then 0 else 1) (rwP wd gk kd ec) S = Z) := by
  refine wa_aload_n (n := 0) rfl ?_
  refine wb_gfi 237 rfl (wy_pr rfl) wt_237 wf_15_174 (v := gk) (h74) (fun r501 => ?_)
  refine wa_bipush (w_rg2 (by omega) (by omega)) ?_
  refine wa_icmpne (w_rg0 (by omega) (by omega)) (w_rg0 (by omega) (by omega)) ⟨_, rfl⟩ (fun c502 => ?_) (fun c502 => ?_)
  · skip
    refine wa_iconst ?_
    refine wa_fall ⟨_, rfl⟩ ?_
    refine wa_istore_n (n := 3) rfl ?_
    refine wa_aload_n (n := 0) rfl ?_
    refine wa_iload_n (n := 3) rfl ?_
    refine wa_ifeq (w_rg0 (by omega) (by omega)) ⟨_, rfl⟩ (fun c503 => ?_) (fun c503 => ?_)
    · skip
      refine wa_iconst ?_
      refine wa_fall ⟨_, rfl⟩ ?_
      refine wb_pfi 237 rfl (wy_pr rfl) wt_237 wf_15_167 (n := 167) rfl ⟨(by omega), (by omega)⟩ ?_
      refine wa_iload_n (n := 2) rfl ?_
      refine wa_iconst ?_
      refine wa_icmpeq (w_rg0 (by omega) (by omega)) (w_rg0 (by omega) (by omega)) ⟨_, rfl⟩ (fun c504 => ?_) (fun c504 => ?_)
      · skip
        refine wa_iconst ?_
        refine wa_goto ⟨_, rfl⟩ ?_
        refine wa_istore (n := 4) rfl ?_
        refine wa_iload_n (n := 2) rfl ?_
        refine wa_ifeq (w_rg0 (by omega) (by omega)) ⟨_, rfl⟩ (fun c505 => ?_) (fun c505 => ?_)
        · skip
          exact absurd c505 (by omega)
        · skip
          refine wa_iload_n (n := 2) rfl ?_
          refine wa_iconst ?_
          refine wa_icmpne (w_rg0 (by omega) (by omega)) (w_rg0 (by omega) (by omega)) ⟨_, rfl⟩ (fun c506 => ?_) (fun c506 => ?_)
          · skip
            refine wa_iload (n := 4) rfl ?_
            refine wa_ifne (w_rg0 (by omega) (by omega)) ⟨_, rfl⟩ (fun c507 => ?_) (fun c507 => ?_)
            · skip
              refine wa_return rfl ?_
              have eg : (if gk = 6 then 0 else 1 : Int) = 1 := by first | exact if_pos (by omega) | exact if_neg (by omega)
              have ep : rwP wd gk kd ec = 0 := by unfold rwP; (repeat (first | rw [if_pos (by omega)] | rw [if_neg (by omega)])); all_goals omega
              rw [eg, ep]
              exact ⟨rfl, if_pos rfl⟩
            · skip
              exact absurd c507 (by omega)
          · skip
            exact absurd c506 (by omega)
      · skip
        refine wa_iload_n (n := 2) rfl ?_
        refine wa_iconst ?_
        refine wa_icmpne (w_rg0 (by omega) (by omega)) (w_rg0 (by omega) (by omega)) ⟨_, rfl⟩ (fun c508 => ?_) (fun c508 => ?_)
        · skip
          refine wa_iconst ?_
          refine wa_fall ⟨_, rfl⟩ ?_
          refine wa_istore (n := 4) rfl ?_
          refine wa_iload_n (n := 2) rfl ?_
          refine wa_ifeq (w_rg0 (by omega) (by omega)) ⟨_, rfl⟩ (fun c509 => ?_) (fun c509 => ?_)
          · skip
            refine wa_iload_n (n := 2) rfl ?_
            refine wa_ifne (w_rg0 (by omega) (by omega)) ⟨_, rfl⟩ (fun c510 => ?_) (fun c510 => ?_)
            · skip
              exact absurd c510 (by omega)
            · skip
              refine wa_aload_n (n := 0) rfl ?_
              refine wa_iload_n (n := 1) rfl ?_
              refine wa_ks ?_
              obtain ⟨hn, h05, h06, hec, ⟨n1, n2, n3, n4⟩, hwd⟩ := hnm (by omega)
              have hw511 : (x = tx_57.map (fun c => c.toInt)) ↔ wd = 22 := hwd 22 (by first | decide | omega) (by first | decide | omega)
              obtain ⟨rr512, hrr512⟩ : ∃ v : Int, v = if x = tx_57.map (fun c => c.toInt) then 1 else 0 := ⟨_, rfl⟩
              have qrr512 : (rr512 = 1 ∧ wd = 22) ∨ (rr512 = 0 ∧ wd ≠ 22) := by
                by_cases c : x = tx_57.map (fun c => c.toInt)
                · rw [if_pos c] at hrr512; exact Or.inl ⟨hrr512, hw511.mp c⟩
                · rw [if_neg c] at hrr512; exact Or.inr ⟨hrr512, fun z => c (hw511.mpr z)⟩
              refine wa_cv 237 rfl (wy_pr rfl) wt_237 (M2 := fun _ => False) rfl at_M_isNamed ⟨_, rfl⟩ rfl rfl ⟨trivial, trivial, (Or.inr ⟨wy_pr rfl, fun q => q⟩), trivial, trivial, trivial⟩ trivial (fun _ _ q => False.elim q) (wJ_mono (isn_ok (S := (w_up S 237 167 1)) (x := x) (j := 57) (tx := tx_57) (nms := nms) (w_ML_up hM (by decide)) (wx_57 hX) (by decide) hn hs h05 n1 n2 n3 n4 (tx_rg (by decide))) (fun o Z hz => (⟨hz.1, by rw [hrr512]; exact hz.2⟩ : (w_up S 237 167 1) = Z ∧ o = .inl (some (0, rr512))))) (fun oq513 Sq513 hp514 q513 => ?_)
              rcases q513 with ⟨rfl, rfl⟩
              show wJ _ _ _ _ _ _ _ _ _ _
              refine wa_goto ⟨_, rfl⟩ ?_
              refine wa_istore (n := 5) rfl ?_
              refine wa_iload (n := 5) rfl ?_
              refine wa_ifne (w_rg0 (by omega) (by omega)) ⟨_, rfl⟩ (fun c515 => ?_) (fun c515 => ?_)
              · skip
                refine wa_iconst ?_
                refine wa_istore (n := 4) rfl ?_
                refine wa_fall ⟨_, rfl⟩ ?_
                refine wa_iload (n := 4) rfl ?_
                refine wa_ifne (w_rg0 (by omega) (by omega)) ⟨_, rfl⟩ (fun c516 => ?_) (fun c516 => ?_)
                · skip
                  refine wa_return rfl ?_
                  have eg : (if gk = 6 then 0 else 1 : Int) = 1 := by first | exact if_pos (by omega) | exact if_neg (by omega)
                  have ep : rwP wd gk kd ec = 0 := by unfold rwP; (repeat (first | rw [if_pos (by omega)] | rw [if_neg (by omega)])); all_goals omega
                  rw [eg, ep]
                  exact ⟨rfl, if_pos rfl⟩
                · skip
                  exact absurd c516 (by omega)
              · skip
                refine wa_aload_n (n := 0) rfl ?_
                refine wa_iconst ?_
                refine wa_cv 237 rfl (wy_pr rfl) wt_237 (M2 := fun _ => False) rfl at_M_error ⟨_, rfl⟩ rfl rfl ⟨trivial, trivial, trivial, (Or.inr ⟨wy_pr rfl, fun q => q⟩), trivial, trivial, trivial⟩ trivial (fun _ _ q => False.elim q) ?_ (fun _ _ _ q => q)
                refine wa_aload_n (n := 0) rfl ?_
                refine wb_gf4 237 rfl (wy_pr rfl) wt_237 wf_15_1 (v := 238) wl_237_1 ?_
                refine wa_iload_n (n := 1) rfl ?_
                refine wa_iconst ?_
                refine wa_cv 238 rfl (wy_pr rfl) wt_238 (M2 := fun _ => False) rfl at_MH_of ⟨_, rfl⟩ rfl rfl ⟨(Or.inr ⟨wy_pr rfl, fun q => q⟩), trivial, trivial⟩ trivial (fun _ _ q => False.elim q) ?_ (fun _ _ _ q => q)
                refine wa_aload_n (n := 0) rfl ?_
                refine wa_iload_n (n := 1) rfl ?_
                refine wb_pfi 238 rfl (wy_pr rfl) wt_238 wf_11_5 (n := 5) rfl ⟨(by omega), (by omega)⟩ ?_
                refine wa_aload_n (n := 0) rfl ?_
                refine wa_iload_n (n := 2) rfl ?_
                refine wb_pfi 238 rfl (wy_pr rfl) wt_238 wf_11_6 (n := 6) rfl ⟨(by omega), (by omega)⟩ ?_
                refine wa_aload_n (n := 0) rfl ?_
                refine wa_oreturn rfl ?_
                show wJ _ _ _ _ _ _ _ _ _ _
                refine wa_th (j := 238) ?_
                refine ⟨rfl, ?_⟩
                have eg : (if gk = 6 then 0 else 1 : Int) = 1 := by first | exact if_pos (by omega) | exact if_neg (by omega)
                have ep : rwP wd gk kd ec = 4 := by unfold rwP; (repeat (first | rw [if_pos (by omega)] | rw [if_neg (by omega)])); all_goals omega
                rw [eg, ep]
                exact ⟨rfl, if_neg (by first | decide | omega)⟩
          · skip
            refine wa_iload_n (n := 2) rfl ?_
            refine wa_iconst ?_
            refine wa_icmpne (w_rg0 (by omega) (by omega)) (w_rg0 (by omega) (by omega)) ⟨_, rfl⟩ (fun c517 => ?_) (fun c517 => ?_)
            · skip
              refine wa_iload (n := 4) rfl ?_
              refine wa_ifne (w_rg0 (by omega) (by omega)) ⟨_, rfl⟩ (fun c518 => ?_) (fun c518 => ?_)
              · skip
                exact absurd c518 (by omega)
              · skip
                refine wa_aload_n (n := 0) rfl ?_
                refine wa_iconst ?_
                refine wa_cv 237 rfl (wy_pr rfl) wt_237 (M2 := fun _ => False) rfl at_M_error ⟨_, rfl⟩ rfl rfl ⟨trivial, trivial, (Or.inr ⟨wy_pr rfl, fun q => q⟩), trivial, trivial, trivial⟩ trivial (fun _ _ q => False.elim q) ?_ (fun _ _ _ q => q)
                refine wa_aload_n (n := 0) rfl ?_
                refine wb_gf4 237 rfl (wy_pr rfl) wt_237 wf_15_1 (v := 238) wl_237_1 ?_
                refine wa_iload_n (n := 1) rfl ?_
                refine wa_iconst ?_
                refine wa_cv 238 rfl (wy_pr rfl) wt_238 (M2 := fun _ => False) rfl at_MH_of ⟨_, rfl⟩ rfl rfl ⟨(Or.inr ⟨wy_pr rfl, fun q => q⟩), trivial, trivial⟩ trivial (fun _ _ q => False.elim q) ?_ (fun _ _ _ q => q)
                refine wa_aload_n (n := 0) rfl ?_
                refine wa_iload_n (n := 1) rfl ?_
                refine wb_pfi 238 rfl (wy_pr rfl) wt_238 wf_11_5 (n := 5) rfl ⟨(by omega), (by omega)⟩ ?_
                refine wa_aload_n (n := 0) rfl ?_
                refine wa_iload_n (n := 2) rfl ?_
                refine wb_pfi 238 rfl (wy_pr rfl) wt_238 wf_11_6 (n := 6) rfl ⟨(by omega), (by omega)⟩ ?_
                refine wa_aload_n (n := 0) rfl ?_
                refine wa_oreturn rfl ?_
                show wJ _ _ _ _ _ _ _ _ _ _
                refine wa_th (j := 238) ?_
                refine ⟨rfl, ?_⟩
                have eg : (if gk = 6 then 0 else 1 : Int) = 1 := by first | exact if_pos (by omega) | exact if_neg (by omega)
                have ep : rwP wd gk kd ec = 5 := by unfold rwP; (repeat (first | rw [if_pos (by omega)] | rw [if_neg (by omega)])); all_goals omega
                rw [eg, ep]
                exact ⟨rfl, if_neg (by first | decide | omega)⟩
            · skip
              refine wa_fall ⟨_, rfl⟩ ?_
              refine wa_iload_n (n := 2) rfl ?_
              refine wa_ifne (w_rg0 (by omega) (by omega)) ⟨_, rfl⟩ (fun c519 => ?_) (fun c519 => ?_)
              · skip
                refine wa_iload_n (n := 3) rfl ?_
                refine wa_ifeq (w_rg0 (by omega) (by omega)) ⟨_, rfl⟩ (fun c520 => ?_) (fun c520 => ?_)
                · skip
                  refine wa_aload_n (n := 0) rfl ?_
                  refine wa_iload_n (n := 1) rfl ?_
                  refine wa_ks ?_
                  obtain ⟨hn, h05, h06, hec, ⟨n1, n2, n3, n4⟩, hwd⟩ := hnm (by omega)
                  have hw521 : (x = tx_63.map (fun c => c.toInt)) ↔ wd = 25 := hwd 25 (by first | decide | omega) (by first | decide | omega)
                  obtain ⟨rr522, hrr522⟩ : ∃ v : Int, v = if x = tx_63.map (fun c => c.toInt) then 1 else 0 := ⟨_, rfl⟩
                  have qrr522 : (rr522 = 1 ∧ wd = 25) ∨ (rr522 = 0 ∧ wd ≠ 25) := by
                    by_cases c : x = tx_63.map (fun c => c.toInt)
                    · rw [if_pos c] at hrr522; exact Or.inl ⟨hrr522, hw521.mp c⟩
                    · rw [if_neg c] at hrr522; exact Or.inr ⟨hrr522, fun z => c (hw521.mpr z)⟩
                  refine wa_cv 237 rfl (wy_pr rfl) wt_237 (M2 := fun _ => False) rfl at_M_isNamed ⟨_, rfl⟩ rfl rfl ⟨trivial, trivial, (Or.inr ⟨wy_pr rfl, fun q => q⟩), trivial, trivial, trivial⟩ trivial (fun _ _ q => False.elim q) (wJ_mono (isn_ok (S := (w_up S 237 167 1)) (x := x) (j := 63) (tx := tx_63) (nms := nms) (w_ML_up hM (by decide)) (wx_63 hX) (by decide) hn hs h05 n1 n2 n3 n4 (tx_rg (by decide))) (fun o Z hz => (⟨hz.1, by rw [hrr522]; exact hz.2⟩ : (w_up S 237 167 1) = Z ∧ o = .inl (some (0, rr522))))) (fun oq523 Sq523 hp524 q523 => ?_)
                  rcases q523 with ⟨rfl, rfl⟩
                  show wJ _ _ _ _ _ _ _ _ _ _
                  refine wa_ifeq (w_rg0 (by omega) (by omega)) ⟨_, rfl⟩ (fun c525 => ?_) (fun c525 => ?_)
                  · skip
                    refine wa_iconst ?_
                    refine wa_fall ⟨_, rfl⟩ ?_
                    refine wa_istore (n := 5) rfl ?_
                    refine wa_iload (n := 5) rfl ?_
                    refine wa_ifne (w_rg0 (by omega) (by omega)) ⟨_, rfl⟩ (fun c526 => ?_) (fun c526 => ?_)
                    · skip
                      exact absurd c526 (by omega)
                    · skip
                      refine wa_aload_n (n := 0) rfl ?_
                      refine wa_iconst ?_
                      refine wa_cv 237 rfl (wy_pr rfl) wt_237 (M2 := fun _ => False) rfl at_M_error ⟨_, rfl⟩ rfl rfl ⟨trivial, trivial, trivial, (Or.inr ⟨wy_pr rfl, fun q => q⟩), trivial, trivial, trivial⟩ trivial (fun _ _ q => False.elim q) ?_ (fun _ _ _ q => q)
                      refine wa_aload_n (n := 0) rfl ?_
                      refine wb_gf4 237 rfl (wy_pr rfl) wt_237 wf_15_1 (v := 238) wl_237_1 ?_
                      refine wa_iload_n (n := 1) rfl ?_
                      refine wa_iconst ?_
                      refine wa_cv 238 rfl (wy_pr rfl) wt_238 (M2 := fun _ => False) rfl at_MH_of ⟨_, rfl⟩ rfl rfl ⟨(Or.inr ⟨wy_pr rfl, fun q => q⟩), trivial, trivial⟩ trivial (fun _ _ q => False.elim q) ?_ (fun _ _ _ q => q)
                      refine wa_aload_n (n := 0) rfl ?_
                      refine wa_iload_n (n := 1) rfl ?_
                      refine wb_pfi 238 rfl (wy_pr rfl) wt_238 wf_11_5 (n := 5) rfl ⟨(by omega), (by omega)⟩ ?_
                      refine wa_aload_n (n := 0) rfl ?_
                      refine wa_iload_n (n := 2) rfl ?_
                      refine wb_pfi 238 rfl (wy_pr rfl) wt_238 wf_11_6 (n := 6) rfl ⟨(by omega), (by omega)⟩ ?_
                      refine wa_aload_n (n := 0) rfl ?_
                      refine wa_oreturn rfl ?_
                      show wJ _ _ _ _ _ _ _ _ _ _
                      refine wa_th (j := 238) ?_
                      refine ⟨rfl, ?_⟩
                      have eg : (if gk = 6 then 0 else 1 : Int) = 1 := by first | exact if_pos (by omega) | exact if_neg (by omega)
                      have ep : rwP wd gk kd ec = 4 := by unfold rwP; (repeat (first | rw [if_pos (by omega)] | rw [if_neg (by omega)])); all_goals omega
                      rw [eg, ep]
                      exact ⟨rfl, if_neg (by first | decide | omega)⟩
                  · skip
                    refine wa_aload_n (n := 0) rfl ?_
                    refine wb_gf4 237 rfl (wy_pr rfl) wt_237 wf_15_51 (v := 306) wl_237_51 ?_
                    refine wa_iload_n (n := 1) rfl ?_
                    refine wb_iald 306 rfl (wy_pr rfl) wt_306 (n := 4000) ((w_up_slot (by decide)).trans ((ml_306 hM))) (by omega) (by omega) (v := ec) ((w_up_slot (by decide)).trans ((hnm (by omega)).2.2.1)) (fun r527 => ?_)
                    refine wa_iconst ?_
                    refine wa_icmpne (w_rg0 (by omega) (by omega)) (w_rg0 (by omega) (by omega)) ⟨_, rfl⟩ (fun c528 => ?_) (fun c528 => ?_)
                    · skip
                      refine wa_iconst ?_
                      refine wa_fall ⟨_, rfl⟩ ?_
                      refine wa_istore (n := 5) rfl ?_
                      refine wa_iload (n := 5) rfl ?_
                      refine wa_ifne (w_rg0 (by omega) (by omega)) ⟨_, rfl⟩ (fun c529 => ?_) (fun c529 => ?_)
                      · skip
                        exact absurd c529 (by omega)
                      · skip
                        refine wa_aload_n (n := 0) rfl ?_
                        refine wa_iconst ?_
                        refine wa_cv 237 rfl (wy_pr rfl) wt_237 (M2 := fun _ => False) rfl at_M_error ⟨_, rfl⟩ rfl rfl ⟨trivial, trivial, trivial, (Or.inr ⟨wy_pr rfl, fun q => q⟩), trivial, trivial, trivial⟩ trivial (fun _ _ q => False.elim q) ?_ (fun _ _ _ q => q)
                        refine wa_aload_n (n := 0) rfl ?_
                        refine wb_gf4 237 rfl (wy_pr rfl) wt_237 wf_15_1 (v := 238) wl_237_1 ?_
                        refine wa_iload_n (n := 1) rfl ?_
                        refine wa_iconst ?_
                        refine wa_cv 238 rfl (wy_pr rfl) wt_238 (M2 := fun _ => False) rfl at_MH_of ⟨_, rfl⟩ rfl rfl ⟨(Or.inr ⟨wy_pr rfl, fun q => q⟩), trivial, trivial⟩ trivial (fun _ _ q => False.elim q) ?_ (fun _ _ _ q => q)
                        refine wa_aload_n (n := 0) rfl ?_
                        refine wa_iload_n (n := 1) rfl ?_
                        refine wb_pfi 238 rfl (wy_pr rfl) wt_238 wf_11_5 (n := 5) rfl ⟨(by omega), (by omega)⟩ ?_
                        refine wa_aload_n (n := 0) rfl ?_
                        refine wa_iload_n (n := 2) rfl ?_
                        refine wb_pfi 238 rfl (wy_pr rfl) wt_238 wf_11_6 (n := 6) rfl ⟨(by omega), (by omega)⟩ ?_
                        refine wa_aload_n (n := 0) rfl ?_
                        refine wa_oreturn rfl ?_
                        show wJ _ _ _ _ _ _ _ _ _ _
                        refine wa_th (j := 238) ?_
                        refine ⟨rfl, ?_⟩
                        have eg : (if gk = 6 then 0 else 1 : Int) = 1 := by first | exact if_pos (by omega) | exact if_neg (by omega)
                        have ep : rwP wd gk kd ec = 4 := by unfold rwP; (repeat (first | rw [if_pos (by omega)] | rw [if_neg (by omega)])); all_goals omega
                        rw [eg, ep]
                        exact ⟨rfl, if_neg (by first | decide | omega)⟩
                    · skip
                      refine wa_iconst ?_
                      refine wa_goto ⟨_, rfl⟩ ?_
                      refine wa_istore (n := 5) rfl ?_
                      refine wa_iload (n := 5) rfl ?_
                      refine wa_ifne (w_rg0 (by omega) (by omega)) ⟨_, rfl⟩ (fun c530 => ?_) (fun c530 => ?_)
                      · skip
                        refine wa_iconst ?_
                        refine wa_istore (n := 4) rfl ?_
                        refine wa_fall ⟨_, rfl⟩ ?_
                        refine wa_iload (n := 4) rfl ?_
                        refine wa_ifne (w_rg0 (by omega) (by omega)) ⟨_, rfl⟩ (fun c531 => ?_) (fun c531 => ?_)
                        · skip
                          refine wa_return rfl ?_
                          have eg : (if gk = 6 then 0 else 1 : Int) = 1 := by first | exact if_pos (by omega) | exact if_neg (by omega)
                          have ep : rwP wd gk kd ec = 0 := by unfold rwP; (repeat (first | rw [if_pos (by omega)] | rw [if_neg (by omega)])); all_goals omega
                          rw [eg, ep]
                          exact ⟨rfl, if_pos rfl⟩
                        · skip
                          exact absurd c531 (by omega)
                      · skip
                        exact absurd c530 (by omega)
                · skip
                  exact absurd c520 (by omega)
              · skip
                exact absurd c519 (by omega)
        · skip
          refine wa_iload_n (n := 3) rfl ?_
          refine wa_ifeq (w_rg0 (by omega) (by omega)) ⟨_, rfl⟩ (fun c532 => ?_) (fun c532 => ?_)
          · skip
            refine wa_iconst ?_
            refine wa_fall ⟨_, rfl⟩ ?_
            refine wa_istore (n := 4) rfl ?_
            refine wa_iload_n (n := 2) rfl ?_
            refine wa_ifeq (w_rg0 (by omega) (by omega)) ⟨_, rfl⟩ (fun c533 => ?_) (fun c533 => ?_)
            · skip
              exact absurd c533 (by omega)
            · skip
              refine wa_iload_n (n := 2) rfl ?_
              refine wa_iconst ?_
              refine wa_icmpne (w_rg0 (by omega) (by omega)) (w_rg0 (by omega) (by omega)) ⟨_, rfl⟩ (fun c534 => ?_) (fun c534 => ?_)
              · skip
                refine wa_iload (n := 4) rfl ?_
                refine wa_ifne (w_rg0 (by omega) (by omega)) ⟨_, rfl⟩ (fun c535 => ?_) (fun c535 => ?_)
                · skip
                  exact absurd c535 (by omega)
                · skip
                  refine wa_aload_n (n := 0) rfl ?_
                  refine wa_iconst ?_
                  refine wa_cv 237 rfl (wy_pr rfl) wt_237 (M2 := fun _ => False) rfl at_M_error ⟨_, rfl⟩ rfl rfl ⟨trivial, trivial, (Or.inr ⟨wy_pr rfl, fun q => q⟩), trivial, trivial, trivial⟩ trivial (fun _ _ q => False.elim q) ?_ (fun _ _ _ q => q)
                  refine wa_aload_n (n := 0) rfl ?_
                  refine wb_gf4 237 rfl (wy_pr rfl) wt_237 wf_15_1 (v := 238) wl_237_1 ?_
                  refine wa_iload_n (n := 1) rfl ?_
                  refine wa_iconst ?_
                  refine wa_cv 238 rfl (wy_pr rfl) wt_238 (M2 := fun _ => False) rfl at_MH_of ⟨_, rfl⟩ rfl rfl ⟨(Or.inr ⟨wy_pr rfl, fun q => q⟩), trivial, trivial⟩ trivial (fun _ _ q => False.elim q) ?_ (fun _ _ _ q => q)
                  refine wa_aload_n (n := 0) rfl ?_
                  refine wa_iload_n (n := 1) rfl ?_
                  refine wb_pfi 238 rfl (wy_pr rfl) wt_238 wf_11_5 (n := 5) rfl ⟨(by omega), (by omega)⟩ ?_
                  refine wa_aload_n (n := 0) rfl ?_
                  refine wa_iload_n (n := 2) rfl ?_
                  refine wb_pfi 238 rfl (wy_pr rfl) wt_238 wf_11_6 (n := 6) rfl ⟨(by omega), (by omega)⟩ ?_
                  refine wa_aload_n (n := 0) rfl ?_
                  refine wa_oreturn rfl ?_
                  show wJ _ _ _ _ _ _ _ _ _ _
                  refine wa_th (j := 238) ?_
                  refine ⟨rfl, ?_⟩
                  have eg : (if gk = 6 then 0 else 1 : Int) = 1 := by first | exact if_pos (by omega) | exact if_neg (by omega)
                  have ep : rwP wd gk kd ec = 5 := by unfold rwP; (repeat (first | rw [if_pos (by omega)] | rw [if_neg (by omega)])); all_goals omega
                  rw [eg, ep]
                  exact ⟨rfl, if_neg (by first | decide | omega)⟩
              · skip
                exact absurd c534 (by omega)
          · skip
            exact absurd c532 (by omega)
    · skip
      exact absurd c503 (by omega)
  · skip
    refine wa_iconst ?_
    refine wa_goto ⟨_, rfl⟩ ?_
    refine wa_istore_n (n := 3) rfl ?_
    refine wa_aload_n (n := 0) rfl ?_
    refine wa_iload_n (n := 3) rfl ?_
    refine wa_ifeq (w_rg0 (by omega) (by omega)) ⟨_, rfl⟩ (fun c536 => ?_) (fun c536 => ?_)
    · skip
      exact absurd c536 (by omega)
    · skip
      refine wa_iconst ?_
      refine wa_goto ⟨_, rfl⟩ ?_
      refine wb_pfi 237 rfl (wy_pr rfl) wt_237 wf_15_167 (n := 167) rfl ⟨(by omega), (by omega)⟩ ?_
      refine wa_iload_n (n := 2) rfl ?_
      refine wa_iconst ?_
      refine wa_icmpeq (w_rg0 (by omega) (by omega)) (w_rg0 (by omega) (by omega)) ⟨_, rfl⟩ (fun c537 => ?_) (fun c537 => ?_)
      · skip
        refine wa_iconst ?_
        refine wa_goto ⟨_, rfl⟩ ?_
        refine wa_istore (n := 4) rfl ?_
        refine wa_iload_n (n := 2) rfl ?_
        refine wa_ifeq (w_rg0 (by omega) (by omega)) ⟨_, rfl⟩ (fun c538 => ?_) (fun c538 => ?_)
        · skip
          exact absurd c538 (by omega)
        · skip
          refine wa_iload_n (n := 2) rfl ?_
          refine wa_iconst ?_
          refine wa_icmpne (w_rg0 (by omega) (by omega)) (w_rg0 (by omega) (by omega)) ⟨_, rfl⟩ (fun c539 => ?_) (fun c539 => ?_)
          · skip
            refine wa_iload (n := 4) rfl ?_
            refine wa_ifne (w_rg0 (by omega) (by omega)) ⟨_, rfl⟩ (fun c540 => ?_) (fun c540 => ?_)
            · skip
              refine wa_return rfl ?_
              have eg : (if gk = 6 then 0 else 1 : Int) = 0 := by first | exact if_pos (by omega) | exact if_neg (by omega)
              have ep : rwP wd gk kd ec = 0 := by unfold rwP; (repeat (first | rw [if_pos (by omega)] | rw [if_neg (by omega)])); all_goals omega
              rw [eg, ep]
              exact ⟨rfl, if_pos rfl⟩
            · skip
              exact absurd c540 (by omega)
          · skip
            exact absurd c539 (by omega)
      · skip
        refine wa_iload_n (n := 2) rfl ?_
        refine wa_iconst ?_
        refine wa_icmpne (w_rg0 (by omega) (by omega)) (w_rg0 (by omega) (by omega)) ⟨_, rfl⟩ (fun c541 => ?_) (fun c541 => ?_)
        · skip
          refine wa_iconst ?_
          refine wa_fall ⟨_, rfl⟩ ?_
          refine wa_istore (n := 4) rfl ?_
          refine wa_iload_n (n := 2) rfl ?_
          refine wa_ifeq (w_rg0 (by omega) (by omega)) ⟨_, rfl⟩ (fun c542 => ?_) (fun c542 => ?_)
          · skip
            refine wa_iload_n (n := 2) rfl ?_
            refine wa_ifne (w_rg0 (by omega) (by omega)) ⟨_, rfl⟩ (fun c543 => ?_) (fun c543 => ?_)
            · skip
              exact absurd c543 (by omega)
            · skip
              refine wa_aload_n (n := 0) rfl ?_
              refine wa_iload_n (n := 1) rfl ?_
              refine wa_ks ?_
              obtain ⟨hn, h05, h06, hec, ⟨n1, n2, n3, n4⟩, hwd⟩ := hnm (by omega)
              have hw544 : (x = tx_57.map (fun c => c.toInt)) ↔ wd = 22 := hwd 22 (by first | decide | omega) (by first | decide | omega)
              obtain ⟨rr545, hrr545⟩ : ∃ v : Int, v = if x = tx_57.map (fun c => c.toInt) then 1 else 0 := ⟨_, rfl⟩
              have qrr545 : (rr545 = 1 ∧ wd = 22) ∨ (rr545 = 0 ∧ wd ≠ 22) := by
                by_cases c : x = tx_57.map (fun c => c.toInt)
                · rw [if_pos c] at hrr545; exact Or.inl ⟨hrr545, hw544.mp c⟩
                · rw [if_neg c] at hrr545; exact Or.inr ⟨hrr545, fun z => c (hw544.mpr z)⟩
              refine wa_cv 237 rfl (wy_pr rfl) wt_237 (M2 := fun _ => False) rfl at_M_isNamed ⟨_, rfl⟩ rfl rfl ⟨trivial, trivial, (Or.inr ⟨wy_pr rfl, fun q => q⟩), trivial, trivial, trivial⟩ trivial (fun _ _ q => False.elim q) (wJ_mono (isn_ok (S := (w_up S 237 167 0)) (x := x) (j := 57) (tx := tx_57) (nms := nms) (w_ML_up hM (by decide)) (wx_57 hX) (by decide) hn hs h05 n1 n2 n3 n4 (tx_rg (by decide))) (fun o Z hz => (⟨hz.1, by rw [hrr545]; exact hz.2⟩ : (w_up S 237 167 0) = Z ∧ o = .inl (some (0, rr545))))) (fun oq546 Sq546 hp547 q546 => ?_)
              rcases q546 with ⟨rfl, rfl⟩
              show wJ _ _ _ _ _ _ _ _ _ _
              refine wa_goto ⟨_, rfl⟩ ?_
              refine wa_istore (n := 5) rfl ?_
              refine wa_iload (n := 5) rfl ?_
              refine wa_ifne (w_rg0 (by omega) (by omega)) ⟨_, rfl⟩ (fun c548 => ?_) (fun c548 => ?_)
              · skip
                refine wa_iconst ?_
                refine wa_istore (n := 4) rfl ?_
                refine wa_fall ⟨_, rfl⟩ ?_
                refine wa_iload (n := 4) rfl ?_
                refine wa_ifne (w_rg0 (by omega) (by omega)) ⟨_, rfl⟩ (fun c549 => ?_) (fun c549 => ?_)
                · skip
                  refine wa_return rfl ?_
                  have eg : (if gk = 6 then 0 else 1 : Int) = 0 := by first | exact if_pos (by omega) | exact if_neg (by omega)
                  have ep : rwP wd gk kd ec = 0 := by unfold rwP; (repeat (first | rw [if_pos (by omega)] | rw [if_neg (by omega)])); all_goals omega
                  rw [eg, ep]
                  exact ⟨rfl, if_pos rfl⟩
                · skip
                  exact absurd c549 (by omega)
              · skip
                refine wa_aload_n (n := 0) rfl ?_
                refine wa_iconst ?_
                refine wa_cv 237 rfl (wy_pr rfl) wt_237 (M2 := fun _ => False) rfl at_M_error ⟨_, rfl⟩ rfl rfl ⟨trivial, trivial, trivial, (Or.inr ⟨wy_pr rfl, fun q => q⟩), trivial, trivial, trivial⟩ trivial (fun _ _ q => False.elim q) ?_ (fun _ _ _ q => q)
                refine wa_aload_n (n := 0) rfl ?_
                refine wb_gf4 237 rfl (wy_pr rfl) wt_237 wf_15_1 (v := 238) wl_237_1 ?_
                refine wa_iload_n (n := 1) rfl ?_
                refine wa_iconst ?_
                refine wa_cv 238 rfl (wy_pr rfl) wt_238 (M2 := fun _ => False) rfl at_MH_of ⟨_, rfl⟩ rfl rfl ⟨(Or.inr ⟨wy_pr rfl, fun q => q⟩), trivial, trivial⟩ trivial (fun _ _ q => False.elim q) ?_ (fun _ _ _ q => q)
                refine wa_aload_n (n := 0) rfl ?_
                refine wa_iload_n (n := 1) rfl ?_
                refine wb_pfi 238 rfl (wy_pr rfl) wt_238 wf_11_5 (n := 5) rfl ⟨(by omega), (by omega)⟩ ?_
                refine wa_aload_n (n := 0) rfl ?_
                refine wa_iload_n (n := 2) rfl ?_
                refine wb_pfi 238 rfl (wy_pr rfl) wt_238 wf_11_6 (n := 6) rfl ⟨(by omega), (by omega)⟩ ?_
                refine wa_aload_n (n := 0) rfl ?_
                refine wa_oreturn rfl ?_
                show wJ _ _ _ _ _ _ _ _ _ _
                refine wa_th (j := 238) ?_
                refine ⟨rfl, ?_⟩
                have eg : (if gk = 6 then 0 else 1 : Int) = 0 := by first | exact if_pos (by omega) | exact if_neg (by omega)
                have ep : rwP wd gk kd ec = 4 := by unfold rwP; (repeat (first | rw [if_pos (by omega)] | rw [if_neg (by omega)])); all_goals omega
                rw [eg, ep]
                exact ⟨rfl, if_neg (by first | decide | omega)⟩
          · skip
            refine wa_iload_n (n := 2) rfl ?_
            refine wa_iconst ?_
            refine wa_icmpne (w_rg0 (by omega) (by omega)) (w_rg0 (by omega) (by omega)) ⟨_, rfl⟩ (fun c550 => ?_) (fun c550 => ?_)
            · skip
              refine wa_iload (n := 4) rfl ?_
              refine wa_ifne (w_rg0 (by omega) (by omega)) ⟨_, rfl⟩ (fun c551 => ?_) (fun c551 => ?_)
              · skip
                exact absurd c551 (by omega)
              · skip
                refine wa_aload_n (n := 0) rfl ?_
                refine wa_iconst ?_
                refine wa_cv 237 rfl (wy_pr rfl) wt_237 (M2 := fun _ => False) rfl at_M_error ⟨_, rfl⟩ rfl rfl ⟨trivial, trivial, (Or.inr ⟨wy_pr rfl, fun q => q⟩), trivial, trivial, trivial⟩ trivial (fun _ _ q => False.elim q) ?_ (fun _ _ _ q => q)
                refine wa_aload_n (n := 0) rfl ?_
                refine wb_gf4 237 rfl (wy_pr rfl) wt_237 wf_15_1 (v := 238) wl_237_1 ?_
                refine wa_iload_n (n := 1) rfl ?_
                refine wa_iconst ?_
                refine wa_cv 238 rfl (wy_pr rfl) wt_238 (M2 := fun _ => False) rfl at_MH_of ⟨_, rfl⟩ rfl rfl ⟨(Or.inr ⟨wy_pr rfl, fun q => q⟩), trivial, trivial⟩ trivial (fun _ _ q => False.elim q) ?_ (fun _ _ _ q => q)
                refine wa_aload_n (n := 0) rfl ?_
                refine wa_iload_n (n := 1) rfl ?_
                refine wb_pfi 238 rfl (wy_pr rfl) wt_238 wf_11_5 (n := 5) rfl ⟨(by omega), (by omega)⟩ ?_
                refine wa_aload_n (n := 0) rfl ?_
                refine wa_iload_n (n := 2) rfl ?_
                refine wb_pfi 238 rfl (wy_pr rfl) wt_238 wf_11_6 (n := 6) rfl ⟨(by omega), (by omega)⟩ ?_
                refine wa_aload_n (n := 0) rfl ?_
                refine wa_oreturn rfl ?_
                show wJ _ _ _ _ _ _ _ _ _ _
                refine wa_th (j := 238) ?_
                refine ⟨rfl, ?_⟩
                have eg : (if gk = 6 then 0 else 1 : Int) = 0 := by first | exact if_pos (by omega) | exact if_neg (by omega)
                have ep : rwP wd gk kd ec = 5 := by unfold rwP; (repeat (first | rw [if_pos (by omega)] | rw [if_neg (by omega)])); all_goals omega
                rw [eg, ep]
                exact ⟨rfl, if_neg (by first | decide | omega)⟩
            · skip
              refine wa_fall ⟨_, rfl⟩ ?_
              refine wa_iload_n (n := 2) rfl ?_
              refine wa_ifne (w_rg0 (by omega) (by omega)) ⟨_, rfl⟩ (fun c552 => ?_) (fun c552 => ?_)
              · skip
                refine wa_iload_n (n := 3) rfl ?_
                refine wa_ifeq (w_rg0 (by omega) (by omega)) ⟨_, rfl⟩ (fun c553 => ?_) (fun c553 => ?_)
                · skip
                  exact absurd c553 (by omega)
                · skip
                  refine wa_aload_n (n := 0) rfl ?_
                  refine wa_iload_n (n := 1) rfl ?_
                  refine wa_ks ?_
                  obtain ⟨hn, h05, h06, hec, ⟨n1, n2, n3, n4⟩, hwd⟩ := hnm (by omega)
                  have hw554 : (x = tx_59.map (fun c => c.toInt)) ↔ wd = 23 := hwd 23 (by first | decide | omega) (by first | decide | omega)
                  obtain ⟨rr555, hrr555⟩ : ∃ v : Int, v = if x = tx_59.map (fun c => c.toInt) then 1 else 0 := ⟨_, rfl⟩
                  have qrr555 : (rr555 = 1 ∧ wd = 23) ∨ (rr555 = 0 ∧ wd ≠ 23) := by
                    by_cases c : x = tx_59.map (fun c => c.toInt)
                    · rw [if_pos c] at hrr555; exact Or.inl ⟨hrr555, hw554.mp c⟩
                    · rw [if_neg c] at hrr555; exact Or.inr ⟨hrr555, fun z => c (hw554.mpr z)⟩
                  refine wa_cv 237 rfl (wy_pr rfl) wt_237 (M2 := fun _ => False) rfl at_M_isNamed ⟨_, rfl⟩ rfl rfl ⟨trivial, trivial, (Or.inr ⟨wy_pr rfl, fun q => q⟩), trivial, trivial, trivial⟩ trivial (fun _ _ q => False.elim q) (wJ_mono (isn_ok (S := (w_up S 237 167 0)) (x := x) (j := 59) (tx := tx_59) (nms := nms) (w_ML_up hM (by decide)) (wx_59 hX) (by decide) hn hs h05 n1 n2 n3 n4 (tx_rg (by decide))) (fun o Z hz => (⟨hz.1, by rw [hrr555]; exact hz.2⟩ : (w_up S 237 167 0) = Z ∧ o = .inl (some (0, rr555))))) (fun oq556 Sq556 hp557 q556 => ?_)
                  rcases q556 with ⟨rfl, rfl⟩
                  show wJ _ _ _ _ _ _ _ _ _ _
                  refine wa_ifeq (w_rg0 (by omega) (by omega)) ⟨_, rfl⟩ (fun c558 => ?_) (fun c558 => ?_)
                  · skip
                    refine wa_aload_n (n := 0) rfl ?_
                    refine wa_iload_n (n := 1) rfl ?_
                    refine wa_ks ?_
                    obtain ⟨hn, h05, h06, hec, ⟨n1, n2, n3, n4⟩, hwd⟩ := hnm (by omega)
                    have hw559 : (x = tx_61.map (fun c => c.toInt)) ↔ wd = 24 := hwd 24 (by first | decide | omega) (by first | decide | omega)
                    obtain ⟨rr560, hrr560⟩ : ∃ v : Int, v = if x = tx_61.map (fun c => c.toInt) then 1 else 0 := ⟨_, rfl⟩
                    have qrr560 : (rr560 = 1 ∧ wd = 24) ∨ (rr560 = 0 ∧ wd ≠ 24) := by
                      by_cases c : x = tx_61.map (fun c => c.toInt)
                      · rw [if_pos c] at hrr560; exact Or.inl ⟨hrr560, hw559.mp c⟩
                      · rw [if_neg c] at hrr560; exact Or.inr ⟨hrr560, fun z => c (hw559.mpr z)⟩
                    refine wa_cv 237 rfl (wy_pr rfl) wt_237 (M2 := fun _ => False) rfl at_M_isNamed ⟨_, rfl⟩ rfl rfl ⟨trivial, trivial, (Or.inr ⟨wy_pr rfl, fun q => q⟩), trivial, trivial, trivial⟩ trivial (fun _ _ q => False.elim q) (wJ_mono (isn_ok (S := (w_up S 237 167 0)) (x := x) (j := 61) (tx := tx_61) (nms := nms) (w_ML_up hM (by decide)) (wx_61 hX) (by decide) hn hs h05 n1 n2 n3 n4 (tx_rg (by decide))) (fun o Z hz => (⟨hz.1, by rw [hrr560]; exact hz.2⟩ : (w_up S 237 167 0) = Z ∧ o = .inl (some (0, rr560))))) (fun oq561 Sq561 hp562 q561 => ?_)
                    rcases q561 with ⟨rfl, rfl⟩
                    show wJ _ _ _ _ _ _ _ _ _ _
                    refine wa_ifeq (w_rg0 (by omega) (by omega)) ⟨_, rfl⟩ (fun c563 => ?_) (fun c563 => ?_)
                    · skip
                      refine wa_iconst ?_
                      refine wa_goto ⟨_, rfl⟩ ?_
                      refine wa_istore (n := 5) rfl ?_
                      refine wa_iload (n := 5) rfl ?_
                      refine wa_ifne (w_rg0 (by omega) (by omega)) ⟨_, rfl⟩ (fun c564 => ?_) (fun c564 => ?_)
                      · skip
                        exact absurd c564 (by omega)
                      · skip
                        refine wa_aload_n (n := 0) rfl ?_
                        refine wa_iconst ?_
                        refine wa_cv 237 rfl (wy_pr rfl) wt_237 (M2 := fun _ => False) rfl at_M_error ⟨_, rfl⟩ rfl rfl ⟨trivial, trivial, trivial, (Or.inr ⟨wy_pr rfl, fun q => q⟩), trivial, trivial, trivial⟩ trivial (fun _ _ q => False.elim q) ?_ (fun _ _ _ q => q)
                        refine wa_aload_n (n := 0) rfl ?_
                        refine wb_gf4 237 rfl (wy_pr rfl) wt_237 wf_15_1 (v := 238) wl_237_1 ?_
                        refine wa_iload_n (n := 1) rfl ?_
                        refine wa_iconst ?_
                        refine wa_cv 238 rfl (wy_pr rfl) wt_238 (M2 := fun _ => False) rfl at_MH_of ⟨_, rfl⟩ rfl rfl ⟨(Or.inr ⟨wy_pr rfl, fun q => q⟩), trivial, trivial⟩ trivial (fun _ _ q => False.elim q) ?_ (fun _ _ _ q => q)
                        refine wa_aload_n (n := 0) rfl ?_
                        refine wa_iload_n (n := 1) rfl ?_
                        refine wb_pfi 238 rfl (wy_pr rfl) wt_238 wf_11_5 (n := 5) rfl ⟨(by omega), (by omega)⟩ ?_
                        refine wa_aload_n (n := 0) rfl ?_
                        refine wa_iload_n (n := 2) rfl ?_
                        refine wb_pfi 238 rfl (wy_pr rfl) wt_238 wf_11_6 (n := 6) rfl ⟨(by omega), (by omega)⟩ ?_
                        refine wa_aload_n (n := 0) rfl ?_
                        refine wa_oreturn rfl ?_
                        show wJ _ _ _ _ _ _ _ _ _ _
                        refine wa_th (j := 238) ?_
                        refine ⟨rfl, ?_⟩
                        have eg : (if gk = 6 then 0 else 1 : Int) = 0 := by first | exact if_pos (by omega) | exact if_neg (by omega)
                        have ep : rwP wd gk kd ec = 4 := by unfold rwP; (repeat (first | rw [if_pos (by omega)] | rw [if_neg (by omega)])); all_goals omega
                        rw [eg, ep]
                        exact ⟨rfl, if_neg (by first | decide | omega)⟩
                    · skip
                      refine wa_aload_n (n := 0) rfl ?_
                      refine wb_gf4 237 rfl (wy_pr rfl) wt_237 wf_15_51 (v := 306) wl_237_51 ?_
                      refine wa_iload_n (n := 1) rfl ?_
                      refine wb_iald 306 rfl (wy_pr rfl) wt_306 (n := 4000) ((w_up_slot (by decide)).trans ((ml_306 hM))) (by omega) (by omega) (v := ec) ((w_up_slot (by decide)).trans ((hnm (by omega)).2.2.1)) (fun r565 => ?_)
                      refine wa_ifne (w_rg0 (by omega) (by omega)) ⟨_, rfl⟩ (fun c566 => ?_) (fun c566 => ?_)
                      · skip
                        refine wa_iconst ?_
                        refine wa_goto ⟨_, rfl⟩ ?_
                        refine wa_istore (n := 5) rfl ?_
                        refine wa_iload (n := 5) rfl ?_
                        refine wa_ifne (w_rg0 (by omega) (by omega)) ⟨_, rfl⟩ (fun c567 => ?_) (fun c567 => ?_)
                        · skip
                          exact absurd c567 (by omega)
                        · skip
                          refine wa_aload_n (n := 0) rfl ?_
                          refine wa_iconst ?_
                          refine wa_cv 237 rfl (wy_pr rfl) wt_237 (M2 := fun _ => False) rfl at_M_error ⟨_, rfl⟩ rfl rfl ⟨trivial, trivial, trivial, (Or.inr ⟨wy_pr rfl, fun q => q⟩), trivial, trivial, trivial⟩ trivial (fun _ _ q => False.elim q) ?_ (fun _ _ _ q => q)
                          refine wa_aload_n (n := 0) rfl ?_
                          refine wb_gf4 237 rfl (wy_pr rfl) wt_237 wf_15_1 (v := 238) wl_237_1 ?_
                          refine wa_iload_n (n := 1) rfl ?_
                          refine wa_iconst ?_
                          refine wa_cv 238 rfl (wy_pr rfl) wt_238 (M2 := fun _ => False) rfl at_MH_of ⟨_, rfl⟩ rfl rfl ⟨(Or.inr ⟨wy_pr rfl, fun q => q⟩), trivial, trivial⟩ trivial (fun _ _ q => False.elim q) ?_ (fun _ _ _ q => q)
                          refine wa_aload_n (n := 0) rfl ?_
                          refine wa_iload_n (n := 1) rfl ?_
                          refine wb_pfi 238 rfl (wy_pr rfl) wt_238 wf_11_5 (n := 5) rfl ⟨(by omega), (by omega)⟩ ?_
                          refine wa_aload_n (n := 0) rfl ?_
                          refine wa_iload_n (n := 2) rfl ?_
                          refine wb_pfi 238 rfl (wy_pr rfl) wt_238 wf_11_6 (n := 6) rfl ⟨(by omega), (by omega)⟩ ?_
                          refine wa_aload_n (n := 0) rfl ?_
                          refine wa_oreturn rfl ?_
                          show wJ _ _ _ _ _ _ _ _ _ _
                          refine wa_th (j := 238) ?_
                          refine ⟨rfl, ?_⟩
                          have eg : (if gk = 6 then 0 else 1 : Int) = 0 := by first | exact if_pos (by omega) | exact if_neg (by omega)
                          have ep : rwP wd gk kd ec = 4 := by unfold rwP; (repeat (first | rw [if_pos (by omega)] | rw [if_neg (by omega)])); all_goals omega
                          rw [eg, ep]
                          exact ⟨rfl, if_neg (by first | decide | omega)⟩
                      · skip
                        refine wa_fall ⟨_, rfl⟩ ?_
                        refine wa_iconst ?_
                        refine wa_goto ⟨_, rfl⟩ ?_
                        refine wa_istore (n := 5) rfl ?_
                        refine wa_iload (n := 5) rfl ?_
                        refine wa_ifne (w_rg0 (by omega) (by omega)) ⟨_, rfl⟩ (fun c568 => ?_) (fun c568 => ?_)
                        · skip
                          refine wa_iconst ?_
                          refine wa_istore (n := 4) rfl ?_
                          refine wa_fall ⟨_, rfl⟩ ?_
                          refine wa_iload (n := 4) rfl ?_
                          refine wa_ifne (w_rg0 (by omega) (by omega)) ⟨_, rfl⟩ (fun c569 => ?_) (fun c569 => ?_)
                          · skip
                            refine wa_return rfl ?_
                            have eg : (if gk = 6 then 0 else 1 : Int) = 0 := by first | exact if_pos (by omega) | exact if_neg (by omega)
                            have ep : rwP wd gk kd ec = 0 := by unfold rwP; (repeat (first | rw [if_pos (by omega)] | rw [if_neg (by omega)])); all_goals omega
                            rw [eg, ep]
                            exact ⟨rfl, if_pos rfl⟩
                          · skip
                            exact absurd c569 (by omega)
                        · skip
                          exact absurd c568 (by omega)
                  · skip
                    refine wa_aload_n (n := 0) rfl ?_
                    refine wb_gf4 237 rfl (wy_pr rfl) wt_237 wf_15_51 (v := 306) wl_237_51 ?_
                    refine wa_iload_n (n := 1) rfl ?_
                    refine wb_iald 306 rfl (wy_pr rfl) wt_306 (n := 4000) ((w_up_slot (by decide)).trans ((ml_306 hM))) (by omega) (by omega) (v := ec) ((w_up_slot (by decide)).trans ((hnm (by omega)).2.2.1)) (fun r570 => ?_)
                    refine wa_iconst ?_
                    refine wa_icmpeq (w_rg0 (by omega) (by omega)) (w_rg0 (by omega) (by omega)) ⟨_, rfl⟩ (fun c571 => ?_) (fun c571 => ?_)
                    · skip
                      refine wa_iconst ?_
                      refine wa_goto ⟨_, rfl⟩ ?_
                      refine wa_istore (n := 5) rfl ?_
                      refine wa_iload (n := 5) rfl ?_
                      refine wa_ifne (w_rg0 (by omega) (by omega)) ⟨_, rfl⟩ (fun c572 => ?_) (fun c572 => ?_)
                      · skip
                        refine wa_iconst ?_
                        refine wa_istore (n := 4) rfl ?_
                        refine wa_fall ⟨_, rfl⟩ ?_
                        refine wa_iload (n := 4) rfl ?_
                        refine wa_ifne (w_rg0 (by omega) (by omega)) ⟨_, rfl⟩ (fun c573 => ?_) (fun c573 => ?_)
                        · skip
                          refine wa_return rfl ?_
                          have eg : (if gk = 6 then 0 else 1 : Int) = 0 := by first | exact if_pos (by omega) | exact if_neg (by omega)
                          have ep : rwP wd gk kd ec = 0 := by unfold rwP; (repeat (first | rw [if_pos (by omega)] | rw [if_neg (by omega)])); all_goals omega
                          rw [eg, ep]
                          exact ⟨rfl, if_pos rfl⟩
                        · skip
                          exact absurd c573 (by omega)
                      · skip
                        exact absurd c572 (by omega)
                    · skip
                      refine wa_fall ⟨_, rfl⟩ ?_
                      refine wa_aload_n (n := 0) rfl ?_
                      refine wa_iload_n (n := 1) rfl ?_
                      refine wa_ks ?_
                      obtain ⟨hn, h05, h06, hec, ⟨n1, n2, n3, n4⟩, hwd⟩ := hnm (by omega)
                      have hw574 : (x = tx_61.map (fun c => c.toInt)) ↔ wd = 24 := hwd 24 (by first | decide | omega) (by first | decide | omega)
                      obtain ⟨rr575, hrr575⟩ : ∃ v : Int, v = if x = tx_61.map (fun c => c.toInt) then 1 else 0 := ⟨_, rfl⟩
                      have qrr575 : (rr575 = 1 ∧ wd = 24) ∨ (rr575 = 0 ∧ wd ≠ 24) := by
                        by_cases c : x = tx_61.map (fun c => c.toInt)
                        · rw [if_pos c] at hrr575; exact Or.inl ⟨hrr575, hw574.mp c⟩
                        · rw [if_neg c] at hrr575; exact Or.inr ⟨hrr575, fun z => c (hw574.mpr z)⟩
                      refine wa_cv 237 rfl (wy_pr rfl) wt_237 (M2 := fun _ => False) rfl at_M_isNamed ⟨_, rfl⟩ rfl rfl ⟨trivial, trivial, (Or.inr ⟨wy_pr rfl, fun q => q⟩), trivial, trivial, trivial⟩ trivial (fun _ _ q => False.elim q) (wJ_mono (isn_ok (S := (w_up S 237 167 0)) (x := x) (j := 61) (tx := tx_61) (nms := nms) (w_ML_up hM (by decide)) (wx_61 hX) (by decide) hn hs h05 n1 n2 n3 n4 (tx_rg (by decide))) (fun o Z hz => (⟨hz.1, by rw [hrr575]; exact hz.2⟩ : (w_up S 237 167 0) = Z ∧ o = .inl (some (0, rr575))))) (fun oq576 Sq576 hp577 q576 => ?_)
                      rcases q576 with ⟨rfl, rfl⟩
                      show wJ _ _ _ _ _ _ _ _ _ _
                      refine wa_ifeq (w_rg0 (by omega) (by omega)) ⟨_, rfl⟩ (fun c578 => ?_) (fun c578 => ?_)
                      · skip
                        refine wa_iconst ?_
                        refine wa_goto ⟨_, rfl⟩ ?_
                        refine wa_istore (n := 5) rfl ?_
                        refine wa_iload (n := 5) rfl ?_
                        refine wa_ifne (w_rg0 (by omega) (by omega)) ⟨_, rfl⟩ (fun c579 => ?_) (fun c579 => ?_)
                        · skip
                          exact absurd c579 (by omega)
                        · skip
                          refine wa_aload_n (n := 0) rfl ?_
                          refine wa_iconst ?_
                          refine wa_cv 237 rfl (wy_pr rfl) wt_237 (M2 := fun _ => False) rfl at_M_error ⟨_, rfl⟩ rfl rfl ⟨trivial, trivial, trivial, (Or.inr ⟨wy_pr rfl, fun q => q⟩), trivial, trivial, trivial⟩ trivial (fun _ _ q => False.elim q) ?_ (fun _ _ _ q => q)
                          refine wa_aload_n (n := 0) rfl ?_
                          refine wb_gf4 237 rfl (wy_pr rfl) wt_237 wf_15_1 (v := 238) wl_237_1 ?_
                          refine wa_iload_n (n := 1) rfl ?_
                          refine wa_iconst ?_
                          refine wa_cv 238 rfl (wy_pr rfl) wt_238 (M2 := fun _ => False) rfl at_MH_of ⟨_, rfl⟩ rfl rfl ⟨(Or.inr ⟨wy_pr rfl, fun q => q⟩), trivial, trivial⟩ trivial (fun _ _ q => False.elim q) ?_ (fun _ _ _ q => q)
                          refine wa_aload_n (n := 0) rfl ?_
                          refine wa_iload_n (n := 1) rfl ?_
                          refine wb_pfi 238 rfl (wy_pr rfl) wt_238 wf_11_5 (n := 5) rfl ⟨(by omega), (by omega)⟩ ?_
                          refine wa_aload_n (n := 0) rfl ?_
                          refine wa_iload_n (n := 2) rfl ?_
                          refine wb_pfi 238 rfl (wy_pr rfl) wt_238 wf_11_6 (n := 6) rfl ⟨(by omega), (by omega)⟩ ?_
                          refine wa_aload_n (n := 0) rfl ?_
                          refine wa_oreturn rfl ?_
                          show wJ _ _ _ _ _ _ _ _ _ _
                          refine wa_th (j := 238) ?_
                          refine ⟨rfl, ?_⟩
                          have eg : (if gk = 6 then 0 else 1 : Int) = 0 := by first | exact if_pos (by omega) | exact if_neg (by omega)
                          have ep : rwP wd gk kd ec = 4 := by unfold rwP; (repeat (first | rw [if_pos (by omega)] | rw [if_neg (by omega)])); all_goals omega
                          rw [eg, ep]
                          exact ⟨rfl, if_neg (by first | decide | omega)⟩
                      · skip
                        refine wa_aload_n (n := 0) rfl ?_
                        refine wb_gf4 237 rfl (wy_pr rfl) wt_237 wf_15_51 (v := 306) wl_237_51 ?_
                        refine wa_iload_n (n := 1) rfl ?_
                        refine wb_iald 306 rfl (wy_pr rfl) wt_306 (n := 4000) ((w_up_slot (by decide)).trans ((ml_306 hM))) (by omega) (by omega) (v := ec) ((w_up_slot (by decide)).trans ((hnm (by omega)).2.2.1)) (fun r580 => ?_)
                        refine wa_ifne (w_rg0 (by omega) (by omega)) ⟨_, rfl⟩ (fun c581 => ?_) (fun c581 => ?_)
                        · skip
                          refine wa_iconst ?_
                          refine wa_goto ⟨_, rfl⟩ ?_
                          refine wa_istore (n := 5) rfl ?_
                          refine wa_iload (n := 5) rfl ?_
                          refine wa_ifne (w_rg0 (by omega) (by omega)) ⟨_, rfl⟩ (fun c582 => ?_) (fun c582 => ?_)
                          · skip
                            exact absurd c582 (by omega)
                          · skip
                            refine wa_aload_n (n := 0) rfl ?_
                            refine wa_iconst ?_
                            refine wa_cv 237 rfl (wy_pr rfl) wt_237 (M2 := fun _ => False) rfl at_M_error ⟨_, rfl⟩ rfl rfl ⟨trivial, trivial, trivial, (Or.inr ⟨wy_pr rfl, fun q => q⟩), trivial, trivial, trivial⟩ trivial (fun _ _ q => False.elim q) ?_ (fun _ _ _ q => q)
                            refine wa_aload_n (n := 0) rfl ?_
                            refine wb_gf4 237 rfl (wy_pr rfl) wt_237 wf_15_1 (v := 238) wl_237_1 ?_
                            refine wa_iload_n (n := 1) rfl ?_
                            refine wa_iconst ?_
                            refine wa_cv 238 rfl (wy_pr rfl) wt_238 (M2 := fun _ => False) rfl at_MH_of ⟨_, rfl⟩ rfl rfl ⟨(Or.inr ⟨wy_pr rfl, fun q => q⟩), trivial, trivial⟩ trivial (fun _ _ q => False.elim q) ?_ (fun _ _ _ q => q)
                            refine wa_aload_n (n := 0) rfl ?_
                            refine wa_iload_n (n := 1) rfl ?_
                            refine wb_pfi 238 rfl (wy_pr rfl) wt_238 wf_11_5 (n := 5) rfl ⟨(by omega), (by omega)⟩ ?_
                            refine wa_aload_n (n := 0) rfl ?_
                            refine wa_iload_n (n := 2) rfl ?_
                            refine wb_pfi 238 rfl (wy_pr rfl) wt_238 wf_11_6 (n := 6) rfl ⟨(by omega), (by omega)⟩ ?_
                            refine wa_aload_n (n := 0) rfl ?_
                            refine wa_oreturn rfl ?_
                            show wJ _ _ _ _ _ _ _ _ _ _
                            refine wa_th (j := 238) ?_
                            refine ⟨rfl, ?_⟩
                            have eg : (if gk = 6 then 0 else 1 : Int) = 0 := by first | exact if_pos (by omega) | exact if_neg (by omega)
                            have ep : rwP wd gk kd ec = 4 := by unfold rwP; (repeat (first | rw [if_pos (by omega)] | rw [if_neg (by omega)])); all_goals omega
                            rw [eg, ep]
                            exact ⟨rfl, if_neg (by first | decide | omega)⟩
                        · skip
                          refine wa_fall ⟨_, rfl⟩ ?_
                          refine wa_iconst ?_
                          refine wa_goto ⟨_, rfl⟩ ?_
                          refine wa_istore (n := 5) rfl ?_
                          refine wa_iload (n := 5) rfl ?_
                          refine wa_ifne (w_rg0 (by omega) (by omega)) ⟨_, rfl⟩ (fun c583 => ?_) (fun c583 => ?_)
                          · skip
                            refine wa_iconst ?_
                            refine wa_istore (n := 4) rfl ?_
                            refine wa_fall ⟨_, rfl⟩ ?_
                            refine wa_iload (n := 4) rfl ?_
                            refine wa_ifne (w_rg0 (by omega) (by omega)) ⟨_, rfl⟩ (fun c584 => ?_) (fun c584 => ?_)
                            · skip
                              refine wa_return rfl ?_
                              have eg : (if gk = 6 then 0 else 1 : Int) = 0 := by first | exact if_pos (by omega) | exact if_neg (by omega)
                              have ep : rwP wd gk kd ec = 0 := by unfold rwP; (repeat (first | rw [if_pos (by omega)] | rw [if_neg (by omega)])); all_goals omega
                              rw [eg, ep]
                              exact ⟨rfl, if_pos rfl⟩
                            · skip
                              exact absurd c584 (by omega)
                          · skip
                            exact absurd c583 (by omega)
              · skip
                exact absurd c552 (by omega)
        · skip
          refine wa_iload_n (n := 3) rfl ?_
          refine wa_ifeq (w_rg0 (by omega) (by omega)) ⟨_, rfl⟩ (fun c585 => ?_) (fun c585 => ?_)
          · skip
            exact absurd c585 (by omega)
          · skip
            refine wa_fall ⟨_, rfl⟩ ?_
            refine wa_iconst ?_
            refine wa_goto ⟨_, rfl⟩ ?_
            refine wa_istore (n := 4) rfl ?_
            refine wa_iload_n (n := 2) rfl ?_
            refine wa_ifeq (w_rg0 (by omega) (by omega)) ⟨_, rfl⟩ (fun c586 => ?_) (fun c586 => ?_)
            · skip
              exact absurd c586 (by omega)
            · skip
              refine wa_iload_n (n := 2) rfl ?_
              refine wa_iconst ?_
              refine wa_icmpne (w_rg0 (by omega) (by omega)) (w_rg0 (by omega) (by omega)) ⟨_, rfl⟩ (fun c587 => ?_) (fun c587 => ?_)
              · skip
                refine wa_iload (n := 4) rfl ?_
                refine wa_ifne (w_rg0 (by omega) (by omega)) ⟨_, rfl⟩ (fun c588 => ?_) (fun c588 => ?_)
                · skip
                  refine wa_return rfl ?_
                  have eg : (if gk = 6 then 0 else 1 : Int) = 0 := by first | exact if_pos (by omega) | exact if_neg (by omega)
                  have ep : rwP wd gk kd ec = 0 := by unfold rwP; (repeat (first | rw [if_pos (by omega)] | rw [if_neg (by omega)])); all_goals omega
                  rw [eg, ep]
                  exact ⟨rfl, if_pos rfl⟩
                · skip
                  exact absurd c588 (by omega)
              · skip
                exact absurd c587 (by omega)
/-- what looks sets ahead of the look; c: it counts what is asked -/
def lkX (l c : Int) (S : wS) : wS := if c = 0 then w_up (w_up (w_up (w_up (w_up S 237 169 (-1)) 237 170 (-1)) 237 171 (-1)) 237 172 0) 237 166 l else w_up (w_up (w_up (w_up (w_up (w_up S 237 169 (-1)) 237 170 (-1)) 237 171 (-1)) 237 172 0) 237 166 l) 344 l (S 344 l + 1)
theorem rlk0 (hM : w_ML S) (hs : 0 ≤ s ∧ s < 4000) (h04 : S 304 s = kd) (h74 : S 237 174 = gk) (hgk : gk = 4 ∨ gk = 5) (hct : ct = 0 ∨ ct = 1) (hak : 0 ≤ S 344 0 ∧ S 344 0 ≤ 1000000) (hcal : wJ (pe_GA xs) wY0 (fun _ => False) (d + 7) t_M_looksAtThing ((pe_at t_M_looksAtThing.bl 0).getD (0, [])).2 [(0, (2, 237)), (1, (0, s)), (2, (0, kd)), (3, (0, ct))] [] (lkX 0 ct S) Q) (hQ : ∀ (o : wO) (Z : wS), Q o Z → o = .inl none ∨ o = .inr 238) : wJ (pe_GA xs) wY0 M (d + 8) t_M_looks ((pe_at t_M_looks.bl 0).getD (0, [])).2 [(0, (2, 237)), (1, (0, s)), (2, (0, ct))] [] S Q := by
  refine wa_aload_n (n := 0) rfl ?_
  refine wa_iconst ?_
  refine wb_pfi 237 rfl (wy_pr rfl) wt_237 wf_15_169 (n := 169) rfl ⟨(by omega), (by omega)⟩ ?_
  refine wa_aload_n (n := 0) rfl ?_
  refine wa_iconst ?_
  refine wb_pfi 237 rfl (wy_pr rfl) wt_237 wf_15_170 (n := 170) rfl ⟨(by omega), (by omega)⟩ ?_
  refine wa_aload_n (n := 0) rfl ?_
  refine wa_iconst ?_
  refine wb_pfi 237 rfl (wy_pr rfl) wt_237 wf_15_171 (n := 171) rfl ⟨(by omega), (by omega)⟩ ?_
  refine wa_aload_n (n := 0) rfl ?_
  refine wa_iconst ?_
  refine wb_pfi 237 rfl (wy_pr rfl) wt_237 wf_15_172 (n := 172) rfl ⟨(by omega), (by omega)⟩ ?_
  refine wa_aload_n (n := 0) rfl ?_
  refine wb_gf4 237 rfl (wy_pr rfl) wt_237 wf_15_49 (v := 304) wl_237_49 ?_
  refine wa_iload_n (n := 1) rfl ?_
  refine wb_iald 304 rfl (wy_pr rfl) wt_304 (n := 4000) ((w_up_slot (by decide)).trans ((w_up_slot (by decide)).trans ((w_up_slot (by decide)).trans ((w_up_slot (by decide)).trans ((ml_304 hM)))))) (by omega) (by omega) (v := kd) ((w_up_slot (by decide)).trans ((w_up_slot (by decide)).trans ((w_up_slot (by decide)).trans ((w_up_slot (by decide)).trans (h04))))) (fun r901 => ?_)
  refine wa_istore_n (n := 3) rfl ?_
  refine wa_aload_n (n := 0) rfl ?_
  refine wb_gfi 237 rfl (wy_pr rfl) wt_237 wf_15_174 (v := gk) ((w_up_at (by decide)).trans ((w_up_at (by decide)).trans ((w_up_at (by decide)).trans ((w_up_at (by decide)).trans (h74))))) (fun r902 => ?_)
  refine wa_iconst ?_
  refine wa_icmpge (w_rg0 (by omega) (by omega)) (w_rg0 (by omega) (by omega)) ⟨_, rfl⟩ (fun c903 => ?_) (fun c903 => ?_)
  · skip
    refine wa_aload_n (n := 0) rfl ?_
    refine wa_aload_n (n := 0) rfl ?_
    refine wa_aload_n (n := 0) rfl ?_
    refine wb_gfi 237 rfl (wy_pr rfl) wt_237 wf_15_174 (v := gk) ((w_up_at (by decide)).trans ((w_up_at (by decide)).trans ((w_up_at (by decide)).trans ((w_up_at (by decide)).trans (h74))))) (fun r904 => ?_)
    refine wa_cv 237 rfl (wy_pr rfl) wt_237 (M2 := fun _ => False) rfl at_M_hasShape ⟨_, rfl⟩ rfl rfl ⟨trivial, (Or.inr ⟨wy_pr rfl, fun q => q⟩), trivial, trivial, trivial⟩ ⟨(Or.inr ⟨wy_pr rfl, fun q => q⟩), trivial⟩ (fun _ _ q => False.elim q) ?_ (fun _ _ _ q => q)
    refine wa_iload_n (n := 1) rfl ?_
    refine wa_iconst ?_
    refine wa_icmpeq (w_rg0 (by omega) (by omega)) (w_rg0 (by omega) (by omega)) ⟨_, rfl⟩ (fun c905 => ?_) (fun c905 => ?_)
    · skip
      refine wa_iconst ?_
      refine wa_goto ⟨_, rfl⟩ ?_
      refine wa_zreturn rfl (Or.inr rfl) ?_
      show wJ _ _ _ _ _ _ _ _ _ _
      refine wa_ifeq (w_rg0 (by omega) (by omega)) ⟨_, rfl⟩ (fun c906 => ?_) (fun c906 => ?_)
      · skip
        exact absurd c906 (by omega)
      · skip
        refine wa_iconst ?_
        refine wa_goto ⟨_, rfl⟩ ?_
        refine wb_pfi 237 rfl (wy_pr rfl) wt_237 wf_15_166 (n := 166) rfl ⟨(by omega), (by omega)⟩ ?_
        refine wa_iload_n (n := 2) rfl ?_
        refine wa_ifeq (w_rg0 (by omega) (by omega)) ⟨_, rfl⟩ (fun c907 => ?_) (fun c907 => ?_)
        · skip
          refine wa_aload_n (n := 0) rfl ?_
          refine wb_gfi 237 rfl (wy_pr rfl) wt_237 wf_15_166 (v := 0) (w_up_same _ _ _ _) (fun r908 => ?_)
          refine wa_ifne (w_rg0 (by omega) (by omega)) ⟨_, rfl⟩ (fun c909 => ?_) (fun c909 => ?_)
          · skip
            exact absurd c909 (by omega)
          · skip
            refine wa_aload_n (n := 0) rfl ?_
            refine wa_iload_n (n := 1) rfl ?_
            refine wa_iload_n (n := 3) rfl ?_
            refine wa_iload_n (n := 2) rfl ?_
            have ec : ct = 0 := by omega
            have eX : lkX 0 ct S = (w_up (w_up (w_up (w_up (w_up S 237 169 (-1)) 237 170 (-1)) 237 171 (-1)) 237 172 0) 237 166 0) := by rw [ec]; exact if_pos rfl
            refine wa_cv 237 rfl (wy_pr rfl) wt_237 (M2 := fun _ => False) rfl at_M_looksAtThing ⟨_, rfl⟩ rfl rfl ⟨trivial, (Or.inr ⟨wy_pr rfl, fun q => q⟩), trivial, trivial, trivial⟩ trivial (fun _ _ q => False.elim q) ((wJ_mono (by rw [← eX]; exact hcal) (fun o Z hz => (⟨hQ o Z hz, hz⟩ : (o = .inl none ∨ o = .inr 238) ∧ Q o Z)))) (fun oq910 Sq910 hp911 q910 => ?_)
            rcases q910 with ⟨rfl | rfl, hzq⟩
            · skip
              show wJ _ _ _ _ _ _ _ _ _ _
              refine wa_goto ⟨_, rfl⟩ ?_
              refine wa_return rfl ?_
              exact hzq
            · skip
              refine ⟨rfl, ?_⟩
              exact hzq
        · skip
          refine wa_aload_n (n := 0) rfl ?_
          refine wb_gf4 237 rfl (wy_pr rfl) wt_237 wf_15_109 (v := 344) wl_237_109 ?_
          refine wa_aload_n (n := 0) rfl ?_
          refine wb_gfi 237 rfl (wy_pr rfl) wt_237 wf_15_166 (v := 0) (w_up_same _ _ _ _) (fun r912 => ?_)
          refine wa_dup2 (by decide) (by decide) ?_
          refine wb_iald 344 rfl (wy_pr rfl) wt_344 (n := 4) ((w_up_slot (by decide)).trans ((w_up_slot (by decide)).trans ((w_up_slot (by decide)).trans ((w_up_slot (by decide)).trans ((w_up_slot (by decide)).trans ((ml_344 hM))))))) (by omega) (by omega) (v := (S 344 0)) ((w_up_slot (by decide)).trans ((w_up_slot (by decide)).trans ((w_up_slot (by decide)).trans ((w_up_slot (by decide)).trans (w_up_slot (by decide)))))) (fun r913 => ?_)
          refine wa_iconst ?_
          refine wa_iadd ?_
          refine wb_iast 344 rfl (wy_pr rfl) wt_344 (n := 4) ((w_up_slot (by decide)).trans ((w_up_slot (by decide)).trans ((w_up_slot (by decide)).trans ((w_up_slot (by decide)).trans ((w_up_slot (by decide)).trans ((ml_344 hM))))))) (by omega) (by omega) ⟨(by omega), (by omega)⟩ ?_
          refine wa_fall ⟨_, rfl⟩ ?_
          refine wa_aload_n (n := 0) rfl ?_
          refine wb_gfi 237 rfl (wy_pr rfl) wt_237 wf_15_166 (v := 0) ((w_up_slot (by decide)).trans (w_up_same _ _ _ _)) (fun r914 => ?_)
          refine wa_ifne (w_rg0 (by omega) (by omega)) ⟨_, rfl⟩ (fun c915 => ?_) (fun c915 => ?_)
          · skip
            exact absurd c915 (by omega)
          · skip
            refine wa_aload_n (n := 0) rfl ?_
            refine wa_iload_n (n := 1) rfl ?_
            refine wa_iload_n (n := 3) rfl ?_
            refine wa_iload_n (n := 2) rfl ?_
            have ec : ct = 1 := by omega
            have eX : lkX 0 ct S = (w_up (w_up (w_up (w_up (w_up (w_up S 237 169 (-1)) 237 170 (-1)) 237 171 (-1)) 237 172 0) 237 166 0) 344 0 ((S 344 0) + 1)) := by rw [ec]; exact if_neg (by first | decide | omega)
            refine wa_cv 237 rfl (wy_pr rfl) wt_237 (M2 := fun _ => False) rfl at_M_looksAtThing ⟨_, rfl⟩ rfl rfl ⟨trivial, (Or.inr ⟨wy_pr rfl, fun q => q⟩), trivial, trivial, trivial⟩ trivial (fun _ _ q => False.elim q) ((wJ_mono (by rw [← eX]; exact hcal) (fun o Z hz => (⟨hQ o Z hz, hz⟩ : (o = .inl none ∨ o = .inr 238) ∧ Q o Z)))) (fun oq916 Sq916 hp917 q916 => ?_)
            rcases q916 with ⟨rfl | rfl, hzq⟩
            · skip
              show wJ _ _ _ _ _ _ _ _ _ _
              refine wa_goto ⟨_, rfl⟩ ?_
              refine wa_return rfl ?_
              exact hzq
            · skip
              refine ⟨rfl, ?_⟩
              exact hzq
    · skip
      refine wa_iload_n (n := 1) rfl ?_
      refine wa_iconst ?_
      refine wa_icmpne (w_rg0 (by omega) (by omega)) (w_rg0 (by omega) (by omega)) ⟨_, rfl⟩ (fun c918 => ?_) (fun c918 => ?_)
      · skip
        exact absurd c918 (by omega)
      · skip
        refine wa_fall ⟨_, rfl⟩ ?_
        refine wa_iconst ?_
        refine wa_goto ⟨_, rfl⟩ ?_
        refine wa_zreturn rfl (Or.inr rfl) ?_
        show wJ _ _ _ _ _ _ _ _ _ _
        refine wa_ifeq (w_rg0 (by omega) (by omega)) ⟨_, rfl⟩ (fun c919 => ?_) (fun c919 => ?_)
        · skip
          exact absurd c919 (by omega)
        · skip
          refine wa_iconst ?_
          refine wa_goto ⟨_, rfl⟩ ?_
          refine wb_pfi 237 rfl (wy_pr rfl) wt_237 wf_15_166 (n := 166) rfl ⟨(by omega), (by omega)⟩ ?_
          refine wa_iload_n (n := 2) rfl ?_
          refine wa_ifeq (w_rg0 (by omega) (by omega)) ⟨_, rfl⟩ (fun c920 => ?_) (fun c920 => ?_)
          · skip
            refine wa_aload_n (n := 0) rfl ?_
            refine wb_gfi 237 rfl (wy_pr rfl) wt_237 wf_15_166 (v := 0) (w_up_same _ _ _ _) (fun r921 => ?_)
            refine wa_ifne (w_rg0 (by omega) (by omega)) ⟨_, rfl⟩ (fun c922 => ?_) (fun c922 => ?_)
            · skip
              exact absurd c922 (by omega)
            · skip
              refine wa_aload_n (n := 0) rfl ?_
              refine wa_iload_n (n := 1) rfl ?_
              refine wa_iload_n (n := 3) rfl ?_
              refine wa_iload_n (n := 2) rfl ?_
              have ec : ct = 0 := by omega
              have eX : lkX 0 ct S = (w_up (w_up (w_up (w_up (w_up S 237 169 (-1)) 237 170 (-1)) 237 171 (-1)) 237 172 0) 237 166 0) := by rw [ec]; exact if_pos rfl
              refine wa_cv 237 rfl (wy_pr rfl) wt_237 (M2 := fun _ => False) rfl at_M_looksAtThing ⟨_, rfl⟩ rfl rfl ⟨trivial, (Or.inr ⟨wy_pr rfl, fun q => q⟩), trivial, trivial, trivial⟩ trivial (fun _ _ q => False.elim q) ((wJ_mono (by rw [← eX]; exact hcal) (fun o Z hz => (⟨hQ o Z hz, hz⟩ : (o = .inl none ∨ o = .inr 238) ∧ Q o Z)))) (fun oq923 Sq923 hp924 q923 => ?_)
              rcases q923 with ⟨rfl | rfl, hzq⟩
              · skip
                show wJ _ _ _ _ _ _ _ _ _ _
                refine wa_goto ⟨_, rfl⟩ ?_
                refine wa_return rfl ?_
                exact hzq
              · skip
                refine ⟨rfl, ?_⟩
                exact hzq
          · skip
            refine wa_aload_n (n := 0) rfl ?_
            refine wb_gf4 237 rfl (wy_pr rfl) wt_237 wf_15_109 (v := 344) wl_237_109 ?_
            refine wa_aload_n (n := 0) rfl ?_
            refine wb_gfi 237 rfl (wy_pr rfl) wt_237 wf_15_166 (v := 0) (w_up_same _ _ _ _) (fun r925 => ?_)
            refine wa_dup2 (by decide) (by decide) ?_
            refine wb_iald 344 rfl (wy_pr rfl) wt_344 (n := 4) ((w_up_slot (by decide)).trans ((w_up_slot (by decide)).trans ((w_up_slot (by decide)).trans ((w_up_slot (by decide)).trans ((w_up_slot (by decide)).trans ((ml_344 hM))))))) (by omega) (by omega) (v := (S 344 0)) ((w_up_slot (by decide)).trans ((w_up_slot (by decide)).trans ((w_up_slot (by decide)).trans ((w_up_slot (by decide)).trans (w_up_slot (by decide)))))) (fun r926 => ?_)
            refine wa_iconst ?_
            refine wa_iadd ?_
            refine wb_iast 344 rfl (wy_pr rfl) wt_344 (n := 4) ((w_up_slot (by decide)).trans ((w_up_slot (by decide)).trans ((w_up_slot (by decide)).trans ((w_up_slot (by decide)).trans ((w_up_slot (by decide)).trans ((ml_344 hM))))))) (by omega) (by omega) ⟨(by omega), (by omega)⟩ ?_
            refine wa_fall ⟨_, rfl⟩ ?_
            refine wa_aload_n (n := 0) rfl ?_
            refine wb_gfi 237 rfl (wy_pr rfl) wt_237 wf_15_166 (v := 0) ((w_up_slot (by decide)).trans (w_up_same _ _ _ _)) (fun r927 => ?_)
            refine wa_ifne (w_rg0 (by omega) (by omega)) ⟨_, rfl⟩ (fun c928 => ?_) (fun c928 => ?_)
            · skip
              exact absurd c928 (by omega)
            · skip
              refine wa_aload_n (n := 0) rfl ?_
              refine wa_iload_n (n := 1) rfl ?_
              refine wa_iload_n (n := 3) rfl ?_
              refine wa_iload_n (n := 2) rfl ?_
              have ec : ct = 1 := by omega
              have eX : lkX 0 ct S = (w_up (w_up (w_up (w_up (w_up (w_up S 237 169 (-1)) 237 170 (-1)) 237 171 (-1)) 237 172 0) 237 166 0) 344 0 ((S 344 0) + 1)) := by rw [ec]; exact if_neg (by first | decide | omega)
              refine wa_cv 237 rfl (wy_pr rfl) wt_237 (M2 := fun _ => False) rfl at_M_looksAtThing ⟨_, rfl⟩ rfl rfl ⟨trivial, (Or.inr ⟨wy_pr rfl, fun q => q⟩), trivial, trivial, trivial⟩ trivial (fun _ _ q => False.elim q) ((wJ_mono (by rw [← eX]; exact hcal) (fun o Z hz => (⟨hQ o Z hz, hz⟩ : (o = .inl none ∨ o = .inr 238) ∧ Q o Z)))) (fun oq929 Sq929 hp930 q929 => ?_)
              rcases q929 with ⟨rfl | rfl, hzq⟩
              · skip
                show wJ _ _ _ _ _ _ _ _ _ _
                refine wa_goto ⟨_, rfl⟩ ?_
                refine wa_return rfl ?_
                exact hzq
              · skip
                refine ⟨rfl, ?_⟩
                exact hzq
  · skip
    exact absurd c903 (by omega)
theorem rlk3 (hM : w_ML S) (hs : 0 ≤ s ∧ s < 4000) (h04 : S 304 s = kd) (h74 : S 237 174 = gk) (hgk : gk = 3 ∨ gk = 6) (hct : ct = 0 ∨ ct = 1) (hak : 0 ≤ S 344 3 ∧ S 344 3 ≤ 1000000) (hcal : wJ (pe_GA xs) wY0 (fun _ => False) (d + 7) t_M_looksAtRow ((pe_at t_M_looksAtRow.bl 0).getD (0, [])).2 [(0, (2, 237)), (1, (0, s)), (2, (0, kd))] [] (lkX 3 ct S) Q) (hQ : ∀ (o : wO) (Z : wS), Q o Z → o = .inl none ∨ o = .inr 238) : wJ (pe_GA xs) wY0 M (d + 8) t_M_looks ((pe_at t_M_looks.bl 0).getD (0, [])).2 [(0, (2, 237)), (1, (0, s)), (2, (0, ct))] [] S Q := by
  refine wa_aload_n (n := 0) rfl ?_
  refine wa_iconst ?_
  refine wb_pfi 237 rfl (wy_pr rfl) wt_237 wf_15_169 (n := 169) rfl ⟨(by omega), (by omega)⟩ ?_
  refine wa_aload_n (n := 0) rfl ?_
  refine wa_iconst ?_
  refine wb_pfi 237 rfl (wy_pr rfl) wt_237 wf_15_170 (n := 170) rfl ⟨(by omega), (by omega)⟩ ?_
  refine wa_aload_n (n := 0) rfl ?_
  refine wa_iconst ?_
  refine wb_pfi 237 rfl (wy_pr rfl) wt_237 wf_15_171 (n := 171) rfl ⟨(by omega), (by omega)⟩ ?_
  refine wa_aload_n (n := 0) rfl ?_
  refine wa_iconst ?_
  refine wb_pfi 237 rfl (wy_pr rfl) wt_237 wf_15_172 (n := 172) rfl ⟨(by omega), (by omega)⟩ ?_
  refine wa_aload_n (n := 0) rfl ?_
  refine wb_gf4 237 rfl (wy_pr rfl) wt_237 wf_15_49 (v := 304) wl_237_49 ?_
  refine wa_iload_n (n := 1) rfl ?_
  refine wb_iald 304 rfl (wy_pr rfl) wt_304 (n := 4000) ((w_up_slot (by decide)).trans ((w_up_slot (by decide)).trans ((w_up_slot (by decide)).trans ((w_up_slot (by decide)).trans ((ml_304 hM)))))) (by omega) (by omega) (v := kd) ((w_up_slot (by decide)).trans ((w_up_slot (by decide)).trans ((w_up_slot (by decide)).trans ((w_up_slot (by decide)).trans (h04))))) (fun r901 => ?_)
  refine wa_istore_n (n := 3) rfl ?_
  refine wa_aload_n (n := 0) rfl ?_
  refine wb_gfi 237 rfl (wy_pr rfl) wt_237 wf_15_174 (v := gk) ((w_up_at (by decide)).trans ((w_up_at (by decide)).trans ((w_up_at (by decide)).trans ((w_up_at (by decide)).trans (h74))))) (fun r902 => ?_)
  refine wa_iconst ?_
  refine wa_icmpge (w_rg0 (by omega) (by omega)) (w_rg0 (by omega) (by omega)) ⟨_, rfl⟩ (fun c903 => ?_) (fun c903 => ?_)
  · skip
    refine wa_aload_n (n := 0) rfl ?_
    refine wa_aload_n (n := 0) rfl ?_
    refine wa_aload_n (n := 0) rfl ?_
    refine wb_gfi 237 rfl (wy_pr rfl) wt_237 wf_15_174 (v := gk) ((w_up_at (by decide)).trans ((w_up_at (by decide)).trans ((w_up_at (by decide)).trans ((w_up_at (by decide)).trans (h74))))) (fun r904 => ?_)
    refine wa_cv 237 rfl (wy_pr rfl) wt_237 (M2 := fun _ => False) rfl at_M_hasShape ⟨_, rfl⟩ rfl rfl ⟨trivial, (Or.inr ⟨wy_pr rfl, fun q => q⟩), trivial, trivial, trivial⟩ ⟨(Or.inr ⟨wy_pr rfl, fun q => q⟩), trivial⟩ (fun _ _ q => False.elim q) ?_ (fun _ _ _ q => q)
    refine wa_iload_n (n := 1) rfl ?_
    refine wa_iconst ?_
    refine wa_icmpeq (w_rg0 (by omega) (by omega)) (w_rg0 (by omega) (by omega)) ⟨_, rfl⟩ (fun c905 => ?_) (fun c905 => ?_)
    · skip
      exact absurd c905 (by omega)
    · skip
      refine wa_iload_n (n := 1) rfl ?_
      refine wa_iconst ?_
      refine wa_icmpne (w_rg0 (by omega) (by omega)) (w_rg0 (by omega) (by omega)) ⟨_, rfl⟩ (fun c906 => ?_) (fun c906 => ?_)
      · skip
        refine wa_iconst ?_
        refine wa_fall ⟨_, rfl⟩ ?_
        refine wa_zreturn rfl (Or.inl rfl) ?_
        show wJ _ _ _ _ _ _ _ _ _ _
        refine wa_ifeq (w_rg0 (by omega) (by omega)) ⟨_, rfl⟩ (fun c907 => ?_) (fun c907 => ?_)
        · skip
          refine wa_aload_n (n := 0) rfl ?_
          refine wb_gfi 237 rfl (wy_pr rfl) wt_237 wf_15_174 (v := gk) ((w_up_at (by decide)).trans ((w_up_at (by decide)).trans ((w_up_at (by decide)).trans ((w_up_at (by decide)).trans (h74))))) (fun r908 => ?_)
          refine wa_bipush (w_rg2 (by omega) (by omega)) ?_
          refine wa_icmpne (w_rg0 (by omega) (by omega)) (w_rg0 (by omega) (by omega)) ⟨_, rfl⟩ (fun c909 => ?_) (fun c909 => ?_)
          · skip
            refine wa_aload_n (n := 0) rfl ?_
            refine wb_gfi 237 rfl (wy_pr rfl) wt_237 wf_15_174 (v := gk) ((w_up_at (by decide)).trans ((w_up_at (by decide)).trans ((w_up_at (by decide)).trans ((w_up_at (by decide)).trans (h74))))) (fun r910 => ?_)
            refine wa_bipush (w_rg2 (by omega) (by omega)) ?_
            refine wa_icmpne (w_rg0 (by omega) (by omega)) (w_rg0 (by omega) (by omega)) ⟨_, rfl⟩ (fun c911 => ?_) (fun c911 => ?_)
            · skip
              refine wa_iconst ?_
              refine wa_fall ⟨_, rfl⟩ ?_
              refine wb_pfi 237 rfl (wy_pr rfl) wt_237 wf_15_166 (n := 166) rfl ⟨(by omega), (by omega)⟩ ?_
              refine wa_iload_n (n := 2) rfl ?_
              refine wa_ifeq (w_rg0 (by omega) (by omega)) ⟨_, rfl⟩ (fun c912 => ?_) (fun c912 => ?_)
              · skip
                refine wa_aload_n (n := 0) rfl ?_
                refine wb_gfi 237 rfl (wy_pr rfl) wt_237 wf_15_166 (v := 3) (w_up_same _ _ _ _) (fun r913 => ?_)
                refine wa_ifne (w_rg0 (by omega) (by omega)) ⟨_, rfl⟩ (fun c914 => ?_) (fun c914 => ?_)
                · skip
                  refine wa_aload_n (n := 0) rfl ?_
                  refine wb_gfi 237 rfl (wy_pr rfl) wt_237 wf_15_166 (v := 3) (w_up_same _ _ _ _) (fun r915 => ?_)
                  refine wa_iconst ?_
                  refine wa_icmpne (w_rg0 (by omega) (by omega)) (w_rg0 (by omega) (by omega)) ⟨_, rfl⟩ (fun c916 => ?_) (fun c916 => ?_)
                  · skip
                    exact absurd c916 (by omega)
                  · skip
                    refine wa_aload_n (n := 0) rfl ?_
                    refine wa_iload_n (n := 1) rfl ?_
                    refine wa_iload_n (n := 3) rfl ?_
                    have ec : ct = 0 := by omega
                    have eX : lkX 3 ct S = (w_up (w_up (w_up (w_up (w_up S 237 169 (-1)) 237 170 (-1)) 237 171 (-1)) 237 172 0) 237 166 3) := by rw [ec]; exact if_pos rfl
                    refine wa_cv 237 rfl (wy_pr rfl) wt_237 (M2 := fun _ => False) rfl at_M_looksAtRow ⟨_, rfl⟩ rfl rfl ⟨trivial, (Or.inr ⟨wy_pr rfl, fun q => q⟩), trivial, trivial, trivial⟩ trivial (fun _ _ q => False.elim q) ((wJ_mono (by rw [← eX]; exact hcal) (fun o Z hz => (⟨hQ o Z hz, hz⟩ : (o = .inl none ∨ o = .inr 238) ∧ Q o Z)))) (fun oq917 Sq917 hp918 q917 => ?_)
                    rcases q917 with ⟨rfl | rfl, hzq⟩
                    · skip
                      show wJ _ _ _ _ _ _ _ _ _ _
                      refine wa_goto ⟨_, rfl⟩ ?_
                      refine wa_return rfl ?_
                      exact hzq
                    · skip
                      refine ⟨rfl, ?_⟩
                      exact hzq
                · skip
                  exact absurd c914 (by omega)
              · skip
                refine wa_aload_n (n := 0) rfl ?_
                refine wb_gf4 237 rfl (wy_pr rfl) wt_237 wf_15_109 (v := 344) wl_237_109 ?_
                refine wa_aload_n (n := 0) rfl ?_
                refine wb_gfi 237 rfl (wy_pr rfl) wt_237 wf_15_166 (v := 3) (w_up_same _ _ _ _) (fun r919 => ?_)
                refine wa_dup2 (by decide) (by decide) ?_
                refine wb_iald 344 rfl (wy_pr rfl) wt_344 (n := 4) ((w_up_slot (by decide)).trans ((w_up_slot (by decide)).trans ((w_up_slot (by decide)).trans ((w_up_slot (by decide)).trans ((w_up_slot (by decide)).trans ((ml_344 hM))))))) (by omega) (by omega) (v := (S 344 3)) ((w_up_slot (by decide)).trans ((w_up_slot (by decide)).trans ((w_up_slot (by decide)).trans ((w_up_slot (by decide)).trans (w_up_slot (by decide)))))) (fun r920 => ?_)
                refine wa_iconst ?_
                refine wa_iadd ?_
                refine wb_iast 344 rfl (wy_pr rfl) wt_344 (n := 4) ((w_up_slot (by decide)).trans ((w_up_slot (by decide)).trans ((w_up_slot (by decide)).trans ((w_up_slot (by decide)).trans ((w_up_slot (by decide)).trans ((ml_344 hM))))))) (by omega) (by omega) ⟨(by omega), (by omega)⟩ ?_
                refine wa_fall ⟨_, rfl⟩ ?_
                refine wa_aload_n (n := 0) rfl ?_
                refine wb_gfi 237 rfl (wy_pr rfl) wt_237 wf_15_166 (v := 3) ((w_up_slot (by decide)).trans (w_up_same _ _ _ _)) (fun r921 => ?_)
                refine wa_ifne (w_rg0 (by omega) (by omega)) ⟨_, rfl⟩ (fun c922 => ?_) (fun c922 => ?_)
                · skip
                  refine wa_aload_n (n := 0) rfl ?_
                  refine wb_gfi 237 rfl (wy_pr rfl) wt_237 wf_15_166 (v := 3) ((w_up_slot (by decide)).trans (w_up_same _ _ _ _)) (fun r923 => ?_)
                  refine wa_iconst ?_
                  refine wa_icmpne (w_rg0 (by omega) (by omega)) (w_rg0 (by omega) (by omega)) ⟨_, rfl⟩ (fun c924 => ?_) (fun c924 => ?_)
                  · skip
                    exact absurd c924 (by omega)
                  · skip
                    refine wa_aload_n (n := 0) rfl ?_
                    refine wa_iload_n (n := 1) rfl ?_
                    refine wa_iload_n (n := 3) rfl ?_
                    have ec : ct = 1 := by omega
                    have eX : lkX 3 ct S = (w_up (w_up (w_up (w_up (w_up (w_up S 237 169 (-1)) 237 170 (-1)) 237 171 (-1)) 237 172 0) 237 166 3) 344 3 ((S 344 3) + 1)) := by rw [ec]; exact if_neg (by first | decide | omega)
                    refine wa_cv 237 rfl (wy_pr rfl) wt_237 (M2 := fun _ => False) rfl at_M_looksAtRow ⟨_, rfl⟩ rfl rfl ⟨trivial, (Or.inr ⟨wy_pr rfl, fun q => q⟩), trivial, trivial, trivial⟩ trivial (fun _ _ q => False.elim q) ((wJ_mono (by rw [← eX]; exact hcal) (fun o Z hz => (⟨hQ o Z hz, hz⟩ : (o = .inl none ∨ o = .inr 238) ∧ Q o Z)))) (fun oq925 Sq925 hp926 q925 => ?_)
                    rcases q925 with ⟨rfl | rfl, hzq⟩
                    · skip
                      show wJ _ _ _ _ _ _ _ _ _ _
                      refine wa_goto ⟨_, rfl⟩ ?_
                      refine wa_return rfl ?_
                      exact hzq
                    · skip
                      refine ⟨rfl, ?_⟩
                      exact hzq
                · skip
                  exact absurd c922 (by omega)
            · skip
              exact absurd c911 (by omega)
          · skip
            exact absurd c909 (by omega)
        · skip
          exact absurd c907 (by omega)
      · skip
        exact absurd c906 (by omega)
  · skip
    exact absurd c903 (by omega)
theorem rlk1 (hM : w_ML S) (hs : 0 ≤ s ∧ s < 4000) (h04 : S 304 s = kd) (h74 : S 237 174 = gk) (hgk : gk = 7) (hct : ct = 0 ∨ ct = 1) (hak : 0 ≤ S 344 1 ∧ S 344 1 ≤ 1000000) (hcal : wJ (pe_GA xs) wY0 (fun _ => False) (d + 7) t_M_looksAtHost ((pe_at t_M_looksAtHost.bl 0).getD (0, [])).2 [(0, (2, 237)), (1, (0, s)), (2, (0, kd)), (3, (0, ct))] [] (lkX 1 ct S) Q) (hQ : ∀ (o : wO) (Z : wS), Q o Z → o = .inl none ∨ o = .inr 238) : wJ (pe_GA xs) wY0 M (d + 8) t_M_looks ((pe_at t_M_looks.bl 0).getD (0, [])).2 [(0, (2, 237)), (1, (0, s)), (2, (0, ct))] [] S Q := by
  refine wa_aload_n (n := 0) rfl ?_
  refine wa_iconst ?_
  refine wb_pfi 237 rfl (wy_pr rfl) wt_237 wf_15_169 (n := 169) rfl ⟨(by omega), (by omega)⟩ ?_
  refine wa_aload_n (n := 0) rfl ?_
  refine wa_iconst ?_
  refine wb_pfi 237 rfl (wy_pr rfl) wt_237 wf_15_170 (n := 170) rfl ⟨(by omega), (by omega)⟩ ?_
  refine wa_aload_n (n := 0) rfl ?_
  refine wa_iconst ?_
  refine wb_pfi 237 rfl (wy_pr rfl) wt_237 wf_15_171 (n := 171) rfl ⟨(by omega), (by omega)⟩ ?_
  refine wa_aload_n (n := 0) rfl ?_
  refine wa_iconst ?_
  refine wb_pfi 237 rfl (wy_pr rfl) wt_237 wf_15_172 (n := 172) rfl ⟨(by omega), (by omega)⟩ ?_
  refine wa_aload_n (n := 0) rfl ?_
  refine wb_gf4 237 rfl (wy_pr rfl) wt_237 wf_15_49 (v := 304) wl_237_49 ?_
  refine wa_iload_n (n := 1) rfl ?_
  refine wb_iald 304 rfl (wy_pr rfl) wt_304 (n := 4000) ((w_up_slot (by decide)).trans ((w_up_slot (by decide)).trans ((w_up_slot (by decide)).trans ((w_up_slot (by decide)).trans ((ml_304 hM)))))) (by omega) (by omega) (v := kd) ((w_up_slot (by decide)).trans ((w_up_slot (by decide)).trans ((w_up_slot (by decide)).trans ((w_up_slot (by decide)).trans (h04))))) (fun r901 => ?_)
  refine wa_istore_n (n := 3) rfl ?_
  refine wa_aload_n (n := 0) rfl ?_
  refine wb_gfi 237 rfl (wy_pr rfl) wt_237 wf_15_174 (v := gk) ((w_up_at (by decide)).trans ((w_up_at (by decide)).trans ((w_up_at (by decide)).trans ((w_up_at (by decide)).trans (h74))))) (fun r902 => ?_)
  refine wa_iconst ?_
  refine wa_icmpge (w_rg0 (by omega) (by omega)) (w_rg0 (by omega) (by omega)) ⟨_, rfl⟩ (fun c903 => ?_) (fun c903 => ?_)
  · skip
    refine wa_aload_n (n := 0) rfl ?_
    refine wa_aload_n (n := 0) rfl ?_
    refine wa_aload_n (n := 0) rfl ?_
    refine wb_gfi 237 rfl (wy_pr rfl) wt_237 wf_15_174 (v := gk) ((w_up_at (by decide)).trans ((w_up_at (by decide)).trans ((w_up_at (by decide)).trans ((w_up_at (by decide)).trans (h74))))) (fun r904 => ?_)
    refine wa_cv 237 rfl (wy_pr rfl) wt_237 (M2 := fun _ => False) rfl at_M_hasShape ⟨_, rfl⟩ rfl rfl ⟨trivial, (Or.inr ⟨wy_pr rfl, fun q => q⟩), trivial, trivial, trivial⟩ ⟨(Or.inr ⟨wy_pr rfl, fun q => q⟩), trivial⟩ (fun _ _ q => False.elim q) ?_ (fun _ _ _ q => q)
    refine wa_iload_n (n := 1) rfl ?_
    refine wa_iconst ?_
    refine wa_icmpeq (w_rg0 (by omega) (by omega)) (w_rg0 (by omega) (by omega)) ⟨_, rfl⟩ (fun c905 => ?_) (fun c905 => ?_)
    · skip
      exact absurd c905 (by omega)
    · skip
      refine wa_iload_n (n := 1) rfl ?_
      refine wa_iconst ?_
      refine wa_icmpne (w_rg0 (by omega) (by omega)) (w_rg0 (by omega) (by omega)) ⟨_, rfl⟩ (fun c906 => ?_) (fun c906 => ?_)
      · skip
        refine wa_iconst ?_
        refine wa_fall ⟨_, rfl⟩ ?_
        refine wa_zreturn rfl (Or.inl rfl) ?_
        show wJ _ _ _ _ _ _ _ _ _ _
        refine wa_ifeq (w_rg0 (by omega) (by omega)) ⟨_, rfl⟩ (fun c907 => ?_) (fun c907 => ?_)
        · skip
          refine wa_aload_n (n := 0) rfl ?_
          refine wb_gfi 237 rfl (wy_pr rfl) wt_237 wf_15_174 (v := gk) ((w_up_at (by decide)).trans ((w_up_at (by decide)).trans ((w_up_at (by decide)).trans ((w_up_at (by decide)).trans (h74))))) (fun r908 => ?_)
          refine wa_bipush (w_rg2 (by omega) (by omega)) ?_
          refine wa_icmpne (w_rg0 (by omega) (by omega)) (w_rg0 (by omega) (by omega)) ⟨_, rfl⟩ (fun c909 => ?_) (fun c909 => ?_)
          · skip
            exact absurd c909 (by omega)
          · skip
            refine wa_iconst ?_
            refine wa_goto ⟨_, rfl⟩ ?_
            refine wb_pfi 237 rfl (wy_pr rfl) wt_237 wf_15_166 (n := 166) rfl ⟨(by omega), (by omega)⟩ ?_
            refine wa_iload_n (n := 2) rfl ?_
            refine wa_ifeq (w_rg0 (by omega) (by omega)) ⟨_, rfl⟩ (fun c910 => ?_) (fun c910 => ?_)
            · skip
              refine wa_aload_n (n := 0) rfl ?_
              refine wb_gfi 237 rfl (wy_pr rfl) wt_237 wf_15_166 (v := 1) (w_up_same _ _ _ _) (fun r911 => ?_)
              refine wa_ifne (w_rg0 (by omega) (by omega)) ⟨_, rfl⟩ (fun c912 => ?_) (fun c912 => ?_)
              · skip
                refine wa_aload_n (n := 0) rfl ?_
                refine wb_gfi 237 rfl (wy_pr rfl) wt_237 wf_15_166 (v := 1) (w_up_same _ _ _ _) (fun r913 => ?_)
                refine wa_iconst ?_
                refine wa_icmpne (w_rg0 (by omega) (by omega)) (w_rg0 (by omega) (by omega)) ⟨_, rfl⟩ (fun c914 => ?_) (fun c914 => ?_)
                · skip
                  refine wa_aload_n (n := 0) rfl ?_
                  refine wa_iload_n (n := 1) rfl ?_
                  refine wa_iload_n (n := 3) rfl ?_
                  refine wa_iload_n (n := 2) rfl ?_
                  have ec : ct = 0 := by omega
                  have eX : lkX 1 ct S = (w_up (w_up (w_up (w_up (w_up S 237 169 (-1)) 237 170 (-1)) 237 171 (-1)) 237 172 0) 237 166 1) := by rw [ec]; exact if_pos rfl
                  refine wa_cv 237 rfl (wy_pr rfl) wt_237 (M2 := fun _ => False) rfl at_M_looksAtHost ⟨_, rfl⟩ rfl rfl ⟨trivial, (Or.inr ⟨wy_pr rfl, fun q => q⟩), trivial, trivial, trivial⟩ trivial (fun _ _ q => False.elim q) ((wJ_mono (by rw [← eX]; exact hcal) (fun o Z hz => (⟨hQ o Z hz, hz⟩ : (o = .inl none ∨ o = .inr 238) ∧ Q o Z)))) (fun oq915 Sq915 hp916 q915 => ?_)
                  rcases q915 with ⟨rfl | rfl, hzq⟩
                  · skip
                    show wJ _ _ _ _ _ _ _ _ _ _
                    refine wa_fall ⟨_, rfl⟩ ?_
                    refine wa_return rfl ?_
                    exact hzq
                  · skip
                    refine ⟨rfl, ?_⟩
                    exact hzq
                · skip
                  exact absurd c914 (by omega)
              · skip
                exact absurd c912 (by omega)
            · skip
              refine wa_aload_n (n := 0) rfl ?_
              refine wb_gf4 237 rfl (wy_pr rfl) wt_237 wf_15_109 (v := 344) wl_237_109 ?_
              refine wa_aload_n (n := 0) rfl ?_
              refine wb_gfi 237 rfl (wy_pr rfl) wt_237 wf_15_166 (v := 1) (w_up_same _ _ _ _) (fun r917 => ?_)
              refine wa_dup2 (by decide) (by decide) ?_
              refine wb_iald 344 rfl (wy_pr rfl) wt_344 (n := 4) ((w_up_slot (by decide)).trans ((w_up_slot (by decide)).trans ((w_up_slot (by decide)).trans ((w_up_slot (by decide)).trans ((w_up_slot (by decide)).trans ((ml_344 hM))))))) (by omega) (by omega) (v := (S 344 1)) ((w_up_slot (by decide)).trans ((w_up_slot (by decide)).trans ((w_up_slot (by decide)).trans ((w_up_slot (by decide)).trans (w_up_slot (by decide)))))) (fun r918 => ?_)
              refine wa_iconst ?_
              refine wa_iadd ?_
              refine wb_iast 344 rfl (wy_pr rfl) wt_344 (n := 4) ((w_up_slot (by decide)).trans ((w_up_slot (by decide)).trans ((w_up_slot (by decide)).trans ((w_up_slot (by decide)).trans ((w_up_slot (by decide)).trans ((ml_344 hM))))))) (by omega) (by omega) ⟨(by omega), (by omega)⟩ ?_
              refine wa_fall ⟨_, rfl⟩ ?_
              refine wa_aload_n (n := 0) rfl ?_
              refine wb_gfi 237 rfl (wy_pr rfl) wt_237 wf_15_166 (v := 1) ((w_up_slot (by decide)).trans (w_up_same _ _ _ _)) (fun r919 => ?_)
              refine wa_ifne (w_rg0 (by omega) (by omega)) ⟨_, rfl⟩ (fun c920 => ?_) (fun c920 => ?_)
              · skip
                refine wa_aload_n (n := 0) rfl ?_
                refine wb_gfi 237 rfl (wy_pr rfl) wt_237 wf_15_166 (v := 1) ((w_up_slot (by decide)).trans (w_up_same _ _ _ _)) (fun r921 => ?_)
                refine wa_iconst ?_
                refine wa_icmpne (w_rg0 (by omega) (by omega)) (w_rg0 (by omega) (by omega)) ⟨_, rfl⟩ (fun c922 => ?_) (fun c922 => ?_)
                · skip
                  refine wa_aload_n (n := 0) rfl ?_
                  refine wa_iload_n (n := 1) rfl ?_
                  refine wa_iload_n (n := 3) rfl ?_
                  refine wa_iload_n (n := 2) rfl ?_
                  have ec : ct = 1 := by omega
                  have eX : lkX 1 ct S = (w_up (w_up (w_up (w_up (w_up (w_up S 237 169 (-1)) 237 170 (-1)) 237 171 (-1)) 237 172 0) 237 166 1) 344 1 ((S 344 1) + 1)) := by rw [ec]; exact if_neg (by first | decide | omega)
                  refine wa_cv 237 rfl (wy_pr rfl) wt_237 (M2 := fun _ => False) rfl at_M_looksAtHost ⟨_, rfl⟩ rfl rfl ⟨trivial, (Or.inr ⟨wy_pr rfl, fun q => q⟩), trivial, trivial, trivial⟩ trivial (fun _ _ q => False.elim q) ((wJ_mono (by rw [← eX]; exact hcal) (fun o Z hz => (⟨hQ o Z hz, hz⟩ : (o = .inl none ∨ o = .inr 238) ∧ Q o Z)))) (fun oq923 Sq923 hp924 q923 => ?_)
                  rcases q923 with ⟨rfl | rfl, hzq⟩
                  · skip
                    show wJ _ _ _ _ _ _ _ _ _ _
                    refine wa_fall ⟨_, rfl⟩ ?_
                    refine wa_return rfl ?_
                    exact hzq
                  · skip
                    refine ⟨rfl, ?_⟩
                    exact hzq
                · skip
                  exact absurd c922 (by omega)
              · skip
                exact absurd c920 (by omega)
        · skip
          exact absurd c907 (by omega)
      · skip
        exact absurd c906 (by omega)
  · skip
    exact absurd c903 (by omega)
theorem rlk2 (hM : w_ML S) (hs : 0 ≤ s ∧ s < 4000) (h04 : S 304 s = kd) (h74 : S 237 174 = gk) (hgk : gk = 8) (hct : ct = 0 ∨ ct = 1) (hak : 0 ≤ S 344 2 ∧ S 344 2 ≤ 1000000) (hcal : wJ (pe_GA xs) wY0 (fun _ => False) (d + 7) t_M_looksAtHost ((pe_at t_M_looksAtHost.bl 0).getD (0, [])).2 [(0, (2, 237)), (1, (0, s)), (2, (0, kd)), (3, (0, ct))] [] (lkX 2 ct S) Q) (hQ : ∀ (o : wO) (Z : wS), Q o Z → o = .inl none ∨ o = .inr 238) : wJ (pe_GA xs) wY0 M (d + 8) t_M_looks ((pe_at t_M_looks.bl 0).getD (0, [])).2 [(0, (2, 237)), (1, (0, s)), (2, (0, ct))] [] S Q := by
  refine wa_aload_n (n := 0) rfl ?_
  refine wa_iconst ?_
  refine wb_pfi 237 rfl (wy_pr rfl) wt_237 wf_15_169 (n := 169) rfl ⟨(by omega), (by omega)⟩ ?_
  refine wa_aload_n (n := 0) rfl ?_
  refine wa_iconst ?_
  refine wb_pfi 237 rfl (wy_pr rfl) wt_237 wf_15_170 (n := 170) rfl ⟨(by omega), (by omega)⟩ ?_
  refine wa_aload_n (n := 0) rfl ?_
  refine wa_iconst ?_
  refine wb_pfi 237 rfl (wy_pr rfl) wt_237 wf_15_171 (n := 171) rfl ⟨(by omega), (by omega)⟩ ?_
  refine wa_aload_n (n := 0) rfl ?_
  refine wa_iconst ?_
  refine wb_pfi 237 rfl (wy_pr rfl) wt_237 wf_15_172 (n := 172) rfl ⟨(by omega), (by omega)⟩ ?_
  refine wa_aload_n (n := 0) rfl ?_
  refine wb_gf4 237 rfl (wy_pr rfl) wt_237 wf_15_49 (v := 304) wl_237_49 ?_
  refine wa_iload_n (n := 1) rfl ?_
  refine wb_iald 304 rfl (wy_pr rfl) wt_304 (n := 4000) ((w_up_slot (by decide)).trans ((w_up_slot (by decide)).trans ((w_up_slot (by decide)).trans ((w_up_slot (by decide)).trans ((ml_304 hM)))))) (by omega) (by omega) (v := kd) ((w_up_slot (by decide)).trans ((w_up_slot (by decide)).trans ((w_up_slot (by decide)).trans ((w_up_slot (by decide)).trans (h04))))) (fun r901 => ?_)
  refine wa_istore_n (n := 3) rfl ?_
  refine wa_aload_n (n := 0) rfl ?_
  refine wb_gfi 237 rfl (wy_pr rfl) wt_237 wf_15_174 (v := gk) ((w_up_at (by decide)).trans ((w_up_at (by decide)).trans ((w_up_at (by decide)).trans ((w_up_at (by decide)).trans (h74))))) (fun r902 => ?_)
  refine wa_iconst ?_
  refine wa_icmpge (w_rg0 (by omega) (by omega)) (w_rg0 (by omega) (by omega)) ⟨_, rfl⟩ (fun c903 => ?_) (fun c903 => ?_)
  · skip
    refine wa_aload_n (n := 0) rfl ?_
    refine wa_aload_n (n := 0) rfl ?_
    refine wa_aload_n (n := 0) rfl ?_
    refine wb_gfi 237 rfl (wy_pr rfl) wt_237 wf_15_174 (v := gk) ((w_up_at (by decide)).trans ((w_up_at (by decide)).trans ((w_up_at (by decide)).trans ((w_up_at (by decide)).trans (h74))))) (fun r904 => ?_)
    refine wa_cv 237 rfl (wy_pr rfl) wt_237 (M2 := fun _ => False) rfl at_M_hasShape ⟨_, rfl⟩ rfl rfl ⟨trivial, (Or.inr ⟨wy_pr rfl, fun q => q⟩), trivial, trivial, trivial⟩ ⟨(Or.inr ⟨wy_pr rfl, fun q => q⟩), trivial⟩ (fun _ _ q => False.elim q) ?_ (fun _ _ _ q => q)
    refine wa_iload_n (n := 1) rfl ?_
    refine wa_iconst ?_
    refine wa_icmpeq (w_rg0 (by omega) (by omega)) (w_rg0 (by omega) (by omega)) ⟨_, rfl⟩ (fun c905 => ?_) (fun c905 => ?_)
    · skip
      exact absurd c905 (by omega)
    · skip
      refine wa_iload_n (n := 1) rfl ?_
      refine wa_iconst ?_
      refine wa_icmpne (w_rg0 (by omega) (by omega)) (w_rg0 (by omega) (by omega)) ⟨_, rfl⟩ (fun c906 => ?_) (fun c906 => ?_)
      · skip
        refine wa_iconst ?_
        refine wa_fall ⟨_, rfl⟩ ?_
        refine wa_zreturn rfl (Or.inl rfl) ?_
        show wJ _ _ _ _ _ _ _ _ _ _
        refine wa_ifeq (w_rg0 (by omega) (by omega)) ⟨_, rfl⟩ (fun c907 => ?_) (fun c907 => ?_)
        · skip
          refine wa_aload_n (n := 0) rfl ?_
          refine wb_gfi 237 rfl (wy_pr rfl) wt_237 wf_15_174 (v := gk) ((w_up_at (by decide)).trans ((w_up_at (by decide)).trans ((w_up_at (by decide)).trans ((w_up_at (by decide)).trans (h74))))) (fun r908 => ?_)
          refine wa_bipush (w_rg2 (by omega) (by omega)) ?_
          refine wa_icmpne (w_rg0 (by omega) (by omega)) (w_rg0 (by omega) (by omega)) ⟨_, rfl⟩ (fun c909 => ?_) (fun c909 => ?_)
          · skip
            refine wa_aload_n (n := 0) rfl ?_
            refine wb_gfi 237 rfl (wy_pr rfl) wt_237 wf_15_174 (v := gk) ((w_up_at (by decide)).trans ((w_up_at (by decide)).trans ((w_up_at (by decide)).trans ((w_up_at (by decide)).trans (h74))))) (fun r910 => ?_)
            refine wa_bipush (w_rg2 (by omega) (by omega)) ?_
            refine wa_icmpne (w_rg0 (by omega) (by omega)) (w_rg0 (by omega) (by omega)) ⟨_, rfl⟩ (fun c911 => ?_) (fun c911 => ?_)
            · skip
              exact absurd c911 (by omega)
            · skip
              refine wa_iconst ?_
              refine wa_goto ⟨_, rfl⟩ ?_
              refine wb_pfi 237 rfl (wy_pr rfl) wt_237 wf_15_166 (n := 166) rfl ⟨(by omega), (by omega)⟩ ?_
              refine wa_iload_n (n := 2) rfl ?_
              refine wa_ifeq (w_rg0 (by omega) (by omega)) ⟨_, rfl⟩ (fun c912 => ?_) (fun c912 => ?_)
              · skip
                refine wa_aload_n (n := 0) rfl ?_
                refine wb_gfi 237 rfl (wy_pr rfl) wt_237 wf_15_166 (v := 2) (w_up_same _ _ _ _) (fun r913 => ?_)
                refine wa_ifne (w_rg0 (by omega) (by omega)) ⟨_, rfl⟩ (fun c914 => ?_) (fun c914 => ?_)
                · skip
                  refine wa_aload_n (n := 0) rfl ?_
                  refine wb_gfi 237 rfl (wy_pr rfl) wt_237 wf_15_166 (v := 2) (w_up_same _ _ _ _) (fun r915 => ?_)
                  refine wa_iconst ?_
                  refine wa_icmpne (w_rg0 (by omega) (by omega)) (w_rg0 (by omega) (by omega)) ⟨_, rfl⟩ (fun c916 => ?_) (fun c916 => ?_)
                  · skip
                    refine wa_aload_n (n := 0) rfl ?_
                    refine wa_iload_n (n := 1) rfl ?_
                    refine wa_iload_n (n := 3) rfl ?_
                    refine wa_iload_n (n := 2) rfl ?_
                    have ec : ct = 0 := by omega
                    have eX : lkX 2 ct S = (w_up (w_up (w_up (w_up (w_up S 237 169 (-1)) 237 170 (-1)) 237 171 (-1)) 237 172 0) 237 166 2) := by rw [ec]; exact if_pos rfl
                    refine wa_cv 237 rfl (wy_pr rfl) wt_237 (M2 := fun _ => False) rfl at_M_looksAtHost ⟨_, rfl⟩ rfl rfl ⟨trivial, (Or.inr ⟨wy_pr rfl, fun q => q⟩), trivial, trivial, trivial⟩ trivial (fun _ _ q => False.elim q) ((wJ_mono (by rw [← eX]; exact hcal) (fun o Z hz => (⟨hQ o Z hz, hz⟩ : (o = .inl none ∨ o = .inr 238) ∧ Q o Z)))) (fun oq917 Sq917 hp918 q917 => ?_)
                    rcases q917 with ⟨rfl | rfl, hzq⟩
                    · skip
                      show wJ _ _ _ _ _ _ _ _ _ _
                      refine wa_fall ⟨_, rfl⟩ ?_
                      refine wa_return rfl ?_
                      exact hzq
                    · skip
                      refine ⟨rfl, ?_⟩
                      exact hzq
                  · skip
                    exact absurd c916 (by omega)
                · skip
                  exact absurd c914 (by omega)
              · skip
                refine wa_aload_n (n := 0) rfl ?_
                refine wb_gf4 237 rfl (wy_pr rfl) wt_237 wf_15_109 (v := 344) wl_237_109 ?_
                refine wa_aload_n (n := 0) rfl ?_
                refine wb_gfi 237 rfl (wy_pr rfl) wt_237 wf_15_166 (v := 2) (w_up_same _ _ _ _) (fun r919 => ?_)
                refine wa_dup2 (by decide) (by decide) ?_
                refine wb_iald 344 rfl (wy_pr rfl) wt_344 (n := 4) ((w_up_slot (by decide)).trans ((w_up_slot (by decide)).trans ((w_up_slot (by decide)).trans ((w_up_slot (by decide)).trans ((w_up_slot (by decide)).trans ((ml_344 hM))))))) (by omega) (by omega) (v := (S 344 2)) ((w_up_slot (by decide)).trans ((w_up_slot (by decide)).trans ((w_up_slot (by decide)).trans ((w_up_slot (by decide)).trans (w_up_slot (by decide)))))) (fun r920 => ?_)
                refine wa_iconst ?_
                refine wa_iadd ?_
                refine wb_iast 344 rfl (wy_pr rfl) wt_344 (n := 4) ((w_up_slot (by decide)).trans ((w_up_slot (by decide)).trans ((w_up_slot (by decide)).trans ((w_up_slot (by decide)).trans ((w_up_slot (by decide)).trans ((ml_344 hM))))))) (by omega) (by omega) ⟨(by omega), (by omega)⟩ ?_
                refine wa_fall ⟨_, rfl⟩ ?_
                refine wa_aload_n (n := 0) rfl ?_
                refine wb_gfi 237 rfl (wy_pr rfl) wt_237 wf_15_166 (v := 2) ((w_up_slot (by decide)).trans (w_up_same _ _ _ _)) (fun r921 => ?_)
                refine wa_ifne (w_rg0 (by omega) (by omega)) ⟨_, rfl⟩ (fun c922 => ?_) (fun c922 => ?_)
                · skip
                  refine wa_aload_n (n := 0) rfl ?_
                  refine wb_gfi 237 rfl (wy_pr rfl) wt_237 wf_15_166 (v := 2) ((w_up_slot (by decide)).trans (w_up_same _ _ _ _)) (fun r923 => ?_)
                  refine wa_iconst ?_
                  refine wa_icmpne (w_rg0 (by omega) (by omega)) (w_rg0 (by omega) (by omega)) ⟨_, rfl⟩ (fun c924 => ?_) (fun c924 => ?_)
                  · skip
                    refine wa_aload_n (n := 0) rfl ?_
                    refine wa_iload_n (n := 1) rfl ?_
                    refine wa_iload_n (n := 3) rfl ?_
                    refine wa_iload_n (n := 2) rfl ?_
                    have ec : ct = 1 := by omega
                    have eX : lkX 2 ct S = (w_up (w_up (w_up (w_up (w_up (w_up S 237 169 (-1)) 237 170 (-1)) 237 171 (-1)) 237 172 0) 237 166 2) 344 2 ((S 344 2) + 1)) := by rw [ec]; exact if_neg (by first | decide | omega)
                    refine wa_cv 237 rfl (wy_pr rfl) wt_237 (M2 := fun _ => False) rfl at_M_looksAtHost ⟨_, rfl⟩ rfl rfl ⟨trivial, (Or.inr ⟨wy_pr rfl, fun q => q⟩), trivial, trivial, trivial⟩ trivial (fun _ _ q => False.elim q) ((wJ_mono (by rw [← eX]; exact hcal) (fun o Z hz => (⟨hQ o Z hz, hz⟩ : (o = .inl none ∨ o = .inr 238) ∧ Q o Z)))) (fun oq925 Sq925 hp926 q925 => ?_)
                    rcases q925 with ⟨rfl | rfl, hzq⟩
                    · skip
                      show wJ _ _ _ _ _ _ _ _ _ _
                      refine wa_fall ⟨_, rfl⟩ ?_
                      refine wa_return rfl ?_
                      exact hzq
                    · skip
                      refine ⟨rfl, ?_⟩
                      exact hzq
                  · skip
                    exact absurd c924 (by omega)
                · skip
                  exact absurd c922 (by omega)
          · skip
            exact absurd c909 (by omega)
        · skip
          exact absurd c907 (by omega)
      · skip
        exact absurd c906 (by omega)
  · skip
    exact absurd c903 (by omega)
end Wgw
