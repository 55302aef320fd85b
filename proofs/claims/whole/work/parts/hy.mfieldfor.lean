/-! PART hy: the reference: isPrefixed, fieldFor. -/
section Why
variable {xs : List (Nat × List Int32)} {M : Nat → Prop} {d : Nat} {S Z A : wS} {T : Int → Int} {n : Int} {cs : List hCR} {ms : List hMR} {os : Int → List Int} {Q : wO → wS → Prop} {NN : List Int}
/-- a name begins with this, and a capital comes behind it -/
def pxB (pre NN : List Int) : Bool := decide (pre.length < NN.length ∧ (∀ i : Nat, i < pre.length → NN.getD i 0 = pre.getD i 0) ∧ 65 ≤ NN.getD pre.length 0 ∧ NN.getD pre.length 0 ≤ 90)
theorem px_t {pre : List Int} (h : pre.length < NN.length) (h2 : ∀ i : Nat, i < pre.length → NN.getD i 0 = pre.getD i 0) (h3 : 65 ≤ NN.getD pre.length 0 ∧ NN.getD pre.length 0 ≤ 90) : bI (pxB pre NN) = 1 := bI_t (decide_eq_true ⟨h, h2, h3⟩)
theorem px_f {pre : List Int} (h : ¬ (pre.length < NN.length ∧ (∀ i : Nat, i < pre.length → NN.getD i 0 = pre.getD i 0) ∧ 65 ≤ NN.getD pre.length 0 ∧ NN.getD pre.length 0 ≤ 90)) : bI (pxB pre NN) = 0 := bI_f (decide_eq_false h)
theorem nmR_l {r : hMR} (h : r.2.2.2.2.2.2.1 ≤ r.2.2.2.2.2.2.2) : ((nmR T r).length : Int) = r.2.2.2.2.2.2.2 - r.2.2.2.2.2.2.1 := by unfold nmR; rw [sl_len]; omega
theorem nmR_s {r : hMR} {i : Nat} (h : i < (nmR T r).length) : (nmR T r).getD i 0 = T (r.2.2.2.2.2.2.1 + (i : Int)) := by unfold nmR at h ⊢; rw [sl_len] at h; exact sl_get T _ _ h
/-- a method that sets a field, that gives one -/
def sB (ms : List hMR) (NN : List Int) (m : Int) : Bool := pxB [115, 101, 116] NN && decide ((hmR ms m).2.2.2.1 = 0 ∧ (hmR ms m).2.2.2.2.1.length = 1 ∧ (hmR ms m).2.2.2.2.2.1 = 0)
def gB (ms : List hMR) (NN : List Int) (m : Int) : Bool := decide ((hmR ms m).2.2.2.2.1.length = 0) && (pxB [103, 101, 116] NN || (pxB [105, 115] NN && decide ((hmR ms m).2.2.2.1 = 3)))
def skN (NN : List Int) : Nat := if pxB [105, 115] NN = true ∧ pxB [115, 101, 116] NN = false ∧ pxB [103, 101, 116] NN = false then 2 else 3
/-- the field's name -/
def wtN (NN : List Int) (sk : Nat) : List Int := (NN.getD sk 0 + 32) :: NN.drop (sk + 1)
/-- the field that a member is said to fit -/
def ftF (ms : List hMR) (sb : Bool) (m f : Int) : Int := if 0 ≤ f ∧ (hmR ms f).2.2.1 = (hmR ms m).2.2.1 ∧ (hmR ms f).2.2.2.1 = (if sb = true then (hmR ms m).2.2.2.2.1.getD 0 0 else (hmR ms m).2.2.2.1) then f else -1
/-- the field that a method gives or sets, or -1 -/
def ffA (T : Int → Int) (cs : List hCR) (ms : List hMR) (m : Int) : Int := if sB ms (nmR T (hmR ms m)) m = true ∨ gB ms (nmR T (hmR ms m)) m = true then ftF ms (sB ms (nmR T (hmR ms m)) m) m (fdA T cs ms (-1) (wtN (nmR T (hmR ms m)) (skN (nmR T (hmR ms m)))) (hmR ms m).1) else -1
theorem wtN_len {sk : Nat} (h : sk < NN.length) : (wtN NN sk).length = NN.length - sk := by unfold wtN; rw [List.length_cons, List.length_drop]; omega
theorem wtN_0 {sk : Nat} : (wtN NN sk).getD 0 0 = NN.getD sk 0 + 32 := rfl
theorem wtN_s {sk i : Nat} (h : 0 < i) : (wtN NN sk).getD i 0 = NN.getD (sk + i) 0 := by
  obtain ⟨q, rfl⟩ : ∃ q, i = q + 1 := ⟨i - 1, by omega⟩
  unfold wtN
  rw [List.getD_cons_succ, List.getD_eq_getElem?_getD, List.getElem?_drop, ← List.getD_eq_getElem?_getD, show sk + 1 + q = sk + (q + 1) by omega]
theorem sB_t {m : Int} (h : bI (pxB [115, 101, 116] NN) ≠ 0) (h1 : (hmR ms m).2.2.2.1 = 0) (h2 : (hmR ms m).2.2.2.2.1.length = 1) (h3 : (hmR ms m).2.2.2.2.2.1 = 0) : bI (sB ms NN m) = 1 := bI_t (by unfold sB; rw [bI_1 h, decide_eq_true ⟨h1, h2, h3⟩]; rfl)
theorem sB_f {m : Int} (h : bI (pxB [115, 101, 116] NN) = 0 ∨ ¬ ((hmR ms m).2.2.2.1 = 0 ∧ (hmR ms m).2.2.2.2.1.length = 1 ∧ (hmR ms m).2.2.2.2.2.1 = 0)) : bI (sB ms NN m) = 0 := bI_f (by
  unfold sB
  rcases h with h | h
  · rw [bI_0 h]; rfl
  · rw [decide_eq_false h]; exact Bool.and_false _)
theorem gB_t {m : Int} (h1 : (hmR ms m).2.2.2.2.1.length = 0) (h : bI (pxB [103, 101, 116] NN) ≠ 0 ∨ (bI (pxB [105, 115] NN) ≠ 0 ∧ (hmR ms m).2.2.2.1 = 3)) : bI (gB ms NN m) = 1 := bI_t (by
  unfold gB
  rw [decide_eq_true h1]
  rcases h with h | h
  · rw [bI_1 h]; rfl
  · rw [bI_1 h.1, decide_eq_true h.2]; cases pxB [103, 101, 116] NN <;> rfl)
theorem gB_f {m : Int} (h : (hmR ms m).2.2.2.2.1.length ≠ 0 ∨ (bI (pxB [103, 101, 116] NN) = 0 ∧ (bI (pxB [105, 115] NN) = 0 ∨ (hmR ms m).2.2.2.1 ≠ 3))) : bI (gB ms NN m) = 0 := bI_f (by
  unfold gB
  rcases h with h | ⟨h, h2⟩
  · rw [decide_eq_false h]; rfl
  · rw [bI_0 h]
    rcases h2 with h2 | h2
    · rw [bI_0 h2]; exact Bool.and_false _
    · rw [decide_eq_false h2]; cases pxB [105, 115] NN <;> exact Bool.and_false _)
theorem sk_2 (h : bI (pxB [105, 115] NN) ≠ 0) (h2 : bI (pxB [115, 101, 116] NN) = 0) (h3 : bI (pxB [103, 101, 116] NN) = 0) : skN NN = 2 := if_pos ⟨bI_1 h, bI_0 h2, bI_0 h3⟩
theorem sk_3 (h : bI (pxB [105, 115] NN) = 0 ∨ bI (pxB [115, 101, 116] NN) ≠ 0 ∨ bI (pxB [103, 101, 116] NN) ≠ 0) : skN NN = 3 := if_neg (by
  rintro ⟨z1, z2, z3⟩
  have y1 := bI_t z1
  have y2 := bI_f z2
  have y3 := bI_f z3
  omega)
/-- where a method gives or sets a field, its name has a capital there -/
theorem sk_cap {m : Int} (h : sB ms NN m = true ∨ gB ms NN m = true) : skN NN < NN.length ∧ 65 ≤ NN.getD (skN NN) 0 ∧ NN.getD (skN NN) 0 ≤ 90 := by
  have px : ∀ pre : List Int, pxB pre NN = true → pre.length < NN.length ∧ 65 ≤ NN.getD pre.length 0 ∧ NN.getD pre.length 0 ≤ 90 := fun pre z => by
    have y := of_decide_eq_true z
    exact ⟨y.1, y.2.2⟩
  by_cases c : pxB [105, 115] NN = true ∧ pxB [115, 101, 116] NN = false ∧ pxB [103, 101, 116] NN = false
  · rw [show skN NN = 2 from if_pos c]; exact px [105, 115] c.1
  · rw [show skN NN = 3 from if_neg c]
    have h3 : pxB [115, 101, 116] NN = true ∨ pxB [103, 101, 116] NN = true := by
      rcases h with h | h
      · unfold sB at h; rw [Bool.and_eq_true] at h; exact Or.inl h.1
      · unfold gB at h
        rw [Bool.and_eq_true, Bool.or_eq_true, Bool.and_eq_true] at h
        rcases h.2 with z | z
        · exact Or.inr z
        · by_cases c1 : pxB [115, 101, 116] NN = true
          · exact Or.inl c1
          · by_cases c2 : pxB [103, 101, 116] NN = true
            · exact Or.inr c2
            · exact absurd ⟨z.1, by revert c1; cases pxB [115, 101, 116] NN <;> simp, by revert c2; cases pxB [103, 101, 116] NN <;> simp⟩ c
    rcases h3 with h3 | h3
    · exact px [115, 101, 116] h3
    · exact px [103, 101, 116] h3
theorem ftF_p {sb : Bool} {m f : Int} (h : 0 ≤ f) (h1 : (hmR ms f).2.2.1 = (hmR ms m).2.2.1) (h2 : (hmR ms f).2.2.2.1 = (if sb = true then (hmR ms m).2.2.2.2.1.getD 0 0 else (hmR ms m).2.2.2.1)) : ftF ms sb m f = f := if_pos ⟨h, h1, h2⟩
theorem ftF_n {sb : Bool} {m f : Int} (h : ¬ (0 ≤ f ∧ (hmR ms f).2.2.1 = (hmR ms m).2.2.1 ∧ (hmR ms f).2.2.2.1 = (if sb = true then (hmR ms m).2.2.2.2.1.getD 0 0 else (hmR ms m).2.2.2.1))) : ftF ms sb m f = -1 := if_neg h
theorem rip51_241 {m : Int} (hX : w_X xs) (hM : w_ML S) (hK : KR 241 T n cs ms S) (hw : wHo cs ms os) (hm : 0 ≤ m ∧ m < (ms.length : Int)) : wJ (pe_GA xs) wY0 M (d + 5) t_M_isPrefixed ((pe_at t_M_isPrefixed.bl 0).getD (0, [])).2 [(0, (2, 237)), (1, (0, m)), (2, (2, (-10 - ((51 : Nat) : Int))))] [] S (fun z Z => S = Z ∧ z = .inl (some (0, bI (pxB [115, 101, 116] (nmR T (hmR ms m)))))) := by
  have h13 : S 237 13 = 241 := hK.1
  have h400 := hw.1
  have hn6 := hK.2.2.2.2.2.1
  have eM := KR_m hK (m := m) (by omega) (by omega)
  have eW := hw.2.2.2 m (by omega) (by omega)
  have e1 : S 253 m = (hmR ms m).2.1 := eM.1.2.1
  have e2 : S 254 m = (hmR ms m).2.2.1 := eM.1.2.2.1
  have e3 : S 255 m = (hmR ms m).2.2.2.1 := eM.1.2.2.2.1
  have e4 : S 256 m = ((hmR ms m).2.2.2.2.1.length : Int) := eM.2.1.1
  have e5 : S 257 m = (hmR ms m).2.2.2.2.2.1 := eM.2.1.2.1
  have ef : S 259 m = (hmR ms m).2.2.2.2.2.2.1 := eM.1.2.2.2.2.1
  have et : S 260 m = (hmR ms m).2.2.2.2.2.2.2 := eM.1.2.2.2.2.2
  have eq := eW.1.2.1
  have es := eW.1.2.2.1
  have ey := eW.1.2.2.2
  have ev := eW.2.1
  have el := eW.2.2.1
  have eft := hK.2.2.2.2.2.2.1 m (by omega) (by omega)
  obtain ⟨NN, hNN⟩ : ∃ NN : List Int, NN = nmR T (hmR ms m) := ⟨_, rfl⟩
  have hNl : (NN.length : Int) = (hmR ms m).2.2.2.2.2.2.2 - (hmR ms m).2.2.2.2.2.2.1 := by rw [hNN]; exact nmR_l (by omega)
  have hNs : ∀ i : Nat, i < NN.length → S 242 ((hmR ms m).2.2.2.2.2.2.1 + (i : Int)) = NN.getD i 0 := fun i hi => by rw [hNN] at hi ⊢; rw [nmR_s hi]; exact hK.2.2.2.2.1 _ (by omega) (by rw [← hNN] at hi; omega)
  rw [← hNN]
  refine wa_aload_n (n := 0) rfl ?_
  refine wb_gf5 237 rfl (wy_pr rfl) wt_237 wf_15_13 (v := 241) (h13) (fun r1 => ?_)
  refine wb_gf4 241 rfl (wy_pr rfl) wt_241 wf_12_20 (v := 260) wl_241_20 ?_
  refine wa_iload_n (n := 1) rfl ?_
  refine wb_iald 260 rfl (wy_pr rfl) wt_260 (n := 400) ((ml_260 hM)) (by omega) (by omega) (v := (hmR ms m).2.2.2.2.2.2.2) (et) (fun r2 => ?_)
  refine wa_aload_n (n := 0) rfl ?_
  refine wb_gf5 237 rfl (wy_pr rfl) wt_237 wf_15_13 (v := 241) (h13) (fun r3 => ?_)
  refine wb_gf4 241 rfl (wy_pr rfl) wt_241 wf_12_19 (v := 259) wl_241_19 ?_
  refine wa_iload_n (n := 1) rfl ?_
  refine wb_iald 259 rfl (wy_pr rfl) wt_259 (n := 400) ((ml_259 hM)) (by omega) (by omega) (v := (hmR ms m).2.2.2.2.2.2.1) (ef) (fun r4 => ?_)
  refine wa_isub ?_
  refine wa_istore_n (n := 3) rfl ?_
  refine wa_iload_n (n := 3) rfl ?_
  refine wa_aload_n (n := 2) rfl ?_
  refine wa_sl 51 rfl (wx_51 hX) rfl rfl ?_
  refine wJ_top (show (tx_51.length : Int) = 3 by decide) ?_
  refine wa_icmpgt (w_rg0 (by omega) (by omega)) (w_rg0 (by omega) (by omega)) ⟨_, rfl⟩ (fun c5 => ?_) (fun c5 => ?_)
  · skip
    have hs0 : S 242 ((hmR ms m).2.2.2.2.2.2.1 + 0) = NN.getD 0 0 := hNs 0 (by omega)
    have hs1 : S 242 ((hmR ms m).2.2.2.2.2.2.1 + 1) = NN.getD 1 0 := hNs 1 (by omega)
    have hs2 : S 242 ((hmR ms m).2.2.2.2.2.2.1 + 2) = NN.getD 2 0 := hNs 2 (by omega)
    have hs3 : S 242 ((hmR ms m).2.2.2.2.2.2.1 + 3) = NN.getD 3 0 := hNs 3 (by omega)
    refine wa_iconst ?_
    refine wa_istore (n := 4) rfl ?_
    refine wa_fall ⟨_, rfl⟩ ?_
    refine wJ_S (L2 := [(0, (2, 237)), (1, (0, m)), (2, (2, (-10 - ((51 : Nat) : Int)))), (3, (0, ((hmR ms m).2.2.2.2.2.2.2 - (hmR ms m).2.2.2.2.2.2.1))), (4, (0, 0))]) ?_ ⟨rfl, rfl, rfl, rfl, rfl, trivial⟩
    refine wa_iload (n := 4) rfl ?_
    refine wa_aload_n (n := 2) rfl ?_
    refine wa_sl 51 rfl (wx_51 hX) rfl rfl ?_
    refine wJ_top (show (tx_51.length : Int) = 3 by decide) ?_
    refine wa_icmpge (w_rg0 (by omega) (by omega)) (w_rg0 (by omega) (by omega)) ⟨_, rfl⟩ (fun c6 => ?_) (fun c6 => ?_)
    · skip
      exact absurd c6 (by omega)
    · skip
      refine wa_aload_n (n := 0) rfl ?_
      refine wb_gf5 237 rfl (wy_pr rfl) wt_237 wf_15_13 (v := 241) (h13) (fun r7 => ?_)
      refine wb_gf4 241 rfl (wy_pr rfl) wt_241 wf_12_0 (v := 242) wl_241_0 ?_
      refine wa_aload_n (n := 0) rfl ?_
      refine wb_gf5 237 rfl (wy_pr rfl) wt_237 wf_15_13 (v := 241) (h13) (fun r8 => ?_)
      refine wb_gf4 241 rfl (wy_pr rfl) wt_241 wf_12_19 (v := 259) wl_241_19 ?_
      refine wa_iload_n (n := 1) rfl ?_
      refine wb_iald 259 rfl (wy_pr rfl) wt_259 (n := 400) ((ml_259 hM)) (by omega) (by omega) (v := (hmR ms m).2.2.2.2.2.2.1) (ef) (fun r9 => ?_)
      refine wa_iload (n := 4) rfl ?_
      refine wa_iadd ?_
      refine wb_bald 242 rfl (wy_pr rfl) wt_242 (n := 65536) ((ml_242 hM)) (by omega) (by omega) (v := (NN.getD 0 0)) (hs0) (fun r10 => ?_)
      refine wa_aload_n (n := 2) rfl ?_
      refine wa_iload (n := 4) rfl ?_
      refine wa_sc 51 rfl (wx_51 hX) (by first | decide | omega) rfl rfl (by first | decide | omega) (by first | decide | omega) ?_
      refine wJ_top (show (w_tx tx_51 0) = 115 by decide) ?_
      refine wa_icmpeq (w_rg0 (by omega) (by omega)) (w_rg0 (by omega) (by omega)) ⟨_, rfl⟩ (fun c11 => ?_) (fun c11 => ?_)
      · skip
        refine wa_iinc rfl rfl ?_
        refine wa_goto ⟨_, rfl⟩ ?_
        refine wJ_S (L2 := [(0, (2, 237)), (1, (0, m)), (2, (2, (-10 - ((51 : Nat) : Int)))), (3, (0, ((hmR ms m).2.2.2.2.2.2.2 - (hmR ms m).2.2.2.2.2.2.1))), (4, (0, 1))]) ?_ ⟨rfl, rfl, rfl, rfl, rfl, trivial⟩
        refine wa_iload (n := 4) rfl ?_
        refine wa_aload_n (n := 2) rfl ?_
        refine wa_sl 51 rfl (wx_51 hX) rfl rfl ?_
        refine wJ_top (show (tx_51.length : Int) = 3 by decide) ?_
        refine wa_icmpge (w_rg0 (by omega) (by omega)) (w_rg0 (by omega) (by omega)) ⟨_, rfl⟩ (fun c12 => ?_) (fun c12 => ?_)
        · skip
          exact absurd c12 (by omega)
        · skip
          refine wa_aload_n (n := 0) rfl ?_
          refine wb_gf5 237 rfl (wy_pr rfl) wt_237 wf_15_13 (v := 241) (h13) (fun r13 => ?_)
          refine wb_gf4 241 rfl (wy_pr rfl) wt_241 wf_12_0 (v := 242) wl_241_0 ?_
          refine wa_aload_n (n := 0) rfl ?_
          refine wb_gf5 237 rfl (wy_pr rfl) wt_237 wf_15_13 (v := 241) (h13) (fun r14 => ?_)
          refine wb_gf4 241 rfl (wy_pr rfl) wt_241 wf_12_19 (v := 259) wl_241_19 ?_
          refine wa_iload_n (n := 1) rfl ?_
          refine wb_iald 259 rfl (wy_pr rfl) wt_259 (n := 400) ((ml_259 hM)) (by omega) (by omega) (v := (hmR ms m).2.2.2.2.2.2.1) (ef) (fun r15 => ?_)
          refine wa_iload (n := 4) rfl ?_
          refine wa_iadd ?_
          refine wb_bald 242 rfl (wy_pr rfl) wt_242 (n := 65536) ((ml_242 hM)) (by omega) (by omega) (v := (NN.getD 1 0)) (hs1) (fun r16 => ?_)
          refine wa_aload_n (n := 2) rfl ?_
          refine wa_iload (n := 4) rfl ?_
          refine wa_sc 51 rfl (wx_51 hX) (by first | decide | omega) rfl rfl (by first | decide | omega) (by first | decide | omega) ?_
          refine wJ_top (show (w_tx tx_51 1) = 101 by decide) ?_
          refine wa_icmpeq (w_rg0 (by omega) (by omega)) (w_rg0 (by omega) (by omega)) ⟨_, rfl⟩ (fun c17 => ?_) (fun c17 => ?_)
          · skip
            refine wa_iinc rfl rfl ?_
            refine wa_goto ⟨_, rfl⟩ ?_
            refine wJ_S (L2 := [(0, (2, 237)), (1, (0, m)), (2, (2, (-10 - ((51 : Nat) : Int)))), (3, (0, ((hmR ms m).2.2.2.2.2.2.2 - (hmR ms m).2.2.2.2.2.2.1))), (4, (0, 2))]) ?_ ⟨rfl, rfl, rfl, rfl, rfl, trivial⟩
            refine wa_iload (n := 4) rfl ?_
            refine wa_aload_n (n := 2) rfl ?_
            refine wa_sl 51 rfl (wx_51 hX) rfl rfl ?_
            refine wJ_top (show (tx_51.length : Int) = 3 by decide) ?_
            refine wa_icmpge (w_rg0 (by omega) (by omega)) (w_rg0 (by omega) (by omega)) ⟨_, rfl⟩ (fun c18 => ?_) (fun c18 => ?_)
            · skip
              exact absurd c18 (by omega)
            · skip
              refine wa_aload_n (n := 0) rfl ?_
              refine wb_gf5 237 rfl (wy_pr rfl) wt_237 wf_15_13 (v := 241) (h13) (fun r19 => ?_)
              refine wb_gf4 241 rfl (wy_pr rfl) wt_241 wf_12_0 (v := 242) wl_241_0 ?_
              refine wa_aload_n (n := 0) rfl ?_
              refine wb_gf5 237 rfl (wy_pr rfl) wt_237 wf_15_13 (v := 241) (h13) (fun r20 => ?_)
              refine wb_gf4 241 rfl (wy_pr rfl) wt_241 wf_12_19 (v := 259) wl_241_19 ?_
              refine wa_iload_n (n := 1) rfl ?_
              refine wb_iald 259 rfl (wy_pr rfl) wt_259 (n := 400) ((ml_259 hM)) (by omega) (by omega) (v := (hmR ms m).2.2.2.2.2.2.1) (ef) (fun r21 => ?_)
              refine wa_iload (n := 4) rfl ?_
              refine wa_iadd ?_
              refine wb_bald 242 rfl (wy_pr rfl) wt_242 (n := 65536) ((ml_242 hM)) (by omega) (by omega) (v := (NN.getD 2 0)) (hs2) (fun r22 => ?_)
              refine wa_aload_n (n := 2) rfl ?_
              refine wa_iload (n := 4) rfl ?_
              refine wa_sc 51 rfl (wx_51 hX) (by first | decide | omega) rfl rfl (by first | decide | omega) (by first | decide | omega) ?_
              refine wJ_top (show (w_tx tx_51 2) = 116 by decide) ?_
              refine wa_icmpeq (w_rg0 (by omega) (by omega)) (w_rg0 (by omega) (by omega)) ⟨_, rfl⟩ (fun c23 => ?_) (fun c23 => ?_)
              · skip
                refine wa_iinc rfl rfl ?_
                refine wa_goto ⟨_, rfl⟩ ?_
                refine wJ_S (L2 := [(0, (2, 237)), (1, (0, m)), (2, (2, (-10 - ((51 : Nat) : Int)))), (3, (0, ((hmR ms m).2.2.2.2.2.2.2 - (hmR ms m).2.2.2.2.2.2.1))), (4, (0, 3))]) ?_ ⟨rfl, rfl, rfl, rfl, rfl, trivial⟩
                refine wa_iload (n := 4) rfl ?_
                refine wa_aload_n (n := 2) rfl ?_
                refine wa_sl 51 rfl (wx_51 hX) rfl rfl ?_
                refine wJ_top (show (tx_51.length : Int) = 3 by decide) ?_
                refine wa_icmpge (w_rg0 (by omega) (by omega)) (w_rg0 (by omega) (by omega)) ⟨_, rfl⟩ (fun c24 => ?_) (fun c24 => ?_)
                · skip
                  refine wa_aload_n (n := 0) rfl ?_
                  refine wb_gf5 237 rfl (wy_pr rfl) wt_237 wf_15_13 (v := 241) (h13) (fun r25 => ?_)
                  refine wb_gf4 241 rfl (wy_pr rfl) wt_241 wf_12_0 (v := 242) wl_241_0 ?_
                  refine wa_aload_n (n := 0) rfl ?_
                  refine wb_gf5 237 rfl (wy_pr rfl) wt_237 wf_15_13 (v := 241) (h13) (fun r26 => ?_)
                  refine wb_gf4 241 rfl (wy_pr rfl) wt_241 wf_12_19 (v := 259) wl_241_19 ?_
                  refine wa_iload_n (n := 1) rfl ?_
                  refine wb_iald 259 rfl (wy_pr rfl) wt_259 (n := 400) ((ml_259 hM)) (by omega) (by omega) (v := (hmR ms m).2.2.2.2.2.2.1) (ef) (fun r27 => ?_)
                  refine wa_aload_n (n := 2) rfl ?_
                  refine wa_sl 51 rfl (wx_51 hX) rfl rfl ?_
                  refine wJ_top (show (tx_51.length : Int) = 3 by decide) ?_
                  refine wa_iadd ?_
                  refine wb_bald 242 rfl (wy_pr rfl) wt_242 (n := 65536) ((ml_242 hM)) (by omega) (by omega) (v := (NN.getD 3 0)) (hs3) (fun r28 => ?_)
                  refine wa_i2l (w_rg0 (by omega) (by omega)) ?_
                  refine wb_kl (n := 65) rfl ?_
                  refine wb_kl (n := 90) rfl ?_
                  refine wa_cs (M2 := fun _ => False) rfl at_M_in ⟨_, rfl⟩ rfl rfl ⟨(Or.inr ⟨wy_pr rfl, fun q => q⟩), trivial, (Or.inl (by omega)), trivial, trivial, trivial⟩ trivial (fun _ _ q => False.elim q) (in_ok (S := S) (a := (NN.getD 3 0)) (lo := 65) (hi := 90) ⟨by omega, by omega⟩ ⟨by omega, by omega⟩ ⟨by omega, by omega⟩) (fun oq30 Sq30 hp31 q30 => ?_)
                  rcases q30 with ⟨rfl, ⟨rfl, hin29⟩ | ⟨rfl, hin29⟩⟩
                  · skip
                    show wJ _ _ _ _ _ _ _ _ _ _
                    refine wa_zreturn rfl (Or.inr rfl) ?_
                    refine ⟨rfl, congrArg (fun z => Sum.inl (some (0, z))) ?_⟩
                    refine (px_t (by show 3 < NN.length; omega) (fun i hi => ?_) ⟨by show 65 ≤ NN.getD 3 0; omega, by show NN.getD 3 0 ≤ 90; omega⟩).symm
                    replace hi : i < 3 := hi
                    rcases (show i = 0 ∨ i = 1 ∨ i = 2 by omega) with e | e | e
                    · rw [e]; show NN.getD 0 0 = 115; omega
                    · rw [e]; show NN.getD 1 0 = 101; omega
                    · rw [e]; show NN.getD 2 0 = 116; omega
                  · skip
                    show wJ _ _ _ _ _ _ _ _ _ _
                    refine wa_zreturn rfl (Or.inl rfl) ?_
                    refine ⟨rfl, congrArg (fun z => Sum.inl (some (0, z))) ?_⟩
                    refine (px_f (fun z => ?_)).symm
                    have z1 : 3 < NN.length := z.1
                    have y0 : NN.getD 0 0 = 115 := z.2.1 0 (by first | decide | omega)
                    have y1 : NN.getD 1 0 = 101 := z.2.1 1 (by first | decide | omega)
                    have y2 : NN.getD 2 0 = 116 := z.2.1 2 (by first | decide | omega)
                    have z3 : 65 ≤ NN.getD 3 0 ∧ NN.getD 3 0 ≤ 90 := z.2.2
                    omega
                · skip
                  exact absurd c24 (by omega)
              · skip
                refine wa_iconst ?_
                refine wa_zreturn rfl (Or.inl rfl) ?_
                refine ⟨rfl, congrArg (fun z => Sum.inl (some (0, z))) ?_⟩
                refine (px_f (fun z => ?_)).symm
                have z1 : 3 < NN.length := z.1
                have y0 : NN.getD 0 0 = 115 := z.2.1 0 (by first | decide | omega)
                have y1 : NN.getD 1 0 = 101 := z.2.1 1 (by first | decide | omega)
                have y2 : NN.getD 2 0 = 116 := z.2.1 2 (by first | decide | omega)
                have z3 : 65 ≤ NN.getD 3 0 ∧ NN.getD 3 0 ≤ 90 := z.2.2
                omega
          · skip
            refine wa_iconst ?_
            refine wa_zreturn rfl (Or.inl rfl) ?_
            refine ⟨rfl, congrArg (fun z => Sum.inl (some (0, z))) ?_⟩
            refine (px_f (fun z => ?_)).symm
            have z1 : 3 < NN.length := z.1
            have y0 : NN.getD 0 0 = 115 := z.2.1 0 (by first | decide | omega)
            have y1 : NN.getD 1 0 = 101 := z.2.1 1 (by first | decide | omega)
            have y2 : NN.getD 2 0 = 116 := z.2.1 2 (by first | decide | omega)
            have z3 : 65 ≤ NN.getD 3 0 ∧ NN.getD 3 0 ≤ 90 := z.2.2
            omega
      · skip
        refine wa_iconst ?_
        refine wa_zreturn rfl (Or.inl rfl) ?_
        refine ⟨rfl, congrArg (fun z => Sum.inl (some (0, z))) ?_⟩
        refine (px_f (fun z => ?_)).symm
        have z1 : 3 < NN.length := z.1
        have y0 : NN.getD 0 0 = 115 := z.2.1 0 (by first | decide | omega)
        have y1 : NN.getD 1 0 = 101 := z.2.1 1 (by first | decide | omega)
        have y2 : NN.getD 2 0 = 116 := z.2.1 2 (by first | decide | omega)
        have z3 : 65 ≤ NN.getD 3 0 ∧ NN.getD 3 0 ≤ 90 := z.2.2
        omega
  · skip
    refine wa_iconst ?_
    refine wa_zreturn rfl (Or.inl rfl) ?_
    refine ⟨rfl, congrArg (fun z => Sum.inl (some (0, z))) ?_⟩
    refine (px_f (fun z => ?_)).symm
    have z1 : 3 < NN.length := z.1
    have y0 : NN.getD 0 0 = 115 := z.2.1 0 (by first | decide | omega)
    have y1 : NN.getD 1 0 = 101 := z.2.1 1 (by first | decide | omega)
    have y2 : NN.getD 2 0 = 116 := z.2.1 2 (by first | decide | omega)
    have z3 : 65 ≤ NN.getD 3 0 ∧ NN.getD 3 0 ≤ 90 := z.2.2
    omega
theorem rip81_241 {m : Int} (hX : w_X xs) (hM : w_ML S) (hK : KR 241 T n cs ms S) (hw : wHo cs ms os) (hm : 0 ≤ m ∧ m < (ms.length : Int)) : wJ (pe_GA xs) wY0 M (d + 5) t_M_isPrefixed ((pe_at t_M_isPrefixed.bl 0).getD (0, [])).2 [(0, (2, 237)), (1, (0, m)), (2, (2, (-10 - ((81 : Nat) : Int))))] [] S (fun z Z => S = Z ∧ z = .inl (some (0, bI (pxB [103, 101, 116] (nmR T (hmR ms m)))))) := by
  have h13 : S 237 13 = 241 := hK.1
  have h400 := hw.1
  have hn6 := hK.2.2.2.2.2.1
  have eM := KR_m hK (m := m) (by omega) (by omega)
  have eW := hw.2.2.2 m (by omega) (by omega)
  have e1 : S 253 m = (hmR ms m).2.1 := eM.1.2.1
  have e2 : S 254 m = (hmR ms m).2.2.1 := eM.1.2.2.1
  have e3 : S 255 m = (hmR ms m).2.2.2.1 := eM.1.2.2.2.1
  have e4 : S 256 m = ((hmR ms m).2.2.2.2.1.length : Int) := eM.2.1.1
  have e5 : S 257 m = (hmR ms m).2.2.2.2.2.1 := eM.2.1.2.1
  have ef : S 259 m = (hmR ms m).2.2.2.2.2.2.1 := eM.1.2.2.2.2.1
  have et : S 260 m = (hmR ms m).2.2.2.2.2.2.2 := eM.1.2.2.2.2.2
  have eq := eW.1.2.1
  have es := eW.1.2.2.1
  have ey := eW.1.2.2.2
  have ev := eW.2.1
  have el := eW.2.2.1
  have eft := hK.2.2.2.2.2.2.1 m (by omega) (by omega)
  obtain ⟨NN, hNN⟩ : ∃ NN : List Int, NN = nmR T (hmR ms m) := ⟨_, rfl⟩
  have hNl : (NN.length : Int) = (hmR ms m).2.2.2.2.2.2.2 - (hmR ms m).2.2.2.2.2.2.1 := by rw [hNN]; exact nmR_l (by omega)
  have hNs : ∀ i : Nat, i < NN.length → S 242 ((hmR ms m).2.2.2.2.2.2.1 + (i : Int)) = NN.getD i 0 := fun i hi => by rw [hNN] at hi ⊢; rw [nmR_s hi]; exact hK.2.2.2.2.1 _ (by omega) (by rw [← hNN] at hi; omega)
  rw [← hNN]
  refine wa_aload_n (n := 0) rfl ?_
  refine wb_gf5 237 rfl (wy_pr rfl) wt_237 wf_15_13 (v := 241) (h13) (fun r1 => ?_)
  refine wb_gf4 241 rfl (wy_pr rfl) wt_241 wf_12_20 (v := 260) wl_241_20 ?_
  refine wa_iload_n (n := 1) rfl ?_
  refine wb_iald 260 rfl (wy_pr rfl) wt_260 (n := 400) ((ml_260 hM)) (by omega) (by omega) (v := (hmR ms m).2.2.2.2.2.2.2) (et) (fun r2 => ?_)
  refine wa_aload_n (n := 0) rfl ?_
  refine wb_gf5 237 rfl (wy_pr rfl) wt_237 wf_15_13 (v := 241) (h13) (fun r3 => ?_)
  refine wb_gf4 241 rfl (wy_pr rfl) wt_241 wf_12_19 (v := 259) wl_241_19 ?_
  refine wa_iload_n (n := 1) rfl ?_
  refine wb_iald 259 rfl (wy_pr rfl) wt_259 (n := 400) ((ml_259 hM)) (by omega) (by omega) (v := (hmR ms m).2.2.2.2.2.2.1) (ef) (fun r4 => ?_)
  refine wa_isub ?_
  refine wa_istore_n (n := 3) rfl ?_
  refine wa_iload_n (n := 3) rfl ?_
  refine wa_aload_n (n := 2) rfl ?_
  refine wa_sl 81 rfl (wx_81 hX) rfl rfl ?_
  refine wJ_top (show (tx_81.length : Int) = 3 by decide) ?_
  refine wa_icmpgt (w_rg0 (by omega) (by omega)) (w_rg0 (by omega) (by omega)) ⟨_, rfl⟩ (fun c5 => ?_) (fun c5 => ?_)
  · skip
    have hs0 : S 242 ((hmR ms m).2.2.2.2.2.2.1 + 0) = NN.getD 0 0 := hNs 0 (by omega)
    have hs1 : S 242 ((hmR ms m).2.2.2.2.2.2.1 + 1) = NN.getD 1 0 := hNs 1 (by omega)
    have hs2 : S 242 ((hmR ms m).2.2.2.2.2.2.1 + 2) = NN.getD 2 0 := hNs 2 (by omega)
    have hs3 : S 242 ((hmR ms m).2.2.2.2.2.2.1 + 3) = NN.getD 3 0 := hNs 3 (by omega)
    refine wa_iconst ?_
    refine wa_istore (n := 4) rfl ?_
    refine wa_fall ⟨_, rfl⟩ ?_
    refine wJ_S (L2 := [(0, (2, 237)), (1, (0, m)), (2, (2, (-10 - ((81 : Nat) : Int)))), (3, (0, ((hmR ms m).2.2.2.2.2.2.2 - (hmR ms m).2.2.2.2.2.2.1))), (4, (0, 0))]) ?_ ⟨rfl, rfl, rfl, rfl, rfl, trivial⟩
    refine wa_iload (n := 4) rfl ?_
    refine wa_aload_n (n := 2) rfl ?_
    refine wa_sl 81 rfl (wx_81 hX) rfl rfl ?_
    refine wJ_top (show (tx_81.length : Int) = 3 by decide) ?_
    refine wa_icmpge (w_rg0 (by omega) (by omega)) (w_rg0 (by omega) (by omega)) ⟨_, rfl⟩ (fun c6 => ?_) (fun c6 => ?_)
    · skip
      exact absurd c6 (by omega)
    · skip
      refine wa_aload_n (n := 0) rfl ?_
      refine wb_gf5 237 rfl (wy_pr rfl) wt_237 wf_15_13 (v := 241) (h13) (fun r7 => ?_)
      refine wb_gf4 241 rfl (wy_pr rfl) wt_241 wf_12_0 (v := 242) wl_241_0 ?_
      refine wa_aload_n (n := 0) rfl ?_
      refine wb_gf5 237 rfl (wy_pr rfl) wt_237 wf_15_13 (v := 241) (h13) (fun r8 => ?_)
      refine wb_gf4 241 rfl (wy_pr rfl) wt_241 wf_12_19 (v := 259) wl_241_19 ?_
      refine wa_iload_n (n := 1) rfl ?_
      refine wb_iald 259 rfl (wy_pr rfl) wt_259 (n := 400) ((ml_259 hM)) (by omega) (by omega) (v := (hmR ms m).2.2.2.2.2.2.1) (ef) (fun r9 => ?_)
      refine wa_iload (n := 4) rfl ?_
      refine wa_iadd ?_
      refine wb_bald 242 rfl (wy_pr rfl) wt_242 (n := 65536) ((ml_242 hM)) (by omega) (by omega) (v := (NN.getD 0 0)) (hs0) (fun r10 => ?_)
      refine wa_aload_n (n := 2) rfl ?_
      refine wa_iload (n := 4) rfl ?_
      refine wa_sc 81 rfl (wx_81 hX) (by first | decide | omega) rfl rfl (by first | decide | omega) (by first | decide | omega) ?_
      refine wJ_top (show (w_tx tx_81 0) = 103 by decide) ?_
      refine wa_icmpeq (w_rg0 (by omega) (by omega)) (w_rg0 (by omega) (by omega)) ⟨_, rfl⟩ (fun c11 => ?_) (fun c11 => ?_)
      · skip
        refine wa_iinc rfl rfl ?_
        refine wa_goto ⟨_, rfl⟩ ?_
        refine wJ_S (L2 := [(0, (2, 237)), (1, (0, m)), (2, (2, (-10 - ((81 : Nat) : Int)))), (3, (0, ((hmR ms m).2.2.2.2.2.2.2 - (hmR ms m).2.2.2.2.2.2.1))), (4, (0, 1))]) ?_ ⟨rfl, rfl, rfl, rfl, rfl, trivial⟩
        refine wa_iload (n := 4) rfl ?_
        refine wa_aload_n (n := 2) rfl ?_
        refine wa_sl 81 rfl (wx_81 hX) rfl rfl ?_
        refine wJ_top (show (tx_81.length : Int) = 3 by decide) ?_
        refine wa_icmpge (w_rg0 (by omega) (by omega)) (w_rg0 (by omega) (by omega)) ⟨_, rfl⟩ (fun c12 => ?_) (fun c12 => ?_)
        · skip
          exact absurd c12 (by omega)
        · skip
          refine wa_aload_n (n := 0) rfl ?_
          refine wb_gf5 237 rfl (wy_pr rfl) wt_237 wf_15_13 (v := 241) (h13) (fun r13 => ?_)
          refine wb_gf4 241 rfl (wy_pr rfl) wt_241 wf_12_0 (v := 242) wl_241_0 ?_
          refine wa_aload_n (n := 0) rfl ?_
          refine wb_gf5 237 rfl (wy_pr rfl) wt_237 wf_15_13 (v := 241) (h13) (fun r14 => ?_)
          refine wb_gf4 241 rfl (wy_pr rfl) wt_241 wf_12_19 (v := 259) wl_241_19 ?_
          refine wa_iload_n (n := 1) rfl ?_
          refine wb_iald 259 rfl (wy_pr rfl) wt_259 (n := 400) ((ml_259 hM)) (by omega) (by omega) (v := (hmR ms m).2.2.2.2.2.2.1) (ef) (fun r15 => ?_)
          refine wa_iload (n := 4) rfl ?_
          refine wa_iadd ?_
          refine wb_bald 242 rfl (wy_pr rfl) wt_242 (n := 65536) ((ml_242 hM)) (by omega) (by omega) (v := (NN.getD 1 0)) (hs1) (fun r16 => ?_)
          refine wa_aload_n (n := 2) rfl ?_
          refine wa_iload (n := 4) rfl ?_
          refine wa_sc 81 rfl (wx_81 hX) (by first | decide | omega) rfl rfl (by first | decide | omega) (by first | decide | omega) ?_
          refine wJ_top (show (w_tx tx_81 1) = 101 by decide) ?_
          refine wa_icmpeq (w_rg0 (by omega) (by omega)) (w_rg0 (by omega) (by omega)) ⟨_, rfl⟩ (fun c17 => ?_) (fun c17 => ?_)
          · skip
            refine wa_iinc rfl rfl ?_
            refine wa_goto ⟨_, rfl⟩ ?_
            refine wJ_S (L2 := [(0, (2, 237)), (1, (0, m)), (2, (2, (-10 - ((81 : Nat) : Int)))), (3, (0, ((hmR ms m).2.2.2.2.2.2.2 - (hmR ms m).2.2.2.2.2.2.1))), (4, (0, 2))]) ?_ ⟨rfl, rfl, rfl, rfl, rfl, trivial⟩
            refine wa_iload (n := 4) rfl ?_
            refine wa_aload_n (n := 2) rfl ?_
            refine wa_sl 81 rfl (wx_81 hX) rfl rfl ?_
            refine wJ_top (show (tx_81.length : Int) = 3 by decide) ?_
            refine wa_icmpge (w_rg0 (by omega) (by omega)) (w_rg0 (by omega) (by omega)) ⟨_, rfl⟩ (fun c18 => ?_) (fun c18 => ?_)
            · skip
              exact absurd c18 (by omega)
            · skip
              refine wa_aload_n (n := 0) rfl ?_
              refine wb_gf5 237 rfl (wy_pr rfl) wt_237 wf_15_13 (v := 241) (h13) (fun r19 => ?_)
              refine wb_gf4 241 rfl (wy_pr rfl) wt_241 wf_12_0 (v := 242) wl_241_0 ?_
              refine wa_aload_n (n := 0) rfl ?_
              refine wb_gf5 237 rfl (wy_pr rfl) wt_237 wf_15_13 (v := 241) (h13) (fun r20 => ?_)
              refine wb_gf4 241 rfl (wy_pr rfl) wt_241 wf_12_19 (v := 259) wl_241_19 ?_
              refine wa_iload_n (n := 1) rfl ?_
              refine wb_iald 259 rfl (wy_pr rfl) wt_259 (n := 400) ((ml_259 hM)) (by omega) (by omega) (v := (hmR ms m).2.2.2.2.2.2.1) (ef) (fun r21 => ?_)
              refine wa_iload (n := 4) rfl ?_
              refine wa_iadd ?_
              refine wb_bald 242 rfl (wy_pr rfl) wt_242 (n := 65536) ((ml_242 hM)) (by omega) (by omega) (v := (NN.getD 2 0)) (hs2) (fun r22 => ?_)
              refine wa_aload_n (n := 2) rfl ?_
              refine wa_iload (n := 4) rfl ?_
              refine wa_sc 81 rfl (wx_81 hX) (by first | decide | omega) rfl rfl (by first | decide | omega) (by first | decide | omega) ?_
              refine wJ_top (show (w_tx tx_81 2) = 116 by decide) ?_
              refine wa_icmpeq (w_rg0 (by omega) (by omega)) (w_rg0 (by omega) (by omega)) ⟨_, rfl⟩ (fun c23 => ?_) (fun c23 => ?_)
              · skip
                refine wa_iinc rfl rfl ?_
                refine wa_goto ⟨_, rfl⟩ ?_
                refine wJ_S (L2 := [(0, (2, 237)), (1, (0, m)), (2, (2, (-10 - ((81 : Nat) : Int)))), (3, (0, ((hmR ms m).2.2.2.2.2.2.2 - (hmR ms m).2.2.2.2.2.2.1))), (4, (0, 3))]) ?_ ⟨rfl, rfl, rfl, rfl, rfl, trivial⟩
                refine wa_iload (n := 4) rfl ?_
                refine wa_aload_n (n := 2) rfl ?_
                refine wa_sl 81 rfl (wx_81 hX) rfl rfl ?_
                refine wJ_top (show (tx_81.length : Int) = 3 by decide) ?_
                refine wa_icmpge (w_rg0 (by omega) (by omega)) (w_rg0 (by omega) (by omega)) ⟨_, rfl⟩ (fun c24 => ?_) (fun c24 => ?_)
                · skip
                  refine wa_aload_n (n := 0) rfl ?_
                  refine wb_gf5 237 rfl (wy_pr rfl) wt_237 wf_15_13 (v := 241) (h13) (fun r25 => ?_)
                  refine wb_gf4 241 rfl (wy_pr rfl) wt_241 wf_12_0 (v := 242) wl_241_0 ?_
                  refine wa_aload_n (n := 0) rfl ?_
                  refine wb_gf5 237 rfl (wy_pr rfl) wt_237 wf_15_13 (v := 241) (h13) (fun r26 => ?_)
                  refine wb_gf4 241 rfl (wy_pr rfl) wt_241 wf_12_19 (v := 259) wl_241_19 ?_
                  refine wa_iload_n (n := 1) rfl ?_
                  refine wb_iald 259 rfl (wy_pr rfl) wt_259 (n := 400) ((ml_259 hM)) (by omega) (by omega) (v := (hmR ms m).2.2.2.2.2.2.1) (ef) (fun r27 => ?_)
                  refine wa_aload_n (n := 2) rfl ?_
                  refine wa_sl 81 rfl (wx_81 hX) rfl rfl ?_
                  refine wJ_top (show (tx_81.length : Int) = 3 by decide) ?_
                  refine wa_iadd ?_
                  refine wb_bald 242 rfl (wy_pr rfl) wt_242 (n := 65536) ((ml_242 hM)) (by omega) (by omega) (v := (NN.getD 3 0)) (hs3) (fun r28 => ?_)
                  refine wa_i2l (w_rg0 (by omega) (by omega)) ?_
                  refine wb_kl (n := 65) rfl ?_
                  refine wb_kl (n := 90) rfl ?_
                  refine wa_cs (M2 := fun _ => False) rfl at_M_in ⟨_, rfl⟩ rfl rfl ⟨(Or.inr ⟨wy_pr rfl, fun q => q⟩), trivial, (Or.inl (by omega)), trivial, trivial, trivial⟩ trivial (fun _ _ q => False.elim q) (in_ok (S := S) (a := (NN.getD 3 0)) (lo := 65) (hi := 90) ⟨by omega, by omega⟩ ⟨by omega, by omega⟩ ⟨by omega, by omega⟩) (fun oq30 Sq30 hp31 q30 => ?_)
                  rcases q30 with ⟨rfl, ⟨rfl, hin29⟩ | ⟨rfl, hin29⟩⟩
                  · skip
                    show wJ _ _ _ _ _ _ _ _ _ _
                    refine wa_zreturn rfl (Or.inr rfl) ?_
                    refine ⟨rfl, congrArg (fun z => Sum.inl (some (0, z))) ?_⟩
                    refine (px_t (by show 3 < NN.length; omega) (fun i hi => ?_) ⟨by show 65 ≤ NN.getD 3 0; omega, by show NN.getD 3 0 ≤ 90; omega⟩).symm
                    replace hi : i < 3 := hi
                    rcases (show i = 0 ∨ i = 1 ∨ i = 2 by omega) with e | e | e
                    · rw [e]; show NN.getD 0 0 = 103; omega
                    · rw [e]; show NN.getD 1 0 = 101; omega
                    · rw [e]; show NN.getD 2 0 = 116; omega
                  · skip
                    show wJ _ _ _ _ _ _ _ _ _ _
                    refine wa_zreturn rfl (Or.inl rfl) ?_
                    refine ⟨rfl, congrArg (fun z => Sum.inl (some (0, z))) ?_⟩
                    refine (px_f (fun z => ?_)).symm
                    have z1 : 3 < NN.length := z.1
                    have y0 : NN.getD 0 0 = 103 := z.2.1 0 (by first | decide | omega)
                    have y1 : NN.getD 1 0 = 101 := z.2.1 1 (by first | decide | omega)
                    have y2 : NN.getD 2 0 = 116 := z.2.1 2 (by first | decide | omega)
                    have z3 : 65 ≤ NN.getD 3 0 ∧ NN.getD 3 0 ≤ 90 := z.2.2
                    omega
                · skip
                  exact absurd c24 (by omega)
              · skip
                refine wa_iconst ?_
                refine wa_zreturn rfl (Or.inl rfl) ?_
                refine ⟨rfl, congrArg (fun z => Sum.inl (some (0, z))) ?_⟩
                refine (px_f (fun z => ?_)).symm
                have z1 : 3 < NN.length := z.1
                have y0 : NN.getD 0 0 = 103 := z.2.1 0 (by first | decide | omega)
                have y1 : NN.getD 1 0 = 101 := z.2.1 1 (by first | decide | omega)
                have y2 : NN.getD 2 0 = 116 := z.2.1 2 (by first | decide | omega)
                have z3 : 65 ≤ NN.getD 3 0 ∧ NN.getD 3 0 ≤ 90 := z.2.2
                omega
          · skip
            refine wa_iconst ?_
            refine wa_zreturn rfl (Or.inl rfl) ?_
            refine ⟨rfl, congrArg (fun z => Sum.inl (some (0, z))) ?_⟩
            refine (px_f (fun z => ?_)).symm
            have z1 : 3 < NN.length := z.1
            have y0 : NN.getD 0 0 = 103 := z.2.1 0 (by first | decide | omega)
            have y1 : NN.getD 1 0 = 101 := z.2.1 1 (by first | decide | omega)
            have y2 : NN.getD 2 0 = 116 := z.2.1 2 (by first | decide | omega)
            have z3 : 65 ≤ NN.getD 3 0 ∧ NN.getD 3 0 ≤ 90 := z.2.2
            omega
      · skip
        refine wa_iconst ?_
        refine wa_zreturn rfl (Or.inl rfl) ?_
        refine ⟨rfl, congrArg (fun z => Sum.inl (some (0, z))) ?_⟩
        refine (px_f (fun z => ?_)).symm
        have z1 : 3 < NN.length := z.1
        have y0 : NN.getD 0 0 = 103 := z.2.1 0 (by first | decide | omega)
        have y1 : NN.getD 1 0 = 101 := z.2.1 1 (by first | decide | omega)
        have y2 : NN.getD 2 0 = 116 := z.2.1 2 (by first | decide | omega)
        have z3 : 65 ≤ NN.getD 3 0 ∧ NN.getD 3 0 ≤ 90 := z.2.2
        omega
  · skip
    refine wa_iconst ?_
    refine wa_zreturn rfl (Or.inl rfl) ?_
    refine ⟨rfl, congrArg (fun z => Sum.inl (some (0, z))) ?_⟩
    refine (px_f (fun z => ?_)).symm
    have z1 : 3 < NN.length := z.1
    have y0 : NN.getD 0 0 = 103 := z.2.1 0 (by first | decide | omega)
    have y1 : NN.getD 1 0 = 101 := z.2.1 1 (by first | decide | omega)
    have y2 : NN.getD 2 0 = 116 := z.2.1 2 (by first | decide | omega)
    have z3 : 65 ≤ NN.getD 3 0 ∧ NN.getD 3 0 ≤ 90 := z.2.2
    omega
theorem rip83_241 {m : Int} (hX : w_X xs) (hM : w_ML S) (hK : KR 241 T n cs ms S) (hw : wHo cs ms os) (hm : 0 ≤ m ∧ m < (ms.length : Int)) : wJ (pe_GA xs) wY0 M (d + 5) t_M_isPrefixed ((pe_at t_M_isPrefixed.bl 0).getD (0, [])).2 [(0, (2, 237)), (1, (0, m)), (2, (2, (-10 - ((83 : Nat) : Int))))] [] S (fun z Z => S = Z ∧ z = .inl (some (0, bI (pxB [105, 115] (nmR T (hmR ms m)))))) := by
  have h13 : S 237 13 = 241 := hK.1
  have h400 := hw.1
  have hn6 := hK.2.2.2.2.2.1
  have eM := KR_m hK (m := m) (by omega) (by omega)
  have eW := hw.2.2.2 m (by omega) (by omega)
  have e1 : S 253 m = (hmR ms m).2.1 := eM.1.2.1
  have e2 : S 254 m = (hmR ms m).2.2.1 := eM.1.2.2.1
  have e3 : S 255 m = (hmR ms m).2.2.2.1 := eM.1.2.2.2.1
  have e4 : S 256 m = ((hmR ms m).2.2.2.2.1.length : Int) := eM.2.1.1
  have e5 : S 257 m = (hmR ms m).2.2.2.2.2.1 := eM.2.1.2.1
  have ef : S 259 m = (hmR ms m).2.2.2.2.2.2.1 := eM.1.2.2.2.2.1
  have et : S 260 m = (hmR ms m).2.2.2.2.2.2.2 := eM.1.2.2.2.2.2
  have eq := eW.1.2.1
  have es := eW.1.2.2.1
  have ey := eW.1.2.2.2
  have ev := eW.2.1
  have el := eW.2.2.1
  have eft := hK.2.2.2.2.2.2.1 m (by omega) (by omega)
  obtain ⟨NN, hNN⟩ : ∃ NN : List Int, NN = nmR T (hmR ms m) := ⟨_, rfl⟩
  have hNl : (NN.length : Int) = (hmR ms m).2.2.2.2.2.2.2 - (hmR ms m).2.2.2.2.2.2.1 := by rw [hNN]; exact nmR_l (by omega)
  have hNs : ∀ i : Nat, i < NN.length → S 242 ((hmR ms m).2.2.2.2.2.2.1 + (i : Int)) = NN.getD i 0 := fun i hi => by rw [hNN] at hi ⊢; rw [nmR_s hi]; exact hK.2.2.2.2.1 _ (by omega) (by rw [← hNN] at hi; omega)
  rw [← hNN]
  refine wa_aload_n (n := 0) rfl ?_
  refine wb_gf5 237 rfl (wy_pr rfl) wt_237 wf_15_13 (v := 241) (h13) (fun r1 => ?_)
  refine wb_gf4 241 rfl (wy_pr rfl) wt_241 wf_12_20 (v := 260) wl_241_20 ?_
  refine wa_iload_n (n := 1) rfl ?_
  refine wb_iald 260 rfl (wy_pr rfl) wt_260 (n := 400) ((ml_260 hM)) (by omega) (by omega) (v := (hmR ms m).2.2.2.2.2.2.2) (et) (fun r2 => ?_)
  refine wa_aload_n (n := 0) rfl ?_
  refine wb_gf5 237 rfl (wy_pr rfl) wt_237 wf_15_13 (v := 241) (h13) (fun r3 => ?_)
  refine wb_gf4 241 rfl (wy_pr rfl) wt_241 wf_12_19 (v := 259) wl_241_19 ?_
  refine wa_iload_n (n := 1) rfl ?_
  refine wb_iald 259 rfl (wy_pr rfl) wt_259 (n := 400) ((ml_259 hM)) (by omega) (by omega) (v := (hmR ms m).2.2.2.2.2.2.1) (ef) (fun r4 => ?_)
  refine wa_isub ?_
  refine wa_istore_n (n := 3) rfl ?_
  refine wa_iload_n (n := 3) rfl ?_
  refine wa_aload_n (n := 2) rfl ?_
  refine wa_sl 83 rfl (wx_83 hX) rfl rfl ?_
  refine wJ_top (show (tx_83.length : Int) = 2 by decide) ?_
  refine wa_icmpgt (w_rg0 (by omega) (by omega)) (w_rg0 (by omega) (by omega)) ⟨_, rfl⟩ (fun c5 => ?_) (fun c5 => ?_)
  · skip
    have hs0 : S 242 ((hmR ms m).2.2.2.2.2.2.1 + 0) = NN.getD 0 0 := hNs 0 (by omega)
    have hs1 : S 242 ((hmR ms m).2.2.2.2.2.2.1 + 1) = NN.getD 1 0 := hNs 1 (by omega)
    have hs2 : S 242 ((hmR ms m).2.2.2.2.2.2.1 + 2) = NN.getD 2 0 := hNs 2 (by omega)
    refine wa_iconst ?_
    refine wa_istore (n := 4) rfl ?_
    refine wa_fall ⟨_, rfl⟩ ?_
    refine wJ_S (L2 := [(0, (2, 237)), (1, (0, m)), (2, (2, (-10 - ((83 : Nat) : Int)))), (3, (0, ((hmR ms m).2.2.2.2.2.2.2 - (hmR ms m).2.2.2.2.2.2.1))), (4, (0, 0))]) ?_ ⟨rfl, rfl, rfl, rfl, rfl, trivial⟩
    refine wa_iload (n := 4) rfl ?_
    refine wa_aload_n (n := 2) rfl ?_
    refine wa_sl 83 rfl (wx_83 hX) rfl rfl ?_
    refine wJ_top (show (tx_83.length : Int) = 2 by decide) ?_
    refine wa_icmpge (w_rg0 (by omega) (by omega)) (w_rg0 (by omega) (by omega)) ⟨_, rfl⟩ (fun c6 => ?_) (fun c6 => ?_)
    · skip
      exact absurd c6 (by omega)
    · skip
      refine wa_aload_n (n := 0) rfl ?_
      refine wb_gf5 237 rfl (wy_pr rfl) wt_237 wf_15_13 (v := 241) (h13) (fun r7 => ?_)
      refine wb_gf4 241 rfl (wy_pr rfl) wt_241 wf_12_0 (v := 242) wl_241_0 ?_
      refine wa_aload_n (n := 0) rfl ?_
      refine wb_gf5 237 rfl (wy_pr rfl) wt_237 wf_15_13 (v := 241) (h13) (fun r8 => ?_)
      refine wb_gf4 241 rfl (wy_pr rfl) wt_241 wf_12_19 (v := 259) wl_241_19 ?_
      refine wa_iload_n (n := 1) rfl ?_
      refine wb_iald 259 rfl (wy_pr rfl) wt_259 (n := 400) ((ml_259 hM)) (by omega) (by omega) (v := (hmR ms m).2.2.2.2.2.2.1) (ef) (fun r9 => ?_)
      refine wa_iload (n := 4) rfl ?_
      refine wa_iadd ?_
      refine wb_bald 242 rfl (wy_pr rfl) wt_242 (n := 65536) ((ml_242 hM)) (by omega) (by omega) (v := (NN.getD 0 0)) (hs0) (fun r10 => ?_)
      refine wa_aload_n (n := 2) rfl ?_
      refine wa_iload (n := 4) rfl ?_
      refine wa_sc 83 rfl (wx_83 hX) (by first | decide | omega) rfl rfl (by first | decide | omega) (by first | decide | omega) ?_
      refine wJ_top (show (w_tx tx_83 0) = 105 by decide) ?_
      refine wa_icmpeq (w_rg0 (by omega) (by omega)) (w_rg0 (by omega) (by omega)) ⟨_, rfl⟩ (fun c11 => ?_) (fun c11 => ?_)
      · skip
        refine wa_iinc rfl rfl ?_
        refine wa_goto ⟨_, rfl⟩ ?_
        refine wJ_S (L2 := [(0, (2, 237)), (1, (0, m)), (2, (2, (-10 - ((83 : Nat) : Int)))), (3, (0, ((hmR ms m).2.2.2.2.2.2.2 - (hmR ms m).2.2.2.2.2.2.1))), (4, (0, 1))]) ?_ ⟨rfl, rfl, rfl, rfl, rfl, trivial⟩
        refine wa_iload (n := 4) rfl ?_
        refine wa_aload_n (n := 2) rfl ?_
        refine wa_sl 83 rfl (wx_83 hX) rfl rfl ?_
        refine wJ_top (show (tx_83.length : Int) = 2 by decide) ?_
        refine wa_icmpge (w_rg0 (by omega) (by omega)) (w_rg0 (by omega) (by omega)) ⟨_, rfl⟩ (fun c12 => ?_) (fun c12 => ?_)
        · skip
          exact absurd c12 (by omega)
        · skip
          refine wa_aload_n (n := 0) rfl ?_
          refine wb_gf5 237 rfl (wy_pr rfl) wt_237 wf_15_13 (v := 241) (h13) (fun r13 => ?_)
          refine wb_gf4 241 rfl (wy_pr rfl) wt_241 wf_12_0 (v := 242) wl_241_0 ?_
          refine wa_aload_n (n := 0) rfl ?_
          refine wb_gf5 237 rfl (wy_pr rfl) wt_237 wf_15_13 (v := 241) (h13) (fun r14 => ?_)
          refine wb_gf4 241 rfl (wy_pr rfl) wt_241 wf_12_19 (v := 259) wl_241_19 ?_
          refine wa_iload_n (n := 1) rfl ?_
          refine wb_iald 259 rfl (wy_pr rfl) wt_259 (n := 400) ((ml_259 hM)) (by omega) (by omega) (v := (hmR ms m).2.2.2.2.2.2.1) (ef) (fun r15 => ?_)
          refine wa_iload (n := 4) rfl ?_
          refine wa_iadd ?_
          refine wb_bald 242 rfl (wy_pr rfl) wt_242 (n := 65536) ((ml_242 hM)) (by omega) (by omega) (v := (NN.getD 1 0)) (hs1) (fun r16 => ?_)
          refine wa_aload_n (n := 2) rfl ?_
          refine wa_iload (n := 4) rfl ?_
          refine wa_sc 83 rfl (wx_83 hX) (by first | decide | omega) rfl rfl (by first | decide | omega) (by first | decide | omega) ?_
          refine wJ_top (show (w_tx tx_83 1) = 115 by decide) ?_
          refine wa_icmpeq (w_rg0 (by omega) (by omega)) (w_rg0 (by omega) (by omega)) ⟨_, rfl⟩ (fun c17 => ?_) (fun c17 => ?_)
          · skip
            refine wa_iinc rfl rfl ?_
            refine wa_goto ⟨_, rfl⟩ ?_
            refine wJ_S (L2 := [(0, (2, 237)), (1, (0, m)), (2, (2, (-10 - ((83 : Nat) : Int)))), (3, (0, ((hmR ms m).2.2.2.2.2.2.2 - (hmR ms m).2.2.2.2.2.2.1))), (4, (0, 2))]) ?_ ⟨rfl, rfl, rfl, rfl, rfl, trivial⟩
            refine wa_iload (n := 4) rfl ?_
            refine wa_aload_n (n := 2) rfl ?_
            refine wa_sl 83 rfl (wx_83 hX) rfl rfl ?_
            refine wJ_top (show (tx_83.length : Int) = 2 by decide) ?_
            refine wa_icmpge (w_rg0 (by omega) (by omega)) (w_rg0 (by omega) (by omega)) ⟨_, rfl⟩ (fun c18 => ?_) (fun c18 => ?_)
            · skip
              refine wa_aload_n (n := 0) rfl ?_
              refine wb_gf5 237 rfl (wy_pr rfl) wt_237 wf_15_13 (v := 241) (h13) (fun r19 => ?_)
              refine wb_gf4 241 rfl (wy_pr rfl) wt_241 wf_12_0 (v := 242) wl_241_0 ?_
              refine wa_aload_n (n := 0) rfl ?_
              refine wb_gf5 237 rfl (wy_pr rfl) wt_237 wf_15_13 (v := 241) (h13) (fun r20 => ?_)
              refine wb_gf4 241 rfl (wy_pr rfl) wt_241 wf_12_19 (v := 259) wl_241_19 ?_
              refine wa_iload_n (n := 1) rfl ?_
              refine wb_iald 259 rfl (wy_pr rfl) wt_259 (n := 400) ((ml_259 hM)) (by omega) (by omega) (v := (hmR ms m).2.2.2.2.2.2.1) (ef) (fun r21 => ?_)
              refine wa_aload_n (n := 2) rfl ?_
              refine wa_sl 83 rfl (wx_83 hX) rfl rfl ?_
              refine wJ_top (show (tx_83.length : Int) = 2 by decide) ?_
              refine wa_iadd ?_
              refine wb_bald 242 rfl (wy_pr rfl) wt_242 (n := 65536) ((ml_242 hM)) (by omega) (by omega) (v := (NN.getD 2 0)) (hs2) (fun r22 => ?_)
              refine wa_i2l (w_rg0 (by omega) (by omega)) ?_
              refine wb_kl (n := 65) rfl ?_
              refine wb_kl (n := 90) rfl ?_
              refine wa_cs (M2 := fun _ => False) rfl at_M_in ⟨_, rfl⟩ rfl rfl ⟨(Or.inr ⟨wy_pr rfl, fun q => q⟩), trivial, (Or.inl (by omega)), trivial, trivial, trivial⟩ trivial (fun _ _ q => False.elim q) (in_ok (S := S) (a := (NN.getD 2 0)) (lo := 65) (hi := 90) ⟨by omega, by omega⟩ ⟨by omega, by omega⟩ ⟨by omega, by omega⟩) (fun oq24 Sq24 hp25 q24 => ?_)
              rcases q24 with ⟨rfl, ⟨rfl, hin23⟩ | ⟨rfl, hin23⟩⟩
              · skip
                show wJ _ _ _ _ _ _ _ _ _ _
                refine wa_zreturn rfl (Or.inr rfl) ?_
                refine ⟨rfl, congrArg (fun z => Sum.inl (some (0, z))) ?_⟩
                refine (px_t (by show 2 < NN.length; omega) (fun i hi => ?_) ⟨by show 65 ≤ NN.getD 2 0; omega, by show NN.getD 2 0 ≤ 90; omega⟩).symm
                replace hi : i < 2 := hi
                rcases (show i = 0 ∨ i = 1 by omega) with e | e
                · rw [e]; show NN.getD 0 0 = 105; omega
                · rw [e]; show NN.getD 1 0 = 115; omega
              · skip
                show wJ _ _ _ _ _ _ _ _ _ _
                refine wa_zreturn rfl (Or.inl rfl) ?_
                refine ⟨rfl, congrArg (fun z => Sum.inl (some (0, z))) ?_⟩
                refine (px_f (fun z => ?_)).symm
                have z1 : 2 < NN.length := z.1
                have y0 : NN.getD 0 0 = 105 := z.2.1 0 (by first | decide | omega)
                have y1 : NN.getD 1 0 = 115 := z.2.1 1 (by first | decide | omega)
                have z3 : 65 ≤ NN.getD 2 0 ∧ NN.getD 2 0 ≤ 90 := z.2.2
                omega
            · skip
              exact absurd c18 (by omega)
          · skip
            refine wa_iconst ?_
            refine wa_zreturn rfl (Or.inl rfl) ?_
            refine ⟨rfl, congrArg (fun z => Sum.inl (some (0, z))) ?_⟩
            refine (px_f (fun z => ?_)).symm
            have z1 : 2 < NN.length := z.1
            have y0 : NN.getD 0 0 = 105 := z.2.1 0 (by first | decide | omega)
            have y1 : NN.getD 1 0 = 115 := z.2.1 1 (by first | decide | omega)
            have z3 : 65 ≤ NN.getD 2 0 ∧ NN.getD 2 0 ≤ 90 := z.2.2
            omega
      · skip
        refine wa_iconst ?_
        refine wa_zreturn rfl (Or.inl rfl) ?_
        refine ⟨rfl, congrArg (fun z => Sum.inl (some (0, z))) ?_⟩
        refine (px_f (fun z => ?_)).symm
        have z1 : 2 < NN.length := z.1
        have y0 : NN.getD 0 0 = 105 := z.2.1 0 (by first | decide | omega)
        have y1 : NN.getD 1 0 = 115 := z.2.1 1 (by first | decide | omega)
        have z3 : 65 ≤ NN.getD 2 0 ∧ NN.getD 2 0 ≤ 90 := z.2.2
        omega
  · skip
    refine wa_iconst ?_
    refine wa_zreturn rfl (Or.inl rfl) ?_
    refine ⟨rfl, congrArg (fun z => Sum.inl (some (0, z))) ?_⟩
    refine (px_f (fun z => ?_)).symm
    have z1 : 2 < NN.length := z.1
    have y0 : NN.getD 0 0 = 105 := z.2.1 0 (by first | decide | omega)
    have y1 : NN.getD 1 0 = 115 := z.2.1 1 (by first | decide | omega)
    have z3 : 65 ≤ NN.getD 2 0 ∧ NN.getD 2 0 ≤ 90 := z.2.2
    omega
theorem rfe_241 {m x4 : Int} {sk : Nat} {sb : Bool} {WW : List Int} (hX : w_X xs) (hM : w_ML S) (hK : KR 241 T n cs ms S) (hw : wHo cs ms os) (hm : 0 ≤ m ∧ m < (ms.length : Int)) (hsb : sb = true → (hmR ms m).2.2.2.2.1.length = 1) (hW : wtI WW A) (hfr : ∀ (j : Nat) (x : Int), ¬ wtM j x → A j x = S j x) : wJ (pe_GA xs) wY0 M (d + 6) t_M_fieldFor ((pe_at t_M_fieldFor.bl 12).getD (0, [])).2 [(0, (2, 237)), (1, (0, m)), (2, (0, (NN.length : Int))), (3, (0, bI sb)), (4, (0, x4)), (5, (0, (sk : Int)))] [] A (fun z Z => z = .inl (some (0, ftF ms sb m (fdA T cs ms (-1) WW (hmR ms m).1))) ∧ ∀ (j : Nat) (x : Int), ¬ wtM j x → Z j x = S j x) := by
  have hMA : w_ML A := ML_w hM hfr (fun j z => by unfold wtM at z; omega)
  have hKA : KR 241 T n cs ms A := KR_ag hK (fun j x hj => hfr j x (by unfold wtM; omega))
  have h13 : A 237 13 = 241 := hKA.1
  have h400 := hw.1
  have eM := KR_m hKA (m := m) (by omega) (by omega)
  have eW := hw.2.2.2 m (by omega) (by omega)
  have e1 : A 253 m = (hmR ms m).2.1 := eM.1.2.1
  have e2 : A 254 m = (hmR ms m).2.2.1 := eM.1.2.2.1
  have e3 : A 255 m = (hmR ms m).2.2.2.1 := eM.1.2.2.2.1
  have e4 : A 256 m = ((hmR ms m).2.2.2.2.1.length : Int) := eM.2.1.1
  have e5 : A 257 m = (hmR ms m).2.2.2.2.2.1 := eM.2.1.2.1
  have ef : A 259 m = (hmR ms m).2.2.2.2.2.2.1 := eM.1.2.2.2.2.1
  have et : A 260 m = (hmR ms m).2.2.2.2.2.2.2 := eM.1.2.2.2.2.2
  have eq := eW.1.2.1
  have es := eW.1.2.2.1
  have ey := eW.1.2.2.2
  have ev := eW.2.1
  have el := eW.2.2.1
  have eft := hK.2.2.2.2.2.2.1 m (by omega) (by omega)
  have e0 : A 252 m = (hmR ms m).1 := eM.1.1
  have eK := eW.1.1
  have hbs := bI_rg sb
  obtain ⟨fd, hfd⟩ : ∃ r : Int, r = fdA T cs ms (-1) WW (hmR ms m).1 := ⟨_, rfl⟩
  have hfr2 := fdA_rg (T := T) (st := -1) (W := WW) hw eK
  rw [← hfd] at hfr2 ⊢
  have hps : sb = true → A 258 (8 * m) = (hmR ms m).2.2.2.2.1.getD 0 0 := fun z => by have y := eM.2.1.2.2 0 (by have := hsb z; omega); rw [show (8 * m) = 8 * m + ((0 : Nat) : Int) by omega]; exact y
  have hpr : sb = true → 1 ≤ (hmR ms m).2.2.2.2.1.getD 0 0 ∧ (hmR ms m).2.2.2.2.1.getD 0 0 < 9 + (cs.length : Int) := fun z => eW.2.2.2.1 _ (getD_mem (by have := hsb z; omega))
  refine wa_aload_n (n := 0) rfl ?_
  refine wa_aload_n (n := 0) rfl ?_
  refine wb_gf5 237 rfl (wy_pr rfl) wt_237 wf_15_13 (v := 241) (h13) (fun r1 => ?_)
  refine wb_gf4 241 rfl (wy_pr rfl) wt_241 wf_12_12 (v := 252) wl_241_12 ?_
  refine wa_iload_n (n := 1) rfl ?_
  refine wb_iald 252 rfl (wy_pr rfl) wt_252 (n := 400) ((ml_252 hMA)) (by omega) (by omega) (v := (hmR ms m).1) (e0) (fun r2 => ?_)
  refine wa_iconst ?_
  refine wa_cv 237 rfl (wy_pr rfl) wt_237 (M2 := fun _ => False) rfl at_M_field ⟨_, rfl⟩ rfl rfl ⟨(Or.inr ⟨wy_pr rfl, fun q => q⟩), trivial, trivial, trivial, trivial, trivial, trivial⟩ trivial (fun _ _ q => False.elim q) (wJ_mono (rfd_241 (S := A) (c := (hmR ms m).1) (st := -1) (WW := WW) hMA hKA hw ⟨by omega, by omega⟩ hW eK) (fun o Z hz => (⟨hz.1, by rw [hfd]; exact hz.2⟩ : A = Z ∧ o = .inl (some (0, fd))))) (fun oq3 Sq3 hp4 q3 => ?_)
  rcases q3 with ⟨rfl, rfl⟩
  show wJ _ _ _ _ _ _ _ _ _ _
  refine wa_istore (n := 6) rfl ?_
  refine wa_iload (n := 6) rfl ?_
  refine wa_iflt (w_rg0 (by omega) (by omega)) ⟨_, rfl⟩ (fun c5 => ?_) (fun c5 => ?_)
  · skip
    refine wa_iconst ?_
    refine wa_fall ⟨_, rfl⟩ ?_
    refine wa_istore (n := 7) rfl ?_
    refine wa_iload (n := 7) rfl ?_
    refine wa_ifeq (w_rg0 (by omega) (by omega)) ⟨_, rfl⟩ (fun c6 => ?_) (fun c6 => ?_)
    · skip
      refine wa_iconst ?_
      refine wa_fall ⟨_, rfl⟩ ?_
      refine wa_ireturn rfl ?_
      refine ⟨congrArg (fun z => Sum.inl (some (0, z))) ?_, hfr⟩
      exact (ftF_n (fun z => by have z1 := z.1; have z2 := z.2.1; have z3 := z.2.2; first | omega | (rw [bI_0 (b := sb) (by omega), if_neg (by first | decide | omega)] at z3; omega) | (rw [hst1, if_pos rfl] at z3; omega))).symm
    · skip
      exact absurd c6 (by omega)
  · skip
    have hfv : 0 ≤ fd ∧ fd < (ms.length : Int) := by omega
    have fM := KR_m hKA (m := fd) (by omega) (by omega)
    have fW := hw.2.2.2 fd (by omega) (by omega)
    have f1 : A 253 fd = (hmR ms fd).2.1 := fM.1.2.1
    have f2 : A 254 fd = (hmR ms fd).2.2.1 := fM.1.2.2.1
    have f3 : A 255 fd = (hmR ms fd).2.2.2.1 := fM.1.2.2.2.1
    have f4 : A 256 fd = ((hmR ms fd).2.2.2.2.1.length : Int) := fM.2.1.1
    have f5 : A 257 fd = (hmR ms fd).2.2.2.2.2.1 := fM.2.1.2.1
    have ff : A 259 fd = (hmR ms fd).2.2.2.2.2.2.1 := fM.1.2.2.2.2.1
    have ft : A 260 fd = (hmR ms fd).2.2.2.2.2.2.2 := fM.1.2.2.2.2.2
    have fq := fW.1.2.1
    have fs := fW.1.2.2.1
    have fy := fW.1.2.2.2
    have fv := fW.2.1
    have fl := fW.2.2.1
    have fft := hK.2.2.2.2.2.2.1 fd (by omega) (by omega)
    refine wa_aload_n (n := 0) rfl ?_
    refine wb_gf5 237 rfl (wy_pr rfl) wt_237 wf_15_13 (v := 241) (h13) (fun r7 => ?_)
    refine wb_gf4 241 rfl (wy_pr rfl) wt_241 wf_12_14 (v := 254) wl_241_14 ?_
    refine wa_iload (n := 6) rfl ?_
    refine wb_zald 254 rfl (wy_pr rfl) wt_254 (n := 400) ((ml_254 hMA)) (by omega) (by omega) (v := (hmR ms fd).2.2.1) (f2) (fun r8 => ?_)
    refine wa_aload_n (n := 0) rfl ?_
    refine wb_gf5 237 rfl (wy_pr rfl) wt_237 wf_15_13 (v := 241) (h13) (fun r9 => ?_)
    refine wb_gf4 241 rfl (wy_pr rfl) wt_241 wf_12_14 (v := 254) wl_241_14 ?_
    refine wa_iload_n (n := 1) rfl ?_
    refine wb_zald 254 rfl (wy_pr rfl) wt_254 (n := 400) ((ml_254 hMA)) (by omega) (by omega) (v := (hmR ms m).2.2.1) (e2) (fun r10 => ?_)
    refine wa_icmpne (w_rg0 (by omega) (by omega)) (w_rg0 (by omega) (by omega)) ⟨_, rfl⟩ (fun c11 => ?_) (fun c11 => ?_)
    · skip
      refine wa_iconst ?_
      refine wa_fall ⟨_, rfl⟩ ?_
      refine wa_istore (n := 7) rfl ?_
      refine wa_iload (n := 7) rfl ?_
      refine wa_ifeq (w_rg0 (by omega) (by omega)) ⟨_, rfl⟩ (fun c12 => ?_) (fun c12 => ?_)
      · skip
        refine wa_iconst ?_
        refine wa_fall ⟨_, rfl⟩ ?_
        refine wa_ireturn rfl ?_
        refine ⟨congrArg (fun z => Sum.inl (some (0, z))) ?_, hfr⟩
        exact (ftF_n (fun z => by have z1 := z.1; have z2 := z.2.1; have z3 := z.2.2; first | omega | (rw [bI_0 (b := sb) (by omega), if_neg (by first | decide | omega)] at z3; omega) | (rw [hst1, if_pos rfl] at z3; omega))).symm
      · skip
        exact absurd c12 (by omega)
    · skip
      refine wa_aload_n (n := 0) rfl ?_
      refine wb_gf5 237 rfl (wy_pr rfl) wt_237 wf_15_13 (v := 241) (h13) (fun r13 => ?_)
      refine wb_gf4 241 rfl (wy_pr rfl) wt_241 wf_12_15 (v := 255) wl_241_15 ?_
      refine wa_iload (n := 6) rfl ?_
      refine wb_iald 255 rfl (wy_pr rfl) wt_255 (n := 400) ((ml_255 hMA)) (by omega) (by omega) (v := (hmR ms fd).2.2.2.1) (f3) (fun r14 => ?_)
      refine wa_iload_n (n := 3) rfl ?_
      refine wa_ifeq (w_rg0 (by omega) (by omega)) ⟨_, rfl⟩ (fun c15 => ?_) (fun c15 => ?_)
      · skip
        refine wa_aload_n (n := 0) rfl ?_
        refine wb_gf5 237 rfl (wy_pr rfl) wt_237 wf_15_13 (v := 241) (h13) (fun r16 => ?_)
        refine wb_gf4 241 rfl (wy_pr rfl) wt_241 wf_12_15 (v := 255) wl_241_15 ?_
        refine wa_iload_n (n := 1) rfl ?_
        refine wb_iald 255 rfl (wy_pr rfl) wt_255 (n := 400) ((ml_255 hMA)) (by omega) (by omega) (v := (hmR ms m).2.2.2.1) (e3) (fun r17 => ?_)
        refine wa_fall ⟨_, rfl⟩ ?_
        refine wa_icmpne (w_rg0 (by omega) (by omega)) (w_rg0 (by omega) (by omega)) ⟨_, rfl⟩ (fun c18 => ?_) (fun c18 => ?_)
        · skip
          refine wa_iconst ?_
          refine wa_fall ⟨_, rfl⟩ ?_
          refine wa_istore (n := 7) rfl ?_
          refine wa_iload (n := 7) rfl ?_
          refine wa_ifeq (w_rg0 (by omega) (by omega)) ⟨_, rfl⟩ (fun c19 => ?_) (fun c19 => ?_)
          · skip
            refine wa_iconst ?_
            refine wa_fall ⟨_, rfl⟩ ?_
            refine wa_ireturn rfl ?_
            refine ⟨congrArg (fun z => Sum.inl (some (0, z))) ?_, hfr⟩
            exact (ftF_n (fun z => by have z1 := z.1; have z2 := z.2.1; have z3 := z.2.2; first | omega | (rw [bI_0 (b := sb) (by omega), if_neg (by first | decide | omega)] at z3; omega) | (rw [hst1, if_pos rfl] at z3; omega))).symm
          · skip
            exact absurd c19 (by omega)
        · skip
          refine wa_iconst ?_
          refine wa_goto ⟨_, rfl⟩ ?_
          refine wa_istore (n := 7) rfl ?_
          refine wa_iload (n := 7) rfl ?_
          refine wa_ifeq (w_rg0 (by omega) (by omega)) ⟨_, rfl⟩ (fun c20 => ?_) (fun c20 => ?_)
          · skip
            exact absurd c20 (by omega)
          · skip
            refine wa_iload (n := 6) rfl ?_
            refine wa_goto ⟨_, rfl⟩ ?_
            refine wa_ireturn rfl ?_
            refine ⟨congrArg (fun z => Sum.inl (some (0, z))) ?_, hfr⟩
            exact (ftF_p (by omega) (by omega) (by first | (rw [bI_0 (b := sb) (by omega), if_neg (by first | decide | omega)]; omega) | (rw [hst1, if_pos rfl]; omega))).symm
      · skip
        have hst1 := bI_1 (b := sb) (by omega)
        have hps1 := hps hst1
        have hpr1 := hpr hst1
        refine wa_aload_n (n := 0) rfl ?_
        refine wb_gf5 237 rfl (wy_pr rfl) wt_237 wf_15_13 (v := 241) (h13) (fun r21 => ?_)
        refine wb_gf4 241 rfl (wy_pr rfl) wt_241 wf_12_18 (v := 258) wl_241_18 ?_
        refine wa_bipush (w_rg2 (by omega) (by omega)) ?_
        refine wa_iload_n (n := 1) rfl ?_
        refine wa_imul ?_
        refine wb_iald 258 rfl (wy_pr rfl) wt_258 (n := 3200) ((ml_258 hMA)) (by omega) (by omega) (v := ((hmR ms m).2.2.2.2.1.getD 0 0)) (hps1) (fun r22 => ?_)
        refine wa_goto ⟨_, rfl⟩ ?_
        refine wa_icmpne (w_rg0 (by omega) (by omega)) (w_rg0 (by omega) (by omega)) ⟨_, rfl⟩ (fun c23 => ?_) (fun c23 => ?_)
        · skip
          refine wa_iconst ?_
          refine wa_fall ⟨_, rfl⟩ ?_
          refine wa_istore (n := 7) rfl ?_
          refine wa_iload (n := 7) rfl ?_
          refine wa_ifeq (w_rg0 (by omega) (by omega)) ⟨_, rfl⟩ (fun c24 => ?_) (fun c24 => ?_)
          · skip
            refine wa_iconst ?_
            refine wa_fall ⟨_, rfl⟩ ?_
            refine wa_ireturn rfl ?_
            refine ⟨congrArg (fun z => Sum.inl (some (0, z))) ?_, hfr⟩
            exact (ftF_n (fun z => by have z1 := z.1; have z2 := z.2.1; have z3 := z.2.2; first | omega | (rw [bI_0 (b := sb) (by omega), if_neg (by first | decide | omega)] at z3; omega) | (rw [hst1, if_pos rfl] at z3; omega))).symm
          · skip
            exact absurd c24 (by omega)
        · skip
          refine wa_iconst ?_
          refine wa_goto ⟨_, rfl⟩ ?_
          refine wa_istore (n := 7) rfl ?_
          refine wa_iload (n := 7) rfl ?_
          refine wa_ifeq (w_rg0 (by omega) (by omega)) ⟨_, rfl⟩ (fun c25 => ?_) (fun c25 => ?_)
          · skip
            exact absurd c25 (by omega)
          · skip
            refine wa_iload (n := 6) rfl ?_
            refine wa_goto ⟨_, rfl⟩ ?_
            refine wa_ireturn rfl ?_
            refine ⟨congrArg (fun z => Sum.inl (some (0, z))) ?_, hfr⟩
            exact (ftF_p (by omega) (by omega) (by first | (rw [bI_0 (b := sb) (by omega), if_neg (by first | decide | omega)]; omega) | (rw [hst1, if_pos rfl]; omega))).symm
theorem rfl9_241 {m x4 : Int} {sk : Nat} {sb : Bool} (hX : w_X xs) (hM : w_ML S) (hK : KR 241 T n cs ms S) (hw : wHo cs ms os) (hm : 0 ≤ m ∧ m < (ms.length : Int)) (hNN : NN = nmR T (hmR ms m)) (hsk : sk ≤ 3 ∧ sk < NN.length) (hcap : 65 ≤ NN.getD sk 0 ∧ NN.getD sk 0 ≤ 90) (hsb : sb = true → (hmR ms m).2.2.2.2.1.length = 1) : ∀ (f i : Nat) (A : wS), sk + i + f = NN.length → A 237 126 = (i : Int) → (∀ q : Nat, q < i → A 354 (q : Int) = (wtN NN sk).getD q 0) → (∀ (j : Nat) (x : Int), ¬ wtM j x → A j x = S j x) → wJ (pe_GA xs) wY0 M (d + 6) t_M_fieldFor ((pe_at t_M_fieldFor.bl 9).getD (0, [])).2 [(0, (2, 237)), (1, (0, m)), (2, (0, (NN.length : Int))), (3, (0, bI sb)), (4, (0, x4)), (5, (0, (sk : Int))), (6, (0, (sk : Int) + (i : Int)))] [] A (fun z Z => z = .inl (some (0, ftF ms sb m (fdA T cs ms (-1) (wtN NN sk) (hmR ms m).1))) ∧ ∀ (j : Nat) (x : Int), ¬ wtM j x → Z j x = S j x) := by
  have h13 : S 237 13 = 241 := hK.1
  have h400 := hw.1
  have hn6 := hK.2.2.2.2.2.1
  have eM := KR_m hK (m := m) (by omega) (by omega)
  have eW := hw.2.2.2 m (by omega) (by omega)
  have e1 : S 253 m = (hmR ms m).2.1 := eM.1.2.1
  have e2 : S 254 m = (hmR ms m).2.2.1 := eM.1.2.2.1
  have e3 : S 255 m = (hmR ms m).2.2.2.1 := eM.1.2.2.2.1
  have e4 : S 256 m = ((hmR ms m).2.2.2.2.1.length : Int) := eM.2.1.1
  have e5 : S 257 m = (hmR ms m).2.2.2.2.2.1 := eM.2.1.2.1
  have ef : S 259 m = (hmR ms m).2.2.2.2.2.2.1 := eM.1.2.2.2.2.1
  have et : S 260 m = (hmR ms m).2.2.2.2.2.2.2 := eM.1.2.2.2.2.2
  have eq := eW.1.2.1
  have es := eW.1.2.2.1
  have ey := eW.1.2.2.2
  have ev := eW.2.1
  have el := eW.2.2.1
  have eft := hK.2.2.2.2.2.2.1 m (by omega) (by omega)
  have hNl : (NN.length : Int) = (hmR ms m).2.2.2.2.2.2.2 - (hmR ms m).2.2.2.2.2.2.1 := by rw [hNN]; exact nmR_l (by omega)
  have hNs : ∀ i : Nat, i < NN.length → S 242 ((hmR ms m).2.2.2.2.2.2.1 + (i : Int)) = NN.getD i 0 := fun i hi => by rw [hNN] at hi ⊢; rw [nmR_s hi]; exact hK.2.2.2.2.1 _ (by omega) (by rw [← hNN] at hi; omega)
  have hbs := bI_rg sb
  intro f
  induction f with
  | zero =>
    intro i A hi h126 hq hfr
    refine wa_iload (n := 6) rfl ?_
    refine wa_iload_n (n := 2) rfl ?_
    refine wa_icmpge (w_rg0 (by omega) (by omega)) (w_rg0 (by omega) (by omega)) ⟨_, rfl⟩ (fun c1 => ?_) (fun c1 => ?_)
    · skip
      exact wJ_S (rfe_241 (sk := sk) (x4 := x4) (WW := wtN NN sk) hX hM hK hw hm hsb ⟨h126.trans (by rw [wtN_len hsk.2]; omega), fun q hq1 => hq q (by rw [wtN_len hsk.2] at hq1; omega), by rw [wtN_len hsk.2]; omega⟩ hfr) ⟨rfl, rfl, rfl, rfl, rfl, rfl, trivial⟩
    · skip
      exfalso; omega
  | succ f ih =>
    intro i A hi h126 hq hfr
    have hMA : w_ML A := ML_w hM hfr (fun j z => by unfold wtM at z; omega)
    have hKA : KR 241 T n cs ms A := KR_ag hK (fun j x hj => hfr j x (by unfold wtM; omega))
    have h13A : A 237 13 = 241 := hKA.1
    have eMA := KR_m hKA (m := m) (by omega) (by omega)
    have efA : A 259 m = (hmR ms m).2.2.2.2.2.2.1 := eMA.1.2.2.2.2.1
    have hsA : A 242 ((hmR ms m).2.2.2.2.2.2.1 + ((sk : Int) + (i : Int))) = NN.getD (sk + i) 0 := by rw [hfr 242 _ (by unfold wtM; omega), show (sk : Int) + (i : Int) = ((sk + i : Nat) : Int) by omega]; exact hNs (sk + i) (by omega)
    have hv0 : i = 0 → NN.getD (sk + i) 0 = NN.getD sk 0 := fun z => by rw [z]; rfl
    refine wa_iload (n := 6) rfl ?_
    refine wa_iload_n (n := 2) rfl ?_
    refine wa_icmpge (w_rg0 (by omega) (by omega)) (w_rg0 (by omega) (by omega)) ⟨_, rfl⟩ (fun c51 => ?_) (fun c51 => ?_)
    · skip
      exfalso; omega
    · skip
      refine wa_aload_n (n := 0) rfl ?_
      refine wb_gf5 237 rfl (wy_pr rfl) wt_237 wf_15_13 (v := 241) (h13A) (fun r52 => ?_)
      refine wb_gf4 241 rfl (wy_pr rfl) wt_241 wf_12_0 (v := 242) wl_241_0 ?_
      refine wa_aload_n (n := 0) rfl ?_
      refine wb_gf5 237 rfl (wy_pr rfl) wt_237 wf_15_13 (v := 241) (h13A) (fun r53 => ?_)
      refine wb_gf4 241 rfl (wy_pr rfl) wt_241 wf_12_19 (v := 259) wl_241_19 ?_
      refine wa_iload_n (n := 1) rfl ?_
      refine wb_iald 259 rfl (wy_pr rfl) wt_259 (n := 400) ((ml_259 hMA)) (by omega) (by omega) (v := (hmR ms m).2.2.2.2.2.2.1) (efA) (fun r54 => ?_)
      refine wa_iload (n := 6) rfl ?_
      refine wa_iadd ?_
      refine wb_bald 242 rfl (wy_pr rfl) wt_242 (n := 65536) ((ml_242 hMA)) (by omega) (by omega) (v := (NN.getD (sk + i) 0)) (hsA) (fun r55 => ?_)
      refine wa_istore (n := 7) rfl ?_
      refine wa_aload_n (n := 0) rfl ?_
      refine wb_gf4 237 rfl (wy_pr rfl) wt_237 wf_15_127 (v := 354) wl_237_127 ?_
      refine wa_aload_n (n := 0) rfl ?_
      refine wb_gfi 237 rfl (wy_pr rfl) wt_237 wf_15_126 (v := (i : Int)) (h126) (fun r56 => ?_)
      refine wa_iload (n := 6) rfl ?_
      refine wa_iload (n := 5) rfl ?_
      refine wa_icmpne (w_rg0 (by omega) (by omega)) (w_rg0 (by omega) (by omega)) ⟨_, rfl⟩ (fun c57 => ?_) (fun c57 => ?_)
      · skip
        refine wa_iload (n := 7) rfl ?_
        refine wa_fall ⟨_, rfl⟩ ?_
        refine wb_i2b_r (wb_i2b_id ⟨(by omega), (by omega)⟩) ?_
        refine wb_bast 354 rfl (wy_pr rfl) wt_354 (n := 72) ((ml_354 hMA)) (by omega) (by omega) ⟨(by omega), (by omega)⟩ ?_
        refine wa_aload_n (n := 0) rfl ?_
        refine wa_dup (by decide) ?_
        refine wb_gfi 237 rfl (wy_pr rfl) wt_237 wf_15_126 (v := (i : Int)) ((w_up_slot (by decide)).trans (h126)) (fun r58 => ?_)
        refine wa_iconst ?_
        refine wa_iadd ?_
        refine wb_pfi 237 rfl (wy_pr rfl) wt_237 wf_15_126 (n := 126) rfl ⟨(by omega), (by omega)⟩ ?_
        refine wa_iinc rfl rfl ?_
        refine wa_goto ⟨_, rfl⟩ ?_
        have hwv : (wtN NN sk).getD i 0 = (NN.getD (sk + i) 0) := by first | (rw [show i = 0 by omega, wtN_0]; rfl) | exact wtN_s (by omega)
        refine wJ_S (ih (i + 1) (w_up (w_up A 354 (i : Int) (NN.getD (sk + i) 0)) 237 126 ((i : Int) + 1)) (by omega) ?_ (fun q hq1 => ?_) (fun j x hj => (w_up_no (fun z => hj (Or.inr z))).trans ((w_up_no (fun z => hj (Or.inl ⟨z.1, by omega⟩))).trans (hfr j x hj)))) ⟨rfl, rfl, rfl, rfl, rfl, rfl, by show some (0, (sk : Int) + (i : Int) + 1) = some (0, (sk : Int) + ((i + 1 : Nat) : Int)); rw [show (sk : Int) + ((i + 1 : Nat) : Int) = (sk : Int) + (i : Int) + 1 by omega], trivial⟩
        · exact w_up_same _ _ _ _
        · by_cases ce : q = i
          · rw [ce, hwv]; exact (w_up_slot (by first | decide | omega)).trans (w_up_same _ _ _ _)
          · exact (w_up_slot (by first | decide | omega)).trans ((w_up_at (by omega)).trans (hq q (by omega)))
      · skip
        have hi0 : i = 0 := by omega
        have hv1 := hv0 hi0
        refine wa_iload (n := 7) rfl ?_
        refine wa_bipush (w_rg2 (by omega) (by omega)) ?_
        refine wa_iadd ?_
        refine wa_goto ⟨_, rfl⟩ ?_
        refine wb_i2b_r (wb_i2b_id ⟨(by omega), (by omega)⟩) ?_
        refine wb_bast 354 rfl (wy_pr rfl) wt_354 (n := 72) ((ml_354 hMA)) (by omega) (by omega) ⟨(by omega), (by omega)⟩ ?_
        refine wa_aload_n (n := 0) rfl ?_
        refine wa_dup (by decide) ?_
        refine wb_gfi 237 rfl (wy_pr rfl) wt_237 wf_15_126 (v := (i : Int)) ((w_up_slot (by decide)).trans (h126)) (fun r59 => ?_)
        refine wa_iconst ?_
        refine wa_iadd ?_
        refine wb_pfi 237 rfl (wy_pr rfl) wt_237 wf_15_126 (n := 126) rfl ⟨(by omega), (by omega)⟩ ?_
        refine wa_iinc rfl rfl ?_
        refine wa_goto ⟨_, rfl⟩ ?_
        have hwv : (wtN NN sk).getD i 0 = ((NN.getD (sk + i) 0) + 32) := by first | (rw [show i = 0 by omega, wtN_0]; rfl) | exact wtN_s (by omega)
        refine wJ_S (ih (i + 1) (w_up (w_up A 354 (i : Int) ((NN.getD (sk + i) 0) + 32)) 237 126 ((i : Int) + 1)) (by omega) ?_ (fun q hq1 => ?_) (fun j x hj => (w_up_no (fun z => hj (Or.inr z))).trans ((w_up_no (fun z => hj (Or.inl ⟨z.1, by omega⟩))).trans (hfr j x hj)))) ⟨rfl, rfl, rfl, rfl, rfl, rfl, by show some (0, (sk : Int) + (i : Int) + 1) = some (0, (sk : Int) + ((i + 1 : Nat) : Int)); rw [show (sk : Int) + ((i + 1 : Nat) : Int) = (sk : Int) + (i : Int) + 1 by omega], trivial⟩
        · exact w_up_same _ _ _ _
        · by_cases ce : q = i
          · rw [ce, hwv]; exact (w_up_slot (by first | decide | omega)).trans (w_up_same _ _ _ _)
          · exact (w_up_slot (by first | decide | omega)).trans ((w_up_at (by omega)).trans (hq q (by omega)))
theorem rfg_241 {m x4 : Int} (hX : w_X xs) (hM : w_ML S) (hK : KR 241 T n cs ms S) (hw : wHo cs ms os) (hm : 0 ≤ m ∧ m < (ms.length : Int)) (hNN : NN = nmR T (hmR ms m)) (hsg : sB ms NN m = true ∨ gB ms NN m = true) : wJ (pe_GA xs) wY0 M (d + 6) t_M_fieldFor ((pe_at t_M_fieldFor.bl 6).getD (0, [])).2 [(0, (2, 237)), (1, (0, m)), (2, (0, (NN.length : Int))), (3, (0, bI (sB ms NN m))), (4, (0, x4))] [] S (fun z Z => z = .inl (some (0, (if sB ms NN m = true ∨ gB ms NN m = true then ftF ms (sB ms NN m) m (fdA T cs ms (-1) (wtN NN (skN NN)) (hmR ms m).1) else -1))) ∧ ∀ (j : Nat) (x : Int), ¬ wtM j x → Z j x = S j x) := by
  have h13 : S 237 13 = 241 := hK.1
  have h400 := hw.1
  have hn6 := hK.2.2.2.2.2.1
  have eM := KR_m hK (m := m) (by omega) (by omega)
  have eW := hw.2.2.2 m (by omega) (by omega)
  have e1 : S 253 m = (hmR ms m).2.1 := eM.1.2.1
  have e2 : S 254 m = (hmR ms m).2.2.1 := eM.1.2.2.1
  have e3 : S 255 m = (hmR ms m).2.2.2.1 := eM.1.2.2.2.1
  have e4 : S 256 m = ((hmR ms m).2.2.2.2.1.length : Int) := eM.2.1.1
  have e5 : S 257 m = (hmR ms m).2.2.2.2.2.1 := eM.2.1.2.1
  have ef : S 259 m = (hmR ms m).2.2.2.2.2.2.1 := eM.1.2.2.2.2.1
  have et : S 260 m = (hmR ms m).2.2.2.2.2.2.2 := eM.1.2.2.2.2.2
  have eq := eW.1.2.1
  have es := eW.1.2.2.1
  have ey := eW.1.2.2.2
  have ev := eW.2.1
  have el := eW.2.2.1
  have eft := hK.2.2.2.2.2.2.1 m (by omega) (by omega)
  have hNl : (NN.length : Int) = (hmR ms m).2.2.2.2.2.2.2 - (hmR ms m).2.2.2.2.2.2.1 := by rw [hNN]; exact nmR_l (by omega)
  have hNs : ∀ i : Nat, i < NN.length → S 242 ((hmR ms m).2.2.2.2.2.2.1 + (i : Int)) = NN.getD i 0 := fun i hi => by rw [hNN] at hi ⊢; rw [nmR_s hi]; exact hK.2.2.2.2.1 _ (by omega) (by rw [← hNN] at hi; omega)
  have hcap := sk_cap hsg
  rw [if_pos hsg]
  have hbs := bI_rg (sB ms NN m)
  have hsb : sB ms NN m = true → (hmR ms m).2.2.2.2.1.length = 1 := fun z => by unfold sB at z; rw [Bool.and_eq_true] at z; exact (of_decide_eq_true z.2).2.1
  refine wa_aload_n (n := 0) rfl ?_
  refine wa_iload_n (n := 1) rfl ?_
  refine wa_ks ?_
  refine wa_cv 237 rfl (wy_pr rfl) wt_237 (M2 := fun _ => False) rfl at_M_isPrefixed ⟨_, rfl⟩ rfl rfl ⟨(Or.inr ⟨wy_pr rfl, fun q => q⟩), trivial, trivial, trivial, trivial, trivial⟩ trivial (fun _ _ q => False.elim q) (wJ_mono (rip83_241 (m := m) hX hM hK hw hm) (fun o Z hz => (⟨hz.1, by rw [hNN]; exact hz.2⟩ : S = Z ∧ o = .inl (some (0, bI (pxB [105, 115] NN)))))) (fun oq1 Sq1 hp2 q1 => ?_)
  rcases q1 with ⟨rfl, rfl⟩
  show wJ _ _ _ _ _ _ _ _ _ _
  have hpx0 := bI_rg (pxB [105, 115] NN)
  refine wa_ifeq (w_rg0 (by omega) (by omega)) ⟨_, rfl⟩ (fun c3 => ?_) (fun c3 => ?_)
  · skip
    refine wa_iconst ?_
    refine wa_fall ⟨_, rfl⟩ ?_
    refine wa_istore (n := 5) rfl ?_
    refine wa_aload_n (n := 0) rfl ?_
    refine wa_iconst ?_
    refine wb_pfi 237 rfl (wy_pr rfl) wt_237 wf_15_126 (n := 126) rfl ⟨(by omega), (by omega)⟩ ?_
    refine wa_iload (n := 5) rfl ?_
    refine wa_istore (n := 6) rfl ?_
    refine wa_fall ⟨_, rfl⟩ ?_
    have hsk : skN NN = 3 := by first | exact sk_2 (by omega) (by omega) (by omega) | exact sk_3 (by omega)
    rw [hsk] at hcap ⊢
    exact wJ_S (rfl9_241 (sk := 3) hX hM hK hw hm hNN ⟨by omega, hcap.1⟩ hcap.2 hsb (NN.length - 3) 0 _ (by omega) (w_up_same _ _ _ _) (fun q hq => absurd hq (Nat.not_lt_zero _)) (fun j x hj => w_up_no (fun z => hj (Or.inr z)))) ⟨rfl, rfl, rfl, rfl, rfl, rfl, rfl, trivial⟩
  · skip
    refine wa_aload_n (n := 0) rfl ?_
    refine wa_iload_n (n := 1) rfl ?_
    refine wa_ks ?_
    refine wa_cv 237 rfl (wy_pr rfl) wt_237 (M2 := fun _ => False) rfl at_M_isPrefixed ⟨_, rfl⟩ rfl rfl ⟨(Or.inr ⟨wy_pr rfl, fun q => q⟩), trivial, trivial, trivial, trivial, trivial⟩ trivial (fun _ _ q => False.elim q) (wJ_mono (rip51_241 (m := m) hX hM hK hw hm) (fun o Z hz => (⟨hz.1, by rw [hNN]; exact hz.2⟩ : S = Z ∧ o = .inl (some (0, bI (pxB [115, 101, 116] NN)))))) (fun oq4 Sq4 hp5 q4 => ?_)
    rcases q4 with ⟨rfl, rfl⟩
    show wJ _ _ _ _ _ _ _ _ _ _
    have hpx3 := bI_rg (pxB [115, 101, 116] NN)
    refine wa_ifne (w_rg0 (by omega) (by omega)) ⟨_, rfl⟩ (fun c6 => ?_) (fun c6 => ?_)
    · skip
      refine wa_iconst ?_
      refine wa_fall ⟨_, rfl⟩ ?_
      refine wa_istore (n := 5) rfl ?_
      refine wa_aload_n (n := 0) rfl ?_
      refine wa_iconst ?_
      refine wb_pfi 237 rfl (wy_pr rfl) wt_237 wf_15_126 (n := 126) rfl ⟨(by omega), (by omega)⟩ ?_
      refine wa_iload (n := 5) rfl ?_
      refine wa_istore (n := 6) rfl ?_
      refine wa_fall ⟨_, rfl⟩ ?_
      have hsk : skN NN = 3 := by first | exact sk_2 (by omega) (by omega) (by omega) | exact sk_3 (by omega)
      rw [hsk] at hcap ⊢
      exact wJ_S (rfl9_241 (sk := 3) hX hM hK hw hm hNN ⟨by omega, hcap.1⟩ hcap.2 hsb (NN.length - 3) 0 _ (by omega) (w_up_same _ _ _ _) (fun q hq => absurd hq (Nat.not_lt_zero _)) (fun j x hj => w_up_no (fun z => hj (Or.inr z)))) ⟨rfl, rfl, rfl, rfl, rfl, rfl, rfl, trivial⟩
    · skip
      refine wa_aload_n (n := 0) rfl ?_
      refine wa_iload_n (n := 1) rfl ?_
      refine wa_ks ?_
      refine wa_cv 237 rfl (wy_pr rfl) wt_237 (M2 := fun _ => False) rfl at_M_isPrefixed ⟨_, rfl⟩ rfl rfl ⟨(Or.inr ⟨wy_pr rfl, fun q => q⟩), trivial, trivial, trivial, trivial, trivial⟩ trivial (fun _ _ q => False.elim q) (wJ_mono (rip81_241 (m := m) hX hM hK hw hm) (fun o Z hz => (⟨hz.1, by rw [hNN]; exact hz.2⟩ : S = Z ∧ o = .inl (some (0, bI (pxB [103, 101, 116] NN)))))) (fun oq7 Sq7 hp8 q7 => ?_)
      rcases q7 with ⟨rfl, rfl⟩
      show wJ _ _ _ _ _ _ _ _ _ _
      have hpx6 := bI_rg (pxB [103, 101, 116] NN)
      refine wa_ifne (w_rg0 (by omega) (by omega)) ⟨_, rfl⟩ (fun c9 => ?_) (fun c9 => ?_)
      · skip
        refine wa_iconst ?_
        refine wa_fall ⟨_, rfl⟩ ?_
        refine wa_istore (n := 5) rfl ?_
        refine wa_aload_n (n := 0) rfl ?_
        refine wa_iconst ?_
        refine wb_pfi 237 rfl (wy_pr rfl) wt_237 wf_15_126 (n := 126) rfl ⟨(by omega), (by omega)⟩ ?_
        refine wa_iload (n := 5) rfl ?_
        refine wa_istore (n := 6) rfl ?_
        refine wa_fall ⟨_, rfl⟩ ?_
        have hsk : skN NN = 3 := by first | exact sk_2 (by omega) (by omega) (by omega) | exact sk_3 (by omega)
        rw [hsk] at hcap ⊢
        exact wJ_S (rfl9_241 (sk := 3) hX hM hK hw hm hNN ⟨by omega, hcap.1⟩ hcap.2 hsb (NN.length - 3) 0 _ (by omega) (w_up_same _ _ _ _) (fun q hq => absurd hq (Nat.not_lt_zero _)) (fun j x hj => w_up_no (fun z => hj (Or.inr z)))) ⟨rfl, rfl, rfl, rfl, rfl, rfl, rfl, trivial⟩
      · skip
        refine wa_iconst ?_
        refine wa_goto ⟨_, rfl⟩ ?_
        refine wa_istore (n := 5) rfl ?_
        refine wa_aload_n (n := 0) rfl ?_
        refine wa_iconst ?_
        refine wb_pfi 237 rfl (wy_pr rfl) wt_237 wf_15_126 (n := 126) rfl ⟨(by omega), (by omega)⟩ ?_
        refine wa_iload (n := 5) rfl ?_
        refine wa_istore (n := 6) rfl ?_
        refine wa_fall ⟨_, rfl⟩ ?_
        have hsk : skN NN = 2 := by first | exact sk_2 (by omega) (by omega) (by omega) | exact sk_3 (by omega)
        rw [hsk] at hcap ⊢
        exact wJ_S (rfl9_241 (sk := 2) hX hM hK hw hm hNN ⟨by omega, hcap.1⟩ hcap.2 hsb (NN.length - 2) 0 _ (by omega) (w_up_same _ _ _ _) (fun q hq => absurd hq (Nat.not_lt_zero _)) (fun j x hj => w_up_no (fun z => hj (Or.inr z)))) ⟨rfl, rfl, rfl, rfl, rfl, rfl, rfl, trivial⟩
theorem rfh_241 {m : Int} (hX : w_X xs) (hM : w_ML S) (hK : KR 241 T n cs ms S) (hw : wHo cs ms os) (hm : 0 ≤ m ∧ m < (ms.length : Int)) (hNN : NN = nmR T (hmR ms m)) : wJ (pe_GA xs) wY0 M (d + 6) t_M_fieldFor ((pe_at t_M_fieldFor.bl 2).getD (0, [])).2 [(0, (2, 237)), (1, (0, m)), (2, (0, (NN.length : Int)))] [(0, bI (sB ms NN m))] S (fun z Z => z = .inl (some (0, (if sB ms NN m = true ∨ gB ms NN m = true then ftF ms (sB ms NN m) m (fdA T cs ms (-1) (wtN NN (skN NN)) (hmR ms m).1) else -1))) ∧ ∀ (j : Nat) (x : Int), ¬ wtM j x → Z j x = S j x) := by
  have h13 : S 237 13 = 241 := hK.1
  have h400 := hw.1
  have hn6 := hK.2.2.2.2.2.1
  have eM := KR_m hK (m := m) (by omega) (by omega)
  have eW := hw.2.2.2 m (by omega) (by omega)
  have e1 : S 253 m = (hmR ms m).2.1 := eM.1.2.1
  have e2 : S 254 m = (hmR ms m).2.2.1 := eM.1.2.2.1
  have e3 : S 255 m = (hmR ms m).2.2.2.1 := eM.1.2.2.2.1
  have e4 : S 256 m = ((hmR ms m).2.2.2.2.1.length : Int) := eM.2.1.1
  have e5 : S 257 m = (hmR ms m).2.2.2.2.2.1 := eM.2.1.2.1
  have ef : S 259 m = (hmR ms m).2.2.2.2.2.2.1 := eM.1.2.2.2.2.1
  have et : S 260 m = (hmR ms m).2.2.2.2.2.2.2 := eM.1.2.2.2.2.2
  have eq := eW.1.2.1
  have es := eW.1.2.2.1
  have ey := eW.1.2.2.2
  have ev := eW.2.1
  have el := eW.2.2.1
  have eft := hK.2.2.2.2.2.2.1 m (by omega) (by omega)
  have hNl : (NN.length : Int) = (hmR ms m).2.2.2.2.2.2.2 - (hmR ms m).2.2.2.2.2.2.1 := by rw [hNN]; exact nmR_l (by omega)
  have hNs : ∀ i : Nat, i < NN.length → S 242 ((hmR ms m).2.2.2.2.2.2.1 + (i : Int)) = NN.getD i 0 := fun i hi => by rw [hNN] at hi ⊢; rw [nmR_s hi]; exact hK.2.2.2.2.1 _ (by omega) (by rw [← hNN] at hi; omega)
  have hbs := bI_rg (sB ms NN m)
  refine wa_istore_n (n := 3) rfl ?_
  refine wa_aload_n (n := 0) rfl ?_
  refine wb_gf5 237 rfl (wy_pr rfl) wt_237 wf_15_13 (v := 241) (h13) (fun r1 => ?_)
  refine wb_gf4 241 rfl (wy_pr rfl) wt_241 wf_12_16 (v := 256) wl_241_16 ?_
  refine wa_iload_n (n := 1) rfl ?_
  refine wb_iald 256 rfl (wy_pr rfl) wt_256 (n := 400) ((ml_256 hM)) (by omega) (by omega) (v := ((hmR ms m).2.2.2.2.1.length : Int)) (e4) (fun r2 => ?_)
  refine wa_ifne (w_rg0 (by omega) (by omega)) ⟨_, rfl⟩ (fun c3 => ?_) (fun c3 => ?_)
  · skip
    refine wa_iconst ?_
    refine wa_fall ⟨_, rfl⟩ ?_
    have hgv : bI (gB ms NN m) = 0 := by first | exact gB_t (by omega) (by omega) | exact gB_f (by omega)
    refine wa_istore (n := 4) rfl ?_
    refine wa_iload_n (n := 3) rfl ?_
    refine wa_ifne (w_rg0 (by omega) (by omega)) ⟨_, rfl⟩ (fun c4 => ?_) (fun c4 => ?_)
    · skip
      exact wJ_S (rfg_241 hX hM hK hw hm hNN (by first | exact Or.inl (bI_1 (by omega)) | exact Or.inr (bI_1 (by omega)))) ⟨rfl, rfl, rfl, rfl, rfl, trivial⟩
    · skip
      refine wa_iload (n := 4) rfl ?_
      refine wa_ifne (w_rg0 (by omega) (by omega)) ⟨_, rfl⟩ (fun c5 => ?_) (fun c5 => ?_)
      · skip
        exact absurd c5 (by omega)
      · skip
        refine wa_iconst ?_
        refine wa_ireturn rfl ?_
        rw [if_neg (fun z => z.elim (fun y => by have := bI_t y; omega) (fun y => by have := bI_t y; omega))]
        exact ⟨rfl, fun j x hj => rfl⟩
  · skip
    refine wa_aload_n (n := 0) rfl ?_
    refine wa_iload_n (n := 1) rfl ?_
    refine wa_ks ?_
    refine wa_cv 237 rfl (wy_pr rfl) wt_237 (M2 := fun _ => False) rfl at_M_isPrefixed ⟨_, rfl⟩ rfl rfl ⟨trivial, (Or.inr ⟨wy_pr rfl, fun q => q⟩), trivial, trivial, trivial⟩ trivial (fun _ _ q => False.elim q) (wJ_mono (rip81_241 (m := m) hX hM hK hw hm) (fun o Z hz => (⟨hz.1, by rw [hNN]; exact hz.2⟩ : S = Z ∧ o = .inl (some (0, bI (pxB [103, 101, 116] NN)))))) (fun oq6 Sq6 hp7 q6 => ?_)
    rcases q6 with ⟨rfl, rfl⟩
    show wJ _ _ _ _ _ _ _ _ _ _
    have hpx5 := bI_rg (pxB [103, 101, 116] NN)
    refine wa_ifne (w_rg0 (by omega) (by omega)) ⟨_, rfl⟩ (fun c8 => ?_) (fun c8 => ?_)
    · skip
      refine wa_iconst ?_
      refine wa_goto ⟨_, rfl⟩ ?_
      have hgv : bI (gB ms NN m) = 1 := by first | exact gB_t (by omega) (by omega) | exact gB_f (by omega)
      refine wa_istore (n := 4) rfl ?_
      refine wa_iload_n (n := 3) rfl ?_
      refine wa_ifne (w_rg0 (by omega) (by omega)) ⟨_, rfl⟩ (fun c9 => ?_) (fun c9 => ?_)
      · skip
        exact wJ_S (rfg_241 hX hM hK hw hm hNN (by first | exact Or.inl (bI_1 (by omega)) | exact Or.inr (bI_1 (by omega)))) ⟨rfl, rfl, rfl, rfl, rfl, trivial⟩
      · skip
        refine wa_iload (n := 4) rfl ?_
        refine wa_ifne (w_rg0 (by omega) (by omega)) ⟨_, rfl⟩ (fun c10 => ?_) (fun c10 => ?_)
        · skip
          exact wJ_S (rfg_241 hX hM hK hw hm hNN (by first | exact Or.inl (bI_1 (by omega)) | exact Or.inr (bI_1 (by omega)))) ⟨rfl, rfl, rfl, rfl, rfl, trivial⟩
        · skip
          exact absurd c10 (by omega)
    · skip
      refine wa_aload_n (n := 0) rfl ?_
      refine wa_iload_n (n := 1) rfl ?_
      refine wa_ks ?_
      refine wa_cv 237 rfl (wy_pr rfl) wt_237 (M2 := fun _ => False) rfl at_M_isPrefixed ⟨_, rfl⟩ rfl rfl ⟨trivial, (Or.inr ⟨wy_pr rfl, fun q => q⟩), trivial, trivial, trivial⟩ trivial (fun _ _ q => False.elim q) (wJ_mono (rip83_241 (m := m) hX hM hK hw hm) (fun o Z hz => (⟨hz.1, by rw [hNN]; exact hz.2⟩ : S = Z ∧ o = .inl (some (0, bI (pxB [105, 115] NN)))))) (fun oq11 Sq11 hp12 q11 => ?_)
      rcases q11 with ⟨rfl, rfl⟩
      show wJ _ _ _ _ _ _ _ _ _ _
      have hpx10 := bI_rg (pxB [105, 115] NN)
      refine wa_ifeq (w_rg0 (by omega) (by omega)) ⟨_, rfl⟩ (fun c13 => ?_) (fun c13 => ?_)
      · skip
        refine wa_iconst ?_
        refine wa_fall ⟨_, rfl⟩ ?_
        have hgv : bI (gB ms NN m) = 0 := by first | exact gB_t (by omega) (by omega) | exact gB_f (by omega)
        refine wa_istore (n := 4) rfl ?_
        refine wa_iload_n (n := 3) rfl ?_
        refine wa_ifne (w_rg0 (by omega) (by omega)) ⟨_, rfl⟩ (fun c14 => ?_) (fun c14 => ?_)
        · skip
          exact wJ_S (rfg_241 hX hM hK hw hm hNN (by first | exact Or.inl (bI_1 (by omega)) | exact Or.inr (bI_1 (by omega)))) ⟨rfl, rfl, rfl, rfl, rfl, trivial⟩
        · skip
          refine wa_iload (n := 4) rfl ?_
          refine wa_ifne (w_rg0 (by omega) (by omega)) ⟨_, rfl⟩ (fun c15 => ?_) (fun c15 => ?_)
          · skip
            exact absurd c15 (by omega)
          · skip
            refine wa_iconst ?_
            refine wa_ireturn rfl ?_
            rw [if_neg (fun z => z.elim (fun y => by have := bI_t y; omega) (fun y => by have := bI_t y; omega))]
            exact ⟨rfl, fun j x hj => rfl⟩
      · skip
        refine wa_aload_n (n := 0) rfl ?_
        refine wb_gf5 237 rfl (wy_pr rfl) wt_237 wf_15_13 (v := 241) (h13) (fun r16 => ?_)
        refine wb_gf4 241 rfl (wy_pr rfl) wt_241 wf_12_15 (v := 255) wl_241_15 ?_
        refine wa_iload_n (n := 1) rfl ?_
        refine wb_iald 255 rfl (wy_pr rfl) wt_255 (n := 400) ((ml_255 hM)) (by omega) (by omega) (v := (hmR ms m).2.2.2.1) (e3) (fun r17 => ?_)
        refine wa_iconst ?_
        refine wa_icmpne (w_rg0 (by omega) (by omega)) (w_rg0 (by omega) (by omega)) ⟨_, rfl⟩ (fun c18 => ?_) (fun c18 => ?_)
        · skip
          refine wa_iconst ?_
          refine wa_fall ⟨_, rfl⟩ ?_
          have hgv : bI (gB ms NN m) = 0 := by first | exact gB_t (by omega) (by omega) | exact gB_f (by omega)
          refine wa_istore (n := 4) rfl ?_
          refine wa_iload_n (n := 3) rfl ?_
          refine wa_ifne (w_rg0 (by omega) (by omega)) ⟨_, rfl⟩ (fun c19 => ?_) (fun c19 => ?_)
          · skip
            exact wJ_S (rfg_241 hX hM hK hw hm hNN (by first | exact Or.inl (bI_1 (by omega)) | exact Or.inr (bI_1 (by omega)))) ⟨rfl, rfl, rfl, rfl, rfl, trivial⟩
          · skip
            refine wa_iload (n := 4) rfl ?_
            refine wa_ifne (w_rg0 (by omega) (by omega)) ⟨_, rfl⟩ (fun c20 => ?_) (fun c20 => ?_)
            · skip
              exact absurd c20 (by omega)
            · skip
              refine wa_iconst ?_
              refine wa_ireturn rfl ?_
              rw [if_neg (fun z => z.elim (fun y => by have := bI_t y; omega) (fun y => by have := bI_t y; omega))]
              exact ⟨rfl, fun j x hj => rfl⟩
        · skip
          refine wa_fall ⟨_, rfl⟩ ?_
          refine wa_iconst ?_
          refine wa_goto ⟨_, rfl⟩ ?_
          have hgv : bI (gB ms NN m) = 1 := by first | exact gB_t (by omega) (by omega) | exact gB_f (by omega)
          refine wa_istore (n := 4) rfl ?_
          refine wa_iload_n (n := 3) rfl ?_
          refine wa_ifne (w_rg0 (by omega) (by omega)) ⟨_, rfl⟩ (fun c21 => ?_) (fun c21 => ?_)
          · skip
            exact wJ_S (rfg_241 hX hM hK hw hm hNN (by first | exact Or.inl (bI_1 (by omega)) | exact Or.inr (bI_1 (by omega)))) ⟨rfl, rfl, rfl, rfl, rfl, trivial⟩
          · skip
            refine wa_iload (n := 4) rfl ?_
            refine wa_ifne (w_rg0 (by omega) (by omega)) ⟨_, rfl⟩ (fun c22 => ?_) (fun c22 => ?_)
            · skip
              exact wJ_S (rfg_241 hX hM hK hw hm hNN (by first | exact Or.inl (bI_1 (by omega)) | exact Or.inr (bI_1 (by omega)))) ⟨rfl, rfl, rfl, rfl, rfl, trivial⟩
            · skip
              exact absurd c22 (by omega)
theorem rff_241 {m : Int} (hX : w_X xs) (hM : w_ML S) (hK : KR 241 T n cs ms S) (hw : wHo cs ms os) (hm : 0 ≤ m ∧ m < (ms.length : Int)) : wJ (pe_GA xs) wY0 M (d + 6) t_M_fieldFor ((pe_at t_M_fieldFor.bl 0).getD (0, [])).2 [(0, (2, 237)), (1, (0, m))] [] S (fun z Z => z = .inl (some (0, ffA T cs ms m)) ∧ ∀ (j : Nat) (x : Int), ¬ wtM j x → Z j x = S j x) := by
  have h13 : S 237 13 = 241 := hK.1
  have h400 := hw.1
  have hn6 := hK.2.2.2.2.2.1
  have eM := KR_m hK (m := m) (by omega) (by omega)
  have eW := hw.2.2.2 m (by omega) (by omega)
  have e1 : S 253 m = (hmR ms m).2.1 := eM.1.2.1
  have e2 : S 254 m = (hmR ms m).2.2.1 := eM.1.2.2.1
  have e3 : S 255 m = (hmR ms m).2.2.2.1 := eM.1.2.2.2.1
  have e4 : S 256 m = ((hmR ms m).2.2.2.2.1.length : Int) := eM.2.1.1
  have e5 : S 257 m = (hmR ms m).2.2.2.2.2.1 := eM.2.1.2.1
  have ef : S 259 m = (hmR ms m).2.2.2.2.2.2.1 := eM.1.2.2.2.2.1
  have et : S 260 m = (hmR ms m).2.2.2.2.2.2.2 := eM.1.2.2.2.2.2
  have eq := eW.1.2.1
  have es := eW.1.2.2.1
  have ey := eW.1.2.2.2
  have ev := eW.2.1
  have el := eW.2.2.1
  have eft := hK.2.2.2.2.2.2.1 m (by omega) (by omega)
  obtain ⟨NN, hNN⟩ : ∃ NN : List Int, NN = nmR T (hmR ms m) := ⟨_, rfl⟩
  have hNl : (NN.length : Int) = (hmR ms m).2.2.2.2.2.2.2 - (hmR ms m).2.2.2.2.2.2.1 := by rw [hNN]; exact nmR_l (by omega)
  have hNs : ∀ i : Nat, i < NN.length → S 242 ((hmR ms m).2.2.2.2.2.2.1 + (i : Int)) = NN.getD i 0 := fun i hi => by rw [hNN] at hi ⊢; rw [nmR_s hi]; exact hK.2.2.2.2.1 _ (by omega) (by rw [← hNN] at hi; omega)
  unfold ffA
  rw [← hNN]
  refine wa_aload_n (n := 0) rfl ?_
  refine wb_gf5 237 rfl (wy_pr rfl) wt_237 wf_15_13 (v := 241) (h13) (fun r1 => ?_)
  refine wb_gf4 241 rfl (wy_pr rfl) wt_241 wf_12_20 (v := 260) wl_241_20 ?_
  refine wa_iload_n (n := 1) rfl ?_
  refine wb_iald 260 rfl (wy_pr rfl) wt_260 (n := 400) ((ml_260 hM)) (by omega) (by omega) (v := (hmR ms m).2.2.2.2.2.2.2) (et) (fun r2 => ?_)
  refine wa_aload_n (n := 0) rfl ?_
  refine wb_gf5 237 rfl (wy_pr rfl) wt_237 wf_15_13 (v := 241) (h13) (fun r3 => ?_)
  refine wb_gf4 241 rfl (wy_pr rfl) wt_241 wf_12_19 (v := 259) wl_241_19 ?_
  refine wa_iload_n (n := 1) rfl ?_
  refine wb_iald 259 rfl (wy_pr rfl) wt_259 (n := 400) ((ml_259 hM)) (by omega) (by omega) (v := (hmR ms m).2.2.2.2.2.2.1) (ef) (fun r4 => ?_)
  refine wa_isub ?_
  refine wJ_top (show ((hmR ms m).2.2.2.2.2.2.2 - (hmR ms m).2.2.2.2.2.2.1) = (NN.length : Int) by omega) ?_
  refine wa_istore_n (n := 2) rfl ?_
  refine wa_aload_n (n := 0) rfl ?_
  refine wa_iload_n (n := 1) rfl ?_
  refine wa_ks ?_
  refine wa_cv 237 rfl (wy_pr rfl) wt_237 (M2 := fun _ => False) rfl at_M_isPrefixed ⟨_, rfl⟩ rfl rfl ⟨trivial, (Or.inr ⟨wy_pr rfl, fun q => q⟩), trivial, trivial⟩ trivial (fun _ _ q => False.elim q) (wJ_mono (rip51_241 (m := m) hX hM hK hw hm) (fun o Z hz => (⟨hz.1, by rw [hNN]; exact hz.2⟩ : S = Z ∧ o = .inl (some (0, bI (pxB [115, 101, 116] NN)))))) (fun oq5 Sq5 hp6 q5 => ?_)
  rcases q5 with ⟨rfl, rfl⟩
  show wJ _ _ _ _ _ _ _ _ _ _
  have hpx4 := bI_rg (pxB [115, 101, 116] NN)
  refine wa_ifeq (w_rg0 (by omega) (by omega)) ⟨_, rfl⟩ (fun c7 => ?_) (fun c7 => ?_)
  · skip
    refine wa_iconst ?_
    refine wa_fall ⟨_, rfl⟩ ?_
    have hsv : bI (sB ms NN m) = 0 := by first | exact sB_t (by omega) (by omega) (by omega) (by omega) | exact sB_f (by omega)
    refine wJ_top hsv.symm ?_
    exact wJ_S (rfh_241 hX hM hK hw hm hNN) ⟨rfl, rfl, rfl, trivial⟩
  · skip
    refine wa_aload_n (n := 0) rfl ?_
    refine wb_gf5 237 rfl (wy_pr rfl) wt_237 wf_15_13 (v := 241) (h13) (fun r8 => ?_)
    refine wb_gf4 241 rfl (wy_pr rfl) wt_241 wf_12_15 (v := 255) wl_241_15 ?_
    refine wa_iload_n (n := 1) rfl ?_
    refine wb_iald 255 rfl (wy_pr rfl) wt_255 (n := 400) ((ml_255 hM)) (by omega) (by omega) (v := (hmR ms m).2.2.2.1) (e3) (fun r9 => ?_)
    refine wa_ifne (w_rg0 (by omega) (by omega)) ⟨_, rfl⟩ (fun c10 => ?_) (fun c10 => ?_)
    · skip
      refine wa_iconst ?_
      refine wa_fall ⟨_, rfl⟩ ?_
      have hsv : bI (sB ms NN m) = 0 := by first | exact sB_t (by omega) (by omega) (by omega) (by omega) | exact sB_f (by omega)
      refine wJ_top hsv.symm ?_
      exact wJ_S (rfh_241 hX hM hK hw hm hNN) ⟨rfl, rfl, rfl, trivial⟩
    · skip
      refine wa_aload_n (n := 0) rfl ?_
      refine wb_gf5 237 rfl (wy_pr rfl) wt_237 wf_15_13 (v := 241) (h13) (fun r11 => ?_)
      refine wb_gf4 241 rfl (wy_pr rfl) wt_241 wf_12_16 (v := 256) wl_241_16 ?_
      refine wa_iload_n (n := 1) rfl ?_
      refine wb_iald 256 rfl (wy_pr rfl) wt_256 (n := 400) ((ml_256 hM)) (by omega) (by omega) (v := ((hmR ms m).2.2.2.2.1.length : Int)) (e4) (fun r12 => ?_)
      refine wa_iconst ?_
      refine wa_icmpne (w_rg0 (by omega) (by omega)) (w_rg0 (by omega) (by omega)) ⟨_, rfl⟩ (fun c13 => ?_) (fun c13 => ?_)
      · skip
        refine wa_iconst ?_
        refine wa_fall ⟨_, rfl⟩ ?_
        have hsv : bI (sB ms NN m) = 0 := by first | exact sB_t (by omega) (by omega) (by omega) (by omega) | exact sB_f (by omega)
        refine wJ_top hsv.symm ?_
        exact wJ_S (rfh_241 hX hM hK hw hm hNN) ⟨rfl, rfl, rfl, trivial⟩
      · skip
        refine wa_aload_n (n := 0) rfl ?_
        refine wb_gf5 237 rfl (wy_pr rfl) wt_237 wf_15_13 (v := 241) (h13) (fun r14 => ?_)
        refine wb_gf4 241 rfl (wy_pr rfl) wt_241 wf_12_17 (v := 257) wl_241_17 ?_
        refine wa_iload_n (n := 1) rfl ?_
        refine wb_zald 257 rfl (wy_pr rfl) wt_257 (n := 400) ((ml_257 hM)) (by omega) (by omega) (v := (hmR ms m).2.2.2.2.2.1) (e5) (fun r15 => ?_)
        refine wa_ifne (w_rg0 (by omega) (by omega)) ⟨_, rfl⟩ (fun c16 => ?_) (fun c16 => ?_)
        · skip
          refine wa_iconst ?_
          refine wa_fall ⟨_, rfl⟩ ?_
          have hsv : bI (sB ms NN m) = 0 := by first | exact sB_t (by omega) (by omega) (by omega) (by omega) | exact sB_f (by omega)
          refine wJ_top hsv.symm ?_
          exact wJ_S (rfh_241 hX hM hK hw hm hNN) ⟨rfl, rfl, rfl, trivial⟩
        · skip
          refine wa_iconst ?_
          refine wa_goto ⟨_, rfl⟩ ?_
          have hsv : bI (sB ms NN m) = 1 := by first | exact sB_t (by omega) (by omega) (by omega) (by omega) | exact sB_f (by omega)
          refine wJ_top hsv.symm ?_
          exact wJ_S (rfh_241 hX hM hK hw hm hNN) ⟨rfl, rfl, rfl, trivial⟩
theorem rip51_261 {m : Int} (hX : w_X xs) (hM : w_ML S) (hK : KR 261 T n cs ms S) (hw : wHo cs ms os) (hm : 0 ≤ m ∧ m < (ms.length : Int)) : wJ (pe_GA xs) wY0 M (d + 5) t_M_isPrefixed ((pe_at t_M_isPrefixed.bl 0).getD (0, [])).2 [(0, (2, 237)), (1, (0, m)), (2, (2, (-10 - ((51 : Nat) : Int))))] [] S (fun z Z => S = Z ∧ z = .inl (some (0, bI (pxB [115, 101, 116] (nmR T (hmR ms m)))))) := by
  have h13 : S 237 13 = 261 := hK.1
  have h400 := hw.1
  have hn6 := hK.2.2.2.2.2.1
  have eM := KR_m hK (m := m) (by omega) (by omega)
  have eW := hw.2.2.2 m (by omega) (by omega)
  have e1 : S 273 m = (hmR ms m).2.1 := eM.1.2.1
  have e2 : S 274 m = (hmR ms m).2.2.1 := eM.1.2.2.1
  have e3 : S 275 m = (hmR ms m).2.2.2.1 := eM.1.2.2.2.1
  have e4 : S 276 m = ((hmR ms m).2.2.2.2.1.length : Int) := eM.2.1.1
  have e5 : S 277 m = (hmR ms m).2.2.2.2.2.1 := eM.2.1.2.1
  have ef : S 279 m = (hmR ms m).2.2.2.2.2.2.1 := eM.1.2.2.2.2.1
  have et : S 280 m = (hmR ms m).2.2.2.2.2.2.2 := eM.1.2.2.2.2.2
  have eq := eW.1.2.1
  have es := eW.1.2.2.1
  have ey := eW.1.2.2.2
  have ev := eW.2.1
  have el := eW.2.2.1
  have eft := hK.2.2.2.2.2.2.1 m (by omega) (by omega)
  obtain ⟨NN, hNN⟩ : ∃ NN : List Int, NN = nmR T (hmR ms m) := ⟨_, rfl⟩
  have hNl : (NN.length : Int) = (hmR ms m).2.2.2.2.2.2.2 - (hmR ms m).2.2.2.2.2.2.1 := by rw [hNN]; exact nmR_l (by omega)
  have hNs : ∀ i : Nat, i < NN.length → S 262 ((hmR ms m).2.2.2.2.2.2.1 + (i : Int)) = NN.getD i 0 := fun i hi => by rw [hNN] at hi ⊢; rw [nmR_s hi]; exact hK.2.2.2.2.1 _ (by omega) (by rw [← hNN] at hi; omega)
  rw [← hNN]
  refine wa_aload_n (n := 0) rfl ?_
  refine wb_gf5 237 rfl (wy_pr rfl) wt_237 wf_15_13 (v := 261) (h13) (fun r1 => ?_)
  refine wb_gf4 261 rfl (wy_pr rfl) wt_261 wf_12_20 (v := 280) wl_261_20 ?_
  refine wa_iload_n (n := 1) rfl ?_
  refine wb_iald 280 rfl (wy_pr rfl) wt_280 (n := 400) ((ml_280 hM)) (by omega) (by omega) (v := (hmR ms m).2.2.2.2.2.2.2) (et) (fun r2 => ?_)
  refine wa_aload_n (n := 0) rfl ?_
  refine wb_gf5 237 rfl (wy_pr rfl) wt_237 wf_15_13 (v := 261) (h13) (fun r3 => ?_)
  refine wb_gf4 261 rfl (wy_pr rfl) wt_261 wf_12_19 (v := 279) wl_261_19 ?_
  refine wa_iload_n (n := 1) rfl ?_
  refine wb_iald 279 rfl (wy_pr rfl) wt_279 (n := 400) ((ml_279 hM)) (by omega) (by omega) (v := (hmR ms m).2.2.2.2.2.2.1) (ef) (fun r4 => ?_)
  refine wa_isub ?_
  refine wa_istore_n (n := 3) rfl ?_
  refine wa_iload_n (n := 3) rfl ?_
  refine wa_aload_n (n := 2) rfl ?_
  refine wa_sl 51 rfl (wx_51 hX) rfl rfl ?_
  refine wJ_top (show (tx_51.length : Int) = 3 by decide) ?_
  refine wa_icmpgt (w_rg0 (by omega) (by omega)) (w_rg0 (by omega) (by omega)) ⟨_, rfl⟩ (fun c5 => ?_) (fun c5 => ?_)
  · skip
    have hs0 : S 262 ((hmR ms m).2.2.2.2.2.2.1 + 0) = NN.getD 0 0 := hNs 0 (by omega)
    have hs1 : S 262 ((hmR ms m).2.2.2.2.2.2.1 + 1) = NN.getD 1 0 := hNs 1 (by omega)
    have hs2 : S 262 ((hmR ms m).2.2.2.2.2.2.1 + 2) = NN.getD 2 0 := hNs 2 (by omega)
    have hs3 : S 262 ((hmR ms m).2.2.2.2.2.2.1 + 3) = NN.getD 3 0 := hNs 3 (by omega)
    refine wa_iconst ?_
    refine wa_istore (n := 4) rfl ?_
    refine wa_fall ⟨_, rfl⟩ ?_
    refine wJ_S (L2 := [(0, (2, 237)), (1, (0, m)), (2, (2, (-10 - ((51 : Nat) : Int)))), (3, (0, ((hmR ms m).2.2.2.2.2.2.2 - (hmR ms m).2.2.2.2.2.2.1))), (4, (0, 0))]) ?_ ⟨rfl, rfl, rfl, rfl, rfl, trivial⟩
    refine wa_iload (n := 4) rfl ?_
    refine wa_aload_n (n := 2) rfl ?_
    refine wa_sl 51 rfl (wx_51 hX) rfl rfl ?_
    refine wJ_top (show (tx_51.length : Int) = 3 by decide) ?_
    refine wa_icmpge (w_rg0 (by omega) (by omega)) (w_rg0 (by omega) (by omega)) ⟨_, rfl⟩ (fun c6 => ?_) (fun c6 => ?_)
    · skip
      exact absurd c6 (by omega)
    · skip
      refine wa_aload_n (n := 0) rfl ?_
      refine wb_gf5 237 rfl (wy_pr rfl) wt_237 wf_15_13 (v := 261) (h13) (fun r7 => ?_)
      refine wb_gf4 261 rfl (wy_pr rfl) wt_261 wf_12_0 (v := 262) wl_261_0 ?_
      refine wa_aload_n (n := 0) rfl ?_
      refine wb_gf5 237 rfl (wy_pr rfl) wt_237 wf_15_13 (v := 261) (h13) (fun r8 => ?_)
      refine wb_gf4 261 rfl (wy_pr rfl) wt_261 wf_12_19 (v := 279) wl_261_19 ?_
      refine wa_iload_n (n := 1) rfl ?_
      refine wb_iald 279 rfl (wy_pr rfl) wt_279 (n := 400) ((ml_279 hM)) (by omega) (by omega) (v := (hmR ms m).2.2.2.2.2.2.1) (ef) (fun r9 => ?_)
      refine wa_iload (n := 4) rfl ?_
      refine wa_iadd ?_
      refine wb_bald 262 rfl (wy_pr rfl) wt_262 (n := 65536) ((ml_262 hM)) (by omega) (by omega) (v := (NN.getD 0 0)) (hs0) (fun r10 => ?_)
      refine wa_aload_n (n := 2) rfl ?_
      refine wa_iload (n := 4) rfl ?_
      refine wa_sc 51 rfl (wx_51 hX) (by first | decide | omega) rfl rfl (by first | decide | omega) (by first | decide | omega) ?_
      refine wJ_top (show (w_tx tx_51 0) = 115 by decide) ?_
      refine wa_icmpeq (w_rg0 (by omega) (by omega)) (w_rg0 (by omega) (by omega)) ⟨_, rfl⟩ (fun c11 => ?_) (fun c11 => ?_)
      · skip
        refine wa_iinc rfl rfl ?_
        refine wa_goto ⟨_, rfl⟩ ?_
        refine wJ_S (L2 := [(0, (2, 237)), (1, (0, m)), (2, (2, (-10 - ((51 : Nat) : Int)))), (3, (0, ((hmR ms m).2.2.2.2.2.2.2 - (hmR ms m).2.2.2.2.2.2.1))), (4, (0, 1))]) ?_ ⟨rfl, rfl, rfl, rfl, rfl, trivial⟩
        refine wa_iload (n := 4) rfl ?_
        refine wa_aload_n (n := 2) rfl ?_
        refine wa_sl 51 rfl (wx_51 hX) rfl rfl ?_
        refine wJ_top (show (tx_51.length : Int) = 3 by decide) ?_
        refine wa_icmpge (w_rg0 (by omega) (by omega)) (w_rg0 (by omega) (by omega)) ⟨_, rfl⟩ (fun c12 => ?_) (fun c12 => ?_)
        · skip
          exact absurd c12 (by omega)
        · skip
          refine wa_aload_n (n := 0) rfl ?_
          refine wb_gf5 237 rfl (wy_pr rfl) wt_237 wf_15_13 (v := 261) (h13) (fun r13 => ?_)
          refine wb_gf4 261 rfl (wy_pr rfl) wt_261 wf_12_0 (v := 262) wl_261_0 ?_
          refine wa_aload_n (n := 0) rfl ?_
          refine wb_gf5 237 rfl (wy_pr rfl) wt_237 wf_15_13 (v := 261) (h13) (fun r14 => ?_)
          refine wb_gf4 261 rfl (wy_pr rfl) wt_261 wf_12_19 (v := 279) wl_261_19 ?_
          refine wa_iload_n (n := 1) rfl ?_
          refine wb_iald 279 rfl (wy_pr rfl) wt_279 (n := 400) ((ml_279 hM)) (by omega) (by omega) (v := (hmR ms m).2.2.2.2.2.2.1) (ef) (fun r15 => ?_)
          refine wa_iload (n := 4) rfl ?_
          refine wa_iadd ?_
          refine wb_bald 262 rfl (wy_pr rfl) wt_262 (n := 65536) ((ml_262 hM)) (by omega) (by omega) (v := (NN.getD 1 0)) (hs1) (fun r16 => ?_)
          refine wa_aload_n (n := 2) rfl ?_
          refine wa_iload (n := 4) rfl ?_
          refine wa_sc 51 rfl (wx_51 hX) (by first | decide | omega) rfl rfl (by first | decide | omega) (by first | decide | omega) ?_
          refine wJ_top (show (w_tx tx_51 1) = 101 by decide) ?_
          refine wa_icmpeq (w_rg0 (by omega) (by omega)) (w_rg0 (by omega) (by omega)) ⟨_, rfl⟩ (fun c17 => ?_) (fun c17 => ?_)
          · skip
            refine wa_iinc rfl rfl ?_
            refine wa_goto ⟨_, rfl⟩ ?_
            refine wJ_S (L2 := [(0, (2, 237)), (1, (0, m)), (2, (2, (-10 - ((51 : Nat) : Int)))), (3, (0, ((hmR ms m).2.2.2.2.2.2.2 - (hmR ms m).2.2.2.2.2.2.1))), (4, (0, 2))]) ?_ ⟨rfl, rfl, rfl, rfl, rfl, trivial⟩
            refine wa_iload (n := 4) rfl ?_
            refine wa_aload_n (n := 2) rfl ?_
            refine wa_sl 51 rfl (wx_51 hX) rfl rfl ?_
            refine wJ_top (show (tx_51.length : Int) = 3 by decide) ?_
            refine wa_icmpge (w_rg0 (by omega) (by omega)) (w_rg0 (by omega) (by omega)) ⟨_, rfl⟩ (fun c18 => ?_) (fun c18 => ?_)
            · skip
              exact absurd c18 (by omega)
            · skip
              refine wa_aload_n (n := 0) rfl ?_
              refine wb_gf5 237 rfl (wy_pr rfl) wt_237 wf_15_13 (v := 261) (h13) (fun r19 => ?_)
              refine wb_gf4 261 rfl (wy_pr rfl) wt_261 wf_12_0 (v := 262) wl_261_0 ?_
              refine wa_aload_n (n := 0) rfl ?_
              refine wb_gf5 237 rfl (wy_pr rfl) wt_237 wf_15_13 (v := 261) (h13) (fun r20 => ?_)
              refine wb_gf4 261 rfl (wy_pr rfl) wt_261 wf_12_19 (v := 279) wl_261_19 ?_
              refine wa_iload_n (n := 1) rfl ?_
              refine wb_iald 279 rfl (wy_pr rfl) wt_279 (n := 400) ((ml_279 hM)) (by omega) (by omega) (v := (hmR ms m).2.2.2.2.2.2.1) (ef) (fun r21 => ?_)
              refine wa_iload (n := 4) rfl ?_
              refine wa_iadd ?_
              refine wb_bald 262 rfl (wy_pr rfl) wt_262 (n := 65536) ((ml_262 hM)) (by omega) (by omega) (v := (NN.getD 2 0)) (hs2) (fun r22 => ?_)
              refine wa_aload_n (n := 2) rfl ?_
              refine wa_iload (n := 4) rfl ?_
              refine wa_sc 51 rfl (wx_51 hX) (by first | decide | omega) rfl rfl (by first | decide | omega) (by first | decide | omega) ?_
              refine wJ_top (show (w_tx tx_51 2) = 116 by decide) ?_
              refine wa_icmpeq (w_rg0 (by omega) (by omega)) (w_rg0 (by omega) (by omega)) ⟨_, rfl⟩ (fun c23 => ?_) (fun c23 => ?_)
              · skip
                refine wa_iinc rfl rfl ?_
                refine wa_goto ⟨_, rfl⟩ ?_
                refine wJ_S (L2 := [(0, (2, 237)), (1, (0, m)), (2, (2, (-10 - ((51 : Nat) : Int)))), (3, (0, ((hmR ms m).2.2.2.2.2.2.2 - (hmR ms m).2.2.2.2.2.2.1))), (4, (0, 3))]) ?_ ⟨rfl, rfl, rfl, rfl, rfl, trivial⟩
                refine wa_iload (n := 4) rfl ?_
                refine wa_aload_n (n := 2) rfl ?_
                refine wa_sl 51 rfl (wx_51 hX) rfl rfl ?_
                refine wJ_top (show (tx_51.length : Int) = 3 by decide) ?_
                refine wa_icmpge (w_rg0 (by omega) (by omega)) (w_rg0 (by omega) (by omega)) ⟨_, rfl⟩ (fun c24 => ?_) (fun c24 => ?_)
                · skip
                  refine wa_aload_n (n := 0) rfl ?_
                  refine wb_gf5 237 rfl (wy_pr rfl) wt_237 wf_15_13 (v := 261) (h13) (fun r25 => ?_)
                  refine wb_gf4 261 rfl (wy_pr rfl) wt_261 wf_12_0 (v := 262) wl_261_0 ?_
                  refine wa_aload_n (n := 0) rfl ?_
                  refine wb_gf5 237 rfl (wy_pr rfl) wt_237 wf_15_13 (v := 261) (h13) (fun r26 => ?_)
                  refine wb_gf4 261 rfl (wy_pr rfl) wt_261 wf_12_19 (v := 279) wl_261_19 ?_
                  refine wa_iload_n (n := 1) rfl ?_
                  refine wb_iald 279 rfl (wy_pr rfl) wt_279 (n := 400) ((ml_279 hM)) (by omega) (by omega) (v := (hmR ms m).2.2.2.2.2.2.1) (ef) (fun r27 => ?_)
                  refine wa_aload_n (n := 2) rfl ?_
                  refine wa_sl 51 rfl (wx_51 hX) rfl rfl ?_
                  refine wJ_top (show (tx_51.length : Int) = 3 by decide) ?_
                  refine wa_iadd ?_
                  refine wb_bald 262 rfl (wy_pr rfl) wt_262 (n := 65536) ((ml_262 hM)) (by omega) (by omega) (v := (NN.getD 3 0)) (hs3) (fun r28 => ?_)
                  refine wa_i2l (w_rg0 (by omega) (by omega)) ?_
                  refine wb_kl (n := 65) rfl ?_
                  refine wb_kl (n := 90) rfl ?_
                  refine wa_cs (M2 := fun _ => False) rfl at_M_in ⟨_, rfl⟩ rfl rfl ⟨(Or.inr ⟨wy_pr rfl, fun q => q⟩), trivial, (Or.inl (by omega)), trivial, trivial, trivial⟩ trivial (fun _ _ q => False.elim q) (in_ok (S := S) (a := (NN.getD 3 0)) (lo := 65) (hi := 90) ⟨by omega, by omega⟩ ⟨by omega, by omega⟩ ⟨by omega, by omega⟩) (fun oq30 Sq30 hp31 q30 => ?_)
                  rcases q30 with ⟨rfl, ⟨rfl, hin29⟩ | ⟨rfl, hin29⟩⟩
                  · skip
                    show wJ _ _ _ _ _ _ _ _ _ _
                    refine wa_zreturn rfl (Or.inr rfl) ?_
                    refine ⟨rfl, congrArg (fun z => Sum.inl (some (0, z))) ?_⟩
                    refine (px_t (by show 3 < NN.length; omega) (fun i hi => ?_) ⟨by show 65 ≤ NN.getD 3 0; omega, by show NN.getD 3 0 ≤ 90; omega⟩).symm
                    replace hi : i < 3 := hi
                    rcases (show i = 0 ∨ i = 1 ∨ i = 2 by omega) with e | e | e
                    · rw [e]; show NN.getD 0 0 = 115; omega
                    · rw [e]; show NN.getD 1 0 = 101; omega
                    · rw [e]; show NN.getD 2 0 = 116; omega
                  · skip
                    show wJ _ _ _ _ _ _ _ _ _ _
                    refine wa_zreturn rfl (Or.inl rfl) ?_
                    refine ⟨rfl, congrArg (fun z => Sum.inl (some (0, z))) ?_⟩
                    refine (px_f (fun z => ?_)).symm
                    have z1 : 3 < NN.length := z.1
                    have y0 : NN.getD 0 0 = 115 := z.2.1 0 (by first | decide | omega)
                    have y1 : NN.getD 1 0 = 101 := z.2.1 1 (by first | decide | omega)
                    have y2 : NN.getD 2 0 = 116 := z.2.1 2 (by first | decide | omega)
                    have z3 : 65 ≤ NN.getD 3 0 ∧ NN.getD 3 0 ≤ 90 := z.2.2
                    omega
                · skip
                  exact absurd c24 (by omega)
              · skip
                refine wa_iconst ?_
                refine wa_zreturn rfl (Or.inl rfl) ?_
                refine ⟨rfl, congrArg (fun z => Sum.inl (some (0, z))) ?_⟩
                refine (px_f (fun z => ?_)).symm
                have z1 : 3 < NN.length := z.1
                have y0 : NN.getD 0 0 = 115 := z.2.1 0 (by first | decide | omega)
                have y1 : NN.getD 1 0 = 101 := z.2.1 1 (by first | decide | omega)
                have y2 : NN.getD 2 0 = 116 := z.2.1 2 (by first | decide | omega)
                have z3 : 65 ≤ NN.getD 3 0 ∧ NN.getD 3 0 ≤ 90 := z.2.2
                omega
          · skip
            refine wa_iconst ?_
            refine wa_zreturn rfl (Or.inl rfl) ?_
            refine ⟨rfl, congrArg (fun z => Sum.inl (some (0, z))) ?_⟩
            refine (px_f (fun z => ?_)).symm
            have z1 : 3 < NN.length := z.1
            have y0 : NN.getD 0 0 = 115 := z.2.1 0 (by first | decide | omega)
            have y1 : NN.getD 1 0 = 101 := z.2.1 1 (by first | decide | omega)
            have y2 : NN.getD 2 0 = 116 := z.2.1 2 (by first | decide | omega)
            have z3 : 65 ≤ NN.getD 3 0 ∧ NN.getD 3 0 ≤ 90 := z.2.2
            omega
      · skip
        refine wa_iconst ?_
        refine wa_zreturn rfl (Or.inl rfl) ?_
        refine ⟨rfl, congrArg (fun z => Sum.inl (some (0, z))) ?_⟩
        refine (px_f (fun z => ?_)).symm
        have z1 : 3 < NN.length := z.1
        have y0 : NN.getD 0 0 = 115 := z.2.1 0 (by first | decide | omega)
        have y1 : NN.getD 1 0 = 101 := z.2.1 1 (by first | decide | omega)
        have y2 : NN.getD 2 0 = 116 := z.2.1 2 (by first | decide | omega)
        have z3 : 65 ≤ NN.getD 3 0 ∧ NN.getD 3 0 ≤ 90 := z.2.2
        omega
  · skip
    refine wa_iconst ?_
    refine wa_zreturn rfl (Or.inl rfl) ?_
    refine ⟨rfl, congrArg (fun z => Sum.inl (some (0, z))) ?_⟩
    refine (px_f (fun z => ?_)).symm
    have z1 : 3 < NN.length := z.1
    have y0 : NN.getD 0 0 = 115 := z.2.1 0 (by first | decide | omega)
    have y1 : NN.getD 1 0 = 101 := z.2.1 1 (by first | decide | omega)
    have y2 : NN.getD 2 0 = 116 := z.2.1 2 (by first | decide | omega)
    have z3 : 65 ≤ NN.getD 3 0 ∧ NN.getD 3 0 ≤ 90 := z.2.2
    omega
theorem rip81_261 {m : Int} (hX : w_X xs) (hM : w_ML S) (hK : KR 261 T n cs ms S) (hw : wHo cs ms os) (hm : 0 ≤ m ∧ m < (ms.length : Int)) : wJ (pe_GA xs) wY0 M (d + 5) t_M_isPrefixed ((pe_at t_M_isPrefixed.bl 0).getD (0, [])).2 [(0, (2, 237)), (1, (0, m)), (2, (2, (-10 - ((81 : Nat) : Int))))] [] S (fun z Z => S = Z ∧ z = .inl (some (0, bI (pxB [103, 101, 116] (nmR T (hmR ms m)))))) := by
  have h13 : S 237 13 = 261 := hK.1
  have h400 := hw.1
  have hn6 := hK.2.2.2.2.2.1
  have eM := KR_m hK (m := m) (by omega) (by omega)
  have eW := hw.2.2.2 m (by omega) (by omega)
  have e1 : S 273 m = (hmR ms m).2.1 := eM.1.2.1
  have e2 : S 274 m = (hmR ms m).2.2.1 := eM.1.2.2.1
  have e3 : S 275 m = (hmR ms m).2.2.2.1 := eM.1.2.2.2.1
  have e4 : S 276 m = ((hmR ms m).2.2.2.2.1.length : Int) := eM.2.1.1
  have e5 : S 277 m = (hmR ms m).2.2.2.2.2.1 := eM.2.1.2.1
  have ef : S 279 m = (hmR ms m).2.2.2.2.2.2.1 := eM.1.2.2.2.2.1
  have et : S 280 m = (hmR ms m).2.2.2.2.2.2.2 := eM.1.2.2.2.2.2
  have eq := eW.1.2.1
  have es := eW.1.2.2.1
  have ey := eW.1.2.2.2
  have ev := eW.2.1
  have el := eW.2.2.1
  have eft := hK.2.2.2.2.2.2.1 m (by omega) (by omega)
  obtain ⟨NN, hNN⟩ : ∃ NN : List Int, NN = nmR T (hmR ms m) := ⟨_, rfl⟩
  have hNl : (NN.length : Int) = (hmR ms m).2.2.2.2.2.2.2 - (hmR ms m).2.2.2.2.2.2.1 := by rw [hNN]; exact nmR_l (by omega)
  have hNs : ∀ i : Nat, i < NN.length → S 262 ((hmR ms m).2.2.2.2.2.2.1 + (i : Int)) = NN.getD i 0 := fun i hi => by rw [hNN] at hi ⊢; rw [nmR_s hi]; exact hK.2.2.2.2.1 _ (by omega) (by rw [← hNN] at hi; omega)
  rw [← hNN]
  refine wa_aload_n (n := 0) rfl ?_
  refine wb_gf5 237 rfl (wy_pr rfl) wt_237 wf_15_13 (v := 261) (h13) (fun r1 => ?_)
  refine wb_gf4 261 rfl (wy_pr rfl) wt_261 wf_12_20 (v := 280) wl_261_20 ?_
  refine wa_iload_n (n := 1) rfl ?_
  refine wb_iald 280 rfl (wy_pr rfl) wt_280 (n := 400) ((ml_280 hM)) (by omega) (by omega) (v := (hmR ms m).2.2.2.2.2.2.2) (et) (fun r2 => ?_)
  refine wa_aload_n (n := 0) rfl ?_
  refine wb_gf5 237 rfl (wy_pr rfl) wt_237 wf_15_13 (v := 261) (h13) (fun r3 => ?_)
  refine wb_gf4 261 rfl (wy_pr rfl) wt_261 wf_12_19 (v := 279) wl_261_19 ?_
  refine wa_iload_n (n := 1) rfl ?_
  refine wb_iald 279 rfl (wy_pr rfl) wt_279 (n := 400) ((ml_279 hM)) (by omega) (by omega) (v := (hmR ms m).2.2.2.2.2.2.1) (ef) (fun r4 => ?_)
  refine wa_isub ?_
  refine wa_istore_n (n := 3) rfl ?_
  refine wa_iload_n (n := 3) rfl ?_
  refine wa_aload_n (n := 2) rfl ?_
  refine wa_sl 81 rfl (wx_81 hX) rfl rfl ?_
  refine wJ_top (show (tx_81.length : Int) = 3 by decide) ?_
  refine wa_icmpgt (w_rg0 (by omega) (by omega)) (w_rg0 (by omega) (by omega)) ⟨_, rfl⟩ (fun c5 => ?_) (fun c5 => ?_)
  · skip
    have hs0 : S 262 ((hmR ms m).2.2.2.2.2.2.1 + 0) = NN.getD 0 0 := hNs 0 (by omega)
    have hs1 : S 262 ((hmR ms m).2.2.2.2.2.2.1 + 1) = NN.getD 1 0 := hNs 1 (by omega)
    have hs2 : S 262 ((hmR ms m).2.2.2.2.2.2.1 + 2) = NN.getD 2 0 := hNs 2 (by omega)
    have hs3 : S 262 ((hmR ms m).2.2.2.2.2.2.1 + 3) = NN.getD 3 0 := hNs 3 (by omega)
    refine wa_iconst ?_
    refine wa_istore (n := 4) rfl ?_
    refine wa_fall ⟨_, rfl⟩ ?_
    refine wJ_S (L2 := [(0, (2, 237)), (1, (0, m)), (2, (2, (-10 - ((81 : Nat) : Int)))), (3, (0, ((hmR ms m).2.2.2.2.2.2.2 - (hmR ms m).2.2.2.2.2.2.1))), (4, (0, 0))]) ?_ ⟨rfl, rfl, rfl, rfl, rfl, trivial⟩
    refine wa_iload (n := 4) rfl ?_
    refine wa_aload_n (n := 2) rfl ?_
    refine wa_sl 81 rfl (wx_81 hX) rfl rfl ?_
    refine wJ_top (show (tx_81.length : Int) = 3 by decide) ?_
    refine wa_icmpge (w_rg0 (by omega) (by omega)) (w_rg0 (by omega) (by omega)) ⟨_, rfl⟩ (fun c6 => ?_) (fun c6 => ?_)
    · skip
      exact absurd c6 (by omega)
    · skip
      refine wa_aload_n (n := 0) rfl ?_
      refine wb_gf5 237 rfl (wy_pr rfl) wt_237 wf_15_13 (v := 261) (h13) (fun r7 => ?_)
      refine wb_gf4 261 rfl (wy_pr rfl) wt_261 wf_12_0 (v := 262) wl_261_0 ?_
      refine wa_aload_n (n := 0) rfl ?_
      refine wb_gf5 237 rfl (wy_pr rfl) wt_237 wf_15_13 (v := 261) (h13) (fun r8 => ?_)
      refine wb_gf4 261 rfl (wy_pr rfl) wt_261 wf_12_19 (v := 279) wl_261_19 ?_
      refine wa_iload_n (n := 1) rfl ?_
      refine wb_iald 279 rfl (wy_pr rfl) wt_279 (n := 400) ((ml_279 hM)) (by omega) (by omega) (v := (hmR ms m).2.2.2.2.2.2.1) (ef) (fun r9 => ?_)
      refine wa_iload (n := 4) rfl ?_
      refine wa_iadd ?_
      refine wb_bald 262 rfl (wy_pr rfl) wt_262 (n := 65536) ((ml_262 hM)) (by omega) (by omega) (v := (NN.getD 0 0)) (hs0) (fun r10 => ?_)
      refine wa_aload_n (n := 2) rfl ?_
      refine wa_iload (n := 4) rfl ?_
      refine wa_sc 81 rfl (wx_81 hX) (by first | decide | omega) rfl rfl (by first | decide | omega) (by first | decide | omega) ?_
      refine wJ_top (show (w_tx tx_81 0) = 103 by decide) ?_
      refine wa_icmpeq (w_rg0 (by omega) (by omega)) (w_rg0 (by omega) (by omega)) ⟨_, rfl⟩ (fun c11 => ?_) (fun c11 => ?_)
      · skip
        refine wa_iinc rfl rfl ?_
        refine wa_goto ⟨_, rfl⟩ ?_
        refine wJ_S (L2 := [(0, (2, 237)), (1, (0, m)), (2, (2, (-10 - ((81 : Nat) : Int)))), (3, (0, ((hmR ms m).2.2.2.2.2.2.2 - (hmR ms m).2.2.2.2.2.2.1))), (4, (0, 1))]) ?_ ⟨rfl, rfl, rfl, rfl, rfl, trivial⟩
        refine wa_iload (n := 4) rfl ?_
        refine wa_aload_n (n := 2) rfl ?_
        refine wa_sl 81 rfl (wx_81 hX) rfl rfl ?_
        refine wJ_top (show (tx_81.length : Int) = 3 by decide) ?_
        refine wa_icmpge (w_rg0 (by omega) (by omega)) (w_rg0 (by omega) (by omega)) ⟨_, rfl⟩ (fun c12 => ?_) (fun c12 => ?_)
        · skip
          exact absurd c12 (by omega)
        · skip
          refine wa_aload_n (n := 0) rfl ?_
          refine wb_gf5 237 rfl (wy_pr rfl) wt_237 wf_15_13 (v := 261) (h13) (fun r13 => ?_)
          refine wb_gf4 261 rfl (wy_pr rfl) wt_261 wf_12_0 (v := 262) wl_261_0 ?_
          refine wa_aload_n (n := 0) rfl ?_
          refine wb_gf5 237 rfl (wy_pr rfl) wt_237 wf_15_13 (v := 261) (h13) (fun r14 => ?_)
          refine wb_gf4 261 rfl (wy_pr rfl) wt_261 wf_12_19 (v := 279) wl_261_19 ?_
          refine wa_iload_n (n := 1) rfl ?_
          refine wb_iald 279 rfl (wy_pr rfl) wt_279 (n := 400) ((ml_279 hM)) (by omega) (by omega) (v := (hmR ms m).2.2.2.2.2.2.1) (ef) (fun r15 => ?_)
          refine wa_iload (n := 4) rfl ?_
          refine wa_iadd ?_
          refine wb_bald 262 rfl (wy_pr rfl) wt_262 (n := 65536) ((ml_262 hM)) (by omega) (by omega) (v := (NN.getD 1 0)) (hs1) (fun r16 => ?_)
          refine wa_aload_n (n := 2) rfl ?_
          refine wa_iload (n := 4) rfl ?_
          refine wa_sc 81 rfl (wx_81 hX) (by first | decide | omega) rfl rfl (by first | decide | omega) (by first | decide | omega) ?_
          refine wJ_top (show (w_tx tx_81 1) = 101 by decide) ?_
          refine wa_icmpeq (w_rg0 (by omega) (by omega)) (w_rg0 (by omega) (by omega)) ⟨_, rfl⟩ (fun c17 => ?_) (fun c17 => ?_)
          · skip
            refine wa_iinc rfl rfl ?_
            refine wa_goto ⟨_, rfl⟩ ?_
            refine wJ_S (L2 := [(0, (2, 237)), (1, (0, m)), (2, (2, (-10 - ((81 : Nat) : Int)))), (3, (0, ((hmR ms m).2.2.2.2.2.2.2 - (hmR ms m).2.2.2.2.2.2.1))), (4, (0, 2))]) ?_ ⟨rfl, rfl, rfl, rfl, rfl, trivial⟩
            refine wa_iload (n := 4) rfl ?_
            refine wa_aload_n (n := 2) rfl ?_
            refine wa_sl 81 rfl (wx_81 hX) rfl rfl ?_
            refine wJ_top (show (tx_81.length : Int) = 3 by decide) ?_
            refine wa_icmpge (w_rg0 (by omega) (by omega)) (w_rg0 (by omega) (by omega)) ⟨_, rfl⟩ (fun c18 => ?_) (fun c18 => ?_)
            · skip
              exact absurd c18 (by omega)
            · skip
              refine wa_aload_n (n := 0) rfl ?_
              refine wb_gf5 237 rfl (wy_pr rfl) wt_237 wf_15_13 (v := 261) (h13) (fun r19 => ?_)
              refine wb_gf4 261 rfl (wy_pr rfl) wt_261 wf_12_0 (v := 262) wl_261_0 ?_
              refine wa_aload_n (n := 0) rfl ?_
              refine wb_gf5 237 rfl (wy_pr rfl) wt_237 wf_15_13 (v := 261) (h13) (fun r20 => ?_)
              refine wb_gf4 261 rfl (wy_pr rfl) wt_261 wf_12_19 (v := 279) wl_261_19 ?_
              refine wa_iload_n (n := 1) rfl ?_
              refine wb_iald 279 rfl (wy_pr rfl) wt_279 (n := 400) ((ml_279 hM)) (by omega) (by omega) (v := (hmR ms m).2.2.2.2.2.2.1) (ef) (fun r21 => ?_)
              refine wa_iload (n := 4) rfl ?_
              refine wa_iadd ?_
              refine wb_bald 262 rfl (wy_pr rfl) wt_262 (n := 65536) ((ml_262 hM)) (by omega) (by omega) (v := (NN.getD 2 0)) (hs2) (fun r22 => ?_)
              refine wa_aload_n (n := 2) rfl ?_
              refine wa_iload (n := 4) rfl ?_
              refine wa_sc 81 rfl (wx_81 hX) (by first | decide | omega) rfl rfl (by first | decide | omega) (by first | decide | omega) ?_
              refine wJ_top (show (w_tx tx_81 2) = 116 by decide) ?_
              refine wa_icmpeq (w_rg0 (by omega) (by omega)) (w_rg0 (by omega) (by omega)) ⟨_, rfl⟩ (fun c23 => ?_) (fun c23 => ?_)
              · skip
                refine wa_iinc rfl rfl ?_
                refine wa_goto ⟨_, rfl⟩ ?_
                refine wJ_S (L2 := [(0, (2, 237)), (1, (0, m)), (2, (2, (-10 - ((81 : Nat) : Int)))), (3, (0, ((hmR ms m).2.2.2.2.2.2.2 - (hmR ms m).2.2.2.2.2.2.1))), (4, (0, 3))]) ?_ ⟨rfl, rfl, rfl, rfl, rfl, trivial⟩
                refine wa_iload (n := 4) rfl ?_
                refine wa_aload_n (n := 2) rfl ?_
                refine wa_sl 81 rfl (wx_81 hX) rfl rfl ?_
                refine wJ_top (show (tx_81.length : Int) = 3 by decide) ?_
                refine wa_icmpge (w_rg0 (by omega) (by omega)) (w_rg0 (by omega) (by omega)) ⟨_, rfl⟩ (fun c24 => ?_) (fun c24 => ?_)
                · skip
                  refine wa_aload_n (n := 0) rfl ?_
                  refine wb_gf5 237 rfl (wy_pr rfl) wt_237 wf_15_13 (v := 261) (h13) (fun r25 => ?_)
                  refine wb_gf4 261 rfl (wy_pr rfl) wt_261 wf_12_0 (v := 262) wl_261_0 ?_
                  refine wa_aload_n (n := 0) rfl ?_
                  refine wb_gf5 237 rfl (wy_pr rfl) wt_237 wf_15_13 (v := 261) (h13) (fun r26 => ?_)
                  refine wb_gf4 261 rfl (wy_pr rfl) wt_261 wf_12_19 (v := 279) wl_261_19 ?_
                  refine wa_iload_n (n := 1) rfl ?_
                  refine wb_iald 279 rfl (wy_pr rfl) wt_279 (n := 400) ((ml_279 hM)) (by omega) (by omega) (v := (hmR ms m).2.2.2.2.2.2.1) (ef) (fun r27 => ?_)
                  refine wa_aload_n (n := 2) rfl ?_
                  refine wa_sl 81 rfl (wx_81 hX) rfl rfl ?_
                  refine wJ_top (show (tx_81.length : Int) = 3 by decide) ?_
                  refine wa_iadd ?_
                  refine wb_bald 262 rfl (wy_pr rfl) wt_262 (n := 65536) ((ml_262 hM)) (by omega) (by omega) (v := (NN.getD 3 0)) (hs3) (fun r28 => ?_)
                  refine wa_i2l (w_rg0 (by omega) (by omega)) ?_
                  refine wb_kl (n := 65) rfl ?_
                  refine wb_kl (n := 90) rfl ?_
                  refine wa_cs (M2 := fun _ => False) rfl at_M_in ⟨_, rfl⟩ rfl rfl ⟨(Or.inr ⟨wy_pr rfl, fun q => q⟩), trivial, (Or.inl (by omega)), trivial, trivial, trivial⟩ trivial (fun _ _ q => False.elim q) (in_ok (S := S) (a := (NN.getD 3 0)) (lo := 65) (hi := 90) ⟨by omega, by omega⟩ ⟨by omega, by omega⟩ ⟨by omega, by omega⟩) (fun oq30 Sq30 hp31 q30 => ?_)
                  rcases q30 with ⟨rfl, ⟨rfl, hin29⟩ | ⟨rfl, hin29⟩⟩
                  · skip
                    show wJ _ _ _ _ _ _ _ _ _ _
                    refine wa_zreturn rfl (Or.inr rfl) ?_
                    refine ⟨rfl, congrArg (fun z => Sum.inl (some (0, z))) ?_⟩
                    refine (px_t (by show 3 < NN.length; omega) (fun i hi => ?_) ⟨by show 65 ≤ NN.getD 3 0; omega, by show NN.getD 3 0 ≤ 90; omega⟩).symm
                    replace hi : i < 3 := hi
                    rcases (show i = 0 ∨ i = 1 ∨ i = 2 by omega) with e | e | e
                    · rw [e]; show NN.getD 0 0 = 103; omega
                    · rw [e]; show NN.getD 1 0 = 101; omega
                    · rw [e]; show NN.getD 2 0 = 116; omega
                  · skip
                    show wJ _ _ _ _ _ _ _ _ _ _
                    refine wa_zreturn rfl (Or.inl rfl) ?_
                    refine ⟨rfl, congrArg (fun z => Sum.inl (some (0, z))) ?_⟩
                    refine (px_f (fun z => ?_)).symm
                    have z1 : 3 < NN.length := z.1
                    have y0 : NN.getD 0 0 = 103 := z.2.1 0 (by first | decide | omega)
                    have y1 : NN.getD 1 0 = 101 := z.2.1 1 (by first | decide | omega)
                    have y2 : NN.getD 2 0 = 116 := z.2.1 2 (by first | decide | omega)
                    have z3 : 65 ≤ NN.getD 3 0 ∧ NN.getD 3 0 ≤ 90 := z.2.2
                    omega
                · skip
                  exact absurd c24 (by omega)
              · skip
                refine wa_iconst ?_
                refine wa_zreturn rfl (Or.inl rfl) ?_
                refine ⟨rfl, congrArg (fun z => Sum.inl (some (0, z))) ?_⟩
                refine (px_f (fun z => ?_)).symm
                have z1 : 3 < NN.length := z.1
                have y0 : NN.getD 0 0 = 103 := z.2.1 0 (by first | decide | omega)
                have y1 : NN.getD 1 0 = 101 := z.2.1 1 (by first | decide | omega)
                have y2 : NN.getD 2 0 = 116 := z.2.1 2 (by first | decide | omega)
                have z3 : 65 ≤ NN.getD 3 0 ∧ NN.getD 3 0 ≤ 90 := z.2.2
                omega
          · skip
            refine wa_iconst ?_
            refine wa_zreturn rfl (Or.inl rfl) ?_
            refine ⟨rfl, congrArg (fun z => Sum.inl (some (0, z))) ?_⟩
            refine (px_f (fun z => ?_)).symm
            have z1 : 3 < NN.length := z.1
            have y0 : NN.getD 0 0 = 103 := z.2.1 0 (by first | decide | omega)
            have y1 : NN.getD 1 0 = 101 := z.2.1 1 (by first | decide | omega)
            have y2 : NN.getD 2 0 = 116 := z.2.1 2 (by first | decide | omega)
            have z3 : 65 ≤ NN.getD 3 0 ∧ NN.getD 3 0 ≤ 90 := z.2.2
            omega
      · skip
        refine wa_iconst ?_
        refine wa_zreturn rfl (Or.inl rfl) ?_
        refine ⟨rfl, congrArg (fun z => Sum.inl (some (0, z))) ?_⟩
        refine (px_f (fun z => ?_)).symm
        have z1 : 3 < NN.length := z.1
        have y0 : NN.getD 0 0 = 103 := z.2.1 0 (by first | decide | omega)
        have y1 : NN.getD 1 0 = 101 := z.2.1 1 (by first | decide | omega)
        have y2 : NN.getD 2 0 = 116 := z.2.1 2 (by first | decide | omega)
        have z3 : 65 ≤ NN.getD 3 0 ∧ NN.getD 3 0 ≤ 90 := z.2.2
        omega
  · skip
    refine wa_iconst ?_
    refine wa_zreturn rfl (Or.inl rfl) ?_
    refine ⟨rfl, congrArg (fun z => Sum.inl (some (0, z))) ?_⟩
    refine (px_f (fun z => ?_)).symm
    have z1 : 3 < NN.length := z.1
    have y0 : NN.getD 0 0 = 103 := z.2.1 0 (by first | decide | omega)
    have y1 : NN.getD 1 0 = 101 := z.2.1 1 (by first | decide | omega)
    have y2 : NN.getD 2 0 = 116 := z.2.1 2 (by first | decide | omega)
    have z3 : 65 ≤ NN.getD 3 0 ∧ NN.getD 3 0 ≤ 90 := z.2.2
    omega
theorem rip83_261 {m : Int} (hX : w_X xs) (hM : w_ML S) (hK : KR 261 T n cs ms S) (hw : wHo cs ms os) (hm : 0 ≤ m ∧ m < (ms.length : Int)) : wJ (pe_GA xs) wY0 M (d + 5) t_M_isPrefixed ((pe_at t_M_isPrefixed.bl 0).getD (0, [])).2 [(0, (2, 237)), (1, (0, m)), (2, (2, (-10 - ((83 : Nat) : Int))))] [] S (fun z Z => S = Z ∧ z = .inl (some (0, bI (pxB [105, 115] (nmR T (hmR ms m)))))) := by
  have h13 : S 237 13 = 261 := hK.1
  have h400 := hw.1
  have hn6 := hK.2.2.2.2.2.1
  have eM := KR_m hK (m := m) (by omega) (by omega)
  have eW := hw.2.2.2 m (by omega) (by omega)
  have e1 : S 273 m = (hmR ms m).2.1 := eM.1.2.1
  have e2 : S 274 m = (hmR ms m).2.2.1 := eM.1.2.2.1
  have e3 : S 275 m = (hmR ms m).2.2.2.1 := eM.1.2.2.2.1
  have e4 : S 276 m = ((hmR ms m).2.2.2.2.1.length : Int) := eM.2.1.1
  have e5 : S 277 m = (hmR ms m).2.2.2.2.2.1 := eM.2.1.2.1
  have ef : S 279 m = (hmR ms m).2.2.2.2.2.2.1 := eM.1.2.2.2.2.1
  have et : S 280 m = (hmR ms m).2.2.2.2.2.2.2 := eM.1.2.2.2.2.2
  have eq := eW.1.2.1
  have es := eW.1.2.2.1
  have ey := eW.1.2.2.2
  have ev := eW.2.1
  have el := eW.2.2.1
  have eft := hK.2.2.2.2.2.2.1 m (by omega) (by omega)
  obtain ⟨NN, hNN⟩ : ∃ NN : List Int, NN = nmR T (hmR ms m) := ⟨_, rfl⟩
  have hNl : (NN.length : Int) = (hmR ms m).2.2.2.2.2.2.2 - (hmR ms m).2.2.2.2.2.2.1 := by rw [hNN]; exact nmR_l (by omega)
  have hNs : ∀ i : Nat, i < NN.length → S 262 ((hmR ms m).2.2.2.2.2.2.1 + (i : Int)) = NN.getD i 0 := fun i hi => by rw [hNN] at hi ⊢; rw [nmR_s hi]; exact hK.2.2.2.2.1 _ (by omega) (by rw [← hNN] at hi; omega)
  rw [← hNN]
  refine wa_aload_n (n := 0) rfl ?_
  refine wb_gf5 237 rfl (wy_pr rfl) wt_237 wf_15_13 (v := 261) (h13) (fun r1 => ?_)
  refine wb_gf4 261 rfl (wy_pr rfl) wt_261 wf_12_20 (v := 280) wl_261_20 ?_
  refine wa_iload_n (n := 1) rfl ?_
  refine wb_iald 280 rfl (wy_pr rfl) wt_280 (n := 400) ((ml_280 hM)) (by omega) (by omega) (v := (hmR ms m).2.2.2.2.2.2.2) (et) (fun r2 => ?_)
  refine wa_aload_n (n := 0) rfl ?_
  refine wb_gf5 237 rfl (wy_pr rfl) wt_237 wf_15_13 (v := 261) (h13) (fun r3 => ?_)
  refine wb_gf4 261 rfl (wy_pr rfl) wt_261 wf_12_19 (v := 279) wl_261_19 ?_
  refine wa_iload_n (n := 1) rfl ?_
  refine wb_iald 279 rfl (wy_pr rfl) wt_279 (n := 400) ((ml_279 hM)) (by omega) (by omega) (v := (hmR ms m).2.2.2.2.2.2.1) (ef) (fun r4 => ?_)
  refine wa_isub ?_
  refine wa_istore_n (n := 3) rfl ?_
  refine wa_iload_n (n := 3) rfl ?_
  refine wa_aload_n (n := 2) rfl ?_
  refine wa_sl 83 rfl (wx_83 hX) rfl rfl ?_
  refine wJ_top (show (tx_83.length : Int) = 2 by decide) ?_
  refine wa_icmpgt (w_rg0 (by omega) (by omega)) (w_rg0 (by omega) (by omega)) ⟨_, rfl⟩ (fun c5 => ?_) (fun c5 => ?_)
  · skip
    have hs0 : S 262 ((hmR ms m).2.2.2.2.2.2.1 + 0) = NN.getD 0 0 := hNs 0 (by omega)
    have hs1 : S 262 ((hmR ms m).2.2.2.2.2.2.1 + 1) = NN.getD 1 0 := hNs 1 (by omega)
    have hs2 : S 262 ((hmR ms m).2.2.2.2.2.2.1 + 2) = NN.getD 2 0 := hNs 2 (by omega)
    refine wa_iconst ?_
    refine wa_istore (n := 4) rfl ?_
    refine wa_fall ⟨_, rfl⟩ ?_
    refine wJ_S (L2 := [(0, (2, 237)), (1, (0, m)), (2, (2, (-10 - ((83 : Nat) : Int)))), (3, (0, ((hmR ms m).2.2.2.2.2.2.2 - (hmR ms m).2.2.2.2.2.2.1))), (4, (0, 0))]) ?_ ⟨rfl, rfl, rfl, rfl, rfl, trivial⟩
    refine wa_iload (n := 4) rfl ?_
    refine wa_aload_n (n := 2) rfl ?_
    refine wa_sl 83 rfl (wx_83 hX) rfl rfl ?_
    refine wJ_top (show (tx_83.length : Int) = 2 by decide) ?_
    refine wa_icmpge (w_rg0 (by omega) (by omega)) (w_rg0 (by omega) (by omega)) ⟨_, rfl⟩ (fun c6 => ?_) (fun c6 => ?_)
    · skip
      exact absurd c6 (by omega)
    · skip
      refine wa_aload_n (n := 0) rfl ?_
      refine wb_gf5 237 rfl (wy_pr rfl) wt_237 wf_15_13 (v := 261) (h13) (fun r7 => ?_)
      refine wb_gf4 261 rfl (wy_pr rfl) wt_261 wf_12_0 (v := 262) wl_261_0 ?_
      refine wa_aload_n (n := 0) rfl ?_
      refine wb_gf5 237 rfl (wy_pr rfl) wt_237 wf_15_13 (v := 261) (h13) (fun r8 => ?_)
      refine wb_gf4 261 rfl (wy_pr rfl) wt_261 wf_12_19 (v := 279) wl_261_19 ?_
      refine wa_iload_n (n := 1) rfl ?_
      refine wb_iald 279 rfl (wy_pr rfl) wt_279 (n := 400) ((ml_279 hM)) (by omega) (by omega) (v := (hmR ms m).2.2.2.2.2.2.1) (ef) (fun r9 => ?_)
      refine wa_iload (n := 4) rfl ?_
      refine wa_iadd ?_
      refine wb_bald 262 rfl (wy_pr rfl) wt_262 (n := 65536) ((ml_262 hM)) (by omega) (by omega) (v := (NN.getD 0 0)) (hs0) (fun r10 => ?_)
      refine wa_aload_n (n := 2) rfl ?_
      refine wa_iload (n := 4) rfl ?_
      refine wa_sc 83 rfl (wx_83 hX) (by first | decide | omega) rfl rfl (by first | decide | omega) (by first | decide | omega) ?_
      refine wJ_top (show (w_tx tx_83 0) = 105 by decide) ?_
      refine wa_icmpeq (w_rg0 (by omega) (by omega)) (w_rg0 (by omega) (by omega)) ⟨_, rfl⟩ (fun c11 => ?_) (fun c11 => ?_)
      · skip
        refine wa_iinc rfl rfl ?_
        refine wa_goto ⟨_, rfl⟩ ?_
        refine wJ_S (L2 := [(0, (2, 237)), (1, (0, m)), (2, (2, (-10 - ((83 : Nat) : Int)))), (3, (0, ((hmR ms m).2.2.2.2.2.2.2 - (hmR ms m).2.2.2.2.2.2.1))), (4, (0, 1))]) ?_ ⟨rfl, rfl, rfl, rfl, rfl, trivial⟩
        refine wa_iload (n := 4) rfl ?_
        refine wa_aload_n (n := 2) rfl ?_
        refine wa_sl 83 rfl (wx_83 hX) rfl rfl ?_
        refine wJ_top (show (tx_83.length : Int) = 2 by decide) ?_
        refine wa_icmpge (w_rg0 (by omega) (by omega)) (w_rg0 (by omega) (by omega)) ⟨_, rfl⟩ (fun c12 => ?_) (fun c12 => ?_)
        · skip
          exact absurd c12 (by omega)
        · skip
          refine wa_aload_n (n := 0) rfl ?_
          refine wb_gf5 237 rfl (wy_pr rfl) wt_237 wf_15_13 (v := 261) (h13) (fun r13 => ?_)
          refine wb_gf4 261 rfl (wy_pr rfl) wt_261 wf_12_0 (v := 262) wl_261_0 ?_
          refine wa_aload_n (n := 0) rfl ?_
          refine wb_gf5 237 rfl (wy_pr rfl) wt_237 wf_15_13 (v := 261) (h13) (fun r14 => ?_)
          refine wb_gf4 261 rfl (wy_pr rfl) wt_261 wf_12_19 (v := 279) wl_261_19 ?_
          refine wa_iload_n (n := 1) rfl ?_
          refine wb_iald 279 rfl (wy_pr rfl) wt_279 (n := 400) ((ml_279 hM)) (by omega) (by omega) (v := (hmR ms m).2.2.2.2.2.2.1) (ef) (fun r15 => ?_)
          refine wa_iload (n := 4) rfl ?_
          refine wa_iadd ?_
          refine wb_bald 262 rfl (wy_pr rfl) wt_262 (n := 65536) ((ml_262 hM)) (by omega) (by omega) (v := (NN.getD 1 0)) (hs1) (fun r16 => ?_)
          refine wa_aload_n (n := 2) rfl ?_
          refine wa_iload (n := 4) rfl ?_
          refine wa_sc 83 rfl (wx_83 hX) (by first | decide | omega) rfl rfl (by first | decide | omega) (by first | decide | omega) ?_
          refine wJ_top (show (w_tx tx_83 1) = 115 by decide) ?_
          refine wa_icmpeq (w_rg0 (by omega) (by omega)) (w_rg0 (by omega) (by omega)) ⟨_, rfl⟩ (fun c17 => ?_) (fun c17 => ?_)
          · skip
            refine wa_iinc rfl rfl ?_
            refine wa_goto ⟨_, rfl⟩ ?_
            refine wJ_S (L2 := [(0, (2, 237)), (1, (0, m)), (2, (2, (-10 - ((83 : Nat) : Int)))), (3, (0, ((hmR ms m).2.2.2.2.2.2.2 - (hmR ms m).2.2.2.2.2.2.1))), (4, (0, 2))]) ?_ ⟨rfl, rfl, rfl, rfl, rfl, trivial⟩
            refine wa_iload (n := 4) rfl ?_
            refine wa_aload_n (n := 2) rfl ?_
            refine wa_sl 83 rfl (wx_83 hX) rfl rfl ?_
            refine wJ_top (show (tx_83.length : Int) = 2 by decide) ?_
            refine wa_icmpge (w_rg0 (by omega) (by omega)) (w_rg0 (by omega) (by omega)) ⟨_, rfl⟩ (fun c18 => ?_) (fun c18 => ?_)
            · skip
              refine wa_aload_n (n := 0) rfl ?_
              refine wb_gf5 237 rfl (wy_pr rfl) wt_237 wf_15_13 (v := 261) (h13) (fun r19 => ?_)
              refine wb_gf4 261 rfl (wy_pr rfl) wt_261 wf_12_0 (v := 262) wl_261_0 ?_
              refine wa_aload_n (n := 0) rfl ?_
              refine wb_gf5 237 rfl (wy_pr rfl) wt_237 wf_15_13 (v := 261) (h13) (fun r20 => ?_)
              refine wb_gf4 261 rfl (wy_pr rfl) wt_261 wf_12_19 (v := 279) wl_261_19 ?_
              refine wa_iload_n (n := 1) rfl ?_
              refine wb_iald 279 rfl (wy_pr rfl) wt_279 (n := 400) ((ml_279 hM)) (by omega) (by omega) (v := (hmR ms m).2.2.2.2.2.2.1) (ef) (fun r21 => ?_)
              refine wa_aload_n (n := 2) rfl ?_
              refine wa_sl 83 rfl (wx_83 hX) rfl rfl ?_
              refine wJ_top (show (tx_83.length : Int) = 2 by decide) ?_
              refine wa_iadd ?_
              refine wb_bald 262 rfl (wy_pr rfl) wt_262 (n := 65536) ((ml_262 hM)) (by omega) (by omega) (v := (NN.getD 2 0)) (hs2) (fun r22 => ?_)
              refine wa_i2l (w_rg0 (by omega) (by omega)) ?_
              refine wb_kl (n := 65) rfl ?_
              refine wb_kl (n := 90) rfl ?_
              refine wa_cs (M2 := fun _ => False) rfl at_M_in ⟨_, rfl⟩ rfl rfl ⟨(Or.inr ⟨wy_pr rfl, fun q => q⟩), trivial, (Or.inl (by omega)), trivial, trivial, trivial⟩ trivial (fun _ _ q => False.elim q) (in_ok (S := S) (a := (NN.getD 2 0)) (lo := 65) (hi := 90) ⟨by omega, by omega⟩ ⟨by omega, by omega⟩ ⟨by omega, by omega⟩) (fun oq24 Sq24 hp25 q24 => ?_)
              rcases q24 with ⟨rfl, ⟨rfl, hin23⟩ | ⟨rfl, hin23⟩⟩
              · skip
                show wJ _ _ _ _ _ _ _ _ _ _
                refine wa_zreturn rfl (Or.inr rfl) ?_
                refine ⟨rfl, congrArg (fun z => Sum.inl (some (0, z))) ?_⟩
                refine (px_t (by show 2 < NN.length; omega) (fun i hi => ?_) ⟨by show 65 ≤ NN.getD 2 0; omega, by show NN.getD 2 0 ≤ 90; omega⟩).symm
                replace hi : i < 2 := hi
                rcases (show i = 0 ∨ i = 1 by omega) with e | e
                · rw [e]; show NN.getD 0 0 = 105; omega
                · rw [e]; show NN.getD 1 0 = 115; omega
              · skip
                show wJ _ _ _ _ _ _ _ _ _ _
                refine wa_zreturn rfl (Or.inl rfl) ?_
                refine ⟨rfl, congrArg (fun z => Sum.inl (some (0, z))) ?_⟩
                refine (px_f (fun z => ?_)).symm
                have z1 : 2 < NN.length := z.1
                have y0 : NN.getD 0 0 = 105 := z.2.1 0 (by first | decide | omega)
                have y1 : NN.getD 1 0 = 115 := z.2.1 1 (by first | decide | omega)
                have z3 : 65 ≤ NN.getD 2 0 ∧ NN.getD 2 0 ≤ 90 := z.2.2
                omega
            · skip
              exact absurd c18 (by omega)
          · skip
            refine wa_iconst ?_
            refine wa_zreturn rfl (Or.inl rfl) ?_
            refine ⟨rfl, congrArg (fun z => Sum.inl (some (0, z))) ?_⟩
            refine (px_f (fun z => ?_)).symm
            have z1 : 2 < NN.length := z.1
            have y0 : NN.getD 0 0 = 105 := z.2.1 0 (by first | decide | omega)
            have y1 : NN.getD 1 0 = 115 := z.2.1 1 (by first | decide | omega)
            have z3 : 65 ≤ NN.getD 2 0 ∧ NN.getD 2 0 ≤ 90 := z.2.2
            omega
      · skip
        refine wa_iconst ?_
        refine wa_zreturn rfl (Or.inl rfl) ?_
        refine ⟨rfl, congrArg (fun z => Sum.inl (some (0, z))) ?_⟩
        refine (px_f (fun z => ?_)).symm
        have z1 : 2 < NN.length := z.1
        have y0 : NN.getD 0 0 = 105 := z.2.1 0 (by first | decide | omega)
        have y1 : NN.getD 1 0 = 115 := z.2.1 1 (by first | decide | omega)
        have z3 : 65 ≤ NN.getD 2 0 ∧ NN.getD 2 0 ≤ 90 := z.2.2
        omega
  · skip
    refine wa_iconst ?_
    refine wa_zreturn rfl (Or.inl rfl) ?_
    refine ⟨rfl, congrArg (fun z => Sum.inl (some (0, z))) ?_⟩
    refine (px_f (fun z => ?_)).symm
    have z1 : 2 < NN.length := z.1
    have y0 : NN.getD 0 0 = 105 := z.2.1 0 (by first | decide | omega)
    have y1 : NN.getD 1 0 = 115 := z.2.1 1 (by first | decide | omega)
    have z3 : 65 ≤ NN.getD 2 0 ∧ NN.getD 2 0 ≤ 90 := z.2.2
    omega
theorem rfe_261 {m x4 : Int} {sk : Nat} {sb : Bool} {WW : List Int} (hX : w_X xs) (hM : w_ML S) (hK : KR 261 T n cs ms S) (hw : wHo cs ms os) (hm : 0 ≤ m ∧ m < (ms.length : Int)) (hsb : sb = true → (hmR ms m).2.2.2.2.1.length = 1) (hW : wtI WW A) (hfr : ∀ (j : Nat) (x : Int), ¬ wtM j x → A j x = S j x) : wJ (pe_GA xs) wY0 M (d + 6) t_M_fieldFor ((pe_at t_M_fieldFor.bl 12).getD (0, [])).2 [(0, (2, 237)), (1, (0, m)), (2, (0, (NN.length : Int))), (3, (0, bI sb)), (4, (0, x4)), (5, (0, (sk : Int)))] [] A (fun z Z => z = .inl (some (0, ftF ms sb m (fdA T cs ms (-1) WW (hmR ms m).1))) ∧ ∀ (j : Nat) (x : Int), ¬ wtM j x → Z j x = S j x) := by
  have hMA : w_ML A := ML_w hM hfr (fun j z => by unfold wtM at z; omega)
  have hKA : KR 261 T n cs ms A := KR_ag hK (fun j x hj => hfr j x (by unfold wtM; omega))
  have h13 : A 237 13 = 261 := hKA.1
  have h400 := hw.1
  have eM := KR_m hKA (m := m) (by omega) (by omega)
  have eW := hw.2.2.2 m (by omega) (by omega)
  have e1 : A 273 m = (hmR ms m).2.1 := eM.1.2.1
  have e2 : A 274 m = (hmR ms m).2.2.1 := eM.1.2.2.1
  have e3 : A 275 m = (hmR ms m).2.2.2.1 := eM.1.2.2.2.1
  have e4 : A 276 m = ((hmR ms m).2.2.2.2.1.length : Int) := eM.2.1.1
  have e5 : A 277 m = (hmR ms m).2.2.2.2.2.1 := eM.2.1.2.1
  have ef : A 279 m = (hmR ms m).2.2.2.2.2.2.1 := eM.1.2.2.2.2.1
  have et : A 280 m = (hmR ms m).2.2.2.2.2.2.2 := eM.1.2.2.2.2.2
  have eq := eW.1.2.1
  have es := eW.1.2.2.1
  have ey := eW.1.2.2.2
  have ev := eW.2.1
  have el := eW.2.2.1
  have eft := hK.2.2.2.2.2.2.1 m (by omega) (by omega)
  have e0 : A 272 m = (hmR ms m).1 := eM.1.1
  have eK := eW.1.1
  have hbs := bI_rg sb
  obtain ⟨fd, hfd⟩ : ∃ r : Int, r = fdA T cs ms (-1) WW (hmR ms m).1 := ⟨_, rfl⟩
  have hfr2 := fdA_rg (T := T) (st := -1) (W := WW) hw eK
  rw [← hfd] at hfr2 ⊢
  have hps : sb = true → A 278 (8 * m) = (hmR ms m).2.2.2.2.1.getD 0 0 := fun z => by have y := eM.2.1.2.2 0 (by have := hsb z; omega); rw [show (8 * m) = 8 * m + ((0 : Nat) : Int) by omega]; exact y
  have hpr : sb = true → 1 ≤ (hmR ms m).2.2.2.2.1.getD 0 0 ∧ (hmR ms m).2.2.2.2.1.getD 0 0 < 9 + (cs.length : Int) := fun z => eW.2.2.2.1 _ (getD_mem (by have := hsb z; omega))
  refine wa_aload_n (n := 0) rfl ?_
  refine wa_aload_n (n := 0) rfl ?_
  refine wb_gf5 237 rfl (wy_pr rfl) wt_237 wf_15_13 (v := 261) (h13) (fun r1 => ?_)
  refine wb_gf4 261 rfl (wy_pr rfl) wt_261 wf_12_12 (v := 272) wl_261_12 ?_
  refine wa_iload_n (n := 1) rfl ?_
  refine wb_iald 272 rfl (wy_pr rfl) wt_272 (n := 400) ((ml_272 hMA)) (by omega) (by omega) (v := (hmR ms m).1) (e0) (fun r2 => ?_)
  refine wa_iconst ?_
  refine wa_cv 237 rfl (wy_pr rfl) wt_237 (M2 := fun _ => False) rfl at_M_field ⟨_, rfl⟩ rfl rfl ⟨(Or.inr ⟨wy_pr rfl, fun q => q⟩), trivial, trivial, trivial, trivial, trivial, trivial⟩ trivial (fun _ _ q => False.elim q) (wJ_mono (rfd_261 (S := A) (c := (hmR ms m).1) (st := -1) (WW := WW) hMA hKA hw ⟨by omega, by omega⟩ hW eK) (fun o Z hz => (⟨hz.1, by rw [hfd]; exact hz.2⟩ : A = Z ∧ o = .inl (some (0, fd))))) (fun oq3 Sq3 hp4 q3 => ?_)
  rcases q3 with ⟨rfl, rfl⟩
  show wJ _ _ _ _ _ _ _ _ _ _
  refine wa_istore (n := 6) rfl ?_
  refine wa_iload (n := 6) rfl ?_
  refine wa_iflt (w_rg0 (by omega) (by omega)) ⟨_, rfl⟩ (fun c5 => ?_) (fun c5 => ?_)
  · skip
    refine wa_iconst ?_
    refine wa_fall ⟨_, rfl⟩ ?_
    refine wa_istore (n := 7) rfl ?_
    refine wa_iload (n := 7) rfl ?_
    refine wa_ifeq (w_rg0 (by omega) (by omega)) ⟨_, rfl⟩ (fun c6 => ?_) (fun c6 => ?_)
    · skip
      refine wa_iconst ?_
      refine wa_fall ⟨_, rfl⟩ ?_
      refine wa_ireturn rfl ?_
      refine ⟨congrArg (fun z => Sum.inl (some (0, z))) ?_, hfr⟩
      exact (ftF_n (fun z => by have z1 := z.1; have z2 := z.2.1; have z3 := z.2.2; first | omega | (rw [bI_0 (b := sb) (by omega), if_neg (by first | decide | omega)] at z3; omega) | (rw [hst1, if_pos rfl] at z3; omega))).symm
    · skip
      exact absurd c6 (by omega)
  · skip
    have hfv : 0 ≤ fd ∧ fd < (ms.length : Int) := by omega
    have fM := KR_m hKA (m := fd) (by omega) (by omega)
    have fW := hw.2.2.2 fd (by omega) (by omega)
    have f1 : A 273 fd = (hmR ms fd).2.1 := fM.1.2.1
    have f2 : A 274 fd = (hmR ms fd).2.2.1 := fM.1.2.2.1
    have f3 : A 275 fd = (hmR ms fd).2.2.2.1 := fM.1.2.2.2.1
    have f4 : A 276 fd = ((hmR ms fd).2.2.2.2.1.length : Int) := fM.2.1.1
    have f5 : A 277 fd = (hmR ms fd).2.2.2.2.2.1 := fM.2.1.2.1
    have ff : A 279 fd = (hmR ms fd).2.2.2.2.2.2.1 := fM.1.2.2.2.2.1
    have ft : A 280 fd = (hmR ms fd).2.2.2.2.2.2.2 := fM.1.2.2.2.2.2
    have fq := fW.1.2.1
    have fs := fW.1.2.2.1
    have fy := fW.1.2.2.2
    have fv := fW.2.1
    have fl := fW.2.2.1
    have fft := hK.2.2.2.2.2.2.1 fd (by omega) (by omega)
    refine wa_aload_n (n := 0) rfl ?_
    refine wb_gf5 237 rfl (wy_pr rfl) wt_237 wf_15_13 (v := 261) (h13) (fun r7 => ?_)
    refine wb_gf4 261 rfl (wy_pr rfl) wt_261 wf_12_14 (v := 274) wl_261_14 ?_
    refine wa_iload (n := 6) rfl ?_
    refine wb_zald 274 rfl (wy_pr rfl) wt_274 (n := 400) ((ml_274 hMA)) (by omega) (by omega) (v := (hmR ms fd).2.2.1) (f2) (fun r8 => ?_)
    refine wa_aload_n (n := 0) rfl ?_
    refine wb_gf5 237 rfl (wy_pr rfl) wt_237 wf_15_13 (v := 261) (h13) (fun r9 => ?_)
    refine wb_gf4 261 rfl (wy_pr rfl) wt_261 wf_12_14 (v := 274) wl_261_14 ?_
    refine wa_iload_n (n := 1) rfl ?_
    refine wb_zald 274 rfl (wy_pr rfl) wt_274 (n := 400) ((ml_274 hMA)) (by omega) (by omega) (v := (hmR ms m).2.2.1) (e2) (fun r10 => ?_)
    refine wa_icmpne (w_rg0 (by omega) (by omega)) (w_rg0 (by omega) (by omega)) ⟨_, rfl⟩ (fun c11 => ?_) (fun c11 => ?_)
    · skip
      refine wa_iconst ?_
      refine wa_fall ⟨_, rfl⟩ ?_
      refine wa_istore (n := 7) rfl ?_
      refine wa_iload (n := 7) rfl ?_
      refine wa_ifeq (w_rg0 (by omega) (by omega)) ⟨_, rfl⟩ (fun c12 => ?_) (fun c12 => ?_)
      · skip
        refine wa_iconst ?_
        refine wa_fall ⟨_, rfl⟩ ?_
        refine wa_ireturn rfl ?_
        refine ⟨congrArg (fun z => Sum.inl (some (0, z))) ?_, hfr⟩
        exact (ftF_n (fun z => by have z1 := z.1; have z2 := z.2.1; have z3 := z.2.2; first | omega | (rw [bI_0 (b := sb) (by omega), if_neg (by first | decide | omega)] at z3; omega) | (rw [hst1, if_pos rfl] at z3; omega))).symm
      · skip
        exact absurd c12 (by omega)
    · skip
      refine wa_aload_n (n := 0) rfl ?_
      refine wb_gf5 237 rfl (wy_pr rfl) wt_237 wf_15_13 (v := 261) (h13) (fun r13 => ?_)
      refine wb_gf4 261 rfl (wy_pr rfl) wt_261 wf_12_15 (v := 275) wl_261_15 ?_
      refine wa_iload (n := 6) rfl ?_
      refine wb_iald 275 rfl (wy_pr rfl) wt_275 (n := 400) ((ml_275 hMA)) (by omega) (by omega) (v := (hmR ms fd).2.2.2.1) (f3) (fun r14 => ?_)
      refine wa_iload_n (n := 3) rfl ?_
      refine wa_ifeq (w_rg0 (by omega) (by omega)) ⟨_, rfl⟩ (fun c15 => ?_) (fun c15 => ?_)
      · skip
        refine wa_aload_n (n := 0) rfl ?_
        refine wb_gf5 237 rfl (wy_pr rfl) wt_237 wf_15_13 (v := 261) (h13) (fun r16 => ?_)
        refine wb_gf4 261 rfl (wy_pr rfl) wt_261 wf_12_15 (v := 275) wl_261_15 ?_
        refine wa_iload_n (n := 1) rfl ?_
        refine wb_iald 275 rfl (wy_pr rfl) wt_275 (n := 400) ((ml_275 hMA)) (by omega) (by omega) (v := (hmR ms m).2.2.2.1) (e3) (fun r17 => ?_)
        refine wa_fall ⟨_, rfl⟩ ?_
        refine wa_icmpne (w_rg0 (by omega) (by omega)) (w_rg0 (by omega) (by omega)) ⟨_, rfl⟩ (fun c18 => ?_) (fun c18 => ?_)
        · skip
          refine wa_iconst ?_
          refine wa_fall ⟨_, rfl⟩ ?_
          refine wa_istore (n := 7) rfl ?_
          refine wa_iload (n := 7) rfl ?_
          refine wa_ifeq (w_rg0 (by omega) (by omega)) ⟨_, rfl⟩ (fun c19 => ?_) (fun c19 => ?_)
          · skip
            refine wa_iconst ?_
            refine wa_fall ⟨_, rfl⟩ ?_
            refine wa_ireturn rfl ?_
            refine ⟨congrArg (fun z => Sum.inl (some (0, z))) ?_, hfr⟩
            exact (ftF_n (fun z => by have z1 := z.1; have z2 := z.2.1; have z3 := z.2.2; first | omega | (rw [bI_0 (b := sb) (by omega), if_neg (by first | decide | omega)] at z3; omega) | (rw [hst1, if_pos rfl] at z3; omega))).symm
          · skip
            exact absurd c19 (by omega)
        · skip
          refine wa_iconst ?_
          refine wa_goto ⟨_, rfl⟩ ?_
          refine wa_istore (n := 7) rfl ?_
          refine wa_iload (n := 7) rfl ?_
          refine wa_ifeq (w_rg0 (by omega) (by omega)) ⟨_, rfl⟩ (fun c20 => ?_) (fun c20 => ?_)
          · skip
            exact absurd c20 (by omega)
          · skip
            refine wa_iload (n := 6) rfl ?_
            refine wa_goto ⟨_, rfl⟩ ?_
            refine wa_ireturn rfl ?_
            refine ⟨congrArg (fun z => Sum.inl (some (0, z))) ?_, hfr⟩
            exact (ftF_p (by omega) (by omega) (by first | (rw [bI_0 (b := sb) (by omega), if_neg (by first | decide | omega)]; omega) | (rw [hst1, if_pos rfl]; omega))).symm
      · skip
        have hst1 := bI_1 (b := sb) (by omega)
        have hps1 := hps hst1
        have hpr1 := hpr hst1
        refine wa_aload_n (n := 0) rfl ?_
        refine wb_gf5 237 rfl (wy_pr rfl) wt_237 wf_15_13 (v := 261) (h13) (fun r21 => ?_)
        refine wb_gf4 261 rfl (wy_pr rfl) wt_261 wf_12_18 (v := 278) wl_261_18 ?_
        refine wa_bipush (w_rg2 (by omega) (by omega)) ?_
        refine wa_iload_n (n := 1) rfl ?_
        refine wa_imul ?_
        refine wb_iald 278 rfl (wy_pr rfl) wt_278 (n := 3200) ((ml_278 hMA)) (by omega) (by omega) (v := ((hmR ms m).2.2.2.2.1.getD 0 0)) (hps1) (fun r22 => ?_)
        refine wa_goto ⟨_, rfl⟩ ?_
        refine wa_icmpne (w_rg0 (by omega) (by omega)) (w_rg0 (by omega) (by omega)) ⟨_, rfl⟩ (fun c23 => ?_) (fun c23 => ?_)
        · skip
          refine wa_iconst ?_
          refine wa_fall ⟨_, rfl⟩ ?_
          refine wa_istore (n := 7) rfl ?_
          refine wa_iload (n := 7) rfl ?_
          refine wa_ifeq (w_rg0 (by omega) (by omega)) ⟨_, rfl⟩ (fun c24 => ?_) (fun c24 => ?_)
          · skip
            refine wa_iconst ?_
            refine wa_fall ⟨_, rfl⟩ ?_
            refine wa_ireturn rfl ?_
            refine ⟨congrArg (fun z => Sum.inl (some (0, z))) ?_, hfr⟩
            exact (ftF_n (fun z => by have z1 := z.1; have z2 := z.2.1; have z3 := z.2.2; first | omega | (rw [bI_0 (b := sb) (by omega), if_neg (by first | decide | omega)] at z3; omega) | (rw [hst1, if_pos rfl] at z3; omega))).symm
          · skip
            exact absurd c24 (by omega)
        · skip
          refine wa_iconst ?_
          refine wa_goto ⟨_, rfl⟩ ?_
          refine wa_istore (n := 7) rfl ?_
          refine wa_iload (n := 7) rfl ?_
          refine wa_ifeq (w_rg0 (by omega) (by omega)) ⟨_, rfl⟩ (fun c25 => ?_) (fun c25 => ?_)
          · skip
            exact absurd c25 (by omega)
          · skip
            refine wa_iload (n := 6) rfl ?_
            refine wa_goto ⟨_, rfl⟩ ?_
            refine wa_ireturn rfl ?_
            refine ⟨congrArg (fun z => Sum.inl (some (0, z))) ?_, hfr⟩
            exact (ftF_p (by omega) (by omega) (by first | (rw [bI_0 (b := sb) (by omega), if_neg (by first | decide | omega)]; omega) | (rw [hst1, if_pos rfl]; omega))).symm
theorem rfl9_261 {m x4 : Int} {sk : Nat} {sb : Bool} (hX : w_X xs) (hM : w_ML S) (hK : KR 261 T n cs ms S) (hw : wHo cs ms os) (hm : 0 ≤ m ∧ m < (ms.length : Int)) (hNN : NN = nmR T (hmR ms m)) (hsk : sk ≤ 3 ∧ sk < NN.length) (hcap : 65 ≤ NN.getD sk 0 ∧ NN.getD sk 0 ≤ 90) (hsb : sb = true → (hmR ms m).2.2.2.2.1.length = 1) : ∀ (f i : Nat) (A : wS), sk + i + f = NN.length → A 237 126 = (i : Int) → (∀ q : Nat, q < i → A 354 (q : Int) = (wtN NN sk).getD q 0) → (∀ (j : Nat) (x : Int), ¬ wtM j x → A j x = S j x) → wJ (pe_GA xs) wY0 M (d + 6) t_M_fieldFor ((pe_at t_M_fieldFor.bl 9).getD (0, [])).2 [(0, (2, 237)), (1, (0, m)), (2, (0, (NN.length : Int))), (3, (0, bI sb)), (4, (0, x4)), (5, (0, (sk : Int))), (6, (0, (sk : Int) + (i : Int)))] [] A (fun z Z => z = .inl (some (0, ftF ms sb m (fdA T cs ms (-1) (wtN NN sk) (hmR ms m).1))) ∧ ∀ (j : Nat) (x : Int), ¬ wtM j x → Z j x = S j x) := by
  have h13 : S 237 13 = 261 := hK.1
  have h400 := hw.1
  have hn6 := hK.2.2.2.2.2.1
  have eM := KR_m hK (m := m) (by omega) (by omega)
  have eW := hw.2.2.2 m (by omega) (by omega)
  have e1 : S 273 m = (hmR ms m).2.1 := eM.1.2.1
  have e2 : S 274 m = (hmR ms m).2.2.1 := eM.1.2.2.1
  have e3 : S 275 m = (hmR ms m).2.2.2.1 := eM.1.2.2.2.1
  have e4 : S 276 m = ((hmR ms m).2.2.2.2.1.length : Int) := eM.2.1.1
  have e5 : S 277 m = (hmR ms m).2.2.2.2.2.1 := eM.2.1.2.1
  have ef : S 279 m = (hmR ms m).2.2.2.2.2.2.1 := eM.1.2.2.2.2.1
  have et : S 280 m = (hmR ms m).2.2.2.2.2.2.2 := eM.1.2.2.2.2.2
  have eq := eW.1.2.1
  have es := eW.1.2.2.1
  have ey := eW.1.2.2.2
  have ev := eW.2.1
  have el := eW.2.2.1
  have eft := hK.2.2.2.2.2.2.1 m (by omega) (by omega)
  have hNl : (NN.length : Int) = (hmR ms m).2.2.2.2.2.2.2 - (hmR ms m).2.2.2.2.2.2.1 := by rw [hNN]; exact nmR_l (by omega)
  have hNs : ∀ i : Nat, i < NN.length → S 262 ((hmR ms m).2.2.2.2.2.2.1 + (i : Int)) = NN.getD i 0 := fun i hi => by rw [hNN] at hi ⊢; rw [nmR_s hi]; exact hK.2.2.2.2.1 _ (by omega) (by rw [← hNN] at hi; omega)
  have hbs := bI_rg sb
  intro f
  induction f with
  | zero =>
    intro i A hi h126 hq hfr
    refine wa_iload (n := 6) rfl ?_
    refine wa_iload_n (n := 2) rfl ?_
    refine wa_icmpge (w_rg0 (by omega) (by omega)) (w_rg0 (by omega) (by omega)) ⟨_, rfl⟩ (fun c1 => ?_) (fun c1 => ?_)
    · skip
      exact wJ_S (rfe_261 (sk := sk) (x4 := x4) (WW := wtN NN sk) hX hM hK hw hm hsb ⟨h126.trans (by rw [wtN_len hsk.2]; omega), fun q hq1 => hq q (by rw [wtN_len hsk.2] at hq1; omega), by rw [wtN_len hsk.2]; omega⟩ hfr) ⟨rfl, rfl, rfl, rfl, rfl, rfl, trivial⟩
    · skip
      exfalso; omega
  | succ f ih =>
    intro i A hi h126 hq hfr
    have hMA : w_ML A := ML_w hM hfr (fun j z => by unfold wtM at z; omega)
    have hKA : KR 261 T n cs ms A := KR_ag hK (fun j x hj => hfr j x (by unfold wtM; omega))
    have h13A : A 237 13 = 261 := hKA.1
    have eMA := KR_m hKA (m := m) (by omega) (by omega)
    have efA : A 279 m = (hmR ms m).2.2.2.2.2.2.1 := eMA.1.2.2.2.2.1
    have hsA : A 262 ((hmR ms m).2.2.2.2.2.2.1 + ((sk : Int) + (i : Int))) = NN.getD (sk + i) 0 := by rw [hfr 262 _ (by unfold wtM; omega), show (sk : Int) + (i : Int) = ((sk + i : Nat) : Int) by omega]; exact hNs (sk + i) (by omega)
    have hv0 : i = 0 → NN.getD (sk + i) 0 = NN.getD sk 0 := fun z => by rw [z]; rfl
    refine wa_iload (n := 6) rfl ?_
    refine wa_iload_n (n := 2) rfl ?_
    refine wa_icmpge (w_rg0 (by omega) (by omega)) (w_rg0 (by omega) (by omega)) ⟨_, rfl⟩ (fun c51 => ?_) (fun c51 => ?_)
    · skip
      exfalso; omega
    · skip
      refine wa_aload_n (n := 0) rfl ?_
      refine wb_gf5 237 rfl (wy_pr rfl) wt_237 wf_15_13 (v := 261) (h13A) (fun r52 => ?_)
      refine wb_gf4 261 rfl (wy_pr rfl) wt_261 wf_12_0 (v := 262) wl_261_0 ?_
      refine wa_aload_n (n := 0) rfl ?_
      refine wb_gf5 237 rfl (wy_pr rfl) wt_237 wf_15_13 (v := 261) (h13A) (fun r53 => ?_)
      refine wb_gf4 261 rfl (wy_pr rfl) wt_261 wf_12_19 (v := 279) wl_261_19 ?_
      refine wa_iload_n (n := 1) rfl ?_
      refine wb_iald 279 rfl (wy_pr rfl) wt_279 (n := 400) ((ml_279 hMA)) (by omega) (by omega) (v := (hmR ms m).2.2.2.2.2.2.1) (efA) (fun r54 => ?_)
      refine wa_iload (n := 6) rfl ?_
      refine wa_iadd ?_
      refine wb_bald 262 rfl (wy_pr rfl) wt_262 (n := 65536) ((ml_262 hMA)) (by omega) (by omega) (v := (NN.getD (sk + i) 0)) (hsA) (fun r55 => ?_)
      refine wa_istore (n := 7) rfl ?_
      refine wa_aload_n (n := 0) rfl ?_
      refine wb_gf4 237 rfl (wy_pr rfl) wt_237 wf_15_127 (v := 354) wl_237_127 ?_
      refine wa_aload_n (n := 0) rfl ?_
      refine wb_gfi 237 rfl (wy_pr rfl) wt_237 wf_15_126 (v := (i : Int)) (h126) (fun r56 => ?_)
      refine wa_iload (n := 6) rfl ?_
      refine wa_iload (n := 5) rfl ?_
      refine wa_icmpne (w_rg0 (by omega) (by omega)) (w_rg0 (by omega) (by omega)) ⟨_, rfl⟩ (fun c57 => ?_) (fun c57 => ?_)
      · skip
        refine wa_iload (n := 7) rfl ?_
        refine wa_fall ⟨_, rfl⟩ ?_
        refine wb_i2b_r (wb_i2b_id ⟨(by omega), (by omega)⟩) ?_
        refine wb_bast 354 rfl (wy_pr rfl) wt_354 (n := 72) ((ml_354 hMA)) (by omega) (by omega) ⟨(by omega), (by omega)⟩ ?_
        refine wa_aload_n (n := 0) rfl ?_
        refine wa_dup (by decide) ?_
        refine wb_gfi 237 rfl (wy_pr rfl) wt_237 wf_15_126 (v := (i : Int)) ((w_up_slot (by decide)).trans (h126)) (fun r58 => ?_)
        refine wa_iconst ?_
        refine wa_iadd ?_
        refine wb_pfi 237 rfl (wy_pr rfl) wt_237 wf_15_126 (n := 126) rfl ⟨(by omega), (by omega)⟩ ?_
        refine wa_iinc rfl rfl ?_
        refine wa_goto ⟨_, rfl⟩ ?_
        have hwv : (wtN NN sk).getD i 0 = (NN.getD (sk + i) 0) := by first | (rw [show i = 0 by omega, wtN_0]; rfl) | exact wtN_s (by omega)
        refine wJ_S (ih (i + 1) (w_up (w_up A 354 (i : Int) (NN.getD (sk + i) 0)) 237 126 ((i : Int) + 1)) (by omega) ?_ (fun q hq1 => ?_) (fun j x hj => (w_up_no (fun z => hj (Or.inr z))).trans ((w_up_no (fun z => hj (Or.inl ⟨z.1, by omega⟩))).trans (hfr j x hj)))) ⟨rfl, rfl, rfl, rfl, rfl, rfl, by show some (0, (sk : Int) + (i : Int) + 1) = some (0, (sk : Int) + ((i + 1 : Nat) : Int)); rw [show (sk : Int) + ((i + 1 : Nat) : Int) = (sk : Int) + (i : Int) + 1 by omega], trivial⟩
        · exact w_up_same _ _ _ _
        · by_cases ce : q = i
          · rw [ce, hwv]; exact (w_up_slot (by first | decide | omega)).trans (w_up_same _ _ _ _)
          · exact (w_up_slot (by first | decide | omega)).trans ((w_up_at (by omega)).trans (hq q (by omega)))
      · skip
        have hi0 : i = 0 := by omega
        have hv1 := hv0 hi0
        refine wa_iload (n := 7) rfl ?_
        refine wa_bipush (w_rg2 (by omega) (by omega)) ?_
        refine wa_iadd ?_
        refine wa_goto ⟨_, rfl⟩ ?_
        refine wb_i2b_r (wb_i2b_id ⟨(by omega), (by omega)⟩) ?_
        refine wb_bast 354 rfl (wy_pr rfl) wt_354 (n := 72) ((ml_354 hMA)) (by omega) (by omega) ⟨(by omega), (by omega)⟩ ?_
        refine wa_aload_n (n := 0) rfl ?_
        refine wa_dup (by decide) ?_
        refine wb_gfi 237 rfl (wy_pr rfl) wt_237 wf_15_126 (v := (i : Int)) ((w_up_slot (by decide)).trans (h126)) (fun r59 => ?_)
        refine wa_iconst ?_
        refine wa_iadd ?_
        refine wb_pfi 237 rfl (wy_pr rfl) wt_237 wf_15_126 (n := 126) rfl ⟨(by omega), (by omega)⟩ ?_
        refine wa_iinc rfl rfl ?_
        refine wa_goto ⟨_, rfl⟩ ?_
        have hwv : (wtN NN sk).getD i 0 = ((NN.getD (sk + i) 0) + 32) := by first | (rw [show i = 0 by omega, wtN_0]; rfl) | exact wtN_s (by omega)
        refine wJ_S (ih (i + 1) (w_up (w_up A 354 (i : Int) ((NN.getD (sk + i) 0) + 32)) 237 126 ((i : Int) + 1)) (by omega) ?_ (fun q hq1 => ?_) (fun j x hj => (w_up_no (fun z => hj (Or.inr z))).trans ((w_up_no (fun z => hj (Or.inl ⟨z.1, by omega⟩))).trans (hfr j x hj)))) ⟨rfl, rfl, rfl, rfl, rfl, rfl, by show some (0, (sk : Int) + (i : Int) + 1) = some (0, (sk : Int) + ((i + 1 : Nat) : Int)); rw [show (sk : Int) + ((i + 1 : Nat) : Int) = (sk : Int) + (i : Int) + 1 by omega], trivial⟩
        · exact w_up_same _ _ _ _
        · by_cases ce : q = i
          · rw [ce, hwv]; exact (w_up_slot (by first | decide | omega)).trans (w_up_same _ _ _ _)
          · exact (w_up_slot (by first | decide | omega)).trans ((w_up_at (by omega)).trans (hq q (by omega)))
theorem rfg_261 {m x4 : Int} (hX : w_X xs) (hM : w_ML S) (hK : KR 261 T n cs ms S) (hw : wHo cs ms os) (hm : 0 ≤ m ∧ m < (ms.length : Int)) (hNN : NN = nmR T (hmR ms m)) (hsg : sB ms NN m = true ∨ gB ms NN m = true) : wJ (pe_GA xs) wY0 M (d + 6) t_M_fieldFor ((pe_at t_M_fieldFor.bl 6).getD (0, [])).2 [(0, (2, 237)), (1, (0, m)), (2, (0, (NN.length : Int))), (3, (0, bI (sB ms NN m))), (4, (0, x4))] [] S (fun z Z => z = .inl (some (0, (if sB ms NN m = true ∨ gB ms NN m = true then ftF ms (sB ms NN m) m (fdA T cs ms (-1) (wtN NN (skN NN)) (hmR ms m).1) else -1))) ∧ ∀ (j : Nat) (x : Int), ¬ wtM j x → Z j x = S j x) := by
  have h13 : S 237 13 = 261 := hK.1
  have h400 := hw.1
  have hn6 := hK.2.2.2.2.2.1
  have eM := KR_m hK (m := m) (by omega) (by omega)
  have eW := hw.2.2.2 m (by omega) (by omega)
  have e1 : S 273 m = (hmR ms m).2.1 := eM.1.2.1
  have e2 : S 274 m = (hmR ms m).2.2.1 := eM.1.2.2.1
  have e3 : S 275 m = (hmR ms m).2.2.2.1 := eM.1.2.2.2.1
  have e4 : S 276 m = ((hmR ms m).2.2.2.2.1.length : Int) := eM.2.1.1
  have e5 : S 277 m = (hmR ms m).2.2.2.2.2.1 := eM.2.1.2.1
  have ef : S 279 m = (hmR ms m).2.2.2.2.2.2.1 := eM.1.2.2.2.2.1
  have et : S 280 m = (hmR ms m).2.2.2.2.2.2.2 := eM.1.2.2.2.2.2
  have eq := eW.1.2.1
  have es := eW.1.2.2.1
  have ey := eW.1.2.2.2
  have ev := eW.2.1
  have el := eW.2.2.1
  have eft := hK.2.2.2.2.2.2.1 m (by omega) (by omega)
  have hNl : (NN.length : Int) = (hmR ms m).2.2.2.2.2.2.2 - (hmR ms m).2.2.2.2.2.2.1 := by rw [hNN]; exact nmR_l (by omega)
  have hNs : ∀ i : Nat, i < NN.length → S 262 ((hmR ms m).2.2.2.2.2.2.1 + (i : Int)) = NN.getD i 0 := fun i hi => by rw [hNN] at hi ⊢; rw [nmR_s hi]; exact hK.2.2.2.2.1 _ (by omega) (by rw [← hNN] at hi; omega)
  have hcap := sk_cap hsg
  rw [if_pos hsg]
  have hbs := bI_rg (sB ms NN m)
  have hsb : sB ms NN m = true → (hmR ms m).2.2.2.2.1.length = 1 := fun z => by unfold sB at z; rw [Bool.and_eq_true] at z; exact (of_decide_eq_true z.2).2.1
  refine wa_aload_n (n := 0) rfl ?_
  refine wa_iload_n (n := 1) rfl ?_
  refine wa_ks ?_
  refine wa_cv 237 rfl (wy_pr rfl) wt_237 (M2 := fun _ => False) rfl at_M_isPrefixed ⟨_, rfl⟩ rfl rfl ⟨(Or.inr ⟨wy_pr rfl, fun q => q⟩), trivial, trivial, trivial, trivial, trivial⟩ trivial (fun _ _ q => False.elim q) (wJ_mono (rip83_261 (m := m) hX hM hK hw hm) (fun o Z hz => (⟨hz.1, by rw [hNN]; exact hz.2⟩ : S = Z ∧ o = .inl (some (0, bI (pxB [105, 115] NN)))))) (fun oq1 Sq1 hp2 q1 => ?_)
  rcases q1 with ⟨rfl, rfl⟩
  show wJ _ _ _ _ _ _ _ _ _ _
  have hpx0 := bI_rg (pxB [105, 115] NN)
  refine wa_ifeq (w_rg0 (by omega) (by omega)) ⟨_, rfl⟩ (fun c3 => ?_) (fun c3 => ?_)
  · skip
    refine wa_iconst ?_
    refine wa_fall ⟨_, rfl⟩ ?_
    refine wa_istore (n := 5) rfl ?_
    refine wa_aload_n (n := 0) rfl ?_
    refine wa_iconst ?_
    refine wb_pfi 237 rfl (wy_pr rfl) wt_237 wf_15_126 (n := 126) rfl ⟨(by omega), (by omega)⟩ ?_
    refine wa_iload (n := 5) rfl ?_
    refine wa_istore (n := 6) rfl ?_
    refine wa_fall ⟨_, rfl⟩ ?_
    have hsk : skN NN = 3 := by first | exact sk_2 (by omega) (by omega) (by omega) | exact sk_3 (by omega)
    rw [hsk] at hcap ⊢
    exact wJ_S (rfl9_261 (sk := 3) hX hM hK hw hm hNN ⟨by omega, hcap.1⟩ hcap.2 hsb (NN.length - 3) 0 _ (by omega) (w_up_same _ _ _ _) (fun q hq => absurd hq (Nat.not_lt_zero _)) (fun j x hj => w_up_no (fun z => hj (Or.inr z)))) ⟨rfl, rfl, rfl, rfl, rfl, rfl, rfl, trivial⟩
  · skip
    refine wa_aload_n (n := 0) rfl ?_
    refine wa_iload_n (n := 1) rfl ?_
    refine wa_ks ?_
    refine wa_cv 237 rfl (wy_pr rfl) wt_237 (M2 := fun _ => False) rfl at_M_isPrefixed ⟨_, rfl⟩ rfl rfl ⟨(Or.inr ⟨wy_pr rfl, fun q => q⟩), trivial, trivial, trivial, trivial, trivial⟩ trivial (fun _ _ q => False.elim q) (wJ_mono (rip51_261 (m := m) hX hM hK hw hm) (fun o Z hz => (⟨hz.1, by rw [hNN]; exact hz.2⟩ : S = Z ∧ o = .inl (some (0, bI (pxB [115, 101, 116] NN)))))) (fun oq4 Sq4 hp5 q4 => ?_)
    rcases q4 with ⟨rfl, rfl⟩
    show wJ _ _ _ _ _ _ _ _ _ _
    have hpx3 := bI_rg (pxB [115, 101, 116] NN)
    refine wa_ifne (w_rg0 (by omega) (by omega)) ⟨_, rfl⟩ (fun c6 => ?_) (fun c6 => ?_)
    · skip
      refine wa_iconst ?_
      refine wa_fall ⟨_, rfl⟩ ?_
      refine wa_istore (n := 5) rfl ?_
      refine wa_aload_n (n := 0) rfl ?_
      refine wa_iconst ?_
      refine wb_pfi 237 rfl (wy_pr rfl) wt_237 wf_15_126 (n := 126) rfl ⟨(by omega), (by omega)⟩ ?_
      refine wa_iload (n := 5) rfl ?_
      refine wa_istore (n := 6) rfl ?_
      refine wa_fall ⟨_, rfl⟩ ?_
      have hsk : skN NN = 3 := by first | exact sk_2 (by omega) (by omega) (by omega) | exact sk_3 (by omega)
      rw [hsk] at hcap ⊢
      exact wJ_S (rfl9_261 (sk := 3) hX hM hK hw hm hNN ⟨by omega, hcap.1⟩ hcap.2 hsb (NN.length - 3) 0 _ (by omega) (w_up_same _ _ _ _) (fun q hq => absurd hq (Nat.not_lt_zero _)) (fun j x hj => w_up_no (fun z => hj (Or.inr z)))) ⟨rfl, rfl, rfl, rfl, rfl, rfl, rfl, trivial⟩
    · skip
      refine wa_aload_n (n := 0) rfl ?_
      refine wa_iload_n (n := 1) rfl ?_
      refine wa_ks ?_
      refine wa_cv 237 rfl (wy_pr rfl) wt_237 (M2 := fun _ => False) rfl at_M_isPrefixed ⟨_, rfl⟩ rfl rfl ⟨(Or.inr ⟨wy_pr rfl, fun q => q⟩), trivial, trivial, trivial, trivial, trivial⟩ trivial (fun _ _ q => False.elim q) (wJ_mono (rip81_261 (m := m) hX hM hK hw hm) (fun o Z hz => (⟨hz.1, by rw [hNN]; exact hz.2⟩ : S = Z ∧ o = .inl (some (0, bI (pxB [103, 101, 116] NN)))))) (fun oq7 Sq7 hp8 q7 => ?_)
      rcases q7 with ⟨rfl, rfl⟩
      show wJ _ _ _ _ _ _ _ _ _ _
      have hpx6 := bI_rg (pxB [103, 101, 116] NN)
      refine wa_ifne (w_rg0 (by omega) (by omega)) ⟨_, rfl⟩ (fun c9 => ?_) (fun c9 => ?_)
      · skip
        refine wa_iconst ?_
        refine wa_fall ⟨_, rfl⟩ ?_
        refine wa_istore (n := 5) rfl ?_
        refine wa_aload_n (n := 0) rfl ?_
        refine wa_iconst ?_
        refine wb_pfi 237 rfl (wy_pr rfl) wt_237 wf_15_126 (n := 126) rfl ⟨(by omega), (by omega)⟩ ?_
        refine wa_iload (n := 5) rfl ?_
        refine wa_istore (n := 6) rfl ?_
        refine wa_fall ⟨_, rfl⟩ ?_
        have hsk : skN NN = 3 := by first | exact sk_2 (by omega) (by omega) (by omega) | exact sk_3 (by omega)
        rw [hsk] at hcap ⊢
        exact wJ_S (rfl9_261 (sk := 3) hX hM hK hw hm hNN ⟨by omega, hcap.1⟩ hcap.2 hsb (NN.length - 3) 0 _ (by omega) (w_up_same _ _ _ _) (fun q hq => absurd hq (Nat.not_lt_zero _)) (fun j x hj => w_up_no (fun z => hj (Or.inr z)))) ⟨rfl, rfl, rfl, rfl, rfl, rfl, rfl, trivial⟩
      · skip
        refine wa_iconst ?_
        refine wa_goto ⟨_, rfl⟩ ?_
        refine wa_istore (n := 5) rfl ?_
        refine wa_aload_n (n := 0) rfl ?_
        refine wa_iconst ?_
        refine wb_pfi 237 rfl (wy_pr rfl) wt_237 wf_15_126 (n := 126) rfl ⟨(by omega), (by omega)⟩ ?_
        refine wa_iload (n := 5) rfl ?_
        refine wa_istore (n := 6) rfl ?_
        refine wa_fall ⟨_, rfl⟩ ?_
        have hsk : skN NN = 2 := by first | exact sk_2 (by omega) (by omega) (by omega) | exact sk_3 (by omega)
        rw [hsk] at hcap ⊢
        exact wJ_S (rfl9_261 (sk := 2) hX hM hK hw hm hNN ⟨by omega, hcap.1⟩ hcap.2 hsb (NN.length - 2) 0 _ (by omega) (w_up_same _ _ _ _) (fun q hq => absurd hq (Nat.not_lt_zero _)) (fun j x hj => w_up_no (fun z => hj (Or.inr z)))) ⟨rfl, rfl, rfl, rfl, rfl, rfl, rfl, trivial⟩
theorem rfh_261 {m : Int} (hX : w_X xs) (hM : w_ML S) (hK : KR 261 T n cs ms S) (hw : wHo cs ms os) (hm : 0 ≤ m ∧ m < (ms.length : Int)) (hNN : NN = nmR T (hmR ms m)) : wJ (pe_GA xs) wY0 M (d + 6) t_M_fieldFor ((pe_at t_M_fieldFor.bl 2).getD (0, [])).2 [(0, (2, 237)), (1, (0, m)), (2, (0, (NN.length : Int)))] [(0, bI (sB ms NN m))] S (fun z Z => z = .inl (some (0, (if sB ms NN m = true ∨ gB ms NN m = true then ftF ms (sB ms NN m) m (fdA T cs ms (-1) (wtN NN (skN NN)) (hmR ms m).1) else -1))) ∧ ∀ (j : Nat) (x : Int), ¬ wtM j x → Z j x = S j x) := by
  have h13 : S 237 13 = 261 := hK.1
  have h400 := hw.1
  have hn6 := hK.2.2.2.2.2.1
  have eM := KR_m hK (m := m) (by omega) (by omega)
  have eW := hw.2.2.2 m (by omega) (by omega)
  have e1 : S 273 m = (hmR ms m).2.1 := eM.1.2.1
  have e2 : S 274 m = (hmR ms m).2.2.1 := eM.1.2.2.1
  have e3 : S 275 m = (hmR ms m).2.2.2.1 := eM.1.2.2.2.1
  have e4 : S 276 m = ((hmR ms m).2.2.2.2.1.length : Int) := eM.2.1.1
  have e5 : S 277 m = (hmR ms m).2.2.2.2.2.1 := eM.2.1.2.1
  have ef : S 279 m = (hmR ms m).2.2.2.2.2.2.1 := eM.1.2.2.2.2.1
  have et : S 280 m = (hmR ms m).2.2.2.2.2.2.2 := eM.1.2.2.2.2.2
  have eq := eW.1.2.1
  have es := eW.1.2.2.1
  have ey := eW.1.2.2.2
  have ev := eW.2.1
  have el := eW.2.2.1
  have eft := hK.2.2.2.2.2.2.1 m (by omega) (by omega)
  have hNl : (NN.length : Int) = (hmR ms m).2.2.2.2.2.2.2 - (hmR ms m).2.2.2.2.2.2.1 := by rw [hNN]; exact nmR_l (by omega)
  have hNs : ∀ i : Nat, i < NN.length → S 262 ((hmR ms m).2.2.2.2.2.2.1 + (i : Int)) = NN.getD i 0 := fun i hi => by rw [hNN] at hi ⊢; rw [nmR_s hi]; exact hK.2.2.2.2.1 _ (by omega) (by rw [← hNN] at hi; omega)
  have hbs := bI_rg (sB ms NN m)
  refine wa_istore_n (n := 3) rfl ?_
  refine wa_aload_n (n := 0) rfl ?_
  refine wb_gf5 237 rfl (wy_pr rfl) wt_237 wf_15_13 (v := 261) (h13) (fun r1 => ?_)
  refine wb_gf4 261 rfl (wy_pr rfl) wt_261 wf_12_16 (v := 276) wl_261_16 ?_
  refine wa_iload_n (n := 1) rfl ?_
  refine wb_iald 276 rfl (wy_pr rfl) wt_276 (n := 400) ((ml_276 hM)) (by omega) (by omega) (v := ((hmR ms m).2.2.2.2.1.length : Int)) (e4) (fun r2 => ?_)
  refine wa_ifne (w_rg0 (by omega) (by omega)) ⟨_, rfl⟩ (fun c3 => ?_) (fun c3 => ?_)
  · skip
    refine wa_iconst ?_
    refine wa_fall ⟨_, rfl⟩ ?_
    have hgv : bI (gB ms NN m) = 0 := by first | exact gB_t (by omega) (by omega) | exact gB_f (by omega)
    refine wa_istore (n := 4) rfl ?_
    refine wa_iload_n (n := 3) rfl ?_
    refine wa_ifne (w_rg0 (by omega) (by omega)) ⟨_, rfl⟩ (fun c4 => ?_) (fun c4 => ?_)
    · skip
      exact wJ_S (rfg_261 hX hM hK hw hm hNN (by first | exact Or.inl (bI_1 (by omega)) | exact Or.inr (bI_1 (by omega)))) ⟨rfl, rfl, rfl, rfl, rfl, trivial⟩
    · skip
      refine wa_iload (n := 4) rfl ?_
      refine wa_ifne (w_rg0 (by omega) (by omega)) ⟨_, rfl⟩ (fun c5 => ?_) (fun c5 => ?_)
      · skip
        exact absurd c5 (by omega)
      · skip
        refine wa_iconst ?_
        refine wa_ireturn rfl ?_
        rw [if_neg (fun z => z.elim (fun y => by have := bI_t y; omega) (fun y => by have := bI_t y; omega))]
        exact ⟨rfl, fun j x hj => rfl⟩
  · skip
    refine wa_aload_n (n := 0) rfl ?_
    refine wa_iload_n (n := 1) rfl ?_
    refine wa_ks ?_
    refine wa_cv 237 rfl (wy_pr rfl) wt_237 (M2 := fun _ => False) rfl at_M_isPrefixed ⟨_, rfl⟩ rfl rfl ⟨trivial, (Or.inr ⟨wy_pr rfl, fun q => q⟩), trivial, trivial, trivial⟩ trivial (fun _ _ q => False.elim q) (wJ_mono (rip81_261 (m := m) hX hM hK hw hm) (fun o Z hz => (⟨hz.1, by rw [hNN]; exact hz.2⟩ : S = Z ∧ o = .inl (some (0, bI (pxB [103, 101, 116] NN)))))) (fun oq6 Sq6 hp7 q6 => ?_)
    rcases q6 with ⟨rfl, rfl⟩
    show wJ _ _ _ _ _ _ _ _ _ _
    have hpx5 := bI_rg (pxB [103, 101, 116] NN)
    refine wa_ifne (w_rg0 (by omega) (by omega)) ⟨_, rfl⟩ (fun c8 => ?_) (fun c8 => ?_)
    · skip
      refine wa_iconst ?_
      refine wa_goto ⟨_, rfl⟩ ?_
      have hgv : bI (gB ms NN m) = 1 := by first | exact gB_t (by omega) (by omega) | exact gB_f (by omega)
      refine wa_istore (n := 4) rfl ?_
      refine wa_iload_n (n := 3) rfl ?_
      refine wa_ifne (w_rg0 (by omega) (by omega)) ⟨_, rfl⟩ (fun c9 => ?_) (fun c9 => ?_)
      · skip
        exact wJ_S (rfg_261 hX hM hK hw hm hNN (by first | exact Or.inl (bI_1 (by omega)) | exact Or.inr (bI_1 (by omega)))) ⟨rfl, rfl, rfl, rfl, rfl, trivial⟩
      · skip
        refine wa_iload (n := 4) rfl ?_
        refine wa_ifne (w_rg0 (by omega) (by omega)) ⟨_, rfl⟩ (fun c10 => ?_) (fun c10 => ?_)
        · skip
          exact wJ_S (rfg_261 hX hM hK hw hm hNN (by first | exact Or.inl (bI_1 (by omega)) | exact Or.inr (bI_1 (by omega)))) ⟨rfl, rfl, rfl, rfl, rfl, trivial⟩
        · skip
          exact absurd c10 (by omega)
    · skip
      refine wa_aload_n (n := 0) rfl ?_
      refine wa_iload_n (n := 1) rfl ?_
      refine wa_ks ?_
      refine wa_cv 237 rfl (wy_pr rfl) wt_237 (M2 := fun _ => False) rfl at_M_isPrefixed ⟨_, rfl⟩ rfl rfl ⟨trivial, (Or.inr ⟨wy_pr rfl, fun q => q⟩), trivial, trivial, trivial⟩ trivial (fun _ _ q => False.elim q) (wJ_mono (rip83_261 (m := m) hX hM hK hw hm) (fun o Z hz => (⟨hz.1, by rw [hNN]; exact hz.2⟩ : S = Z ∧ o = .inl (some (0, bI (pxB [105, 115] NN)))))) (fun oq11 Sq11 hp12 q11 => ?_)
      rcases q11 with ⟨rfl, rfl⟩
      show wJ _ _ _ _ _ _ _ _ _ _
      have hpx10 := bI_rg (pxB [105, 115] NN)
      refine wa_ifeq (w_rg0 (by omega) (by omega)) ⟨_, rfl⟩ (fun c13 => ?_) (fun c13 => ?_)
      · skip
        refine wa_iconst ?_
        refine wa_fall ⟨_, rfl⟩ ?_
        have hgv : bI (gB ms NN m) = 0 := by first | exact gB_t (by omega) (by omega) | exact gB_f (by omega)
        refine wa_istore (n := 4) rfl ?_
        refine wa_iload_n (n := 3) rfl ?_
        refine wa_ifne (w_rg0 (by omega) (by omega)) ⟨_, rfl⟩ (fun c14 => ?_) (fun c14 => ?_)
        · skip
          exact wJ_S (rfg_261 hX hM hK hw hm hNN (by first | exact Or.inl (bI_1 (by omega)) | exact Or.inr (bI_1 (by omega)))) ⟨rfl, rfl, rfl, rfl, rfl, trivial⟩
        · skip
          refine wa_iload (n := 4) rfl ?_
          refine wa_ifne (w_rg0 (by omega) (by omega)) ⟨_, rfl⟩ (fun c15 => ?_) (fun c15 => ?_)
          · skip
            exact absurd c15 (by omega)
          · skip
            refine wa_iconst ?_
            refine wa_ireturn rfl ?_
            rw [if_neg (fun z => z.elim (fun y => by have := bI_t y; omega) (fun y => by have := bI_t y; omega))]
            exact ⟨rfl, fun j x hj => rfl⟩
      · skip
        refine wa_aload_n (n := 0) rfl ?_
        refine wb_gf5 237 rfl (wy_pr rfl) wt_237 wf_15_13 (v := 261) (h13) (fun r16 => ?_)
        refine wb_gf4 261 rfl (wy_pr rfl) wt_261 wf_12_15 (v := 275) wl_261_15 ?_
        refine wa_iload_n (n := 1) rfl ?_
        refine wb_iald 275 rfl (wy_pr rfl) wt_275 (n := 400) ((ml_275 hM)) (by omega) (by omega) (v := (hmR ms m).2.2.2.1) (e3) (fun r17 => ?_)
        refine wa_iconst ?_
        refine wa_icmpne (w_rg0 (by omega) (by omega)) (w_rg0 (by omega) (by omega)) ⟨_, rfl⟩ (fun c18 => ?_) (fun c18 => ?_)
        · skip
          refine wa_iconst ?_
          refine wa_fall ⟨_, rfl⟩ ?_
          have hgv : bI (gB ms NN m) = 0 := by first | exact gB_t (by omega) (by omega) | exact gB_f (by omega)
          refine wa_istore (n := 4) rfl ?_
          refine wa_iload_n (n := 3) rfl ?_
          refine wa_ifne (w_rg0 (by omega) (by omega)) ⟨_, rfl⟩ (fun c19 => ?_) (fun c19 => ?_)
          · skip
            exact wJ_S (rfg_261 hX hM hK hw hm hNN (by first | exact Or.inl (bI_1 (by omega)) | exact Or.inr (bI_1 (by omega)))) ⟨rfl, rfl, rfl, rfl, rfl, trivial⟩
          · skip
            refine wa_iload (n := 4) rfl ?_
            refine wa_ifne (w_rg0 (by omega) (by omega)) ⟨_, rfl⟩ (fun c20 => ?_) (fun c20 => ?_)
            · skip
              exact absurd c20 (by omega)
            · skip
              refine wa_iconst ?_
              refine wa_ireturn rfl ?_
              rw [if_neg (fun z => z.elim (fun y => by have := bI_t y; omega) (fun y => by have := bI_t y; omega))]
              exact ⟨rfl, fun j x hj => rfl⟩
        · skip
          refine wa_fall ⟨_, rfl⟩ ?_
          refine wa_iconst ?_
          refine wa_goto ⟨_, rfl⟩ ?_
          have hgv : bI (gB ms NN m) = 1 := by first | exact gB_t (by omega) (by omega) | exact gB_f (by omega)
          refine wa_istore (n := 4) rfl ?_
          refine wa_iload_n (n := 3) rfl ?_
          refine wa_ifne (w_rg0 (by omega) (by omega)) ⟨_, rfl⟩ (fun c21 => ?_) (fun c21 => ?_)
          · skip
            exact wJ_S (rfg_261 hX hM hK hw hm hNN (by first | exact Or.inl (bI_1 (by omega)) | exact Or.inr (bI_1 (by omega)))) ⟨rfl, rfl, rfl, rfl, rfl, trivial⟩
          · skip
            refine wa_iload (n := 4) rfl ?_
            refine wa_ifne (w_rg0 (by omega) (by omega)) ⟨_, rfl⟩ (fun c22 => ?_) (fun c22 => ?_)
            · skip
              exact wJ_S (rfg_261 hX hM hK hw hm hNN (by first | exact Or.inl (bI_1 (by omega)) | exact Or.inr (bI_1 (by omega)))) ⟨rfl, rfl, rfl, rfl, rfl, trivial⟩
            · skip
              exact absurd c22 (by omega)
theorem rff_261 {m : Int} (hX : w_X xs) (hM : w_ML S) (hK : KR 261 T n cs ms S) (hw : wHo cs ms os) (hm : 0 ≤ m ∧ m < (ms.length : Int)) : wJ (pe_GA xs) wY0 M (d + 6) t_M_fieldFor ((pe_at t_M_fieldFor.bl 0).getD (0, [])).2 [(0, (2, 237)), (1, (0, m))] [] S (fun z Z => z = .inl (some (0, ffA T cs ms m)) ∧ ∀ (j : Nat) (x : Int), ¬ wtM j x → Z j x = S j x) := by
  have h13 : S 237 13 = 261 := hK.1
  have h400 := hw.1
  have hn6 := hK.2.2.2.2.2.1
  have eM := KR_m hK (m := m) (by omega) (by omega)
  have eW := hw.2.2.2 m (by omega) (by omega)
  have e1 : S 273 m = (hmR ms m).2.1 := eM.1.2.1
  have e2 : S 274 m = (hmR ms m).2.2.1 := eM.1.2.2.1
  have e3 : S 275 m = (hmR ms m).2.2.2.1 := eM.1.2.2.2.1
  have e4 : S 276 m = ((hmR ms m).2.2.2.2.1.length : Int) := eM.2.1.1
  have e5 : S 277 m = (hmR ms m).2.2.2.2.2.1 := eM.2.1.2.1
  have ef : S 279 m = (hmR ms m).2.2.2.2.2.2.1 := eM.1.2.2.2.2.1
  have et : S 280 m = (hmR ms m).2.2.2.2.2.2.2 := eM.1.2.2.2.2.2
  have eq := eW.1.2.1
  have es := eW.1.2.2.1
  have ey := eW.1.2.2.2
  have ev := eW.2.1
  have el := eW.2.2.1
  have eft := hK.2.2.2.2.2.2.1 m (by omega) (by omega)
  obtain ⟨NN, hNN⟩ : ∃ NN : List Int, NN = nmR T (hmR ms m) := ⟨_, rfl⟩
  have hNl : (NN.length : Int) = (hmR ms m).2.2.2.2.2.2.2 - (hmR ms m).2.2.2.2.2.2.1 := by rw [hNN]; exact nmR_l (by omega)
  have hNs : ∀ i : Nat, i < NN.length → S 262 ((hmR ms m).2.2.2.2.2.2.1 + (i : Int)) = NN.getD i 0 := fun i hi => by rw [hNN] at hi ⊢; rw [nmR_s hi]; exact hK.2.2.2.2.1 _ (by omega) (by rw [← hNN] at hi; omega)
  unfold ffA
  rw [← hNN]
  refine wa_aload_n (n := 0) rfl ?_
  refine wb_gf5 237 rfl (wy_pr rfl) wt_237 wf_15_13 (v := 261) (h13) (fun r1 => ?_)
  refine wb_gf4 261 rfl (wy_pr rfl) wt_261 wf_12_20 (v := 280) wl_261_20 ?_
  refine wa_iload_n (n := 1) rfl ?_
  refine wb_iald 280 rfl (wy_pr rfl) wt_280 (n := 400) ((ml_280 hM)) (by omega) (by omega) (v := (hmR ms m).2.2.2.2.2.2.2) (et) (fun r2 => ?_)
  refine wa_aload_n (n := 0) rfl ?_
  refine wb_gf5 237 rfl (wy_pr rfl) wt_237 wf_15_13 (v := 261) (h13) (fun r3 => ?_)
  refine wb_gf4 261 rfl (wy_pr rfl) wt_261 wf_12_19 (v := 279) wl_261_19 ?_
  refine wa_iload_n (n := 1) rfl ?_
  refine wb_iald 279 rfl (wy_pr rfl) wt_279 (n := 400) ((ml_279 hM)) (by omega) (by omega) (v := (hmR ms m).2.2.2.2.2.2.1) (ef) (fun r4 => ?_)
  refine wa_isub ?_
  refine wJ_top (show ((hmR ms m).2.2.2.2.2.2.2 - (hmR ms m).2.2.2.2.2.2.1) = (NN.length : Int) by omega) ?_
  refine wa_istore_n (n := 2) rfl ?_
  refine wa_aload_n (n := 0) rfl ?_
  refine wa_iload_n (n := 1) rfl ?_
  refine wa_ks ?_
  refine wa_cv 237 rfl (wy_pr rfl) wt_237 (M2 := fun _ => False) rfl at_M_isPrefixed ⟨_, rfl⟩ rfl rfl ⟨trivial, (Or.inr ⟨wy_pr rfl, fun q => q⟩), trivial, trivial⟩ trivial (fun _ _ q => False.elim q) (wJ_mono (rip51_261 (m := m) hX hM hK hw hm) (fun o Z hz => (⟨hz.1, by rw [hNN]; exact hz.2⟩ : S = Z ∧ o = .inl (some (0, bI (pxB [115, 101, 116] NN)))))) (fun oq5 Sq5 hp6 q5 => ?_)
  rcases q5 with ⟨rfl, rfl⟩
  show wJ _ _ _ _ _ _ _ _ _ _
  have hpx4 := bI_rg (pxB [115, 101, 116] NN)
  refine wa_ifeq (w_rg0 (by omega) (by omega)) ⟨_, rfl⟩ (fun c7 => ?_) (fun c7 => ?_)
  · skip
    refine wa_iconst ?_
    refine wa_fall ⟨_, rfl⟩ ?_
    have hsv : bI (sB ms NN m) = 0 := by first | exact sB_t (by omega) (by omega) (by omega) (by omega) | exact sB_f (by omega)
    refine wJ_top hsv.symm ?_
    exact wJ_S (rfh_261 hX hM hK hw hm hNN) ⟨rfl, rfl, rfl, trivial⟩
  · skip
    refine wa_aload_n (n := 0) rfl ?_
    refine wb_gf5 237 rfl (wy_pr rfl) wt_237 wf_15_13 (v := 261) (h13) (fun r8 => ?_)
    refine wb_gf4 261 rfl (wy_pr rfl) wt_261 wf_12_15 (v := 275) wl_261_15 ?_
    refine wa_iload_n (n := 1) rfl ?_
    refine wb_iald 275 rfl (wy_pr rfl) wt_275 (n := 400) ((ml_275 hM)) (by omega) (by omega) (v := (hmR ms m).2.2.2.1) (e3) (fun r9 => ?_)
    refine wa_ifne (w_rg0 (by omega) (by omega)) ⟨_, rfl⟩ (fun c10 => ?_) (fun c10 => ?_)
    · skip
      refine wa_iconst ?_
      refine wa_fall ⟨_, rfl⟩ ?_
      have hsv : bI (sB ms NN m) = 0 := by first | exact sB_t (by omega) (by omega) (by omega) (by omega) | exact sB_f (by omega)
      refine wJ_top hsv.symm ?_
      exact wJ_S (rfh_261 hX hM hK hw hm hNN) ⟨rfl, rfl, rfl, trivial⟩
    · skip
      refine wa_aload_n (n := 0) rfl ?_
      refine wb_gf5 237 rfl (wy_pr rfl) wt_237 wf_15_13 (v := 261) (h13) (fun r11 => ?_)
      refine wb_gf4 261 rfl (wy_pr rfl) wt_261 wf_12_16 (v := 276) wl_261_16 ?_
      refine wa_iload_n (n := 1) rfl ?_
      refine wb_iald 276 rfl (wy_pr rfl) wt_276 (n := 400) ((ml_276 hM)) (by omega) (by omega) (v := ((hmR ms m).2.2.2.2.1.length : Int)) (e4) (fun r12 => ?_)
      refine wa_iconst ?_
      refine wa_icmpne (w_rg0 (by omega) (by omega)) (w_rg0 (by omega) (by omega)) ⟨_, rfl⟩ (fun c13 => ?_) (fun c13 => ?_)
      · skip
        refine wa_iconst ?_
        refine wa_fall ⟨_, rfl⟩ ?_
        have hsv : bI (sB ms NN m) = 0 := by first | exact sB_t (by omega) (by omega) (by omega) (by omega) | exact sB_f (by omega)
        refine wJ_top hsv.symm ?_
        exact wJ_S (rfh_261 hX hM hK hw hm hNN) ⟨rfl, rfl, rfl, trivial⟩
      · skip
        refine wa_aload_n (n := 0) rfl ?_
        refine wb_gf5 237 rfl (wy_pr rfl) wt_237 wf_15_13 (v := 261) (h13) (fun r14 => ?_)
        refine wb_gf4 261 rfl (wy_pr rfl) wt_261 wf_12_17 (v := 277) wl_261_17 ?_
        refine wa_iload_n (n := 1) rfl ?_
        refine wb_zald 277 rfl (wy_pr rfl) wt_277 (n := 400) ((ml_277 hM)) (by omega) (by omega) (v := (hmR ms m).2.2.2.2.2.1) (e5) (fun r15 => ?_)
        refine wa_ifne (w_rg0 (by omega) (by omega)) ⟨_, rfl⟩ (fun c16 => ?_) (fun c16 => ?_)
        · skip
          refine wa_iconst ?_
          refine wa_fall ⟨_, rfl⟩ ?_
          have hsv : bI (sB ms NN m) = 0 := by first | exact sB_t (by omega) (by omega) (by omega) (by omega) | exact sB_f (by omega)
          refine wJ_top hsv.symm ?_
          exact wJ_S (rfh_261 hX hM hK hw hm hNN) ⟨rfl, rfl, rfl, trivial⟩
        · skip
          refine wa_iconst ?_
          refine wa_goto ⟨_, rfl⟩ ?_
          have hsv : bI (sB ms NN m) = 1 := by first | exact sB_t (by omega) (by omega) (by omega) (by omega) | exact sB_f (by omega)
          refine wJ_top hsv.symm ?_
          exact wJ_S (rfh_261 hX hM hK hw hm hNN) ⟨rfl, rfl, rfl, trivial⟩
end Why
