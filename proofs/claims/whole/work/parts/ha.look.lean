/-! PART ha: lookAtHost of the class's linker. -/
section Wha
variable {xs : List (Nat × List Int32)} {M : Nat → Prop} {d : Nat} {S Z A : wS} {T : Int → Int} {cs : List hCR} {ms : List hMR} {os : Int → List Int} {Q : wO → wS → Prop}
theorem wz_128 : ∀ q ∈ wz_n, (q.1 = 125 ∨ q.1 = 214) → q.2 = 128 := by decide
/-- what looking at a host may change -/
def lahA (fo : Int) (j : Nat) (x : Int) : Prop := (48 ≤ j ∧ j ≤ 56 ∧ x = fo) ∨ (j = 159 ∧ 0 ≤ x)
def lahC (p cd kA : Nat) (fo : Int) (j : Nat) (x : Int) : Prop := lahA fo j x ∨ j = cd ∨ (kA ≤ j ∧ j ≤ kA + 4) ∨ (j = p ∧ (x = 10 ∨ x = 16 ∨ x = 18))
def lahM (p cd kA tw : Nat) (fo : Int) (j : Nat) (x : Int) : Prop := lahC p cd kA fo j x ∨ (j = tw ∧ x = 16)
theorem lah_n {p cd kA j j2 : Nat} {fo x x2 : Int} (h : ¬ lahC p cd kA fo j x) (h2 : 48 ≤ j2 ∧ j2 ≤ 56 ∧ x2 = fo) : ¬ (j = j2 ∧ x = x2) := by unfold lahC lahA at h; omega
theorem lah_m {p cd kA tw j j2 : Nat} {fo x x2 : Int} (h : ¬ lahM p cd kA tw fo j x) (h2 : (48 ≤ j2 ∧ j2 ≤ 56 ∧ x2 = fo) ∨ (j2 = tw ∧ x2 = 16)) : ¬ (j = j2 ∧ x = x2) := by unfold lahM lahC lahA at h; omega
theorem lah_c {p cd kA j : Nat} {fo x : Int} (h : ¬ lahC p cd kA fo j x) : j ≠ 159 ∨ x < 0 := by unfold lahC lahA at h; omega
theorem lah_d {p cd kA tw j : Nat} {fo x : Int} (h : ¬ lahM p cd kA tw fo j x) : j ≠ 159 ∨ x < 0 := by unfold lahM lahC lahA at h; omega
theorem lah_e {p cd kA j : Nat} {fo x : Int} (h : ¬ lahC p cd kA fo j x) : j ≠ cd ∧ (j < kA ∨ kA + 4 < j) ∧ (j ≠ p ∨ (x ≠ 10 ∧ x ≠ 16 ∧ x ≠ 18)) := by unfold lahC lahA at h; omega
theorem lah_f {p cd kA tw j : Nat} {fo x : Int} (h : ¬ lahM p cd kA tw fo j x) : j ≠ cd ∧ (j < kA ∨ kA + 4 < j) ∧ (j ≠ p ∨ (x ≠ 10 ∧ x ≠ 16 ∧ x ≠ 18)) := by unfold lahM lahC lahA at h; omega
theorem rvA_rg {q : aQ} (hw : wHo cs ms os) (hc : 0 ≤ q.1 ∧ q.1 < (cs.length : Int)) : -9 ≤ rvA T cs ms os q ∧ rvA T cs ms os q < 400 ∧ (0 ≤ rvA T cs ms os q → rvA T cs ms os q < (ms.length : Int)) := by
  have h400 := hw.1.2
  have hlr : ∀ o ∈ (if q.2.1 = 2 then [q.1] else os q.1), 0 ≤ o ∧ o < (cs.length : Int) := fun o ho => by
    by_cases c : q.2.1 = 2
    · rw [if_pos c] at ho; rw [List.mem_singleton.mp ho]; exact hc
    · rw [if_neg c] at ho; exact (hw.2.2.1 q.1 hc.1 hc.2).2.2 o ho
  have hFm := (cdA_400 (ok := okM T ms (if q.2.1 = 2 then 2 else 1) (if q.2.1 = 1 then 1 else 0) (if q.2.2.1 = 1 then 1 else -1) q.2.2.2.1) hw (fun x hx => mOr_rg hw hlr hx)).2
  have hs : ∀ ph : Int, sgP cs ms ph q.2.2.2.2.length (ftL cs ms ph q.2.2.2.2 (FA T cs ms os q.1 q.2.1 q.2.2.1 q.2.2.2.1)) = -8 ∨ (0 ≤ sgP cs ms ph q.2.2.2.2.length (ftL cs ms ph q.2.2.2.2 (FA T cs ms os q.1 q.2.1 q.2.2.1 q.2.2.2.1)) ∧ sgP cs ms ph q.2.2.2.2.length (ftL cs ms ph q.2.2.2.2 (FA T cs ms os q.1 q.2.1 q.2.2.1 q.2.2.2.1)) < (ms.length : Int)) := fun ph => by
    rcases sgP_rg (cs := cs) (ms := ms) (ph := ph) (n := q.2.2.2.2.length) (ftL cs ms ph q.2.2.2.2 (FA T cs ms os q.1 q.2.1 q.2.2.1 q.2.2.2.1)) with z | z
    · exact Or.inl z
    · exact Or.inr (hFm _ (List.mem_filter.mp z).1)
  have h1 := hs 1
  have h2 := hs 2
  have h3 := hs 3
  unfold rvA sgA
  split
  · omega
  · split
    · omega
    · split
      · omega
      · split <;> omega
theorem fsA_bd {ok : Int → Bool} {l : List Int} (hl : ∀ x ∈ l, 0 ≤ x ∧ x < (ms.length : Int)) : fsA ok l = -1 ∨ (0 ≤ fsA ok l ∧ fsA ok l < (ms.length : Int)) := by
  rcases fsA_rg (ok := ok) l with z | z
  · exact Or.inl z
  · exact Or.inr (hl _ z.1)
theorem ch_rg (hw : wHo cs ms os) : ∀ (f : Nat) (k : Int), -1 ≤ k → k < (cs.length : Int) → ∀ x ∈ ch_l (Ab cs) f k, 0 ≤ x ∧ x < (cs.length : Int) := by
  intro f
  induction f with
  | zero => intro k _ _ x hx; exact absurd hx List.not_mem_nil
  | succ f ih =>
    intro k k0 k1 x hx
    by_cases c : k = -1
    · rw [show ch_l (Ab cs) (f + 1) k = [] from if_pos c] at hx; exact absurd hx List.not_mem_nil
    · rw [show ch_l (Ab cs) (f + 1) k = k :: ch_l (Ab cs) f (Ab cs k) from if_neg c] at hx
      rcases List.mem_cons.mp hx with z | z
      · rw [z]; omega
      · have hq := (hw.2.1 k (by omega) k1).1
        exact ih (Ab cs k) hq.1 (by show (hcR cs k).2.2.2.1 < _; omega) x z
theorem fdA_rg {st k : Int} {W : List Int} (hw : wHo cs ms os) (hk : 0 ≤ k ∧ k < (cs.length : Int)) : fdA T cs ms st W k = -1 ∨ (0 ≤ fdA T cs ms st W k ∧ fdA T cs ms st W k < (ms.length : Int)) := fsA_bd (fun x hx => mOr_rg hw (ch_rg hw (k.toNat + 1) k (by omega) hk.2) hx)
theorem gtA_rg {st k : Int} {W : List Int} (hw : wHo cs ms os) (hk : 0 ≤ k ∧ k < (cs.length : Int)) : gtA T cs ms os st W k = -1 ∨ (0 ≤ gtA T cs ms os st W k ∧ gtA T cs ms os st W k < (ms.length : Int)) := by
  have hl : ∀ x ∈ mOr cs (os k), 0 ≤ x ∧ x < (ms.length : Int) := fun x hx => mOr_rg hw (hw.2.2.1 k hk.1 hk.2).2.2 hx
  have h1 := fsA_bd (ok := okM T ms 1 st 0 (wnW [103, 101, 116] W)) hl
  have h2 := fsA_bd (ok := okM T ms 1 st 0 (wnW [105, 115] W)) hl
  unfold gtA
  split
  · exact h1
  · split
    · exact h2
    · exact Or.inl rfl
theorem FA_m {k am fs : Int} {WW : List Int} (hw : wHo cs ms os) (hk : 0 ≤ k ∧ k < (cs.length : Int)) (ham : am ≠ 2) : ∀ x ∈ FA T cs ms os k am fs WW, 0 ≤ x ∧ x < (ms.length : Int) := by
  have hlr : ∀ o ∈ (if am = 2 then [k] else os k), 0 ≤ o ∧ o < (cs.length : Int) := fun o ho => by
    rw [if_neg ham] at ho; exact (hw.2.2.1 k hk.1 hk.2).2.2 o ho
  exact (cdA_400 (ok := okM T ms (if am = 2 then 2 else 1) (if am = 1 then 1 else 0) (if fs = 1 then 1 else -1) WW) hw (fun x hx => mOr_rg hw hlr hx)).2
theorem sgA_no {tl F : List Int} (hw : wHo cs ms os) (hF : ∀ x ∈ F, 0 ≤ x ∧ x < (ms.length : Int)) : sgA cs ms tl F ≠ -1 := by
  have hs : ∀ ph : Int, sgP cs ms ph tl.length (ftL cs ms ph tl F) ≠ -1 := fun ph => by
    rcases sgP_rg (cs := cs) (ms := ms) (ph := ph) (n := tl.length) (ftL cs ms ph tl F) with z | z
    · omega
    · have := hF _ (List.mem_filter.mp z).1; omega
  unfold sgA
  split
  · exact hs 1
  · split
    · exact hs 2
    · split
      · exact hs 3
      · decide
theorem kG_at {K : List aKp} {i : Nat} (h : i < K.length) : kG K (i : Int) = K[i] := by
  unfold kG
  rw [Int.toNat_natCast, List.getD_eq_getElem?_getD, List.getElem?_eq_getElem h]; rfl
theorem kpR_u {p kA : Nat} {K K2 : List aKp} (h : kpR p kA K S) (h2 : kpR p kA K2 S) : K = K2 := by
  have e : K.length = K2.length := by have a := h.1; have b := h2.1; omega
  apply List.ext_getElem e
  intro i h3 h4
  obtain ⟨a1, a2, a3, -⟩ := h.2.1 (i : Int) (by omega) (by omega)
  obtain ⟨b1, b2, b3, -⟩ := h2.2.1 (i : Int) (by omega) (by omega)
  rw [← kG_at h3, ← kG_at h4]
  exact Prod.ext (a1.symm.trans b1) (Prod.ext (a2.symm.trans b2) (a3.symm.trans b3))
/-- a choice from any rows that stand for what is kept -/
theorem chA_w {p kA cd w : Nat} {CH : List aQ} {wo mo : Int} {G : pe_G} {Y : wY} {M2 : Nat → Prop} {mt : pe_Mt} {is : List pe_I} {L : wL} {st : List wv} {d2 : Nat} {QQ : List aKp → wO → wS → Prop} (h : ∀ K : List aKp, kpR p kA K S → wJ G Y M2 d2 mt is L st S (QQ K)) (hc : cCh p kA cd w T cs ms os CH wo mo S) : wJ G Y M2 d2 mt is L st S (fun o Z => ∀ K : List aKp, kpR p kA K S → QQ K o Z) := by
  obtain ⟨⟨K0, k0, -⟩, -⟩ := hc
  have hu : ∀ K : List aKp, kpR p kA K S → K = K0 := fun K hk => kpR_u hk k0
  exact wJ_mono (h K0 k0) (fun o Z hz K hk => by rw [hu K hk]; exact hz)
/-- what was found of a host -/
def hoN (l k wh mn ty at0 : Int) : aE := (l, k, -1, -1, wh, -1, at0, mn, ty)
/-- what looking at a host leaves: wh what was found, or an ERROR -/
def lhQ (p cd kA w tw : Nat) (T : Int → Int) (cs : List hCR) (ms : List hMR) (os : Int → List Int) (CH : List aQ) (wo mo : Int) (kd nms fo wh : Int) (e : aE) (S : wS) (o : wO) (Z : wS) : Prop := o = .inl none ∧ (0 ≤ wh → cEc Z kd nms e fo ∧ Z tw 16 = S tw 16) ∧ (wh < 0 → Z tw 16 = if wh = -1 then 4 else -wh) ∧ cCh p kA cd w T cs ms os CH wo mo Z ∧ (∀ (j : Nat) (x : Int), j < 4000000 → j ≠ wG → ¬ lahM p cd kA tw fo j x → Z j x = S j x) ∧ gI Z ∧ rmR S Z
theorem lhC_73 {CH : List aQ} {wo mo fo : Int} (hC : w_CL S) (hc : cCh 73 121 120 74 T cs ms os CH wo mo Z) (hfo : 0 ≤ fo) (f : ∀ (j : Nat) (x : Int), j < 4000000 → j ≠ wG → ¬ lahC 73 120 121 fo j x → Z j x = S j x) : w_CL Z := fun q hq => by
  by_cases c : q.1 = 125
  · obtain ⟨⟨K, k1, -⟩, -⟩ := hc
    rw [wz_128 q hq (by omega), c]
    exact k1.2.2.2.1.2.2.2
  · have h1 := wz_nc q hq
    have h2 := (wz_lt q hq).1
    exact (f q.1 (-1) (by omega) (by unfold wG; omega) (by unfold lahC lahA; omega)).trans (hC q hq)
set_option maxHeartbeats 4000000 in
theorem lag_73_215 {k am l nm wk nms fo at0 wo mo : Int} {W tl : List Int} {CH : List aQ} (hC : w_CL S) (hK : KC 87 97 93 114 115 74 73 T cs ms os S) (hw : wHo cs ms os) (hX : w_X xs) (hI : gI S) (hN : hLn 73 74 nm wk W S) (h72 : S 72 1 = 73) (hc : cCh 73 121 120 74 T cs ms os CH wo mo S) (hWh : wd_at S 74 64) (hl : cSl S) (l4 : S 158 4 = 215) (l7 : S 158 7 = 0) (l14 : S 158 14 = fo) (hfo : 0 ≤ fo ∧ fo < S 48 (-1)) (hbl : blE l fo S) (hll : l = 1 ∨ l = 2) (hk : 0 ≤ k ∧ k < (cs.length : Int)) (ham : am = 0 ∨ am = 1) : wJ (pe_GA xs) wY0 (mS [120, 121, 122, 123, 124]) (d + 6) t_XL_lookAtHost ((pe_at t_XL_lookAtHost.bl 0).getD (0, [])).2 [(0, (2, 158)), (1, (0, k)), (2, (0, am))] [] S (lhQ 73 120 121 74 215 T cs ms os CH wo mo 0 nms fo (if gtA T cs ms os am W k = -1 then fdA T cs ms am W k else gtA T cs ms os am W k) (hoN l k (if gtA T cs ms os am W k = -1 then fdA T cs ms am W k else gtA T cs ms os am W k) 0 0 at0) S) := by
  have hR := rmR_rfl S
  have h48 := hl.2.2.2
  have hn := KC_n hK
  have hn2 := hn.2.2
  have h400 := hw.1
  obtain ⟨⟨b1, b2, b3, b4, b5⟩, b6, b7, b8, b9⟩ := hbl
  obtain ⟨fd, hfd⟩ : ∃ r : Int, r = fdA T cs ms am W k := ⟨_, rfl⟩
  have hfr := fdA_rg (T := T) (st := am) (W := W) hw hk
  rw [← hfd] at hfr ⊢
  obtain ⟨gt, hgt⟩ : ∃ r : Int, r = gtA T cs ms os am W k := ⟨_, rfl⟩
  have hgr := gtA_rg (T := T) (st := am) (W := W) hw hk
  rw [← hgt] at hgr ⊢
  refine wa_aload_n (n := 0) rfl ?_
  refine wb_gf4 158 rfl (wy_pr rfl) wt_158 wf_5_0 (v := 72) wl_158_0 ?_
  refine wb_gf5 72 rfl (wy_pr rfl) wt_72 wf_2_1 (v := 73) (h72) (fun r11 => ?_)
  refine wa_astore_n (n := 3) rfl ?_
  refine wa_aload_n (n := 0) rfl ?_
  refine wb_gf4 158 rfl (wy_pr rfl) wt_158 wf_5_3 (v := 47) wl_158_3 ?_
  refine wa_iconst ?_
  refine wb_aald5 47 1 rfl rfl (wy_pr rfl) wt_47 (by rw [show _ = _ from ((cl_47 hC))]; omega) wl_47_1 ?_
  refine wa_aload_n (n := 0) rfl ?_
  refine wb_gfi 158 rfl (wy_pr rfl) wt_158 wf_5_14 (v := fo) (l14) (fun r12 => ?_)
  refine wa_iload_n (n := 1) rfl ?_
  refine wb_iast 49 rfl (wy_pr rfl) wt_49 (n := (S 48 (-1))) ((hl.2.2.1 1 (by decide))) (by omega) (by omega) ⟨(by omega), (by omega)⟩ ?_
  refine wa_aload_n (n := 0) rfl ?_
  refine wb_gfi 158 rfl (wy_pr rfl) wt_158 wf_5_7 (v := 0) ((w_up_slot (by decide)).trans (l7)) (fun r13 => ?_)
  refine wa_ifne (w_rg0 (by omega) (by omega)) ⟨_, rfl⟩ (fun c14 => ?_) (fun c14 => ?_)
  · skip
    exact absurd c14 (by omega)
  · skip
    refine wa_aload_n (n := 0) rfl ?_
    refine wa_iload_n (n := 1) rfl ?_
    refine wa_iload_n (n := 2) rfl ?_
    have f15 : ∀ (j : Nat) (x : Int), j < 4000000 → j ≠ wG → ¬ lahC 73 120 121 fo j x → (w_up S 49 fo k) j x = S j x := fun j x j0 j1 hj => (w_up_no (lah_n (j2 := 49) (x2 := fo) hj (⟨by omega, by omega, rfl⟩)))
    have hc15 : cCh 73 121 120 74 T cs ms os CH wo mo (w_up S 49 fo k) := cCh_ag hc (fun j x hj => (w_up_no (by omega)))
    have hC15 : w_CL (w_up S 49 fo k) := lhC_73 hC hc15 hfo.1 f15
    have hN15 : hLn 73 74 nm wk W (w_up S 49 fo k) := hLn_ag hN (fun j x hj => f15 j x (by omega) (by unfold wG; omega) (by unfold lahC lahA; omega))
    have hK15 : KC 87 97 93 114 115 74 73 T cs ms os (w_up S 49 fo k) := KC_ag hK (f15 73 2 (by omega) (by unfold wG; omega) (by unfold lahC lahA; omega)) (f15 73 4 (by omega) (by unfold wG; omega) (by unfold lahC lahA; omega)) (fun j hj => funext (fun x => f15 j x (by omega) (by unfold wG; omega) (by unfold lahC lahA; omega)))
    have hW15 : wd_at (w_up S 49 fo k) 74 64 := wda_a9 hWh (fun j x j0 j1 => f15 j x (by omega) (by unfold wG; omega) (by unfold lahC lahA; omega))
    refine wa_cv 158 rfl (wy_pr rfl) wt_158 (M2 := fun _ => False) rfl at_XL_getter ⟨_, rfl⟩ rfl rfl ⟨(Or.inr ⟨wy_pr rfl, fun q => q⟩), (Or.inr ⟨wy_pr rfl, fun q => q⟩), trivial, trivial, trivial⟩ trivial (fun _ _ q => False.elim q) (wJ_mono (gtr_73 (S := (w_up S 49 fo k)) (k := k) (st := am) (d := d) hC15 hK15 hw hX (gI_up hI (by omega) (by omega) (by omega)) hN15 hk ham) (fun o Z hz => (⟨hz.1, hz.2.1, hz.2.2.1, by rw [hgt]; exact hz.2.2.2⟩ : sc_ag 159 (w_up S 49 fo k) Z ∧ gI Z ∧ rmR (w_up S 49 fo k) Z ∧ o = .inl (some (0, gt))))) (fun oq15 Sq15 hp16 q15 => ?_)
    rcases q15 with ⟨fz15, gz15, rz15, rfl⟩
    show wJ _ _ _ _ _ _ _ _ _ _
    refine wa_istore (n := 4) rfl ?_
    refine wa_goto ⟨_, rfl⟩ ?_
    refine wa_aload_n (n := 0) rfl ?_
    refine wb_gfi 158 rfl (wy_pr rfl) wt_158 wf_5_7 (v := 0) (((fz15 158 7 (by omega)).trans ((w_up_slot (by decide)).trans (l7)))) (fun r17 => ?_)
    refine wa_ifeq (w_rg0 (by omega) (by omega)) ⟨_, rfl⟩ (fun c18 => ?_) (fun c18 => ?_)
    · skip
      refine wa_iload (n := 4) rfl ?_
      refine wa_iconst ?_
      refine wa_icmpne (w_rg0 (by omega) (by omega)) (w_rg0 (by omega) (by omega)) ⟨_, rfl⟩ (fun c19 => ?_) (fun c19 => ?_)
      · skip
        refine wa_iload (n := 4) rfl ?_
        refine wa_ifge (w_rg0 (by omega) (by omega)) ⟨_, rfl⟩ (fun c20 => ?_) (fun c20 => ?_)
        · skip
          refine wa_aload_n (n := 0) rfl ?_
          refine wb_gf4 158 rfl (wy_pr rfl) wt_158 wf_5_3 (v := 47) wl_158_3 ?_
          refine wa_iconst ?_
          refine wb_aald5 47 3 rfl rfl (wy_pr rfl) wt_47 (by rw [show _ = _ from (((fz15 47 (-1) (by omega)).trans ((w_up_slot (by decide)).trans ((cl_47 hC)))))]; omega) wl_47_3 ?_
          refine wa_aload_n (n := 0) rfl ?_
          refine wb_gfi 158 rfl (wy_pr rfl) wt_158 wf_5_14 (v := fo) (((fz15 158 14 (by omega)).trans ((w_up_slot (by decide)).trans (l14)))) (fun r21 => ?_)
          refine wa_iload (n := 4) rfl ?_
          refine wb_iast 51 rfl (wy_pr rfl) wt_51 (n := (S 48 (-1))) (((fz15 51 (-1) (by omega)).trans ((w_up_slot (by decide)).trans ((hl.2.2.1 3 (by decide)))))) (by omega) (by omega) ⟨(by omega), (by omega)⟩ ?_
          refine wa_return rfl ?_
          have fE : ∀ (j : Nat) (x : Int), j < 4000000 → j ≠ wG → ¬ lahM 73 120 121 215 fo j x → (w_up Sq15 51 fo gt) j x = S j x := fun j x j0 j1 hj => ((w_up_no (lah_m (j2 := 51) (x2 := fo) hj (Or.inl ⟨by omega, by omega, rfl⟩))).trans (((fz15 j x (lah_d hj)).trans ((w_up_no (lah_m (j2 := 49) (x2 := fo) hj (Or.inl ⟨by omega, by omega, rfl⟩)))))))
          have hcE : cCh 73 121 120 74 T cs ms os CH wo mo (w_up Sq15 51 fo gt) := cCh_ag hc (fun j x hj => ((w_up_no (by omega)).trans ((fz15 j x (by omega)).trans (w_up_no (by omega)))))
          have hwh : (if gt = -1 then fd else gt) = gt := by first | exact if_pos (by omega) | exact if_neg (by omega)
          rw [hwh]
          refine ⟨rfl, fun _ => ⟨?_, ((w_up_slot (by first | decide | omega)).trans (((fz15 215 16 (by omega)).trans (w_up_slot (by first | decide | omega)))))⟩, fun z => absurd z (by omega), hcE, fE, (gI_up gz15 (by omega) (by omega) (by omega)), (rmR_up (rmR_tr (rmR_up hR (by omega) (by first | decide | omega)) rz15) (by omega) (by first | decide | omega))⟩
          refine ⟨⟨(((w_up_slot (by first | decide | omega)).trans (((fz15 48 fo (by omega)).trans (w_up_slot (by first | decide | omega))))) : (w_up Sq15 51 fo gt) 48 fo = (S 48 fo)).trans b1, (((w_up_slot (by first | decide | omega)).trans (((fz15 49 fo (by omega)).trans (w_up_same _ _ _ _)))) : (w_up Sq15 51 fo gt) 49 fo = k), (((w_up_slot (by first | decide | omega)).trans (((fz15 50 fo (by omega)).trans (w_up_slot (by first | decide | omega))))) : (w_up Sq15 51 fo gt) 50 fo = (S 50 fo)).trans b3, ((w_up_same _ _ _ _) : (w_up Sq15 51 fo gt) 51 fo = gt), (((w_up_slot (by first | decide | omega)).trans (((fz15 52 fo (by omega)).trans (w_up_slot (by first | decide | omega))))) : (w_up Sq15 51 fo gt) 52 fo = (S 52 fo)).trans b5⟩, ((((w_up_slot (by first | decide | omega)).trans (((fz15 53 fo (by omega)).trans (w_up_slot (by first | decide | omega))))) : (w_up Sq15 51 fo gt) 53 fo = (S 53 fo)).trans b6).trans (if_neg (fun z => by have z1 := z.1; simp only [hoN] at z1; omega)).symm, ((((w_up_slot (by first | decide | omega)).trans (((fz15 54 fo (by omega)).trans (w_up_slot (by first | decide | omega))))) : (w_up Sq15 51 fo gt) 54 fo = (S 54 fo)).trans b7).trans (if_neg (fun z => by have z1 := z.1; simp only [hoN] at z1; omega)).symm, ?_, ?_⟩
          · exact ((((w_up_slot (by first | decide | omega)).trans (((fz15 55 fo (by omega)).trans (w_up_slot (by first | decide | omega))))) : (w_up Sq15 51 fo gt) 55 fo = (S 55 fo)).trans b8).trans (if_neg (fun z => by rcases z.2 with y | y | y; exact absurd y (by first | decide | omega); exact absurd y (by first | decide | omega); exact absurd y.2 (by simp only [hoN]; decide))).symm
          · exact ((((w_up_slot (by first | decide | omega)).trans (((fz15 56 fo (by omega)).trans (w_up_slot (by first | decide | omega))))) : (w_up Sq15 51 fo gt) 56 fo = (S 56 fo)).trans b9).trans (if_neg (fun z => by rcases z.2 with y | y | y; exact absurd y (by first | decide | omega); exact absurd y (by first | decide | omega); exact absurd y.2 (by simp only [hoN]; decide))).symm
        · skip
          refine wa_aload_n (n := 0) rfl ?_
          refine wb_gf5 158 rfl (wy_pr rfl) wt_158 wf_5_4 (v := 215) (((fz15 158 4 (by omega)).trans ((w_up_slot (by decide)).trans (l4)))) (fun r22 => ?_)
          refine wa_iload (n := 4) rfl ?_
          refine wa_iconst ?_
          refine wa_icmpne (w_rg0 (by omega) (by omega)) (w_rg0 (by omega) (by omega)) ⟨_, rfl⟩ (fun c23 => ?_) (fun c23 => ?_)
          · skip
            refine wa_iload (n := 4) rfl ?_
            refine wa_ineg ?_
            refine wa_fall ⟨_, rfl⟩ ?_
            refine wb_pfi 215 rfl (wy_pr rfl) wt_215 wf_8_16 (n := 16) rfl ⟨(by omega), (by omega)⟩ ?_
            refine wa_fall ⟨_, rfl⟩ ?_
            refine wa_aload_n (n := 0) rfl ?_
            refine wb_gf4 158 rfl (wy_pr rfl) wt_158 wf_5_3 (v := 47) wl_158_3 ?_
            refine wa_iconst ?_
            refine wb_aald5 47 3 rfl rfl (wy_pr rfl) wt_47 (by rw [show _ = _ from ((w_up_slot (by decide)).trans (((fz15 47 (-1) (by omega)).trans ((w_up_slot (by decide)).trans ((cl_47 hC))))))]; omega) wl_47_3 ?_
            refine wa_aload_n (n := 0) rfl ?_
            refine wb_gfi 158 rfl (wy_pr rfl) wt_158 wf_5_14 (v := fo) ((w_up_slot (by decide)).trans (((fz15 158 14 (by omega)).trans ((w_up_slot (by decide)).trans (l14))))) (fun r24 => ?_)
            refine wa_iload (n := 4) rfl ?_
            refine wb_iast 51 rfl (wy_pr rfl) wt_51 (n := (S 48 (-1))) ((w_up_slot (by decide)).trans (((fz15 51 (-1) (by omega)).trans ((w_up_slot (by decide)).trans ((hl.2.2.1 3 (by decide))))))) (by omega) (by omega) ⟨(by omega), (by omega)⟩ ?_
            refine wa_return rfl ?_
            have fE : ∀ (j : Nat) (x : Int), j < 4000000 → j ≠ wG → ¬ lahM 73 120 121 215 fo j x → (w_up (w_up Sq15 215 16 (-gt)) 51 fo gt) j x = S j x := fun j x j0 j1 hj => ((w_up_no (lah_m (j2 := 51) (x2 := fo) hj (Or.inl ⟨by omega, by omega, rfl⟩))).trans ((w_up_no (lah_m (j2 := 215) (x2 := 16) hj (Or.inr ⟨rfl, rfl⟩))).trans (((fz15 j x (lah_d hj)).trans ((w_up_no (lah_m (j2 := 49) (x2 := fo) hj (Or.inl ⟨by omega, by omega, rfl⟩))))))))
            have hcE : cCh 73 121 120 74 T cs ms os CH wo mo (w_up (w_up Sq15 215 16 (-gt)) 51 fo gt) := cCh_ag hc (fun j x hj => ((w_up_no (by omega)).trans ((w_up_no (by omega)).trans ((fz15 j x (by omega)).trans (w_up_no (by omega))))))
            have hwh : (if gt = -1 then fd else gt) = gt := by first | exact if_pos (by omega) | exact if_neg (by omega)
            rw [hwh]
            refine ⟨rfl, fun z => absurd z (by omega), fun _ => ?_, hcE, fE, (gI_up (gI_up gz15 (by omega) (by omega) (by omega)) (by omega) (by omega) (by omega)), (rmR_up (rmR_up (rmR_tr (rmR_up hR (by omega) (by first | decide | omega)) rz15) (by omega) (by first | decide | omega)) (by omega) (by first | decide | omega))⟩
            refine (((w_up_slot (by first | decide | omega)).trans (w_up_same _ _ _ _)) : (w_up (w_up Sq15 215 16 (-gt)) 51 fo gt) 215 16 = (-gt)).trans ?_
            first | omega | (rw [if_pos (by omega)]) | (rw [if_neg (by omega)])
          · skip
            exact absurd c23 (by omega)
      · skip
        refine wa_aload_n (n := 0) rfl ?_
        refine wb_gfi 158 rfl (wy_pr rfl) wt_158 wf_5_7 (v := 0) (((fz15 158 7 (by omega)).trans ((w_up_slot (by decide)).trans (l7)))) (fun r25 => ?_)
        refine wa_ifeq (w_rg0 (by omega) (by omega)) ⟨_, rfl⟩ (fun c26 => ?_) (fun c26 => ?_)
        · skip
          refine wa_aload_n (n := 0) rfl ?_
          refine wa_iload_n (n := 1) rfl ?_
          refine wa_iload_n (n := 2) rfl ?_
          have f27 : ∀ (j : Nat) (x : Int), j < 4000000 → j ≠ wG → ¬ lahC 73 120 121 fo j x → Sq15 j x = S j x := fun j x j0 j1 hj => (((fz15 j x (lah_c hj)).trans ((w_up_no (lah_n (j2 := 49) (x2 := fo) hj (⟨by omega, by omega, rfl⟩))))))
          have hc27 : cCh 73 121 120 74 T cs ms os CH wo mo Sq15 := cCh_ag hc (fun j x hj => ((fz15 j x (by omega)).trans (w_up_no (by omega))))
          have hC27 : w_CL Sq15 := lhC_73 hC hc27 hfo.1 f27
          have hN27 : hLn 73 74 nm wk W Sq15 := hLn_ag hN (fun j x hj => f27 j x (by omega) (by unfold wG; omega) (by unfold lahC lahA; omega))
          have hK27 : KC 87 97 93 114 115 74 73 T cs ms os Sq15 := KC_ag hK (f27 73 2 (by omega) (by unfold wG; omega) (by unfold lahC lahA; omega)) (f27 73 4 (by omega) (by unfold wG; omega) (by unfold lahC lahA; omega)) (fun j hj => funext (fun x => f27 j x (by omega) (by unfold wG; omega) (by unfold lahC lahA; omega)))
          have hW27 : wd_at Sq15 74 64 := wda_a9 hWh (fun j x j0 j1 => f27 j x (by omega) (by unfold wG; omega) (by unfold lahC lahA; omega))
          refine wa_cv 158 rfl (wy_pr rfl) wt_158 (M2 := fun _ => False) rfl at_XL_fieldOf ⟨_, rfl⟩ rfl rfl ⟨trivial, (Or.inr ⟨wy_pr rfl, fun q => q⟩), (Or.inr ⟨wy_pr rfl, fun q => q⟩), trivial, trivial, trivial⟩ trivial (fun _ _ q => False.elim q) (wJ_mono (fof_73 (S := Sq15) (k := k) (st := am) (d := d) hC27 hK27 hw hX gz15 hN27 hk ham) (fun o Z hz => (⟨hz.1, hz.2.1, hz.2.2.1, by rw [hfd]; exact hz.2.2.2⟩ : sc_ag 159 Sq15 Z ∧ gI Z ∧ rmR Sq15 Z ∧ o = .inl (some (0, fd))))) (fun oq27 Sq27 hp28 q27 => ?_)
          rcases q27 with ⟨fz27, gz27, rz27, rfl⟩
          show wJ _ _ _ _ _ _ _ _ _ _
          refine wa_istore (n := 4) rfl ?_
          refine wa_fall ⟨_, rfl⟩ ?_
          refine wa_iload (n := 4) rfl ?_
          refine wa_ifge (w_rg0 (by omega) (by omega)) ⟨_, rfl⟩ (fun c29 => ?_) (fun c29 => ?_)
          · skip
            refine wa_aload_n (n := 0) rfl ?_
            refine wb_gf4 158 rfl (wy_pr rfl) wt_158 wf_5_3 (v := 47) wl_158_3 ?_
            refine wa_iconst ?_
            refine wb_aald5 47 3 rfl rfl (wy_pr rfl) wt_47 (by rw [show _ = _ from (((fz27 47 (-1) (by omega)).trans (((fz15 47 (-1) (by omega)).trans ((w_up_slot (by decide)).trans ((cl_47 hC)))))))]; omega) wl_47_3 ?_
            refine wa_aload_n (n := 0) rfl ?_
            refine wb_gfi 158 rfl (wy_pr rfl) wt_158 wf_5_14 (v := fo) (((fz27 158 14 (by omega)).trans (((fz15 158 14 (by omega)).trans ((w_up_slot (by decide)).trans (l14)))))) (fun r30 => ?_)
            refine wa_iload (n := 4) rfl ?_
            refine wb_iast 51 rfl (wy_pr rfl) wt_51 (n := (S 48 (-1))) (((fz27 51 (-1) (by omega)).trans (((fz15 51 (-1) (by omega)).trans ((w_up_slot (by decide)).trans ((hl.2.2.1 3 (by decide)))))))) (by omega) (by omega) ⟨(by omega), (by omega)⟩ ?_
            refine wa_return rfl ?_
            have fE : ∀ (j : Nat) (x : Int), j < 4000000 → j ≠ wG → ¬ lahM 73 120 121 215 fo j x → (w_up Sq27 51 fo fd) j x = S j x := fun j x j0 j1 hj => ((w_up_no (lah_m (j2 := 51) (x2 := fo) hj (Or.inl ⟨by omega, by omega, rfl⟩))).trans (((fz27 j x (lah_d hj)).trans ((((fz15 j x (lah_d hj)).trans ((w_up_no (lah_m (j2 := 49) (x2 := fo) hj (Or.inl ⟨by omega, by omega, rfl⟩))))))))))
            have hcE : cCh 73 121 120 74 T cs ms os CH wo mo (w_up Sq27 51 fo fd) := cCh_ag hc (fun j x hj => ((w_up_no (by omega)).trans ((fz27 j x (by omega)).trans ((fz15 j x (by omega)).trans (w_up_no (by omega))))))
            have hwh : (if gt = -1 then fd else gt) = fd := by first | exact if_pos (by omega) | exact if_neg (by omega)
            rw [hwh]
            refine ⟨rfl, fun _ => ⟨?_, ((w_up_slot (by first | decide | omega)).trans (((fz27 215 16 (by omega)).trans (((fz15 215 16 (by omega)).trans (w_up_slot (by first | decide | omega)))))))⟩, fun z => absurd z (by omega), hcE, fE, (gI_up gz27 (by omega) (by omega) (by omega)), (rmR_up (rmR_tr (rmR_tr (rmR_up hR (by omega) (by first | decide | omega)) rz15) rz27) (by omega) (by first | decide | omega))⟩
            refine ⟨⟨(((w_up_slot (by first | decide | omega)).trans (((fz27 48 fo (by omega)).trans (((fz15 48 fo (by omega)).trans (w_up_slot (by first | decide | omega))))))) : (w_up Sq27 51 fo fd) 48 fo = (S 48 fo)).trans b1, (((w_up_slot (by first | decide | omega)).trans (((fz27 49 fo (by omega)).trans (((fz15 49 fo (by omega)).trans (w_up_same _ _ _ _)))))) : (w_up Sq27 51 fo fd) 49 fo = k), (((w_up_slot (by first | decide | omega)).trans (((fz27 50 fo (by omega)).trans (((fz15 50 fo (by omega)).trans (w_up_slot (by first | decide | omega))))))) : (w_up Sq27 51 fo fd) 50 fo = (S 50 fo)).trans b3, ((w_up_same _ _ _ _) : (w_up Sq27 51 fo fd) 51 fo = fd), (((w_up_slot (by first | decide | omega)).trans (((fz27 52 fo (by omega)).trans (((fz15 52 fo (by omega)).trans (w_up_slot (by first | decide | omega))))))) : (w_up Sq27 51 fo fd) 52 fo = (S 52 fo)).trans b5⟩, ((((w_up_slot (by first | decide | omega)).trans (((fz27 53 fo (by omega)).trans (((fz15 53 fo (by omega)).trans (w_up_slot (by first | decide | omega))))))) : (w_up Sq27 51 fo fd) 53 fo = (S 53 fo)).trans b6).trans (if_neg (fun z => by have z1 := z.1; simp only [hoN] at z1; omega)).symm, ((((w_up_slot (by first | decide | omega)).trans (((fz27 54 fo (by omega)).trans (((fz15 54 fo (by omega)).trans (w_up_slot (by first | decide | omega))))))) : (w_up Sq27 51 fo fd) 54 fo = (S 54 fo)).trans b7).trans (if_neg (fun z => by have z1 := z.1; simp only [hoN] at z1; omega)).symm, ?_, ?_⟩
            · exact ((((w_up_slot (by first | decide | omega)).trans (((fz27 55 fo (by omega)).trans (((fz15 55 fo (by omega)).trans (w_up_slot (by first | decide | omega))))))) : (w_up Sq27 51 fo fd) 55 fo = (S 55 fo)).trans b8).trans (if_neg (fun z => by rcases z.2 with y | y | y; exact absurd y (by first | decide | omega); exact absurd y (by first | decide | omega); exact absurd y.2 (by simp only [hoN]; decide))).symm
            · exact ((((w_up_slot (by first | decide | omega)).trans (((fz27 56 fo (by omega)).trans (((fz15 56 fo (by omega)).trans (w_up_slot (by first | decide | omega))))))) : (w_up Sq27 51 fo fd) 56 fo = (S 56 fo)).trans b9).trans (if_neg (fun z => by rcases z.2 with y | y | y; exact absurd y (by first | decide | omega); exact absurd y (by first | decide | omega); exact absurd y.2 (by simp only [hoN]; decide))).symm
          · skip
            refine wa_aload_n (n := 0) rfl ?_
            refine wb_gf5 158 rfl (wy_pr rfl) wt_158 wf_5_4 (v := 215) (((fz27 158 4 (by omega)).trans (((fz15 158 4 (by omega)).trans ((w_up_slot (by decide)).trans (l4)))))) (fun r31 => ?_)
            refine wa_iload (n := 4) rfl ?_
            refine wa_iconst ?_
            refine wa_icmpne (w_rg0 (by omega) (by omega)) (w_rg0 (by omega) (by omega)) ⟨_, rfl⟩ (fun c32 => ?_) (fun c32 => ?_)
            · skip
              refine wa_iload (n := 4) rfl ?_
              refine wa_ineg ?_
              refine wa_fall ⟨_, rfl⟩ ?_
              refine wb_pfi 215 rfl (wy_pr rfl) wt_215 wf_8_16 (n := 16) rfl ⟨(by omega), (by omega)⟩ ?_
              refine wa_fall ⟨_, rfl⟩ ?_
              refine wa_aload_n (n := 0) rfl ?_
              refine wb_gf4 158 rfl (wy_pr rfl) wt_158 wf_5_3 (v := 47) wl_158_3 ?_
              refine wa_iconst ?_
              refine wb_aald5 47 3 rfl rfl (wy_pr rfl) wt_47 (by rw [show _ = _ from ((w_up_slot (by decide)).trans (((fz27 47 (-1) (by omega)).trans (((fz15 47 (-1) (by omega)).trans ((w_up_slot (by decide)).trans ((cl_47 hC))))))))]; omega) wl_47_3 ?_
              refine wa_aload_n (n := 0) rfl ?_
              refine wb_gfi 158 rfl (wy_pr rfl) wt_158 wf_5_14 (v := fo) ((w_up_slot (by decide)).trans (((fz27 158 14 (by omega)).trans (((fz15 158 14 (by omega)).trans ((w_up_slot (by decide)).trans (l14))))))) (fun r33 => ?_)
              refine wa_iload (n := 4) rfl ?_
              refine wb_iast 51 rfl (wy_pr rfl) wt_51 (n := (S 48 (-1))) ((w_up_slot (by decide)).trans (((fz27 51 (-1) (by omega)).trans (((fz15 51 (-1) (by omega)).trans ((w_up_slot (by decide)).trans ((hl.2.2.1 3 (by decide))))))))) (by omega) (by omega) ⟨(by omega), (by omega)⟩ ?_
              refine wa_return rfl ?_
              have fE : ∀ (j : Nat) (x : Int), j < 4000000 → j ≠ wG → ¬ lahM 73 120 121 215 fo j x → (w_up (w_up Sq27 215 16 (-fd)) 51 fo fd) j x = S j x := fun j x j0 j1 hj => ((w_up_no (lah_m (j2 := 51) (x2 := fo) hj (Or.inl ⟨by omega, by omega, rfl⟩))).trans ((w_up_no (lah_m (j2 := 215) (x2 := 16) hj (Or.inr ⟨rfl, rfl⟩))).trans (((fz27 j x (lah_d hj)).trans ((((fz15 j x (lah_d hj)).trans ((w_up_no (lah_m (j2 := 49) (x2 := fo) hj (Or.inl ⟨by omega, by omega, rfl⟩)))))))))))
              have hcE : cCh 73 121 120 74 T cs ms os CH wo mo (w_up (w_up Sq27 215 16 (-fd)) 51 fo fd) := cCh_ag hc (fun j x hj => ((w_up_no (by omega)).trans ((w_up_no (by omega)).trans ((fz27 j x (by omega)).trans ((fz15 j x (by omega)).trans (w_up_no (by omega)))))))
              have hwh : (if gt = -1 then fd else gt) = fd := by first | exact if_pos (by omega) | exact if_neg (by omega)
              rw [hwh]
              refine ⟨rfl, fun z => absurd z (by omega), fun _ => ?_, hcE, fE, (gI_up (gI_up gz27 (by omega) (by omega) (by omega)) (by omega) (by omega) (by omega)), (rmR_up (rmR_up (rmR_tr (rmR_tr (rmR_up hR (by omega) (by first | decide | omega)) rz15) rz27) (by omega) (by first | decide | omega)) (by omega) (by first | decide | omega))⟩
              refine (((w_up_slot (by first | decide | omega)).trans (w_up_same _ _ _ _)) : (w_up (w_up Sq27 215 16 (-fd)) 51 fo fd) 215 16 = (-fd)).trans ?_
              first | omega | (rw [if_pos (by omega)]) | (rw [if_neg (by omega)])
            · skip
              refine wa_iconst ?_
              refine wa_goto ⟨_, rfl⟩ ?_
              refine wb_pfi 215 rfl (wy_pr rfl) wt_215 wf_8_16 (n := 16) rfl ⟨(by omega), (by omega)⟩ ?_
              refine wa_fall ⟨_, rfl⟩ ?_
              refine wa_aload_n (n := 0) rfl ?_
              refine wb_gf4 158 rfl (wy_pr rfl) wt_158 wf_5_3 (v := 47) wl_158_3 ?_
              refine wa_iconst ?_
              refine wb_aald5 47 3 rfl rfl (wy_pr rfl) wt_47 (by rw [show _ = _ from ((w_up_slot (by decide)).trans (((fz27 47 (-1) (by omega)).trans (((fz15 47 (-1) (by omega)).trans ((w_up_slot (by decide)).trans ((cl_47 hC))))))))]; omega) wl_47_3 ?_
              refine wa_aload_n (n := 0) rfl ?_
              refine wb_gfi 158 rfl (wy_pr rfl) wt_158 wf_5_14 (v := fo) ((w_up_slot (by decide)).trans (((fz27 158 14 (by omega)).trans (((fz15 158 14 (by omega)).trans ((w_up_slot (by decide)).trans (l14))))))) (fun r34 => ?_)
              refine wa_iload (n := 4) rfl ?_
              refine wb_iast 51 rfl (wy_pr rfl) wt_51 (n := (S 48 (-1))) ((w_up_slot (by decide)).trans (((fz27 51 (-1) (by omega)).trans (((fz15 51 (-1) (by omega)).trans ((w_up_slot (by decide)).trans ((hl.2.2.1 3 (by decide))))))))) (by omega) (by omega) ⟨(by omega), (by omega)⟩ ?_
              refine wa_return rfl ?_
              have fE : ∀ (j : Nat) (x : Int), j < 4000000 → j ≠ wG → ¬ lahM 73 120 121 215 fo j x → (w_up (w_up Sq27 215 16 4) 51 fo fd) j x = S j x := fun j x j0 j1 hj => ((w_up_no (lah_m (j2 := 51) (x2 := fo) hj (Or.inl ⟨by omega, by omega, rfl⟩))).trans ((w_up_no (lah_m (j2 := 215) (x2 := 16) hj (Or.inr ⟨rfl, rfl⟩))).trans (((fz27 j x (lah_d hj)).trans ((((fz15 j x (lah_d hj)).trans ((w_up_no (lah_m (j2 := 49) (x2 := fo) hj (Or.inl ⟨by omega, by omega, rfl⟩)))))))))))
              have hcE : cCh 73 121 120 74 T cs ms os CH wo mo (w_up (w_up Sq27 215 16 4) 51 fo fd) := cCh_ag hc (fun j x hj => ((w_up_no (by omega)).trans ((w_up_no (by omega)).trans ((fz27 j x (by omega)).trans ((fz15 j x (by omega)).trans (w_up_no (by omega)))))))
              have hwh : (if gt = -1 then fd else gt) = fd := by first | exact if_pos (by omega) | exact if_neg (by omega)
              rw [hwh]
              refine ⟨rfl, fun z => absurd z (by omega), fun _ => ?_, hcE, fE, (gI_up (gI_up gz27 (by omega) (by omega) (by omega)) (by omega) (by omega) (by omega)), (rmR_up (rmR_up (rmR_tr (rmR_tr (rmR_up hR (by omega) (by first | decide | omega)) rz15) rz27) (by omega) (by first | decide | omega)) (by omega) (by first | decide | omega))⟩
              refine (((w_up_slot (by first | decide | omega)).trans (w_up_same _ _ _ _)) : (w_up (w_up Sq27 215 16 4) 51 fo fd) 215 16 = 4).trans ?_
              first | omega | (rw [if_pos (by omega)]) | (rw [if_neg (by omega)])
        · skip
          exact absurd c26 (by omega)
    · skip
      exact absurd c18 (by omega)
set_option maxHeartbeats 4000000 in
theorem las_73_215 {k am l nm wk nms fo at0 wo mo : Int} {W tl : List Int} {CH : List aQ} (hC : w_CL S) (hK : KC 87 97 93 114 115 74 73 T cs ms os S) (hw : wHo cs ms os) (hX : w_X xs) (hI : gI S) (hN : hLn 73 74 nm wk W S) (h72 : S 72 1 = 73) (hc : cCh 73 121 120 74 T cs ms os CH wo mo S) (hWh : wd_at S 74 64) (hl : cSl S) (l4 : S 158 4 = 215) (l7 : S 158 7 = 1) (l12 : S 158 12 = (tl.length : Int)) (l13 : S 158 13 = esV tl) (htl : tl.length ≤ 8) (hes : esOk tl) (hty : ∀ c ∈ tl, c < 9 + (cs.length : Int)) (hwo : wo < 10000000) (htl1 : tl.length = 1) (l14 : S 158 14 = fo) (hfo : 0 ≤ fo ∧ fo < S 48 (-1)) (hbl : blE l fo S) (hll : l = 1 ∨ l = 2) (hk : 0 ≤ k ∧ k < (cs.length : Int)) (ham : am = 0 ∨ am = 1) : wJ (pe_GA xs) wY0 (mS [120, 121, 122, 123, 124]) (d + 6) t_XL_lookAtHost ((pe_at t_XL_lookAtHost.bl 0).getD (0, [])).2 [(0, (2, 158)), (1, (0, k)), (2, (0, am))] [] S (lhQ 73 120 121 74 215 T cs ms os (chN CH wo mo (k, am, 1, (wnW [115, 101, 116] W), tl) (FA T cs ms os k am 1 (wnW [115, 101, 116] W))).1 (chN CH wo mo (k, am, 1, (wnW [115, 101, 116] W), tl) (FA T cs ms os k am 1 (wnW [115, 101, 116] W))).2 mo 1 nms fo (if (FA T cs ms os k am 1 (wnW [115, 101, 116] W)) = [] then fdA T cs ms am W k else (rvA T cs ms os (k, am, 1, (wnW [115, 101, 116] W), tl))) (if (FA T cs ms os k am 1 (wnW [115, 101, 116] W)) = [] then hoN l k (if (FA T cs ms os k am 1 (wnW [115, 101, 116] W)) = [] then fdA T cs ms am W k else (rvA T cs ms os (k, am, 1, (wnW [115, 101, 116] W), tl))) 0 0 at0 else hoN l k (if (FA T cs ms os k am 1 (wnW [115, 101, 116] W)) = [] then fdA T cs ms am W k else (rvA T cs ms os (k, am, 1, (wnW [115, 101, 116] W), tl))) 1 (esV tl) at0) S) := by
  have hR := rmR_rfl S
  have h48 := hl.2.2.2
  have hn := KC_n hK
  have hn2 := hn.2.2
  have h400 := hw.1
  obtain ⟨⟨b1, b2, b3, b4, b5⟩, b6, b7, b8, b9⟩ := hbl
  have hear : 0 ≤ esV tl ∧ esV tl < 72057594037927936 := by have z := esV_rg tl hes; have z2 := p7_le (n := tl.length) htl; omega
  have hlo := wb_l2i_rg (esV tl)
  have hhi := wb_l2i_rg (wb_lushr (esV tl) 32)
  obtain ⟨rv, hrv⟩ : ∃ r : Int, r = (rvA T cs ms os (k, am, 1, (wnW [115, 101, 116] W), tl)) := ⟨_, rfl⟩
  have hrr := rvA_rg (T := T) (q := (k, am, 1, (wnW [115, 101, 116] W), tl)) hw hk
  rw [← hrv] at hrr ⊢
  obtain ⟨fd, hfd⟩ : ∃ r : Int, r = fdA T cs ms am W k := ⟨_, rfl⟩
  have hfr := fdA_rg (T := T) (st := am) (W := W) hw hk
  rw [← hfd] at hfr ⊢
  have hF0 : (FA T cs ms os k am 1 (wnW [115, 101, 116] W)) = [] ↔ rv = -1 := by
    rw [hrv]
    unfold rvA
    constructor
    · intro z; exact if_pos z
    · intro z
      by_cases c : (FA T cs ms os k am 1 (wnW [115, 101, 116] W)) = []
      · exact c
      · exfalso
        have z1 : sgA cs ms tl (FA T cs ms os k am 1 (wnW [115, 101, 116] W)) = -1 := by have z2 := z; rw [if_neg c] at z2; exact z2
        have hsn := sgA_no (tl := tl) hw (FA_m (T := T) (am := am) (fs := 1) (WW := (wnW [115, 101, 116] W)) hw hk (by omega))
        exact hsn z1
  refine wa_aload_n (n := 0) rfl ?_
  refine wb_gf4 158 rfl (wy_pr rfl) wt_158 wf_5_0 (v := 72) wl_158_0 ?_
  refine wb_gf5 72 rfl (wy_pr rfl) wt_72 wf_2_1 (v := 73) (h72) (fun r11 => ?_)
  refine wa_astore_n (n := 3) rfl ?_
  refine wa_aload_n (n := 0) rfl ?_
  refine wb_gf4 158 rfl (wy_pr rfl) wt_158 wf_5_3 (v := 47) wl_158_3 ?_
  refine wa_iconst ?_
  refine wb_aald5 47 1 rfl rfl (wy_pr rfl) wt_47 (by rw [show _ = _ from ((cl_47 hC))]; omega) wl_47_1 ?_
  refine wa_aload_n (n := 0) rfl ?_
  refine wb_gfi 158 rfl (wy_pr rfl) wt_158 wf_5_14 (v := fo) (l14) (fun r12 => ?_)
  refine wa_iload_n (n := 1) rfl ?_
  refine wb_iast 49 rfl (wy_pr rfl) wt_49 (n := (S 48 (-1))) ((hl.2.2.1 1 (by decide))) (by omega) (by omega) ⟨(by omega), (by omega)⟩ ?_
  refine wa_aload_n (n := 0) rfl ?_
  refine wb_gfi 158 rfl (wy_pr rfl) wt_158 wf_5_7 (v := 1) ((w_up_slot (by decide)).trans (l7)) (fun r13 => ?_)
  refine wa_ifne (w_rg0 (by omega) (by omega)) ⟨_, rfl⟩ (fun c14 => ?_) (fun c14 => ?_)
  · skip
    refine wa_aload_n (n := 0) rfl ?_
    refine wb_gfi 158 rfl (wy_pr rfl) wt_158 wf_5_7 (v := 1) ((w_up_slot (by decide)).trans (l7)) (fun r15 => ?_)
    refine wa_iconst ?_
    refine wa_icmpne (w_rg0 (by omega) (by omega)) (w_rg0 (by omega) (by omega)) ⟨_, rfl⟩ (fun c16 => ?_) (fun c16 => ?_)
    · skip
      exact absurd c16 (by omega)
    · skip
      refine wa_aload_n (n := 3) rfl ?_
      refine wa_iload_n (n := 1) rfl ?_
      refine wa_iload_n (n := 2) rfl ?_
      refine wa_aload_n (n := 0) rfl ?_
      refine wa_ks ?_
      have f17 : ∀ (j : Nat) (x : Int), j < 4000000 → j ≠ wG → ¬ lahC 73 120 121 fo j x → (w_up S 49 fo k) j x = S j x := fun j x j0 j1 hj => (w_up_no (lah_n (j2 := 49) (x2 := fo) hj (⟨by omega, by omega, rfl⟩)))
      have hc17 : cCh 73 121 120 74 T cs ms os CH wo mo (w_up S 49 fo k) := cCh_ag hc (fun j x hj => (w_up_no (by omega)))
      have hC17 : w_CL (w_up S 49 fo k) := lhC_73 hC hc17 hfo.1 f17
      have hN17 : hLn 73 74 nm wk W (w_up S 49 fo k) := hLn_ag hN (fun j x hj => f17 j x (by omega) (by unfold wG; omega) (by unfold lahC lahA; omega))
      have hK17 : KC 87 97 93 114 115 74 73 T cs ms os (w_up S 49 fo k) := KC_ag hK (f17 73 2 (by omega) (by unfold wG; omega) (by unfold lahC lahA; omega)) (f17 73 4 (by omega) (by unfold wG; omega) (by unfold lahC lahA; omega)) (fun j hj => funext (fun x => f17 j x (by omega) (by unfold wG; omega) (by unfold lahC lahA; omega)))
      have hW17 : wd_at (w_up S 49 fo k) 74 64 := wda_a9 hWh (fun j x j0 j1 => f17 j x (by omega) (by unfold wG; omega) (by unfold lahC lahA; omega))
      refine wa_cv 158 rfl (wy_pr rfl) wt_158 (M2 := fun _ => False) rfl at_XL_wordBehind ⟨_, rfl⟩ rfl rfl ⟨(Or.inr ⟨wy_pr rfl, fun q => q⟩), (Or.inr ⟨wy_pr rfl, fun q => q⟩), trivial, trivial, trivial⟩ ⟨trivial, trivial, (Or.inr ⟨wy_pr rfl, fun q => q⟩), trivial⟩ (fun _ _ q => False.elim q) (wb51_73 (S := (w_up S 49 fo k)) hX hC17 (gI_up hI (by omega) (by omega) (by omega)) hN17.1.1 hN17.1.2 hN17.2.1 hN17.2.2.1.1 hN17.2.2.1.2 hN17.2.2.2.1.1 hN17.2.2.2.1.2.1 hN17.2.2.2.1.2.2 hN17.2.2.2.2.1.1 hN17.2.2.2.2.1.2 hN17.2.2.2.2.2.1) (fun oq17 Sq17 hp18 q17 => ?_)
      rcases q17 with ⟨fz17, gz17, rz17, wd, rfl, hv17⟩
      show wJ _ _ _ _ _ _ _ _ _ _
      have hvr17 := hwW_rg hv17
      have h7_17 : (w_up S 49 fo k) 74 7 ≤ 1024 := hN17.2.2.2.2.2.2
      refine wa_iconst ?_
      refine wa_aload_n (n := 0) rfl ?_
      refine wb_gfl 158 rfl (wy_pr rfl) wt_158 wf_5_13 (v := (esV tl)) (((fz17 158 13 (by omega)).trans ((w_up_slot (by decide)).trans (l13)))) (fun r19 => ?_)
      refine wa_iconst ?_
      have f20 : ∀ (j : Nat) (x : Int), j < 4000000 → j ≠ wG → ¬ lahC 73 120 121 fo j x → Sq17 j x = S j x := fun j x j0 j1 hj => (((fz17 j x (lah_c hj)).trans ((w_up_no (lah_n (j2 := 49) (x2 := fo) hj (⟨by omega, by omega, rfl⟩))))))
      have hc20 : cCh 73 121 120 74 T cs ms os CH wo mo Sq17 := cCh_ag hc (fun j x hj => ((fz17 j x (by omega)).trans (w_up_no (by omega))))
      have hC20 : w_CL Sq17 := lhC_73 hC hc20 hfo.1 f20
      have hN20 : hLn 73 74 nm wk W Sq17 := hLn_ag hN (fun j x hj => f20 j x (by omega) (by unfold wG; omega) (by unfold lahC lahA; omega))
      have hK20 : KC 87 97 93 114 115 74 73 T cs ms os Sq17 := KC_ag hK (f20 73 2 (by omega) (by unfold wG; omega) (by unfold lahC lahA; omega)) (f20 73 4 (by omega) (by unfold wG; omega) (by unfold lahC lahA; omega)) (fun j hj => funext (fun x => f20 j x (by omega) (by unfold wG; omega) (by unfold lahC lahA; omega)))
      have hW20 : wd_at Sq17 74 64 := wda_a9 hWh (fun j x j0 j1 => f20 j x (by omega) (by unfold wG; omega) (by unfold lahC lahA; omega))
      have hqk20 : qOk 74 cs Sq17 (k, am, 1, (wnW [115, 101, 116] W), tl) wd := ⟨hk, ⟨by show (0 : Int) ≤ am; omega, by show am ≤ (2 : Int); omega⟩, Or.inr rfl, ⟨htl, hes⟩, Or.inr ⟨by show am ≠ 2; omega, hwW_ag hv17 (fun j x j0 j1 => fz17 j x (by omega))⟩⟩
      have hwM20 : wdM 97 T ms Sq17 (if am = 2 then 2 else 1) wd (wnW [115, 101, 116] W) := by rw [if_neg (by omega)]; exact wdM_w hW20 hK20 (by rcases hqk20.2.2.2.2 with z | z; exact absurd z.1 (by show ¬ am = 2; omega); exact z.2) (by first | decide | omega)
      have hwr20 := qOk_rg hqk20 hc20.2.2.2.2.2.2
      have hch20 : ∀ K : List aKp, kpR 73 121 K Sq17 → wJ (pe_GA xs) wY0 (mS [120, 121, 122, 123, 124]) (d + 5) t_XO_choose ((pe_at t_XO_choose.bl 0).getD (0, [])).2 [(0, (2, 73)), (1, (0, k)), (2, (0, am)), (3, (0, wd)), (4, (0, 1)), (5, (1, esV tl)), (7, (0, (tl.length : Int)))] [] Sq17 (chQ 73 120 121 cs ms K (qKy (k, am, 1, (wnW [115, 101, 116] W), tl) wd) wd tl (FA T cs ms os k am 1 (wnW [115, 101, 116] W)) Sq17) := fun K hkp => cho_73 (pc := if (1 : Int) = 1 then 1 else -1) hC20 hK20 hw gz17 hc20.2.2.2.2.2.1 hkp (by rw [hc20.2.2.1]; exact hc20.2.2.2.1) (by rw [hc20.2.1]; exact hc20.2.2.2.2.1) hk ⟨by omega, by omega⟩ hwM20 ⟨by omega, by omega⟩ (Or.inr ⟨rfl, if_pos rfl⟩) htl hes hty rfl rfl
      obtain ⟨⟨K0, hK0, -⟩, -⟩ := id hc20
      have hcz20 : wJ (pe_GA xs) wY0 (mS [120, 121, 122, 123, 124]) (d + 5) t_XO_choose ((pe_at t_XO_choose.bl 0).getD (0, [])).2 [(0, (2, 73)), (1, (0, k)), (2, (0, am)), (3, (0, wd)), (4, (0, 1)), (5, (1, esV tl)), (7, (0, (tl.length : Int)))] [] Sq17 (fun o Z => o = .inl (some (0, rv)) ∧ cCh 73 121 120 74 T cs ms os (chN CH wo mo (k, am, 1, (wnW [115, 101, 116] W), tl) (FA T cs ms os k am 1 (wnW [115, 101, 116] W))).1 (chN CH wo mo (k, am, 1, (wnW [115, 101, 116] W), tl) (FA T cs ms os k am 1 (wnW [115, 101, 116] W))).2 mo Z ∧ chF 73 120 121 Sq17 Z ∧ gI Z ∧ rmR Sq17 Z) := by
        refine wJ_mono (chA_w (fun K hkp => hch20 K hkp) hc20) (fun o Z hz => ?_)
        rw [hrv]
        exact chA_e (q := (k, am, 1, (wnW [115, 101, 116] W), tl)) ⟨by decide, by decide, by decide, by decide⟩ hW20 hK20 hc20 hw hqk20 hz gz17 hwo
      rw [show (tl.length : Int) = 1 by omega] at hcz20
      refine wa_cv 73 rfl (wy_pr rfl) wt_73 (M2 := mS [120, 121, 122, 123, 124]) rfl at_XO_choose ⟨_, rfl⟩ rfl rfl ⟨(Or.inr ⟨wy_pr rfl, mS_no rfl⟩), (Or.inr ⟨wy_pr rfl, mS_no rfl⟩), trivial, trivial, trivial⟩ trivial (fun _ _ q => q) (hcz20) (fun oq20 Sq20 hp21 q20 => ?_)
      rcases q20 with ⟨rfl, hcq20, ff20, gg20, rr20⟩
      show wJ _ _ _ _ _ _ _ _ _ _
      refine wa_istore (n := 4) rfl ?_
      refine wa_goto ⟨_, rfl⟩ ?_
      refine wa_aload_n (n := 0) rfl ?_
      refine wb_gfi 158 rfl (wy_pr rfl) wt_158 wf_5_7 (v := 1) (((ff20 158 7 (by omega) (by unfold wG; omega) (by omega) (by omega) (by omega)).trans (((fz17 158 7 (by omega)).trans ((w_up_slot (by decide)).trans (l7)))))) (fun r22 => ?_)
      refine wa_ifeq (w_rg0 (by omega) (by omega)) ⟨_, rfl⟩ (fun c23 => ?_) (fun c23 => ?_)
      · skip
        exact absurd c23 (by omega)
      · skip
        refine wa_iload (n := 4) rfl ?_
        refine wa_iflt (w_rg0 (by omega) (by omega)) ⟨_, rfl⟩ (fun c24 => ?_) (fun c24 => ?_)
        · skip
          refine wa_iload (n := 4) rfl ?_
          refine wa_iconst ?_
          refine wa_icmpne (w_rg0 (by omega) (by omega)) (w_rg0 (by omega) (by omega)) ⟨_, rfl⟩ (fun c25 => ?_) (fun c25 => ?_)
          · skip
            refine wa_iload (n := 4) rfl ?_
            refine wa_ifge (w_rg0 (by omega) (by omega)) ⟨_, rfl⟩ (fun c26 => ?_) (fun c26 => ?_)
            · skip
              exact absurd c26 (by omega)
            · skip
              refine wa_aload_n (n := 0) rfl ?_
              refine wb_gf5 158 rfl (wy_pr rfl) wt_158 wf_5_4 (v := 215) (((ff20 158 4 (by omega) (by unfold wG; omega) (by omega) (by omega) (by omega)).trans (((fz17 158 4 (by omega)).trans ((w_up_slot (by decide)).trans (l4)))))) (fun r27 => ?_)
              refine wa_iload (n := 4) rfl ?_
              refine wa_iconst ?_
              refine wa_icmpne (w_rg0 (by omega) (by omega)) (w_rg0 (by omega) (by omega)) ⟨_, rfl⟩ (fun c28 => ?_) (fun c28 => ?_)
              · skip
                refine wa_iload (n := 4) rfl ?_
                refine wa_ineg ?_
                refine wa_fall ⟨_, rfl⟩ ?_
                refine wb_pfi 215 rfl (wy_pr rfl) wt_215 wf_8_16 (n := 16) rfl ⟨(by omega), (by omega)⟩ ?_
                refine wa_fall ⟨_, rfl⟩ ?_
                refine wa_aload_n (n := 0) rfl ?_
                refine wb_gf4 158 rfl (wy_pr rfl) wt_158 wf_5_3 (v := 47) wl_158_3 ?_
                refine wa_iconst ?_
                refine wb_aald5 47 3 rfl rfl (wy_pr rfl) wt_47 (by rw [show _ = _ from ((w_up_slot (by decide)).trans (((ff20 47 (-1) (by omega) (by unfold wG; omega) (by omega) (by omega) (by omega)).trans (((fz17 47 (-1) (by omega)).trans ((w_up_slot (by decide)).trans ((cl_47 hC))))))))]; omega) wl_47_3 ?_
                refine wa_aload_n (n := 0) rfl ?_
                refine wb_gfi 158 rfl (wy_pr rfl) wt_158 wf_5_14 (v := fo) ((w_up_slot (by decide)).trans (((ff20 158 14 (by omega) (by unfold wG; omega) (by omega) (by omega) (by omega)).trans (((fz17 158 14 (by omega)).trans ((w_up_slot (by decide)).trans (l14))))))) (fun r29 => ?_)
                refine wa_iload (n := 4) rfl ?_
                refine wb_iast 51 rfl (wy_pr rfl) wt_51 (n := (S 48 (-1))) ((w_up_slot (by decide)).trans (((ff20 51 (-1) (by omega) (by unfold wG; omega) (by omega) (by omega) (by omega)).trans (((fz17 51 (-1) (by omega)).trans ((w_up_slot (by decide)).trans ((hl.2.2.1 3 (by decide))))))))) (by omega) (by omega) ⟨(by omega), (by omega)⟩ ?_
                refine wa_return rfl ?_
                have fE : ∀ (j : Nat) (x : Int), j < 4000000 → j ≠ wG → ¬ lahM 73 120 121 215 fo j x → (w_up (w_up Sq20 215 16 (-rv)) 51 fo rv) j x = S j x := fun j x j0 j1 hj => ((w_up_no (lah_m (j2 := 51) (x2 := fo) hj (Or.inl ⟨by omega, by omega, rfl⟩))).trans ((w_up_no (lah_m (j2 := 215) (x2 := 16) hj (Or.inr ⟨rfl, rfl⟩))).trans (((ff20 j x j0 j1 (lah_f hj).1 (lah_f hj).2.1 (lah_f hj).2.2).trans ((((fz17 j x (lah_d hj)).trans ((w_up_no (lah_m (j2 := 49) (x2 := fo) hj (Or.inl ⟨by omega, by omega, rfl⟩)))))))))))
                have hcE := cCh_ag hcq20 (Z := (w_up (w_up Sq20 215 16 (-rv)) 51 fo rv)) (fun j x hj => ((w_up_no (by omega)).trans (w_up_no (by omega))))
                have hwh : (if (FA T cs ms os k am 1 (wnW [115, 101, 116] W)) = [] then fd else rv) = rv := by first | exact if_pos (hF0.mpr (by omega)) | exact if_neg (fun z => by have := hF0.mp z; omega)
                have hen : (if (FA T cs ms os k am 1 (wnW [115, 101, 116] W)) = [] then hoN l k (if (FA T cs ms os k am 1 (wnW [115, 101, 116] W)) = [] then fd else rv) 0 0 at0 else hoN l k (if (FA T cs ms os k am 1 (wnW [115, 101, 116] W)) = [] then fd else rv) 1 (esV tl) at0) = hoN l k rv 1 (esV tl) at0 := by rw [hwh]; exact if_neg (fun z => by have := hF0.mp z; omega)
                rw [hen, hwh]
                refine ⟨rfl, fun z => absurd z (by omega), fun _ => ?_, hcE, fE, (gI_up (gI_up gg20 (by omega) (by omega) (by omega)) (by omega) (by omega) (by omega)), (rmR_up (rmR_up (rmR_tr (rmR_tr (rmR_up hR (by omega) (by first | decide | omega)) rz17) rr20) (by omega) (by first | decide | omega)) (by omega) (by first | decide | omega))⟩
                refine (((w_up_slot (by first | decide | omega)).trans (w_up_same _ _ _ _)) : (w_up (w_up Sq20 215 16 (-rv)) 51 fo rv) 215 16 = (-rv)).trans ?_
                first | omega | (rw [if_pos (by omega)]) | (rw [if_neg (by omega)])
              · skip
                exact absurd c28 (by omega)
          · skip
            refine wa_aload_n (n := 0) rfl ?_
            refine wb_gfi 158 rfl (wy_pr rfl) wt_158 wf_5_7 (v := 1) (((ff20 158 7 (by omega) (by unfold wG; omega) (by omega) (by omega) (by omega)).trans (((fz17 158 7 (by omega)).trans ((w_up_slot (by decide)).trans (l7)))))) (fun r30 => ?_)
            refine wa_ifeq (w_rg0 (by omega) (by omega)) ⟨_, rfl⟩ (fun c31 => ?_) (fun c31 => ?_)
            · skip
              exact absurd c31 (by omega)
            · skip
              refine wa_aload_n (n := 0) rfl ?_
              refine wb_gfi 158 rfl (wy_pr rfl) wt_158 wf_5_7 (v := 1) (((ff20 158 7 (by omega) (by unfold wG; omega) (by omega) (by omega) (by omega)).trans (((fz17 158 7 (by omega)).trans ((w_up_slot (by decide)).trans (l7)))))) (fun r32 => ?_)
              refine wa_iconst ?_
              refine wa_icmpne (w_rg0 (by omega) (by omega)) (w_rg0 (by omega) (by omega)) ⟨_, rfl⟩ (fun c33 => ?_) (fun c33 => ?_)
              · skip
                exact absurd c33 (by omega)
              · skip
                refine wa_fall ⟨_, rfl⟩ ?_
                refine wa_aload_n (n := 0) rfl ?_
                refine wa_iload_n (n := 1) rfl ?_
                refine wa_iload_n (n := 2) rfl ?_
                have f34 : ∀ (j : Nat) (x : Int), j < 4000000 → j ≠ wG → ¬ lahC 73 120 121 fo j x → Sq20 j x = S j x := fun j x j0 j1 hj => (((ff20 j x j0 j1 (lah_e hj).1 (lah_e hj).2.1 (lah_e hj).2.2).trans ((((fz17 j x (lah_c hj)).trans ((w_up_no (lah_n (j2 := 49) (x2 := fo) hj (⟨by omega, by omega, rfl⟩)))))))))
                have hc34 := cCh_ag hcq20 (Z := Sq20) (fun j x hj => rfl)
                have hC34 : w_CL Sq20 := lhC_73 hC hc34 hfo.1 f34
                have hN34 : hLn 73 74 nm wk W Sq20 := hLn_ag hN (fun j x hj => f34 j x (by omega) (by unfold wG; omega) (by unfold lahC lahA; omega))
                have hK34 : KC 87 97 93 114 115 74 73 T cs ms os Sq20 := KC_ag hK (f34 73 2 (by omega) (by unfold wG; omega) (by unfold lahC lahA; omega)) (f34 73 4 (by omega) (by unfold wG; omega) (by unfold lahC lahA; omega)) (fun j hj => funext (fun x => f34 j x (by omega) (by unfold wG; omega) (by unfold lahC lahA; omega)))
                have hW34 : wd_at Sq20 74 64 := wda_a9 hWh (fun j x j0 j1 => f34 j x (by omega) (by unfold wG; omega) (by unfold lahC lahA; omega))
                refine wa_cv 158 rfl (wy_pr rfl) wt_158 (M2 := fun _ => False) rfl at_XL_fieldOf ⟨_, rfl⟩ rfl rfl ⟨trivial, (Or.inr ⟨wy_pr rfl, fun q => q⟩), (Or.inr ⟨wy_pr rfl, fun q => q⟩), trivial, trivial, trivial⟩ trivial (fun _ _ q => False.elim q) (wJ_mono (fof_73 (S := Sq20) (k := k) (st := am) (d := d) hC34 hK34 hw hX gg20 hN34 hk ham) (fun o Z hz => (⟨hz.1, hz.2.1, hz.2.2.1, by rw [hfd]; exact hz.2.2.2⟩ : sc_ag 159 Sq20 Z ∧ gI Z ∧ rmR Sq20 Z ∧ o = .inl (some (0, fd))))) (fun oq34 Sq34 hp35 q34 => ?_)
                rcases q34 with ⟨fz34, gz34, rz34, rfl⟩
                show wJ _ _ _ _ _ _ _ _ _ _
                refine wa_istore (n := 4) rfl ?_
                refine wa_fall ⟨_, rfl⟩ ?_
                refine wa_iload (n := 4) rfl ?_
                refine wa_ifge (w_rg0 (by omega) (by omega)) ⟨_, rfl⟩ (fun c36 => ?_) (fun c36 => ?_)
                · skip
                  refine wa_aload_n (n := 0) rfl ?_
                  refine wb_gf4 158 rfl (wy_pr rfl) wt_158 wf_5_3 (v := 47) wl_158_3 ?_
                  refine wa_iconst ?_
                  refine wb_aald5 47 3 rfl rfl (wy_pr rfl) wt_47 (by rw [show _ = _ from (((fz34 47 (-1) (by omega)).trans (((ff20 47 (-1) (by omega) (by unfold wG; omega) (by omega) (by omega) (by omega)).trans (((fz17 47 (-1) (by omega)).trans ((w_up_slot (by decide)).trans ((cl_47 hC)))))))))]; omega) wl_47_3 ?_
                  refine wa_aload_n (n := 0) rfl ?_
                  refine wb_gfi 158 rfl (wy_pr rfl) wt_158 wf_5_14 (v := fo) (((fz34 158 14 (by omega)).trans (((ff20 158 14 (by omega) (by unfold wG; omega) (by omega) (by omega) (by omega)).trans (((fz17 158 14 (by omega)).trans ((w_up_slot (by decide)).trans (l14)))))))) (fun r37 => ?_)
                  refine wa_iload (n := 4) rfl ?_
                  refine wb_iast 51 rfl (wy_pr rfl) wt_51 (n := (S 48 (-1))) (((fz34 51 (-1) (by omega)).trans (((ff20 51 (-1) (by omega) (by unfold wG; omega) (by omega) (by omega) (by omega)).trans (((fz17 51 (-1) (by omega)).trans ((w_up_slot (by decide)).trans ((hl.2.2.1 3 (by decide)))))))))) (by omega) (by omega) ⟨(by omega), (by omega)⟩ ?_
                  refine wa_return rfl ?_
                  have fE : ∀ (j : Nat) (x : Int), j < 4000000 → j ≠ wG → ¬ lahM 73 120 121 215 fo j x → (w_up Sq34 51 fo fd) j x = S j x := fun j x j0 j1 hj => ((w_up_no (lah_m (j2 := 51) (x2 := fo) hj (Or.inl ⟨by omega, by omega, rfl⟩))).trans (((fz34 j x (lah_d hj)).trans ((((ff20 j x j0 j1 (lah_f hj).1 (lah_f hj).2.1 (lah_f hj).2.2).trans ((((fz17 j x (lah_d hj)).trans ((w_up_no (lah_m (j2 := 49) (x2 := fo) hj (Or.inl ⟨by omega, by omega, rfl⟩)))))))))))))
                  have hcE := cCh_ag hcq20 (Z := (w_up Sq34 51 fo fd)) (fun j x hj => ((w_up_no (by omega)).trans (fz34 j x (by omega))))
                  have hwh : (if (FA T cs ms os k am 1 (wnW [115, 101, 116] W)) = [] then fd else rv) = fd := by first | exact if_pos (hF0.mpr (by omega)) | exact if_neg (fun z => by have := hF0.mp z; omega)
                  have hen : (if (FA T cs ms os k am 1 (wnW [115, 101, 116] W)) = [] then hoN l k (if (FA T cs ms os k am 1 (wnW [115, 101, 116] W)) = [] then fd else rv) 0 0 at0 else hoN l k (if (FA T cs ms os k am 1 (wnW [115, 101, 116] W)) = [] then fd else rv) 1 (esV tl) at0) = hoN l k fd 0 0 at0 := by rw [hwh]; exact if_pos (hF0.mpr (by omega))
                  rw [hen, hwh]
                  refine ⟨rfl, fun _ => ⟨?_, ((w_up_slot (by first | decide | omega)).trans (((fz34 215 16 (by omega)).trans (((ff20 215 16 (by omega) (by unfold wG; omega) (by omega) (by omega) (by omega)).trans (((fz17 215 16 (by omega)).trans (w_up_slot (by first | decide | omega)))))))))⟩, fun z => absurd z (by omega), hcE, fE, (gI_up gz34 (by omega) (by omega) (by omega)), (rmR_up (rmR_tr (rmR_tr (rmR_tr (rmR_up hR (by omega) (by first | decide | omega)) rz17) rr20) rz34) (by omega) (by first | decide | omega))⟩
                  refine ⟨⟨(((w_up_slot (by first | decide | omega)).trans (((fz34 48 fo (by omega)).trans (((ff20 48 fo (by omega) (by unfold wG; omega) (by omega) (by omega) (by omega)).trans (((fz17 48 fo (by omega)).trans (w_up_slot (by first | decide | omega))))))))) : (w_up Sq34 51 fo fd) 48 fo = (S 48 fo)).trans b1, (((w_up_slot (by first | decide | omega)).trans (((fz34 49 fo (by omega)).trans (((ff20 49 fo (by omega) (by unfold wG; omega) (by omega) (by omega) (by omega)).trans (((fz17 49 fo (by omega)).trans (w_up_same _ _ _ _)))))))) : (w_up Sq34 51 fo fd) 49 fo = k), (((w_up_slot (by first | decide | omega)).trans (((fz34 50 fo (by omega)).trans (((ff20 50 fo (by omega) (by unfold wG; omega) (by omega) (by omega) (by omega)).trans (((fz17 50 fo (by omega)).trans (w_up_slot (by first | decide | omega))))))))) : (w_up Sq34 51 fo fd) 50 fo = (S 50 fo)).trans b3, ((w_up_same _ _ _ _) : (w_up Sq34 51 fo fd) 51 fo = fd), (((w_up_slot (by first | decide | omega)).trans (((fz34 52 fo (by omega)).trans (((ff20 52 fo (by omega) (by unfold wG; omega) (by omega) (by omega) (by omega)).trans (((fz17 52 fo (by omega)).trans (w_up_slot (by first | decide | omega))))))))) : (w_up Sq34 51 fo fd) 52 fo = (S 52 fo)).trans b5⟩, ((((w_up_slot (by first | decide | omega)).trans (((fz34 53 fo (by omega)).trans (((ff20 53 fo (by omega) (by unfold wG; omega) (by omega) (by omega) (by omega)).trans (((fz17 53 fo (by omega)).trans (w_up_slot (by first | decide | omega))))))))) : (w_up Sq34 51 fo fd) 53 fo = (S 53 fo)).trans b6).trans (if_neg (fun z => by have z1 := z.1; simp only [hoN] at z1; omega)).symm, ((((w_up_slot (by first | decide | omega)).trans (((fz34 54 fo (by omega)).trans (((ff20 54 fo (by omega) (by unfold wG; omega) (by omega) (by omega) (by omega)).trans (((fz17 54 fo (by omega)).trans (w_up_slot (by first | decide | omega))))))))) : (w_up Sq34 51 fo fd) 54 fo = (S 54 fo)).trans b7).trans (if_neg (fun z => by have z1 := z.1; simp only [hoN] at z1; omega)).symm, ?_, ?_⟩
                  · exact ((((w_up_slot (by first | decide | omega)).trans (((fz34 55 fo (by omega)).trans (((ff20 55 fo (by omega) (by unfold wG; omega) (by omega) (by omega) (by omega)).trans (((fz17 55 fo (by omega)).trans (w_up_slot (by first | decide | omega))))))))) : (w_up Sq34 51 fo fd) 55 fo = (S 55 fo)).trans b8).trans (if_neg (fun z => by rcases z.2 with y | y | y; exact absurd y (by first | decide | omega); exact absurd y (by first | decide | omega); exact absurd y.2 (by simp only [hoN]; decide))).symm
                  · exact ((((w_up_slot (by first | decide | omega)).trans (((fz34 56 fo (by omega)).trans (((ff20 56 fo (by omega) (by unfold wG; omega) (by omega) (by omega) (by omega)).trans (((fz17 56 fo (by omega)).trans (w_up_slot (by first | decide | omega))))))))) : (w_up Sq34 51 fo fd) 56 fo = (S 56 fo)).trans b9).trans (if_neg (fun z => by rcases z.2 with y | y | y; exact absurd y (by first | decide | omega); exact absurd y (by first | decide | omega); exact absurd y.2 (by simp only [hoN]; decide))).symm
                · skip
                  refine wa_aload_n (n := 0) rfl ?_
                  refine wb_gf5 158 rfl (wy_pr rfl) wt_158 wf_5_4 (v := 215) (((fz34 158 4 (by omega)).trans (((ff20 158 4 (by omega) (by unfold wG; omega) (by omega) (by omega) (by omega)).trans (((fz17 158 4 (by omega)).trans ((w_up_slot (by decide)).trans (l4)))))))) (fun r38 => ?_)
                  refine wa_iload (n := 4) rfl ?_
                  refine wa_iconst ?_
                  refine wa_icmpne (w_rg0 (by omega) (by omega)) (w_rg0 (by omega) (by omega)) ⟨_, rfl⟩ (fun c39 => ?_) (fun c39 => ?_)
                  · skip
                    refine wa_iload (n := 4) rfl ?_
                    refine wa_ineg ?_
                    refine wa_fall ⟨_, rfl⟩ ?_
                    refine wb_pfi 215 rfl (wy_pr rfl) wt_215 wf_8_16 (n := 16) rfl ⟨(by omega), (by omega)⟩ ?_
                    refine wa_fall ⟨_, rfl⟩ ?_
                    refine wa_aload_n (n := 0) rfl ?_
                    refine wb_gf4 158 rfl (wy_pr rfl) wt_158 wf_5_3 (v := 47) wl_158_3 ?_
                    refine wa_iconst ?_
                    refine wb_aald5 47 3 rfl rfl (wy_pr rfl) wt_47 (by rw [show _ = _ from ((w_up_slot (by decide)).trans (((fz34 47 (-1) (by omega)).trans (((ff20 47 (-1) (by omega) (by unfold wG; omega) (by omega) (by omega) (by omega)).trans (((fz17 47 (-1) (by omega)).trans ((w_up_slot (by decide)).trans ((cl_47 hC))))))))))]; omega) wl_47_3 ?_
                    refine wa_aload_n (n := 0) rfl ?_
                    refine wb_gfi 158 rfl (wy_pr rfl) wt_158 wf_5_14 (v := fo) ((w_up_slot (by decide)).trans (((fz34 158 14 (by omega)).trans (((ff20 158 14 (by omega) (by unfold wG; omega) (by omega) (by omega) (by omega)).trans (((fz17 158 14 (by omega)).trans ((w_up_slot (by decide)).trans (l14))))))))) (fun r40 => ?_)
                    refine wa_iload (n := 4) rfl ?_
                    refine wb_iast 51 rfl (wy_pr rfl) wt_51 (n := (S 48 (-1))) ((w_up_slot (by decide)).trans (((fz34 51 (-1) (by omega)).trans (((ff20 51 (-1) (by omega) (by unfold wG; omega) (by omega) (by omega) (by omega)).trans (((fz17 51 (-1) (by omega)).trans ((w_up_slot (by decide)).trans ((hl.2.2.1 3 (by decide))))))))))) (by omega) (by omega) ⟨(by omega), (by omega)⟩ ?_
                    refine wa_return rfl ?_
                    have fE : ∀ (j : Nat) (x : Int), j < 4000000 → j ≠ wG → ¬ lahM 73 120 121 215 fo j x → (w_up (w_up Sq34 215 16 (-fd)) 51 fo fd) j x = S j x := fun j x j0 j1 hj => ((w_up_no (lah_m (j2 := 51) (x2 := fo) hj (Or.inl ⟨by omega, by omega, rfl⟩))).trans ((w_up_no (lah_m (j2 := 215) (x2 := 16) hj (Or.inr ⟨rfl, rfl⟩))).trans (((fz34 j x (lah_d hj)).trans ((((ff20 j x j0 j1 (lah_f hj).1 (lah_f hj).2.1 (lah_f hj).2.2).trans ((((fz17 j x (lah_d hj)).trans ((w_up_no (lah_m (j2 := 49) (x2 := fo) hj (Or.inl ⟨by omega, by omega, rfl⟩))))))))))))))
                    have hcE := cCh_ag hcq20 (Z := (w_up (w_up Sq34 215 16 (-fd)) 51 fo fd)) (fun j x hj => ((w_up_no (by omega)).trans ((w_up_no (by omega)).trans (fz34 j x (by omega)))))
                    have hwh : (if (FA T cs ms os k am 1 (wnW [115, 101, 116] W)) = [] then fd else rv) = fd := by first | exact if_pos (hF0.mpr (by omega)) | exact if_neg (fun z => by have := hF0.mp z; omega)
                    have hen : (if (FA T cs ms os k am 1 (wnW [115, 101, 116] W)) = [] then hoN l k (if (FA T cs ms os k am 1 (wnW [115, 101, 116] W)) = [] then fd else rv) 0 0 at0 else hoN l k (if (FA T cs ms os k am 1 (wnW [115, 101, 116] W)) = [] then fd else rv) 1 (esV tl) at0) = hoN l k fd 0 0 at0 := by rw [hwh]; exact if_pos (hF0.mpr (by omega))
                    rw [hen, hwh]
                    refine ⟨rfl, fun z => absurd z (by omega), fun _ => ?_, hcE, fE, (gI_up (gI_up gz34 (by omega) (by omega) (by omega)) (by omega) (by omega) (by omega)), (rmR_up (rmR_up (rmR_tr (rmR_tr (rmR_tr (rmR_up hR (by omega) (by first | decide | omega)) rz17) rr20) rz34) (by omega) (by first | decide | omega)) (by omega) (by first | decide | omega))⟩
                    refine (((w_up_slot (by first | decide | omega)).trans (w_up_same _ _ _ _)) : (w_up (w_up Sq34 215 16 (-fd)) 51 fo fd) 215 16 = (-fd)).trans ?_
                    first | omega | (rw [if_pos (by omega)]) | (rw [if_neg (by omega)])
                  · skip
                    refine wa_iconst ?_
                    refine wa_goto ⟨_, rfl⟩ ?_
                    refine wb_pfi 215 rfl (wy_pr rfl) wt_215 wf_8_16 (n := 16) rfl ⟨(by omega), (by omega)⟩ ?_
                    refine wa_fall ⟨_, rfl⟩ ?_
                    refine wa_aload_n (n := 0) rfl ?_
                    refine wb_gf4 158 rfl (wy_pr rfl) wt_158 wf_5_3 (v := 47) wl_158_3 ?_
                    refine wa_iconst ?_
                    refine wb_aald5 47 3 rfl rfl (wy_pr rfl) wt_47 (by rw [show _ = _ from ((w_up_slot (by decide)).trans (((fz34 47 (-1) (by omega)).trans (((ff20 47 (-1) (by omega) (by unfold wG; omega) (by omega) (by omega) (by omega)).trans (((fz17 47 (-1) (by omega)).trans ((w_up_slot (by decide)).trans ((cl_47 hC))))))))))]; omega) wl_47_3 ?_
                    refine wa_aload_n (n := 0) rfl ?_
                    refine wb_gfi 158 rfl (wy_pr rfl) wt_158 wf_5_14 (v := fo) ((w_up_slot (by decide)).trans (((fz34 158 14 (by omega)).trans (((ff20 158 14 (by omega) (by unfold wG; omega) (by omega) (by omega) (by omega)).trans (((fz17 158 14 (by omega)).trans ((w_up_slot (by decide)).trans (l14))))))))) (fun r41 => ?_)
                    refine wa_iload (n := 4) rfl ?_
                    refine wb_iast 51 rfl (wy_pr rfl) wt_51 (n := (S 48 (-1))) ((w_up_slot (by decide)).trans (((fz34 51 (-1) (by omega)).trans (((ff20 51 (-1) (by omega) (by unfold wG; omega) (by omega) (by omega) (by omega)).trans (((fz17 51 (-1) (by omega)).trans ((w_up_slot (by decide)).trans ((hl.2.2.1 3 (by decide))))))))))) (by omega) (by omega) ⟨(by omega), (by omega)⟩ ?_
                    refine wa_return rfl ?_
                    have fE : ∀ (j : Nat) (x : Int), j < 4000000 → j ≠ wG → ¬ lahM 73 120 121 215 fo j x → (w_up (w_up Sq34 215 16 4) 51 fo fd) j x = S j x := fun j x j0 j1 hj => ((w_up_no (lah_m (j2 := 51) (x2 := fo) hj (Or.inl ⟨by omega, by omega, rfl⟩))).trans ((w_up_no (lah_m (j2 := 215) (x2 := 16) hj (Or.inr ⟨rfl, rfl⟩))).trans (((fz34 j x (lah_d hj)).trans ((((ff20 j x j0 j1 (lah_f hj).1 (lah_f hj).2.1 (lah_f hj).2.2).trans ((((fz17 j x (lah_d hj)).trans ((w_up_no (lah_m (j2 := 49) (x2 := fo) hj (Or.inl ⟨by omega, by omega, rfl⟩))))))))))))))
                    have hcE := cCh_ag hcq20 (Z := (w_up (w_up Sq34 215 16 4) 51 fo fd)) (fun j x hj => ((w_up_no (by omega)).trans ((w_up_no (by omega)).trans (fz34 j x (by omega)))))
                    have hwh : (if (FA T cs ms os k am 1 (wnW [115, 101, 116] W)) = [] then fd else rv) = fd := by first | exact if_pos (hF0.mpr (by omega)) | exact if_neg (fun z => by have := hF0.mp z; omega)
                    have hen : (if (FA T cs ms os k am 1 (wnW [115, 101, 116] W)) = [] then hoN l k (if (FA T cs ms os k am 1 (wnW [115, 101, 116] W)) = [] then fd else rv) 0 0 at0 else hoN l k (if (FA T cs ms os k am 1 (wnW [115, 101, 116] W)) = [] then fd else rv) 1 (esV tl) at0) = hoN l k fd 0 0 at0 := by rw [hwh]; exact if_pos (hF0.mpr (by omega))
                    rw [hen, hwh]
                    refine ⟨rfl, fun z => absurd z (by omega), fun _ => ?_, hcE, fE, (gI_up (gI_up gz34 (by omega) (by omega) (by omega)) (by omega) (by omega) (by omega)), (rmR_up (rmR_up (rmR_tr (rmR_tr (rmR_tr (rmR_up hR (by omega) (by first | decide | omega)) rz17) rr20) rz34) (by omega) (by first | decide | omega)) (by omega) (by first | decide | omega))⟩
                    refine (((w_up_slot (by first | decide | omega)).trans (w_up_same _ _ _ _)) : (w_up (w_up Sq34 215 16 4) 51 fo fd) 215 16 = 4).trans ?_
                    first | omega | (rw [if_pos (by omega)]) | (rw [if_neg (by omega)])
        · skip
          refine wa_aload_n (n := 0) rfl ?_
          refine wb_gf4 158 rfl (wy_pr rfl) wt_158 wf_5_3 (v := 47) wl_158_3 ?_
          refine wa_bipush (w_rg2 (by omega) (by omega)) ?_
          refine wb_aald5 47 7 rfl rfl (wy_pr rfl) wt_47 (by rw [show _ = _ from (((ff20 47 (-1) (by omega) (by unfold wG; omega) (by omega) (by omega) (by omega)).trans (((fz17 47 (-1) (by omega)).trans ((w_up_slot (by decide)).trans ((cl_47 hC)))))))]; omega) wl_47_7 ?_
          refine wa_aload_n (n := 0) rfl ?_
          refine wb_gfi 158 rfl (wy_pr rfl) wt_158 wf_5_14 (v := fo) (((ff20 158 14 (by omega) (by unfold wG; omega) (by omega) (by omega) (by omega)).trans (((fz17 158 14 (by omega)).trans ((w_up_slot (by decide)).trans (l14)))))) (fun r42 => ?_)
          refine wa_aload_n (n := 0) rfl ?_
          refine wb_gfl 158 rfl (wy_pr rfl) wt_158 wf_5_13 (v := (esV tl)) (((ff20 158 13 (by omega) (by unfold wG; omega) (by omega) (by omega) (by omega)).trans (((fz17 158 13 (by omega)).trans ((w_up_slot (by decide)).trans (l13)))))) (fun r43 => ?_)
          refine wa_l2i ?_
          refine wb_iast 55 rfl (wy_pr rfl) wt_55 (n := (S 48 (-1))) (((ff20 55 (-1) (by omega) (by unfold wG; omega) (by omega) (by omega) (by omega)).trans (((fz17 55 (-1) (by omega)).trans ((w_up_slot (by decide)).trans ((hl.2.2.1 7 (by decide)))))))) (by omega) (by omega) ⟨(by omega), (by omega)⟩ ?_
          refine wa_aload_n (n := 0) rfl ?_
          refine wb_gf4 158 rfl (wy_pr rfl) wt_158 wf_5_3 (v := 47) wl_158_3 ?_
          refine wa_bipush (w_rg2 (by omega) (by omega)) ?_
          refine wb_aald5 47 8 rfl rfl (wy_pr rfl) wt_47 (by rw [show _ = _ from ((w_up_slot (by decide)).trans (((ff20 47 (-1) (by omega) (by unfold wG; omega) (by omega) (by omega) (by omega)).trans (((fz17 47 (-1) (by omega)).trans ((w_up_slot (by decide)).trans ((cl_47 hC))))))))]; omega) wl_47_8 ?_
          refine wa_aload_n (n := 0) rfl ?_
          refine wb_gfi 158 rfl (wy_pr rfl) wt_158 wf_5_14 (v := fo) ((w_up_slot (by decide)).trans (((ff20 158 14 (by omega) (by unfold wG; omega) (by omega) (by omega) (by omega)).trans (((fz17 158 14 (by omega)).trans ((w_up_slot (by decide)).trans (l14))))))) (fun r44 => ?_)
          refine wa_aload_n (n := 0) rfl ?_
          refine wb_gfl 158 rfl (wy_pr rfl) wt_158 wf_5_13 (v := (esV tl)) ((w_up_slot (by decide)).trans (((ff20 158 13 (by omega) (by unfold wG; omega) (by omega) (by omega) (by omega)).trans (((fz17 158 13 (by omega)).trans ((w_up_slot (by decide)).trans (l13))))))) (fun r45 => ?_)
          refine wa_bipush (w_rg2 (by omega) (by omega)) ?_
          refine wa_lushr ?_
          refine wa_l2i ?_
          refine wb_iast 56 rfl (wy_pr rfl) wt_56 (n := (S 48 (-1))) ((w_up_slot (by decide)).trans (((ff20 56 (-1) (by omega) (by unfold wG; omega) (by omega) (by omega) (by omega)).trans (((fz17 56 (-1) (by omega)).trans ((w_up_slot (by decide)).trans ((hl.2.2.1 8 (by decide))))))))) (by omega) (by omega) ⟨(by omega), (by omega)⟩ ?_
          refine wa_fall ⟨_, rfl⟩ ?_
          refine wa_iload (n := 4) rfl ?_
          refine wa_iconst ?_
          refine wa_icmpne (w_rg0 (by omega) (by omega)) (w_rg0 (by omega) (by omega)) ⟨_, rfl⟩ (fun c46 => ?_) (fun c46 => ?_)
          · skip
            refine wa_iload (n := 4) rfl ?_
            refine wa_ifge (w_rg0 (by omega) (by omega)) ⟨_, rfl⟩ (fun c47 => ?_) (fun c47 => ?_)
            · skip
              refine wa_aload_n (n := 0) rfl ?_
              refine wb_gf4 158 rfl (wy_pr rfl) wt_158 wf_5_3 (v := 47) wl_158_3 ?_
              refine wa_iconst ?_
              refine wb_aald5 47 3 rfl rfl (wy_pr rfl) wt_47 (by rw [show _ = _ from ((w_up_slot (by decide)).trans ((w_up_slot (by decide)).trans (((ff20 47 (-1) (by omega) (by unfold wG; omega) (by omega) (by omega) (by omega)).trans (((fz17 47 (-1) (by omega)).trans ((w_up_slot (by decide)).trans ((cl_47 hC)))))))))]; omega) wl_47_3 ?_
              refine wa_aload_n (n := 0) rfl ?_
              refine wb_gfi 158 rfl (wy_pr rfl) wt_158 wf_5_14 (v := fo) ((w_up_slot (by decide)).trans ((w_up_slot (by decide)).trans (((ff20 158 14 (by omega) (by unfold wG; omega) (by omega) (by omega) (by omega)).trans (((fz17 158 14 (by omega)).trans ((w_up_slot (by decide)).trans (l14)))))))) (fun r48 => ?_)
              refine wa_iload (n := 4) rfl ?_
              refine wb_iast 51 rfl (wy_pr rfl) wt_51 (n := (S 48 (-1))) ((w_up_slot (by decide)).trans ((w_up_slot (by decide)).trans (((ff20 51 (-1) (by omega) (by unfold wG; omega) (by omega) (by omega) (by omega)).trans (((fz17 51 (-1) (by omega)).trans ((w_up_slot (by decide)).trans ((hl.2.2.1 3 (by decide)))))))))) (by omega) (by omega) ⟨(by omega), (by omega)⟩ ?_
              refine wa_return rfl ?_
              have fE : ∀ (j : Nat) (x : Int), j < 4000000 → j ≠ wG → ¬ lahM 73 120 121 215 fo j x → (w_up (w_up (w_up Sq20 55 fo (wb_l2i (esV tl))) 56 fo (wb_l2i (wb_lushr (esV tl) 32))) 51 fo rv) j x = S j x := fun j x j0 j1 hj => ((w_up_no (lah_m (j2 := 51) (x2 := fo) hj (Or.inl ⟨by omega, by omega, rfl⟩))).trans ((w_up_no (lah_m (j2 := 56) (x2 := fo) hj (Or.inl ⟨by omega, by omega, rfl⟩))).trans ((w_up_no (lah_m (j2 := 55) (x2 := fo) hj (Or.inl ⟨by omega, by omega, rfl⟩))).trans (((ff20 j x j0 j1 (lah_f hj).1 (lah_f hj).2.1 (lah_f hj).2.2).trans ((((fz17 j x (lah_d hj)).trans ((w_up_no (lah_m (j2 := 49) (x2 := fo) hj (Or.inl ⟨by omega, by omega, rfl⟩))))))))))))
              have hcE := cCh_ag hcq20 (Z := (w_up (w_up (w_up Sq20 55 fo (wb_l2i (esV tl))) 56 fo (wb_l2i (wb_lushr (esV tl) 32))) 51 fo rv)) (fun j x hj => ((w_up_no (by omega)).trans ((w_up_no (by omega)).trans (w_up_no (by omega)))))
              have hwh : (if (FA T cs ms os k am 1 (wnW [115, 101, 116] W)) = [] then fd else rv) = rv := by first | exact if_pos (hF0.mpr (by omega)) | exact if_neg (fun z => by have := hF0.mp z; omega)
              have hen : (if (FA T cs ms os k am 1 (wnW [115, 101, 116] W)) = [] then hoN l k (if (FA T cs ms os k am 1 (wnW [115, 101, 116] W)) = [] then fd else rv) 0 0 at0 else hoN l k (if (FA T cs ms os k am 1 (wnW [115, 101, 116] W)) = [] then fd else rv) 1 (esV tl) at0) = hoN l k rv 1 (esV tl) at0 := by rw [hwh]; exact if_neg (fun z => by have := hF0.mp z; omega)
              rw [hen, hwh]
              refine ⟨rfl, fun _ => ⟨?_, ((w_up_slot (by first | decide | omega)).trans ((w_up_slot (by first | decide | omega)).trans ((w_up_slot (by first | decide | omega)).trans (((ff20 215 16 (by omega) (by unfold wG; omega) (by omega) (by omega) (by omega)).trans (((fz17 215 16 (by omega)).trans (w_up_slot (by first | decide | omega)))))))))⟩, fun z => absurd z (by omega), hcE, fE, (gI_up (gI_up (gI_up gg20 (by omega) (by omega) (by omega)) (by omega) (by omega) (by omega)) (by omega) (by omega) (by omega)), (rmR_up (rmR_up (rmR_up (rmR_tr (rmR_tr (rmR_up hR (by omega) (by first | decide | omega)) rz17) rr20) (by omega) (by first | decide | omega)) (by omega) (by first | decide | omega)) (by omega) (by first | decide | omega))⟩
              refine ⟨⟨(((w_up_slot (by first | decide | omega)).trans ((w_up_slot (by first | decide | omega)).trans ((w_up_slot (by first | decide | omega)).trans (((ff20 48 fo (by omega) (by unfold wG; omega) (by omega) (by omega) (by omega)).trans (((fz17 48 fo (by omega)).trans (w_up_slot (by first | decide | omega))))))))) : (w_up (w_up (w_up Sq20 55 fo (wb_l2i (esV tl))) 56 fo (wb_l2i (wb_lushr (esV tl) 32))) 51 fo rv) 48 fo = (S 48 fo)).trans b1, (((w_up_slot (by first | decide | omega)).trans ((w_up_slot (by first | decide | omega)).trans ((w_up_slot (by first | decide | omega)).trans (((ff20 49 fo (by omega) (by unfold wG; omega) (by omega) (by omega) (by omega)).trans (((fz17 49 fo (by omega)).trans (w_up_same _ _ _ _)))))))) : (w_up (w_up (w_up Sq20 55 fo (wb_l2i (esV tl))) 56 fo (wb_l2i (wb_lushr (esV tl) 32))) 51 fo rv) 49 fo = k), (((w_up_slot (by first | decide | omega)).trans ((w_up_slot (by first | decide | omega)).trans ((w_up_slot (by first | decide | omega)).trans (((ff20 50 fo (by omega) (by unfold wG; omega) (by omega) (by omega) (by omega)).trans (((fz17 50 fo (by omega)).trans (w_up_slot (by first | decide | omega))))))))) : (w_up (w_up (w_up Sq20 55 fo (wb_l2i (esV tl))) 56 fo (wb_l2i (wb_lushr (esV tl) 32))) 51 fo rv) 50 fo = (S 50 fo)).trans b3, ((w_up_same _ _ _ _) : (w_up (w_up (w_up Sq20 55 fo (wb_l2i (esV tl))) 56 fo (wb_l2i (wb_lushr (esV tl) 32))) 51 fo rv) 51 fo = rv), (((w_up_slot (by first | decide | omega)).trans ((w_up_slot (by first | decide | omega)).trans ((w_up_slot (by first | decide | omega)).trans (((ff20 52 fo (by omega) (by unfold wG; omega) (by omega) (by omega) (by omega)).trans (((fz17 52 fo (by omega)).trans (w_up_slot (by first | decide | omega))))))))) : (w_up (w_up (w_up Sq20 55 fo (wb_l2i (esV tl))) 56 fo (wb_l2i (wb_lushr (esV tl) 32))) 51 fo rv) 52 fo = (S 52 fo)).trans b5⟩, ((((w_up_slot (by first | decide | omega)).trans ((w_up_slot (by first | decide | omega)).trans ((w_up_slot (by first | decide | omega)).trans (((ff20 53 fo (by omega) (by unfold wG; omega) (by omega) (by omega) (by omega)).trans (((fz17 53 fo (by omega)).trans (w_up_slot (by first | decide | omega))))))))) : (w_up (w_up (w_up Sq20 55 fo (wb_l2i (esV tl))) 56 fo (wb_l2i (wb_lushr (esV tl) 32))) 51 fo rv) 53 fo = (S 53 fo)).trans b6).trans (if_neg (fun z => by have z1 := z.1; simp only [hoN] at z1; omega)).symm, ((((w_up_slot (by first | decide | omega)).trans ((w_up_slot (by first | decide | omega)).trans ((w_up_slot (by first | decide | omega)).trans (((ff20 54 fo (by omega) (by unfold wG; omega) (by omega) (by omega) (by omega)).trans (((fz17 54 fo (by omega)).trans (w_up_slot (by first | decide | omega))))))))) : (w_up (w_up (w_up Sq20 55 fo (wb_l2i (esV tl))) 56 fo (wb_l2i (wb_lushr (esV tl) 32))) 51 fo rv) 54 fo = (S 54 fo)).trans b7).trans (if_neg (fun z => by have z1 := z.1; simp only [hoN] at z1; omega)).symm, ?_, ?_⟩
              · exact (((w_up_slot (by first | decide | omega)).trans ((w_up_slot (by first | decide | omega)).trans (w_up_same _ _ _ _))) : (w_up (w_up (w_up Sq20 55 fo (wb_l2i (esV tl))) 56 fo (wb_l2i (wb_lushr (esV tl) 32))) 51 fo rv) 55 fo = (wb_l2i (esV tl))).trans (if_pos ⟨hll, by exact Or.inr (Or.inr ⟨rfl, rfl⟩)⟩).symm
              · exact (((w_up_slot (by first | decide | omega)).trans (w_up_same _ _ _ _)) : (w_up (w_up (w_up Sq20 55 fo (wb_l2i (esV tl))) 56 fo (wb_l2i (wb_lushr (esV tl) 32))) 51 fo rv) 56 fo = (wb_l2i (wb_lushr (esV tl) 32))).trans (if_pos ⟨hll, by exact Or.inr (Or.inr ⟨rfl, rfl⟩)⟩).symm
            · skip
              exact absurd c47 (by omega)
          · skip
            exact absurd c46 (by omega)
  · skip
    exact absurd c14 (by omega)
set_option maxHeartbeats 4000000 in
theorem lam_73_215 {k am l nm wk nms fo at0 wo mo : Int} {W tl : List Int} {CH : List aQ} (hC : w_CL S) (hK : KC 87 97 93 114 115 74 73 T cs ms os S) (hw : wHo cs ms os) (hX : w_X xs) (hI : gI S) (hN : hLn 73 74 nm wk W S) (h72 : S 72 1 = 73) (hc : cCh 73 121 120 74 T cs ms os CH wo mo S) (hWh : wd_at S 74 64) (hl : cSl S) (l4 : S 158 4 = 215) (l7 : S 158 7 = 5) (l12 : S 158 12 = (tl.length : Int)) (l13 : S 158 13 = esV tl) (htl : tl.length ≤ 8) (hes : esOk tl) (hty : ∀ c ∈ tl, c < 9 + (cs.length : Int)) (hwo : wo < 10000000) (l14 : S 158 14 = fo) (hfo : 0 ≤ fo ∧ fo < S 48 (-1)) (hbl : blE l fo S) (hll : l = 1 ∨ l = 2) (hk : 0 ≤ k ∧ k < (cs.length : Int)) (ham : am = 0 ∨ am = 1) : wJ (pe_GA xs) wY0 (mS [120, 121, 122, 123, 124]) (d + 6) t_XL_lookAtHost ((pe_at t_XL_lookAtHost.bl 0).getD (0, [])).2 [(0, (2, 158)), (1, (0, k)), (2, (0, am))] [] S (lhQ 73 120 121 74 215 T cs ms os (chN CH wo mo (k, am, 0, (wnW ([] : List Int) W), tl) (FA T cs ms os k am 0 (wnW ([] : List Int) W))).1 (chN CH wo mo (k, am, 0, (wnW ([] : List Int) W), tl) (FA T cs ms os k am 0 (wnW ([] : List Int) W))).2 mo 5 nms fo (rvA T cs ms os (k, am, 0, (wnW ([] : List Int) W), tl)) (hoN l k (rvA T cs ms os (k, am, 0, (wnW ([] : List Int) W), tl)) (tl.length : Int) (esV tl) at0) S) := by
  have hR := rmR_rfl S
  have h48 := hl.2.2.2
  have hn := KC_n hK
  have hn2 := hn.2.2
  have h400 := hw.1
  obtain ⟨⟨b1, b2, b3, b4, b5⟩, b6, b7, b8, b9⟩ := hbl
  have hear : 0 ≤ esV tl ∧ esV tl < 72057594037927936 := by have z := esV_rg tl hes; have z2 := p7_le (n := tl.length) htl; omega
  have hlo := wb_l2i_rg (esV tl)
  have hhi := wb_l2i_rg (wb_lushr (esV tl) 32)
  obtain ⟨rv, hrv⟩ : ∃ r : Int, r = (rvA T cs ms os (k, am, 0, (wnW ([] : List Int) W), tl)) := ⟨_, rfl⟩
  have hrr := rvA_rg (T := T) (q := (k, am, 0, (wnW ([] : List Int) W), tl)) hw hk
  rw [← hrv] at hrr ⊢
  refine wa_aload_n (n := 0) rfl ?_
  refine wb_gf4 158 rfl (wy_pr rfl) wt_158 wf_5_0 (v := 72) wl_158_0 ?_
  refine wb_gf5 72 rfl (wy_pr rfl) wt_72 wf_2_1 (v := 73) (h72) (fun r11 => ?_)
  refine wa_astore_n (n := 3) rfl ?_
  refine wa_aload_n (n := 0) rfl ?_
  refine wb_gf4 158 rfl (wy_pr rfl) wt_158 wf_5_3 (v := 47) wl_158_3 ?_
  refine wa_iconst ?_
  refine wb_aald5 47 1 rfl rfl (wy_pr rfl) wt_47 (by rw [show _ = _ from ((cl_47 hC))]; omega) wl_47_1 ?_
  refine wa_aload_n (n := 0) rfl ?_
  refine wb_gfi 158 rfl (wy_pr rfl) wt_158 wf_5_14 (v := fo) (l14) (fun r12 => ?_)
  refine wa_iload_n (n := 1) rfl ?_
  refine wb_iast 49 rfl (wy_pr rfl) wt_49 (n := (S 48 (-1))) ((hl.2.2.1 1 (by decide))) (by omega) (by omega) ⟨(by omega), (by omega)⟩ ?_
  refine wa_aload_n (n := 0) rfl ?_
  refine wb_gfi 158 rfl (wy_pr rfl) wt_158 wf_5_7 (v := 5) ((w_up_slot (by decide)).trans (l7)) (fun r13 => ?_)
  refine wa_ifne (w_rg0 (by omega) (by omega)) ⟨_, rfl⟩ (fun c14 => ?_) (fun c14 => ?_)
  · skip
    refine wa_aload_n (n := 0) rfl ?_
    refine wb_gfi 158 rfl (wy_pr rfl) wt_158 wf_5_7 (v := 5) ((w_up_slot (by decide)).trans (l7)) (fun r15 => ?_)
    refine wa_iconst ?_
    refine wa_icmpne (w_rg0 (by omega) (by omega)) (w_rg0 (by omega) (by omega)) ⟨_, rfl⟩ (fun c16 => ?_) (fun c16 => ?_)
    · skip
      refine wa_aload_n (n := 0) rfl ?_
      refine wb_gfi 158 rfl (wy_pr rfl) wt_158 wf_5_7 (v := 5) ((w_up_slot (by decide)).trans (l7)) (fun r17 => ?_)
      refine wa_iconst ?_
      refine wa_icmpne (w_rg0 (by omega) (by omega)) (w_rg0 (by omega) (by omega)) ⟨_, rfl⟩ (fun c18 => ?_) (fun c18 => ?_)
      · skip
        exact absurd c18 (by omega)
      · skip
        refine wa_aload_n (n := 3) rfl ?_
        refine wa_iload_n (n := 1) rfl ?_
        refine wa_iload_n (n := 2) rfl ?_
        refine wa_aload_n (n := 0) rfl ?_
        refine wa_ks ?_
        have f19 : ∀ (j : Nat) (x : Int), j < 4000000 → j ≠ wG → ¬ lahC 73 120 121 fo j x → (w_up S 49 fo k) j x = S j x := fun j x j0 j1 hj => (w_up_no (lah_n (j2 := 49) (x2 := fo) hj (⟨by omega, by omega, rfl⟩)))
        have hc19 : cCh 73 121 120 74 T cs ms os CH wo mo (w_up S 49 fo k) := cCh_ag hc (fun j x hj => (w_up_no (by omega)))
        have hC19 : w_CL (w_up S 49 fo k) := lhC_73 hC hc19 hfo.1 f19
        have hN19 : hLn 73 74 nm wk W (w_up S 49 fo k) := hLn_ag hN (fun j x hj => f19 j x (by omega) (by unfold wG; omega) (by unfold lahC lahA; omega))
        have hK19 : KC 87 97 93 114 115 74 73 T cs ms os (w_up S 49 fo k) := KC_ag hK (f19 73 2 (by omega) (by unfold wG; omega) (by unfold lahC lahA; omega)) (f19 73 4 (by omega) (by unfold wG; omega) (by unfold lahC lahA; omega)) (fun j hj => funext (fun x => f19 j x (by omega) (by unfold wG; omega) (by unfold lahC lahA; omega)))
        have hW19 : wd_at (w_up S 49 fo k) 74 64 := wda_a9 hWh (fun j x j0 j1 => f19 j x (by omega) (by unfold wG; omega) (by unfold lahC lahA; omega))
        refine wa_cv 158 rfl (wy_pr rfl) wt_158 (M2 := fun _ => False) rfl at_XL_wordBehind ⟨_, rfl⟩ rfl rfl ⟨(Or.inr ⟨wy_pr rfl, fun q => q⟩), (Or.inr ⟨wy_pr rfl, fun q => q⟩), trivial, trivial, trivial⟩ ⟨trivial, trivial, (Or.inr ⟨wy_pr rfl, fun q => q⟩), trivial⟩ (fun _ _ q => False.elim q) (wb53_73 (S := (w_up S 49 fo k)) hX hC19 (gI_up hI (by omega) (by omega) (by omega)) hN19.1.1 hN19.1.2 hN19.2.1 hN19.2.2.1.1 hN19.2.2.1.2 hN19.2.2.2.1.1 hN19.2.2.2.1.2.1 hN19.2.2.2.1.2.2 hN19.2.2.2.2.1.1 hN19.2.2.2.2.1.2 hN19.2.2.2.2.2.1) (fun oq19 Sq19 hp20 q19 => ?_)
        rcases q19 with ⟨fz19, gz19, rz19, wd, rfl, hv19⟩
        show wJ _ _ _ _ _ _ _ _ _ _
        have hvr19 := hwW_rg hv19
        have h7_19 : (w_up S 49 fo k) 74 7 ≤ 1024 := hN19.2.2.2.2.2.2
        refine wa_iconst ?_
        refine wa_aload_n (n := 0) rfl ?_
        refine wb_gfl 158 rfl (wy_pr rfl) wt_158 wf_5_13 (v := (esV tl)) (((fz19 158 13 (by omega)).trans ((w_up_slot (by decide)).trans (l13)))) (fun r21 => ?_)
        refine wa_aload_n (n := 0) rfl ?_
        refine wb_gfi 158 rfl (wy_pr rfl) wt_158 wf_5_12 (v := (tl.length : Int)) (((fz19 158 12 (by omega)).trans ((w_up_slot (by decide)).trans (l12)))) (fun r22 => ?_)
        have f23 : ∀ (j : Nat) (x : Int), j < 4000000 → j ≠ wG → ¬ lahC 73 120 121 fo j x → Sq19 j x = S j x := fun j x j0 j1 hj => (((fz19 j x (lah_c hj)).trans ((w_up_no (lah_n (j2 := 49) (x2 := fo) hj (⟨by omega, by omega, rfl⟩))))))
        have hc23 : cCh 73 121 120 74 T cs ms os CH wo mo Sq19 := cCh_ag hc (fun j x hj => ((fz19 j x (by omega)).trans (w_up_no (by omega))))
        have hC23 : w_CL Sq19 := lhC_73 hC hc23 hfo.1 f23
        have hN23 : hLn 73 74 nm wk W Sq19 := hLn_ag hN (fun j x hj => f23 j x (by omega) (by unfold wG; omega) (by unfold lahC lahA; omega))
        have hK23 : KC 87 97 93 114 115 74 73 T cs ms os Sq19 := KC_ag hK (f23 73 2 (by omega) (by unfold wG; omega) (by unfold lahC lahA; omega)) (f23 73 4 (by omega) (by unfold wG; omega) (by unfold lahC lahA; omega)) (fun j hj => funext (fun x => f23 j x (by omega) (by unfold wG; omega) (by unfold lahC lahA; omega)))
        have hW23 : wd_at Sq19 74 64 := wda_a9 hWh (fun j x j0 j1 => f23 j x (by omega) (by unfold wG; omega) (by unfold lahC lahA; omega))
        have hqk23 : qOk 74 cs Sq19 (k, am, 0, (wnW ([] : List Int) W), tl) wd := ⟨hk, ⟨by show (0 : Int) ≤ am; omega, by show am ≤ (2 : Int); omega⟩, Or.inl rfl, ⟨htl, hes⟩, Or.inr ⟨by show am ≠ 2; omega, hwW_ag hv19 (fun j x j0 j1 => fz19 j x (by omega))⟩⟩
        have hwM23 : wdM 97 T ms Sq19 (if am = 2 then 2 else 1) wd (wnW ([] : List Int) W) := by rw [if_neg (by omega)]; exact wdM_w hW23 hK23 (by rcases hqk23.2.2.2.2 with z | z; exact absurd z.1 (by show ¬ am = 2; omega); exact z.2) (by first | decide | omega)
        have hwr23 := qOk_rg hqk23 hc23.2.2.2.2.2.2
        have hch23 : ∀ K : List aKp, kpR 73 121 K Sq19 → wJ (pe_GA xs) wY0 (mS [120, 121, 122, 123, 124]) (d + 5) t_XO_choose ((pe_at t_XO_choose.bl 0).getD (0, [])).2 [(0, (2, 73)), (1, (0, k)), (2, (0, am)), (3, (0, wd)), (4, (0, 0)), (5, (1, esV tl)), (7, (0, (tl.length : Int)))] [] Sq19 (chQ 73 120 121 cs ms K (qKy (k, am, 0, (wnW ([] : List Int) W), tl) wd) wd tl (FA T cs ms os k am 0 (wnW ([] : List Int) W)) Sq19) := fun K hkp => cho_73 (pc := if (0 : Int) = 1 then 1 else -1) hC23 hK23 hw gz19 hc23.2.2.2.2.2.1 hkp (by rw [hc23.2.2.1]; exact hc23.2.2.2.1) (by rw [hc23.2.1]; exact hc23.2.2.2.2.1) hk ⟨by omega, by omega⟩ hwM23 ⟨by omega, by omega⟩ (Or.inl ⟨rfl, if_neg (by first | decide | omega)⟩) htl hes hty rfl rfl
        obtain ⟨⟨K0, hK0, -⟩, -⟩ := id hc23
        have hcz23 : wJ (pe_GA xs) wY0 (mS [120, 121, 122, 123, 124]) (d + 5) t_XO_choose ((pe_at t_XO_choose.bl 0).getD (0, [])).2 [(0, (2, 73)), (1, (0, k)), (2, (0, am)), (3, (0, wd)), (4, (0, 0)), (5, (1, esV tl)), (7, (0, (tl.length : Int)))] [] Sq19 (fun o Z => o = .inl (some (0, rv)) ∧ cCh 73 121 120 74 T cs ms os (chN CH wo mo (k, am, 0, (wnW ([] : List Int) W), tl) (FA T cs ms os k am 0 (wnW ([] : List Int) W))).1 (chN CH wo mo (k, am, 0, (wnW ([] : List Int) W), tl) (FA T cs ms os k am 0 (wnW ([] : List Int) W))).2 mo Z ∧ chF 73 120 121 Sq19 Z ∧ gI Z ∧ rmR Sq19 Z) := by
          refine wJ_mono (chA_w (fun K hkp => hch23 K hkp) hc23) (fun o Z hz => ?_)
          rw [hrv]
          exact chA_e (q := (k, am, 0, (wnW ([] : List Int) W), tl)) ⟨by decide, by decide, by decide, by decide⟩ hW23 hK23 hc23 hw hqk23 hz gz19 hwo
        refine wa_cv 73 rfl (wy_pr rfl) wt_73 (M2 := mS [120, 121, 122, 123, 124]) rfl at_XO_choose ⟨_, rfl⟩ rfl rfl ⟨(Or.inr ⟨wy_pr rfl, mS_no rfl⟩), (Or.inr ⟨wy_pr rfl, mS_no rfl⟩), trivial, trivial, trivial⟩ trivial (fun _ _ q => q) (hcz23) (fun oq23 Sq23 hp24 q23 => ?_)
        rcases q23 with ⟨rfl, hcq23, ff23, gg23, rr23⟩
        show wJ _ _ _ _ _ _ _ _ _ _
        refine wa_istore (n := 4) rfl ?_
        refine wa_goto ⟨_, rfl⟩ ?_
        refine wa_aload_n (n := 0) rfl ?_
        refine wb_gfi 158 rfl (wy_pr rfl) wt_158 wf_5_7 (v := 5) (((ff23 158 7 (by omega) (by unfold wG; omega) (by omega) (by omega) (by omega)).trans (((fz19 158 7 (by omega)).trans ((w_up_slot (by decide)).trans (l7)))))) (fun r25 => ?_)
        refine wa_ifeq (w_rg0 (by omega) (by omega)) ⟨_, rfl⟩ (fun c26 => ?_) (fun c26 => ?_)
        · skip
          exact absurd c26 (by omega)
        · skip
          refine wa_iload (n := 4) rfl ?_
          refine wa_iflt (w_rg0 (by omega) (by omega)) ⟨_, rfl⟩ (fun c27 => ?_) (fun c27 => ?_)
          · skip
            refine wa_iload (n := 4) rfl ?_
            refine wa_iconst ?_
            refine wa_icmpne (w_rg0 (by omega) (by omega)) (w_rg0 (by omega) (by omega)) ⟨_, rfl⟩ (fun c28 => ?_) (fun c28 => ?_)
            · skip
              refine wa_iload (n := 4) rfl ?_
              refine wa_ifge (w_rg0 (by omega) (by omega)) ⟨_, rfl⟩ (fun c29 => ?_) (fun c29 => ?_)
              · skip
                exact absurd c29 (by omega)
              · skip
                refine wa_aload_n (n := 0) rfl ?_
                refine wb_gf5 158 rfl (wy_pr rfl) wt_158 wf_5_4 (v := 215) (((ff23 158 4 (by omega) (by unfold wG; omega) (by omega) (by omega) (by omega)).trans (((fz19 158 4 (by omega)).trans ((w_up_slot (by decide)).trans (l4)))))) (fun r30 => ?_)
                refine wa_iload (n := 4) rfl ?_
                refine wa_iconst ?_
                refine wa_icmpne (w_rg0 (by omega) (by omega)) (w_rg0 (by omega) (by omega)) ⟨_, rfl⟩ (fun c31 => ?_) (fun c31 => ?_)
                · skip
                  refine wa_iload (n := 4) rfl ?_
                  refine wa_ineg ?_
                  refine wa_fall ⟨_, rfl⟩ ?_
                  refine wb_pfi 215 rfl (wy_pr rfl) wt_215 wf_8_16 (n := 16) rfl ⟨(by omega), (by omega)⟩ ?_
                  refine wa_fall ⟨_, rfl⟩ ?_
                  refine wa_aload_n (n := 0) rfl ?_
                  refine wb_gf4 158 rfl (wy_pr rfl) wt_158 wf_5_3 (v := 47) wl_158_3 ?_
                  refine wa_iconst ?_
                  refine wb_aald5 47 3 rfl rfl (wy_pr rfl) wt_47 (by rw [show _ = _ from ((w_up_slot (by decide)).trans (((ff23 47 (-1) (by omega) (by unfold wG; omega) (by omega) (by omega) (by omega)).trans (((fz19 47 (-1) (by omega)).trans ((w_up_slot (by decide)).trans ((cl_47 hC))))))))]; omega) wl_47_3 ?_
                  refine wa_aload_n (n := 0) rfl ?_
                  refine wb_gfi 158 rfl (wy_pr rfl) wt_158 wf_5_14 (v := fo) ((w_up_slot (by decide)).trans (((ff23 158 14 (by omega) (by unfold wG; omega) (by omega) (by omega) (by omega)).trans (((fz19 158 14 (by omega)).trans ((w_up_slot (by decide)).trans (l14))))))) (fun r32 => ?_)
                  refine wa_iload (n := 4) rfl ?_
                  refine wb_iast 51 rfl (wy_pr rfl) wt_51 (n := (S 48 (-1))) ((w_up_slot (by decide)).trans (((ff23 51 (-1) (by omega) (by unfold wG; omega) (by omega) (by omega) (by omega)).trans (((fz19 51 (-1) (by omega)).trans ((w_up_slot (by decide)).trans ((hl.2.2.1 3 (by decide))))))))) (by omega) (by omega) ⟨(by omega), (by omega)⟩ ?_
                  refine wa_return rfl ?_
                  have fE : ∀ (j : Nat) (x : Int), j < 4000000 → j ≠ wG → ¬ lahM 73 120 121 215 fo j x → (w_up (w_up Sq23 215 16 (-rv)) 51 fo rv) j x = S j x := fun j x j0 j1 hj => ((w_up_no (lah_m (j2 := 51) (x2 := fo) hj (Or.inl ⟨by omega, by omega, rfl⟩))).trans ((w_up_no (lah_m (j2 := 215) (x2 := 16) hj (Or.inr ⟨rfl, rfl⟩))).trans (((ff23 j x j0 j1 (lah_f hj).1 (lah_f hj).2.1 (lah_f hj).2.2).trans ((((fz19 j x (lah_d hj)).trans ((w_up_no (lah_m (j2 := 49) (x2 := fo) hj (Or.inl ⟨by omega, by omega, rfl⟩)))))))))))
                  have hcE := cCh_ag hcq23 (Z := (w_up (w_up Sq23 215 16 (-rv)) 51 fo rv)) (fun j x hj => ((w_up_no (by omega)).trans (w_up_no (by omega))))
                  refine ⟨rfl, fun z => absurd z (by omega), fun _ => ?_, hcE, fE, (gI_up (gI_up gg23 (by omega) (by omega) (by omega)) (by omega) (by omega) (by omega)), (rmR_up (rmR_up (rmR_tr (rmR_tr (rmR_up hR (by omega) (by first | decide | omega)) rz19) rr23) (by omega) (by first | decide | omega)) (by omega) (by first | decide | omega))⟩
                  refine (((w_up_slot (by first | decide | omega)).trans (w_up_same _ _ _ _)) : (w_up (w_up Sq23 215 16 (-rv)) 51 fo rv) 215 16 = (-rv)).trans ?_
                  first | omega | (rw [if_pos (by omega)]) | (rw [if_neg (by omega)])
                · skip
                  exact absurd c31 (by omega)
            · skip
              refine wa_aload_n (n := 0) rfl ?_
              refine wb_gfi 158 rfl (wy_pr rfl) wt_158 wf_5_7 (v := 5) (((ff23 158 7 (by omega) (by unfold wG; omega) (by omega) (by omega) (by omega)).trans (((fz19 158 7 (by omega)).trans ((w_up_slot (by decide)).trans (l7)))))) (fun r33 => ?_)
              refine wa_ifeq (w_rg0 (by omega) (by omega)) ⟨_, rfl⟩ (fun c34 => ?_) (fun c34 => ?_)
              · skip
                exact absurd c34 (by omega)
              · skip
                refine wa_aload_n (n := 0) rfl ?_
                refine wb_gfi 158 rfl (wy_pr rfl) wt_158 wf_5_7 (v := 5) (((ff23 158 7 (by omega) (by unfold wG; omega) (by omega) (by omega) (by omega)).trans (((fz19 158 7 (by omega)).trans ((w_up_slot (by decide)).trans (l7)))))) (fun r35 => ?_)
                refine wa_iconst ?_
                refine wa_icmpne (w_rg0 (by omega) (by omega)) (w_rg0 (by omega) (by omega)) ⟨_, rfl⟩ (fun c36 => ?_) (fun c36 => ?_)
                · skip
                  refine wa_iload (n := 4) rfl ?_
                  refine wa_ifge (w_rg0 (by omega) (by omega)) ⟨_, rfl⟩ (fun c37 => ?_) (fun c37 => ?_)
                  · skip
                    exact absurd c37 (by omega)
                  · skip
                    refine wa_aload_n (n := 0) rfl ?_
                    refine wb_gf5 158 rfl (wy_pr rfl) wt_158 wf_5_4 (v := 215) (((ff23 158 4 (by omega) (by unfold wG; omega) (by omega) (by omega) (by omega)).trans (((fz19 158 4 (by omega)).trans ((w_up_slot (by decide)).trans (l4)))))) (fun r38 => ?_)
                    refine wa_iload (n := 4) rfl ?_
                    refine wa_iconst ?_
                    refine wa_icmpne (w_rg0 (by omega) (by omega)) (w_rg0 (by omega) (by omega)) ⟨_, rfl⟩ (fun c39 => ?_) (fun c39 => ?_)
                    · skip
                      exact absurd c39 (by omega)
                    · skip
                      refine wa_iconst ?_
                      refine wa_goto ⟨_, rfl⟩ ?_
                      refine wb_pfi 215 rfl (wy_pr rfl) wt_215 wf_8_16 (n := 16) rfl ⟨(by omega), (by omega)⟩ ?_
                      refine wa_fall ⟨_, rfl⟩ ?_
                      refine wa_aload_n (n := 0) rfl ?_
                      refine wb_gf4 158 rfl (wy_pr rfl) wt_158 wf_5_3 (v := 47) wl_158_3 ?_
                      refine wa_iconst ?_
                      refine wb_aald5 47 3 rfl rfl (wy_pr rfl) wt_47 (by rw [show _ = _ from ((w_up_slot (by decide)).trans (((ff23 47 (-1) (by omega) (by unfold wG; omega) (by omega) (by omega) (by omega)).trans (((fz19 47 (-1) (by omega)).trans ((w_up_slot (by decide)).trans ((cl_47 hC))))))))]; omega) wl_47_3 ?_
                      refine wa_aload_n (n := 0) rfl ?_
                      refine wb_gfi 158 rfl (wy_pr rfl) wt_158 wf_5_14 (v := fo) ((w_up_slot (by decide)).trans (((ff23 158 14 (by omega) (by unfold wG; omega) (by omega) (by omega) (by omega)).trans (((fz19 158 14 (by omega)).trans ((w_up_slot (by decide)).trans (l14))))))) (fun r40 => ?_)
                      refine wa_iload (n := 4) rfl ?_
                      refine wb_iast 51 rfl (wy_pr rfl) wt_51 (n := (S 48 (-1))) ((w_up_slot (by decide)).trans (((ff23 51 (-1) (by omega) (by unfold wG; omega) (by omega) (by omega) (by omega)).trans (((fz19 51 (-1) (by omega)).trans ((w_up_slot (by decide)).trans ((hl.2.2.1 3 (by decide))))))))) (by omega) (by omega) ⟨(by omega), (by omega)⟩ ?_
                      refine wa_return rfl ?_
                      have fE : ∀ (j : Nat) (x : Int), j < 4000000 → j ≠ wG → ¬ lahM 73 120 121 215 fo j x → (w_up (w_up Sq23 215 16 4) 51 fo rv) j x = S j x := fun j x j0 j1 hj => ((w_up_no (lah_m (j2 := 51) (x2 := fo) hj (Or.inl ⟨by omega, by omega, rfl⟩))).trans ((w_up_no (lah_m (j2 := 215) (x2 := 16) hj (Or.inr ⟨rfl, rfl⟩))).trans (((ff23 j x j0 j1 (lah_f hj).1 (lah_f hj).2.1 (lah_f hj).2.2).trans ((((fz19 j x (lah_d hj)).trans ((w_up_no (lah_m (j2 := 49) (x2 := fo) hj (Or.inl ⟨by omega, by omega, rfl⟩)))))))))))
                      have hcE := cCh_ag hcq23 (Z := (w_up (w_up Sq23 215 16 4) 51 fo rv)) (fun j x hj => ((w_up_no (by omega)).trans (w_up_no (by omega))))
                      refine ⟨rfl, fun z => absurd z (by omega), fun _ => ?_, hcE, fE, (gI_up (gI_up gg23 (by omega) (by omega) (by omega)) (by omega) (by omega) (by omega)), (rmR_up (rmR_up (rmR_tr (rmR_tr (rmR_up hR (by omega) (by first | decide | omega)) rz19) rr23) (by omega) (by first | decide | omega)) (by omega) (by first | decide | omega))⟩
                      refine (((w_up_slot (by first | decide | omega)).trans (w_up_same _ _ _ _)) : (w_up (w_up Sq23 215 16 4) 51 fo rv) 215 16 = 4).trans ?_
                      first | omega | (rw [if_pos (by omega)]) | (rw [if_neg (by omega)])
                · skip
                  exact absurd c36 (by omega)
          · skip
            refine wa_aload_n (n := 0) rfl ?_
            refine wb_gf4 158 rfl (wy_pr rfl) wt_158 wf_5_3 (v := 47) wl_158_3 ?_
            refine wa_bipush (w_rg2 (by omega) (by omega)) ?_
            refine wb_aald5 47 7 rfl rfl (wy_pr rfl) wt_47 (by rw [show _ = _ from (((ff23 47 (-1) (by omega) (by unfold wG; omega) (by omega) (by omega) (by omega)).trans (((fz19 47 (-1) (by omega)).trans ((w_up_slot (by decide)).trans ((cl_47 hC)))))))]; omega) wl_47_7 ?_
            refine wa_aload_n (n := 0) rfl ?_
            refine wb_gfi 158 rfl (wy_pr rfl) wt_158 wf_5_14 (v := fo) (((ff23 158 14 (by omega) (by unfold wG; omega) (by omega) (by omega) (by omega)).trans (((fz19 158 14 (by omega)).trans ((w_up_slot (by decide)).trans (l14)))))) (fun r41 => ?_)
            refine wa_aload_n (n := 0) rfl ?_
            refine wb_gfl 158 rfl (wy_pr rfl) wt_158 wf_5_13 (v := (esV tl)) (((ff23 158 13 (by omega) (by unfold wG; omega) (by omega) (by omega) (by omega)).trans (((fz19 158 13 (by omega)).trans ((w_up_slot (by decide)).trans (l13)))))) (fun r42 => ?_)
            refine wa_l2i ?_
            refine wb_iast 55 rfl (wy_pr rfl) wt_55 (n := (S 48 (-1))) (((ff23 55 (-1) (by omega) (by unfold wG; omega) (by omega) (by omega) (by omega)).trans (((fz19 55 (-1) (by omega)).trans ((w_up_slot (by decide)).trans ((hl.2.2.1 7 (by decide)))))))) (by omega) (by omega) ⟨(by omega), (by omega)⟩ ?_
            refine wa_aload_n (n := 0) rfl ?_
            refine wb_gf4 158 rfl (wy_pr rfl) wt_158 wf_5_3 (v := 47) wl_158_3 ?_
            refine wa_bipush (w_rg2 (by omega) (by omega)) ?_
            refine wb_aald5 47 8 rfl rfl (wy_pr rfl) wt_47 (by rw [show _ = _ from ((w_up_slot (by decide)).trans (((ff23 47 (-1) (by omega) (by unfold wG; omega) (by omega) (by omega) (by omega)).trans (((fz19 47 (-1) (by omega)).trans ((w_up_slot (by decide)).trans ((cl_47 hC))))))))]; omega) wl_47_8 ?_
            refine wa_aload_n (n := 0) rfl ?_
            refine wb_gfi 158 rfl (wy_pr rfl) wt_158 wf_5_14 (v := fo) ((w_up_slot (by decide)).trans (((ff23 158 14 (by omega) (by unfold wG; omega) (by omega) (by omega) (by omega)).trans (((fz19 158 14 (by omega)).trans ((w_up_slot (by decide)).trans (l14))))))) (fun r43 => ?_)
            refine wa_aload_n (n := 0) rfl ?_
            refine wb_gfl 158 rfl (wy_pr rfl) wt_158 wf_5_13 (v := (esV tl)) ((w_up_slot (by decide)).trans (((ff23 158 13 (by omega) (by unfold wG; omega) (by omega) (by omega) (by omega)).trans (((fz19 158 13 (by omega)).trans ((w_up_slot (by decide)).trans (l13))))))) (fun r44 => ?_)
            refine wa_bipush (w_rg2 (by omega) (by omega)) ?_
            refine wa_lushr ?_
            refine wa_l2i ?_
            refine wb_iast 56 rfl (wy_pr rfl) wt_56 (n := (S 48 (-1))) ((w_up_slot (by decide)).trans (((ff23 56 (-1) (by omega) (by unfold wG; omega) (by omega) (by omega) (by omega)).trans (((fz19 56 (-1) (by omega)).trans ((w_up_slot (by decide)).trans ((hl.2.2.1 8 (by decide))))))))) (by omega) (by omega) ⟨(by omega), (by omega)⟩ ?_
            refine wa_fall ⟨_, rfl⟩ ?_
            refine wa_iload (n := 4) rfl ?_
            refine wa_iconst ?_
            refine wa_icmpne (w_rg0 (by omega) (by omega)) (w_rg0 (by omega) (by omega)) ⟨_, rfl⟩ (fun c45 => ?_) (fun c45 => ?_)
            · skip
              refine wa_iload (n := 4) rfl ?_
              refine wa_ifge (w_rg0 (by omega) (by omega)) ⟨_, rfl⟩ (fun c46 => ?_) (fun c46 => ?_)
              · skip
                refine wa_aload_n (n := 0) rfl ?_
                refine wb_gf4 158 rfl (wy_pr rfl) wt_158 wf_5_3 (v := 47) wl_158_3 ?_
                refine wa_iconst ?_
                refine wb_aald5 47 3 rfl rfl (wy_pr rfl) wt_47 (by rw [show _ = _ from ((w_up_slot (by decide)).trans ((w_up_slot (by decide)).trans (((ff23 47 (-1) (by omega) (by unfold wG; omega) (by omega) (by omega) (by omega)).trans (((fz19 47 (-1) (by omega)).trans ((w_up_slot (by decide)).trans ((cl_47 hC)))))))))]; omega) wl_47_3 ?_
                refine wa_aload_n (n := 0) rfl ?_
                refine wb_gfi 158 rfl (wy_pr rfl) wt_158 wf_5_14 (v := fo) ((w_up_slot (by decide)).trans ((w_up_slot (by decide)).trans (((ff23 158 14 (by omega) (by unfold wG; omega) (by omega) (by omega) (by omega)).trans (((fz19 158 14 (by omega)).trans ((w_up_slot (by decide)).trans (l14)))))))) (fun r47 => ?_)
                refine wa_iload (n := 4) rfl ?_
                refine wb_iast 51 rfl (wy_pr rfl) wt_51 (n := (S 48 (-1))) ((w_up_slot (by decide)).trans ((w_up_slot (by decide)).trans (((ff23 51 (-1) (by omega) (by unfold wG; omega) (by omega) (by omega) (by omega)).trans (((fz19 51 (-1) (by omega)).trans ((w_up_slot (by decide)).trans ((hl.2.2.1 3 (by decide)))))))))) (by omega) (by omega) ⟨(by omega), (by omega)⟩ ?_
                refine wa_return rfl ?_
                have fE : ∀ (j : Nat) (x : Int), j < 4000000 → j ≠ wG → ¬ lahM 73 120 121 215 fo j x → (w_up (w_up (w_up Sq23 55 fo (wb_l2i (esV tl))) 56 fo (wb_l2i (wb_lushr (esV tl) 32))) 51 fo rv) j x = S j x := fun j x j0 j1 hj => ((w_up_no (lah_m (j2 := 51) (x2 := fo) hj (Or.inl ⟨by omega, by omega, rfl⟩))).trans ((w_up_no (lah_m (j2 := 56) (x2 := fo) hj (Or.inl ⟨by omega, by omega, rfl⟩))).trans ((w_up_no (lah_m (j2 := 55) (x2 := fo) hj (Or.inl ⟨by omega, by omega, rfl⟩))).trans (((ff23 j x j0 j1 (lah_f hj).1 (lah_f hj).2.1 (lah_f hj).2.2).trans ((((fz19 j x (lah_d hj)).trans ((w_up_no (lah_m (j2 := 49) (x2 := fo) hj (Or.inl ⟨by omega, by omega, rfl⟩))))))))))))
                have hcE := cCh_ag hcq23 (Z := (w_up (w_up (w_up Sq23 55 fo (wb_l2i (esV tl))) 56 fo (wb_l2i (wb_lushr (esV tl) 32))) 51 fo rv)) (fun j x hj => ((w_up_no (by omega)).trans ((w_up_no (by omega)).trans (w_up_no (by omega)))))
                refine ⟨rfl, fun _ => ⟨?_, ((w_up_slot (by first | decide | omega)).trans ((w_up_slot (by first | decide | omega)).trans ((w_up_slot (by first | decide | omega)).trans (((ff23 215 16 (by omega) (by unfold wG; omega) (by omega) (by omega) (by omega)).trans (((fz19 215 16 (by omega)).trans (w_up_slot (by first | decide | omega)))))))))⟩, fun z => absurd z (by omega), hcE, fE, (gI_up (gI_up (gI_up gg23 (by omega) (by omega) (by omega)) (by omega) (by omega) (by omega)) (by omega) (by omega) (by omega)), (rmR_up (rmR_up (rmR_up (rmR_tr (rmR_tr (rmR_up hR (by omega) (by first | decide | omega)) rz19) rr23) (by omega) (by first | decide | omega)) (by omega) (by first | decide | omega)) (by omega) (by first | decide | omega))⟩
                refine ⟨⟨(((w_up_slot (by first | decide | omega)).trans ((w_up_slot (by first | decide | omega)).trans ((w_up_slot (by first | decide | omega)).trans (((ff23 48 fo (by omega) (by unfold wG; omega) (by omega) (by omega) (by omega)).trans (((fz19 48 fo (by omega)).trans (w_up_slot (by first | decide | omega))))))))) : (w_up (w_up (w_up Sq23 55 fo (wb_l2i (esV tl))) 56 fo (wb_l2i (wb_lushr (esV tl) 32))) 51 fo rv) 48 fo = (S 48 fo)).trans b1, (((w_up_slot (by first | decide | omega)).trans ((w_up_slot (by first | decide | omega)).trans ((w_up_slot (by first | decide | omega)).trans (((ff23 49 fo (by omega) (by unfold wG; omega) (by omega) (by omega) (by omega)).trans (((fz19 49 fo (by omega)).trans (w_up_same _ _ _ _)))))))) : (w_up (w_up (w_up Sq23 55 fo (wb_l2i (esV tl))) 56 fo (wb_l2i (wb_lushr (esV tl) 32))) 51 fo rv) 49 fo = k), (((w_up_slot (by first | decide | omega)).trans ((w_up_slot (by first | decide | omega)).trans ((w_up_slot (by first | decide | omega)).trans (((ff23 50 fo (by omega) (by unfold wG; omega) (by omega) (by omega) (by omega)).trans (((fz19 50 fo (by omega)).trans (w_up_slot (by first | decide | omega))))))))) : (w_up (w_up (w_up Sq23 55 fo (wb_l2i (esV tl))) 56 fo (wb_l2i (wb_lushr (esV tl) 32))) 51 fo rv) 50 fo = (S 50 fo)).trans b3, ((w_up_same _ _ _ _) : (w_up (w_up (w_up Sq23 55 fo (wb_l2i (esV tl))) 56 fo (wb_l2i (wb_lushr (esV tl) 32))) 51 fo rv) 51 fo = rv), (((w_up_slot (by first | decide | omega)).trans ((w_up_slot (by first | decide | omega)).trans ((w_up_slot (by first | decide | omega)).trans (((ff23 52 fo (by omega) (by unfold wG; omega) (by omega) (by omega) (by omega)).trans (((fz19 52 fo (by omega)).trans (w_up_slot (by first | decide | omega))))))))) : (w_up (w_up (w_up Sq23 55 fo (wb_l2i (esV tl))) 56 fo (wb_l2i (wb_lushr (esV tl) 32))) 51 fo rv) 52 fo = (S 52 fo)).trans b5⟩, ((((w_up_slot (by first | decide | omega)).trans ((w_up_slot (by first | decide | omega)).trans ((w_up_slot (by first | decide | omega)).trans (((ff23 53 fo (by omega) (by unfold wG; omega) (by omega) (by omega) (by omega)).trans (((fz19 53 fo (by omega)).trans (w_up_slot (by first | decide | omega))))))))) : (w_up (w_up (w_up Sq23 55 fo (wb_l2i (esV tl))) 56 fo (wb_l2i (wb_lushr (esV tl) 32))) 51 fo rv) 53 fo = (S 53 fo)).trans b6).trans (if_neg (fun z => by have z1 := z.1; simp only [hoN] at z1; omega)).symm, ((((w_up_slot (by first | decide | omega)).trans ((w_up_slot (by first | decide | omega)).trans ((w_up_slot (by first | decide | omega)).trans (((ff23 54 fo (by omega) (by unfold wG; omega) (by omega) (by omega) (by omega)).trans (((fz19 54 fo (by omega)).trans (w_up_slot (by first | decide | omega))))))))) : (w_up (w_up (w_up Sq23 55 fo (wb_l2i (esV tl))) 56 fo (wb_l2i (wb_lushr (esV tl) 32))) 51 fo rv) 54 fo = (S 54 fo)).trans b7).trans (if_neg (fun z => by have z1 := z.1; simp only [hoN] at z1; omega)).symm, ?_, ?_⟩
                · exact (((w_up_slot (by first | decide | omega)).trans ((w_up_slot (by first | decide | omega)).trans (w_up_same _ _ _ _))) : (w_up (w_up (w_up Sq23 55 fo (wb_l2i (esV tl))) 56 fo (wb_l2i (wb_lushr (esV tl) 32))) 51 fo rv) 55 fo = (wb_l2i (esV tl))).trans (if_pos ⟨hll, by exact Or.inl rfl⟩).symm
                · exact (((w_up_slot (by first | decide | omega)).trans (w_up_same _ _ _ _)) : (w_up (w_up (w_up Sq23 55 fo (wb_l2i (esV tl))) 56 fo (wb_l2i (wb_lushr (esV tl) 32))) 51 fo rv) 56 fo = (wb_l2i (wb_lushr (esV tl) 32))).trans (if_pos ⟨hll, by exact Or.inl rfl⟩).symm
              · skip
                exact absurd c46 (by omega)
            · skip
              exact absurd c45 (by omega)
    · skip
      exact absurd c16 (by omega)
  · skip
    exact absurd c14 (by omega)
set_option maxHeartbeats 4000000 in
theorem lan_73_215 {k am l nm wk nms fo at0 wo mo : Int} {W tl : List Int} {CH : List aQ} (hC : w_CL S) (hK : KC 87 97 93 114 115 74 73 T cs ms os S) (hw : wHo cs ms os) (hX : w_X xs) (hI : gI S) (h72 : S 72 1 = 73) (hc : cCh 73 121 120 74 T cs ms os CH wo mo S) (hWh : wd_at S 74 64) (hl : cSl S) (l4 : S 158 4 = 215) (l7 : S 158 7 = 6) (l12 : S 158 12 = (tl.length : Int)) (l13 : S 158 13 = esV tl) (htl : tl.length ≤ 8) (hes : esOk tl) (hty : ∀ c ∈ tl, c < 9 + (cs.length : Int)) (hwo : wo < 10000000) (l14 : S 158 14 = fo) (hfo : 0 ≤ fo ∧ fo < S 48 (-1)) (hbl : blE l fo S) (hll : l = 1 ∨ l = 2) (hk : 0 ≤ k ∧ k < (cs.length : Int)) (ham : am = 1) : wJ (pe_GA xs) wY0 (mS [120, 121, 122, 123, 124]) (d + 6) t_XL_lookAtHost ((pe_at t_XL_lookAtHost.bl 0).getD (0, [])).2 [(0, (2, 158)), (1, (0, k)), (2, (0, am))] [] S (lhQ 73 120 121 74 215 T cs ms os (chN CH wo mo (k, 2, 0, [], tl) (FA T cs ms os k 2 0 [])).1 (chN CH wo mo (k, 2, 0, [], tl) (FA T cs ms os k 2 0 [])).2 mo 6 nms fo (rvA T cs ms os (k, 2, 0, [], tl)) (hoN l k (rvA T cs ms os (k, 2, 0, [], tl)) (tl.length : Int) (esV tl) at0) S) := by
  have hR := rmR_rfl S
  have h48 := hl.2.2.2
  have hn := KC_n hK
  have hn2 := hn.2.2
  have h400 := hw.1
  obtain ⟨⟨b1, b2, b3, b4, b5⟩, b6, b7, b8, b9⟩ := hbl
  have hear : 0 ≤ esV tl ∧ esV tl < 72057594037927936 := by have z := esV_rg tl hes; have z2 := p7_le (n := tl.length) htl; omega
  have hlo := wb_l2i_rg (esV tl)
  have hhi := wb_l2i_rg (wb_lushr (esV tl) 32)
  obtain ⟨rv, hrv⟩ : ∃ r : Int, r = (rvA T cs ms os (k, 2, 0, [], tl)) := ⟨_, rfl⟩
  have hrr := rvA_rg (T := T) (q := (k, 2, 0, [], tl)) hw hk
  rw [← hrv] at hrr ⊢
  refine wa_aload_n (n := 0) rfl ?_
  refine wb_gf4 158 rfl (wy_pr rfl) wt_158 wf_5_0 (v := 72) wl_158_0 ?_
  refine wb_gf5 72 rfl (wy_pr rfl) wt_72 wf_2_1 (v := 73) (h72) (fun r11 => ?_)
  refine wa_astore_n (n := 3) rfl ?_
  refine wa_aload_n (n := 0) rfl ?_
  refine wb_gf4 158 rfl (wy_pr rfl) wt_158 wf_5_3 (v := 47) wl_158_3 ?_
  refine wa_iconst ?_
  refine wb_aald5 47 1 rfl rfl (wy_pr rfl) wt_47 (by rw [show _ = _ from ((cl_47 hC))]; omega) wl_47_1 ?_
  refine wa_aload_n (n := 0) rfl ?_
  refine wb_gfi 158 rfl (wy_pr rfl) wt_158 wf_5_14 (v := fo) (l14) (fun r12 => ?_)
  refine wa_iload_n (n := 1) rfl ?_
  refine wb_iast 49 rfl (wy_pr rfl) wt_49 (n := (S 48 (-1))) ((hl.2.2.1 1 (by decide))) (by omega) (by omega) ⟨(by omega), (by omega)⟩ ?_
  refine wa_aload_n (n := 0) rfl ?_
  refine wb_gfi 158 rfl (wy_pr rfl) wt_158 wf_5_7 (v := 6) ((w_up_slot (by decide)).trans (l7)) (fun r13 => ?_)
  refine wa_ifne (w_rg0 (by omega) (by omega)) ⟨_, rfl⟩ (fun c14 => ?_) (fun c14 => ?_)
  · skip
    refine wa_aload_n (n := 0) rfl ?_
    refine wb_gfi 158 rfl (wy_pr rfl) wt_158 wf_5_7 (v := 6) ((w_up_slot (by decide)).trans (l7)) (fun r15 => ?_)
    refine wa_iconst ?_
    refine wa_icmpne (w_rg0 (by omega) (by omega)) (w_rg0 (by omega) (by omega)) ⟨_, rfl⟩ (fun c16 => ?_) (fun c16 => ?_)
    · skip
      refine wa_aload_n (n := 0) rfl ?_
      refine wb_gfi 158 rfl (wy_pr rfl) wt_158 wf_5_7 (v := 6) ((w_up_slot (by decide)).trans (l7)) (fun r17 => ?_)
      refine wa_iconst ?_
      refine wa_icmpne (w_rg0 (by omega) (by omega)) (w_rg0 (by omega) (by omega)) ⟨_, rfl⟩ (fun c18 => ?_) (fun c18 => ?_)
      · skip
        refine wa_aload_n (n := 0) rfl ?_
        refine wb_gfi 158 rfl (wy_pr rfl) wt_158 wf_5_7 (v := 6) ((w_up_slot (by decide)).trans (l7)) (fun r19 => ?_)
        refine wa_bipush (w_rg2 (by omega) (by omega)) ?_
        refine wa_icmpne (w_rg0 (by omega) (by omega)) (w_rg0 (by omega) (by omega)) ⟨_, rfl⟩ (fun c20 => ?_) (fun c20 => ?_)
        · skip
          exact absurd c20 (by omega)
        · skip
          refine wa_iload_n (n := 2) rfl ?_
          refine wa_iconst ?_
          refine wa_icmpne (w_rg0 (by omega) (by omega)) (w_rg0 (by omega) (by omega)) ⟨_, rfl⟩ (fun c21 => ?_) (fun c21 => ?_)
          · skip
            exact absurd c21 (by omega)
          · skip
            refine wa_aload_n (n := 3) rfl ?_
            refine wa_iload_n (n := 1) rfl ?_
            refine wa_iconst ?_
            refine wa_bipush (w_rg2 (by omega) (by omega)) ?_
            refine wa_iconst ?_
            refine wa_aload_n (n := 0) rfl ?_
            refine wb_gfl 158 rfl (wy_pr rfl) wt_158 wf_5_13 (v := (esV tl)) ((w_up_slot (by decide)).trans (l13)) (fun r22 => ?_)
            refine wa_aload_n (n := 0) rfl ?_
            refine wb_gfi 158 rfl (wy_pr rfl) wt_158 wf_5_12 (v := (tl.length : Int)) ((w_up_slot (by decide)).trans (l12)) (fun r23 => ?_)
            have f24 : ∀ (j : Nat) (x : Int), j < 4000000 → j ≠ wG → ¬ lahC 73 120 121 fo j x → (w_up S 49 fo k) j x = S j x := fun j x j0 j1 hj => (w_up_no (lah_n (j2 := 49) (x2 := fo) hj (⟨by omega, by omega, rfl⟩)))
            have hc24 : cCh 73 121 120 74 T cs ms os CH wo mo (w_up S 49 fo k) := cCh_ag hc (fun j x hj => (w_up_no (by omega)))
            have hC24 : w_CL (w_up S 49 fo k) := lhC_73 hC hc24 hfo.1 f24
            have hK24 : KC 87 97 93 114 115 74 73 T cs ms os (w_up S 49 fo k) := KC_ag hK (f24 73 2 (by omega) (by unfold wG; omega) (by unfold lahC lahA; omega)) (f24 73 4 (by omega) (by unfold wG; omega) (by unfold lahC lahA; omega)) (fun j hj => funext (fun x => f24 j x (by omega) (by unfold wG; omega) (by unfold lahC lahA; omega)))
            have hW24 : wd_at (w_up S 49 fo k) 74 64 := wda_a9 hWh (fun j x j0 j1 => f24 j x (by omega) (by unfold wG; omega) (by unfold lahC lahA; omega))
            have hqk24 : qOk 74 cs (w_up S 49 fo k) (k, 2, 0, [], tl) 12 := ⟨hk, ⟨by show (0 : Int) ≤ 2; decide, by show (2 : Int) ≤ 2; decide⟩, Or.inl rfl, ⟨htl, hes⟩, Or.inl ⟨rfl, rfl, rfl⟩⟩
            have hwM24 : wdM 97 T ms (w_up S 49 fo k) (if (2 : Int) = 2 then 2 else 1) 12 [] := wdM_n hK24
            have hwr24 := qOk_rg hqk24 hc24.2.2.2.2.2.2
            have hch24 : ∀ K : List aKp, kpR 73 121 K (w_up S 49 fo k) → wJ (pe_GA xs) wY0 (mS [120, 121, 122, 123, 124]) (d + 5) t_XO_choose ((pe_at t_XO_choose.bl 0).getD (0, [])).2 [(0, (2, 73)), (1, (0, k)), (2, (0, 2)), (3, (0, 12)), (4, (0, 0)), (5, (1, esV tl)), (7, (0, (tl.length : Int)))] [] (w_up S 49 fo k) (chQ 73 120 121 cs ms K (qKy (k, 2, 0, [], tl) 12) 12 tl (FA T cs ms os k 2 0 []) (w_up S 49 fo k)) := fun K hkp => cho_73 (pc := if (0 : Int) = 1 then 1 else -1) hC24 hK24 hw (gI_up hI (by omega) (by omega) (by omega)) hc24.2.2.2.2.2.1 hkp (by rw [hc24.2.2.1]; exact hc24.2.2.2.1) (by rw [hc24.2.1]; exact hc24.2.2.2.2.1) hk ⟨by omega, by omega⟩ hwM24 ⟨by omega, by omega⟩ (Or.inl ⟨rfl, if_neg (by first | decide | omega)⟩) htl hes hty rfl rfl
            obtain ⟨⟨K0, hK0, -⟩, -⟩ := id hc24
            have hcz24 : wJ (pe_GA xs) wY0 (mS [120, 121, 122, 123, 124]) (d + 5) t_XO_choose ((pe_at t_XO_choose.bl 0).getD (0, [])).2 [(0, (2, 73)), (1, (0, k)), (2, (0, 2)), (3, (0, 12)), (4, (0, 0)), (5, (1, esV tl)), (7, (0, (tl.length : Int)))] [] (w_up S 49 fo k) (fun o Z => o = .inl (some (0, rv)) ∧ cCh 73 121 120 74 T cs ms os (chN CH wo mo (k, 2, 0, [], tl) (FA T cs ms os k 2 0 [])).1 (chN CH wo mo (k, 2, 0, [], tl) (FA T cs ms os k 2 0 [])).2 mo Z ∧ chF 73 120 121 (w_up S 49 fo k) Z ∧ gI Z ∧ rmR (w_up S 49 fo k) Z) := by
              refine wJ_mono (chA_w (fun K hkp => hch24 K hkp) hc24) (fun o Z hz => ?_)
              rw [hrv]
              exact chA_e (q := (k, 2, 0, [], tl)) ⟨by decide, by decide, by decide, by decide⟩ hW24 hK24 hc24 hw hqk24 hz (gI_up hI (by omega) (by omega) (by omega)) hwo
            refine wa_cv 73 rfl (wy_pr rfl) wt_73 (M2 := mS [120, 121, 122, 123, 124]) rfl at_XO_choose ⟨_, rfl⟩ rfl rfl ⟨(Or.inr ⟨wy_pr rfl, mS_no rfl⟩), (Or.inr ⟨wy_pr rfl, mS_no rfl⟩), trivial, trivial, trivial⟩ trivial (fun _ _ q => q) (hcz24) (fun oq24 Sq24 hp25 q24 => ?_)
            rcases q24 with ⟨rfl, hcq24, ff24, gg24, rr24⟩
            show wJ _ _ _ _ _ _ _ _ _ _
            refine wa_istore (n := 4) rfl ?_
            refine wa_goto ⟨_, rfl⟩ ?_
            refine wa_aload_n (n := 0) rfl ?_
            refine wb_gfi 158 rfl (wy_pr rfl) wt_158 wf_5_7 (v := 6) (((ff24 158 7 (by omega) (by unfold wG; omega) (by omega) (by omega) (by omega)).trans ((w_up_slot (by decide)).trans (l7)))) (fun r26 => ?_)
            refine wa_ifeq (w_rg0 (by omega) (by omega)) ⟨_, rfl⟩ (fun c27 => ?_) (fun c27 => ?_)
            · skip
              exact absurd c27 (by omega)
            · skip
              refine wa_iload (n := 4) rfl ?_
              refine wa_iflt (w_rg0 (by omega) (by omega)) ⟨_, rfl⟩ (fun c28 => ?_) (fun c28 => ?_)
              · skip
                refine wa_iload (n := 4) rfl ?_
                refine wa_iconst ?_
                refine wa_icmpne (w_rg0 (by omega) (by omega)) (w_rg0 (by omega) (by omega)) ⟨_, rfl⟩ (fun c29 => ?_) (fun c29 => ?_)
                · skip
                  refine wa_iload (n := 4) rfl ?_
                  refine wa_ifge (w_rg0 (by omega) (by omega)) ⟨_, rfl⟩ (fun c30 => ?_) (fun c30 => ?_)
                  · skip
                    exact absurd c30 (by omega)
                  · skip
                    refine wa_aload_n (n := 0) rfl ?_
                    refine wb_gf5 158 rfl (wy_pr rfl) wt_158 wf_5_4 (v := 215) (((ff24 158 4 (by omega) (by unfold wG; omega) (by omega) (by omega) (by omega)).trans ((w_up_slot (by decide)).trans (l4)))) (fun r31 => ?_)
                    refine wa_iload (n := 4) rfl ?_
                    refine wa_iconst ?_
                    refine wa_icmpne (w_rg0 (by omega) (by omega)) (w_rg0 (by omega) (by omega)) ⟨_, rfl⟩ (fun c32 => ?_) (fun c32 => ?_)
                    · skip
                      refine wa_iload (n := 4) rfl ?_
                      refine wa_ineg ?_
                      refine wa_fall ⟨_, rfl⟩ ?_
                      refine wb_pfi 215 rfl (wy_pr rfl) wt_215 wf_8_16 (n := 16) rfl ⟨(by omega), (by omega)⟩ ?_
                      refine wa_fall ⟨_, rfl⟩ ?_
                      refine wa_aload_n (n := 0) rfl ?_
                      refine wb_gf4 158 rfl (wy_pr rfl) wt_158 wf_5_3 (v := 47) wl_158_3 ?_
                      refine wa_iconst ?_
                      refine wb_aald5 47 3 rfl rfl (wy_pr rfl) wt_47 (by rw [show _ = _ from ((w_up_slot (by decide)).trans (((ff24 47 (-1) (by omega) (by unfold wG; omega) (by omega) (by omega) (by omega)).trans ((w_up_slot (by decide)).trans ((cl_47 hC))))))]; omega) wl_47_3 ?_
                      refine wa_aload_n (n := 0) rfl ?_
                      refine wb_gfi 158 rfl (wy_pr rfl) wt_158 wf_5_14 (v := fo) ((w_up_slot (by decide)).trans (((ff24 158 14 (by omega) (by unfold wG; omega) (by omega) (by omega) (by omega)).trans ((w_up_slot (by decide)).trans (l14))))) (fun r33 => ?_)
                      refine wa_iload (n := 4) rfl ?_
                      refine wb_iast 51 rfl (wy_pr rfl) wt_51 (n := (S 48 (-1))) ((w_up_slot (by decide)).trans (((ff24 51 (-1) (by omega) (by unfold wG; omega) (by omega) (by omega) (by omega)).trans ((w_up_slot (by decide)).trans ((hl.2.2.1 3 (by decide))))))) (by omega) (by omega) ⟨(by omega), (by omega)⟩ ?_
                      refine wa_return rfl ?_
                      have fE : ∀ (j : Nat) (x : Int), j < 4000000 → j ≠ wG → ¬ lahM 73 120 121 215 fo j x → (w_up (w_up Sq24 215 16 (-rv)) 51 fo rv) j x = S j x := fun j x j0 j1 hj => ((w_up_no (lah_m (j2 := 51) (x2 := fo) hj (Or.inl ⟨by omega, by omega, rfl⟩))).trans ((w_up_no (lah_m (j2 := 215) (x2 := 16) hj (Or.inr ⟨rfl, rfl⟩))).trans (((ff24 j x j0 j1 (lah_f hj).1 (lah_f hj).2.1 (lah_f hj).2.2).trans ((w_up_no (lah_m (j2 := 49) (x2 := fo) hj (Or.inl ⟨by omega, by omega, rfl⟩))))))))
                      have hcE := cCh_ag hcq24 (Z := (w_up (w_up Sq24 215 16 (-rv)) 51 fo rv)) (fun j x hj => ((w_up_no (by omega)).trans (w_up_no (by omega))))
                      refine ⟨rfl, fun z => absurd z (by omega), fun _ => ?_, hcE, fE, (gI_up (gI_up gg24 (by omega) (by omega) (by omega)) (by omega) (by omega) (by omega)), (rmR_up (rmR_up (rmR_tr (rmR_up hR (by omega) (by first | decide | omega)) rr24) (by omega) (by first | decide | omega)) (by omega) (by first | decide | omega))⟩
                      refine (((w_up_slot (by first | decide | omega)).trans (w_up_same _ _ _ _)) : (w_up (w_up Sq24 215 16 (-rv)) 51 fo rv) 215 16 = (-rv)).trans ?_
                      first | omega | (rw [if_pos (by omega)]) | (rw [if_neg (by omega)])
                    · skip
                      exact absurd c32 (by omega)
                · skip
                  refine wa_aload_n (n := 0) rfl ?_
                  refine wb_gfi 158 rfl (wy_pr rfl) wt_158 wf_5_7 (v := 6) (((ff24 158 7 (by omega) (by unfold wG; omega) (by omega) (by omega) (by omega)).trans ((w_up_slot (by decide)).trans (l7)))) (fun r34 => ?_)
                  refine wa_ifeq (w_rg0 (by omega) (by omega)) ⟨_, rfl⟩ (fun c35 => ?_) (fun c35 => ?_)
                  · skip
                    exact absurd c35 (by omega)
                  · skip
                    refine wa_aload_n (n := 0) rfl ?_
                    refine wb_gfi 158 rfl (wy_pr rfl) wt_158 wf_5_7 (v := 6) (((ff24 158 7 (by omega) (by unfold wG; omega) (by omega) (by omega) (by omega)).trans ((w_up_slot (by decide)).trans (l7)))) (fun r36 => ?_)
                    refine wa_iconst ?_
                    refine wa_icmpne (w_rg0 (by omega) (by omega)) (w_rg0 (by omega) (by omega)) ⟨_, rfl⟩ (fun c37 => ?_) (fun c37 => ?_)
                    · skip
                      refine wa_iload (n := 4) rfl ?_
                      refine wa_ifge (w_rg0 (by omega) (by omega)) ⟨_, rfl⟩ (fun c38 => ?_) (fun c38 => ?_)
                      · skip
                        exact absurd c38 (by omega)
                      · skip
                        refine wa_aload_n (n := 0) rfl ?_
                        refine wb_gf5 158 rfl (wy_pr rfl) wt_158 wf_5_4 (v := 215) (((ff24 158 4 (by omega) (by unfold wG; omega) (by omega) (by omega) (by omega)).trans ((w_up_slot (by decide)).trans (l4)))) (fun r39 => ?_)
                        refine wa_iload (n := 4) rfl ?_
                        refine wa_iconst ?_
                        refine wa_icmpne (w_rg0 (by omega) (by omega)) (w_rg0 (by omega) (by omega)) ⟨_, rfl⟩ (fun c40 => ?_) (fun c40 => ?_)
                        · skip
                          exact absurd c40 (by omega)
                        · skip
                          refine wa_iconst ?_
                          refine wa_goto ⟨_, rfl⟩ ?_
                          refine wb_pfi 215 rfl (wy_pr rfl) wt_215 wf_8_16 (n := 16) rfl ⟨(by omega), (by omega)⟩ ?_
                          refine wa_fall ⟨_, rfl⟩ ?_
                          refine wa_aload_n (n := 0) rfl ?_
                          refine wb_gf4 158 rfl (wy_pr rfl) wt_158 wf_5_3 (v := 47) wl_158_3 ?_
                          refine wa_iconst ?_
                          refine wb_aald5 47 3 rfl rfl (wy_pr rfl) wt_47 (by rw [show _ = _ from ((w_up_slot (by decide)).trans (((ff24 47 (-1) (by omega) (by unfold wG; omega) (by omega) (by omega) (by omega)).trans ((w_up_slot (by decide)).trans ((cl_47 hC))))))]; omega) wl_47_3 ?_
                          refine wa_aload_n (n := 0) rfl ?_
                          refine wb_gfi 158 rfl (wy_pr rfl) wt_158 wf_5_14 (v := fo) ((w_up_slot (by decide)).trans (((ff24 158 14 (by omega) (by unfold wG; omega) (by omega) (by omega) (by omega)).trans ((w_up_slot (by decide)).trans (l14))))) (fun r41 => ?_)
                          refine wa_iload (n := 4) rfl ?_
                          refine wb_iast 51 rfl (wy_pr rfl) wt_51 (n := (S 48 (-1))) ((w_up_slot (by decide)).trans (((ff24 51 (-1) (by omega) (by unfold wG; omega) (by omega) (by omega) (by omega)).trans ((w_up_slot (by decide)).trans ((hl.2.2.1 3 (by decide))))))) (by omega) (by omega) ⟨(by omega), (by omega)⟩ ?_
                          refine wa_return rfl ?_
                          have fE : ∀ (j : Nat) (x : Int), j < 4000000 → j ≠ wG → ¬ lahM 73 120 121 215 fo j x → (w_up (w_up Sq24 215 16 4) 51 fo rv) j x = S j x := fun j x j0 j1 hj => ((w_up_no (lah_m (j2 := 51) (x2 := fo) hj (Or.inl ⟨by omega, by omega, rfl⟩))).trans ((w_up_no (lah_m (j2 := 215) (x2 := 16) hj (Or.inr ⟨rfl, rfl⟩))).trans (((ff24 j x j0 j1 (lah_f hj).1 (lah_f hj).2.1 (lah_f hj).2.2).trans ((w_up_no (lah_m (j2 := 49) (x2 := fo) hj (Or.inl ⟨by omega, by omega, rfl⟩))))))))
                          have hcE := cCh_ag hcq24 (Z := (w_up (w_up Sq24 215 16 4) 51 fo rv)) (fun j x hj => ((w_up_no (by omega)).trans (w_up_no (by omega))))
                          refine ⟨rfl, fun z => absurd z (by omega), fun _ => ?_, hcE, fE, (gI_up (gI_up gg24 (by omega) (by omega) (by omega)) (by omega) (by omega) (by omega)), (rmR_up (rmR_up (rmR_tr (rmR_up hR (by omega) (by first | decide | omega)) rr24) (by omega) (by first | decide | omega)) (by omega) (by first | decide | omega))⟩
                          refine (((w_up_slot (by first | decide | omega)).trans (w_up_same _ _ _ _)) : (w_up (w_up Sq24 215 16 4) 51 fo rv) 215 16 = 4).trans ?_
                          first | omega | (rw [if_pos (by omega)]) | (rw [if_neg (by omega)])
                    · skip
                      exact absurd c37 (by omega)
              · skip
                refine wa_aload_n (n := 0) rfl ?_
                refine wb_gf4 158 rfl (wy_pr rfl) wt_158 wf_5_3 (v := 47) wl_158_3 ?_
                refine wa_bipush (w_rg2 (by omega) (by omega)) ?_
                refine wb_aald5 47 7 rfl rfl (wy_pr rfl) wt_47 (by rw [show _ = _ from (((ff24 47 (-1) (by omega) (by unfold wG; omega) (by omega) (by omega) (by omega)).trans ((w_up_slot (by decide)).trans ((cl_47 hC)))))]; omega) wl_47_7 ?_
                refine wa_aload_n (n := 0) rfl ?_
                refine wb_gfi 158 rfl (wy_pr rfl) wt_158 wf_5_14 (v := fo) (((ff24 158 14 (by omega) (by unfold wG; omega) (by omega) (by omega) (by omega)).trans ((w_up_slot (by decide)).trans (l14)))) (fun r42 => ?_)
                refine wa_aload_n (n := 0) rfl ?_
                refine wb_gfl 158 rfl (wy_pr rfl) wt_158 wf_5_13 (v := (esV tl)) (((ff24 158 13 (by omega) (by unfold wG; omega) (by omega) (by omega) (by omega)).trans ((w_up_slot (by decide)).trans (l13)))) (fun r43 => ?_)
                refine wa_l2i ?_
                refine wb_iast 55 rfl (wy_pr rfl) wt_55 (n := (S 48 (-1))) (((ff24 55 (-1) (by omega) (by unfold wG; omega) (by omega) (by omega) (by omega)).trans ((w_up_slot (by decide)).trans ((hl.2.2.1 7 (by decide)))))) (by omega) (by omega) ⟨(by omega), (by omega)⟩ ?_
                refine wa_aload_n (n := 0) rfl ?_
                refine wb_gf4 158 rfl (wy_pr rfl) wt_158 wf_5_3 (v := 47) wl_158_3 ?_
                refine wa_bipush (w_rg2 (by omega) (by omega)) ?_
                refine wb_aald5 47 8 rfl rfl (wy_pr rfl) wt_47 (by rw [show _ = _ from ((w_up_slot (by decide)).trans (((ff24 47 (-1) (by omega) (by unfold wG; omega) (by omega) (by omega) (by omega)).trans ((w_up_slot (by decide)).trans ((cl_47 hC))))))]; omega) wl_47_8 ?_
                refine wa_aload_n (n := 0) rfl ?_
                refine wb_gfi 158 rfl (wy_pr rfl) wt_158 wf_5_14 (v := fo) ((w_up_slot (by decide)).trans (((ff24 158 14 (by omega) (by unfold wG; omega) (by omega) (by omega) (by omega)).trans ((w_up_slot (by decide)).trans (l14))))) (fun r44 => ?_)
                refine wa_aload_n (n := 0) rfl ?_
                refine wb_gfl 158 rfl (wy_pr rfl) wt_158 wf_5_13 (v := (esV tl)) ((w_up_slot (by decide)).trans (((ff24 158 13 (by omega) (by unfold wG; omega) (by omega) (by omega) (by omega)).trans ((w_up_slot (by decide)).trans (l13))))) (fun r45 => ?_)
                refine wa_bipush (w_rg2 (by omega) (by omega)) ?_
                refine wa_lushr ?_
                refine wa_l2i ?_
                refine wb_iast 56 rfl (wy_pr rfl) wt_56 (n := (S 48 (-1))) ((w_up_slot (by decide)).trans (((ff24 56 (-1) (by omega) (by unfold wG; omega) (by omega) (by omega) (by omega)).trans ((w_up_slot (by decide)).trans ((hl.2.2.1 8 (by decide))))))) (by omega) (by omega) ⟨(by omega), (by omega)⟩ ?_
                refine wa_fall ⟨_, rfl⟩ ?_
                refine wa_iload (n := 4) rfl ?_
                refine wa_iconst ?_
                refine wa_icmpne (w_rg0 (by omega) (by omega)) (w_rg0 (by omega) (by omega)) ⟨_, rfl⟩ (fun c46 => ?_) (fun c46 => ?_)
                · skip
                  refine wa_iload (n := 4) rfl ?_
                  refine wa_ifge (w_rg0 (by omega) (by omega)) ⟨_, rfl⟩ (fun c47 => ?_) (fun c47 => ?_)
                  · skip
                    refine wa_aload_n (n := 0) rfl ?_
                    refine wb_gf4 158 rfl (wy_pr rfl) wt_158 wf_5_3 (v := 47) wl_158_3 ?_
                    refine wa_iconst ?_
                    refine wb_aald5 47 3 rfl rfl (wy_pr rfl) wt_47 (by rw [show _ = _ from ((w_up_slot (by decide)).trans ((w_up_slot (by decide)).trans (((ff24 47 (-1) (by omega) (by unfold wG; omega) (by omega) (by omega) (by omega)).trans ((w_up_slot (by decide)).trans ((cl_47 hC)))))))]; omega) wl_47_3 ?_
                    refine wa_aload_n (n := 0) rfl ?_
                    refine wb_gfi 158 rfl (wy_pr rfl) wt_158 wf_5_14 (v := fo) ((w_up_slot (by decide)).trans ((w_up_slot (by decide)).trans (((ff24 158 14 (by omega) (by unfold wG; omega) (by omega) (by omega) (by omega)).trans ((w_up_slot (by decide)).trans (l14)))))) (fun r48 => ?_)
                    refine wa_iload (n := 4) rfl ?_
                    refine wb_iast 51 rfl (wy_pr rfl) wt_51 (n := (S 48 (-1))) ((w_up_slot (by decide)).trans ((w_up_slot (by decide)).trans (((ff24 51 (-1) (by omega) (by unfold wG; omega) (by omega) (by omega) (by omega)).trans ((w_up_slot (by decide)).trans ((hl.2.2.1 3 (by decide)))))))) (by omega) (by omega) ⟨(by omega), (by omega)⟩ ?_
                    refine wa_return rfl ?_
                    have fE : ∀ (j : Nat) (x : Int), j < 4000000 → j ≠ wG → ¬ lahM 73 120 121 215 fo j x → (w_up (w_up (w_up Sq24 55 fo (wb_l2i (esV tl))) 56 fo (wb_l2i (wb_lushr (esV tl) 32))) 51 fo rv) j x = S j x := fun j x j0 j1 hj => ((w_up_no (lah_m (j2 := 51) (x2 := fo) hj (Or.inl ⟨by omega, by omega, rfl⟩))).trans ((w_up_no (lah_m (j2 := 56) (x2 := fo) hj (Or.inl ⟨by omega, by omega, rfl⟩))).trans ((w_up_no (lah_m (j2 := 55) (x2 := fo) hj (Or.inl ⟨by omega, by omega, rfl⟩))).trans (((ff24 j x j0 j1 (lah_f hj).1 (lah_f hj).2.1 (lah_f hj).2.2).trans ((w_up_no (lah_m (j2 := 49) (x2 := fo) hj (Or.inl ⟨by omega, by omega, rfl⟩)))))))))
                    have hcE := cCh_ag hcq24 (Z := (w_up (w_up (w_up Sq24 55 fo (wb_l2i (esV tl))) 56 fo (wb_l2i (wb_lushr (esV tl) 32))) 51 fo rv)) (fun j x hj => ((w_up_no (by omega)).trans ((w_up_no (by omega)).trans (w_up_no (by omega)))))
                    refine ⟨rfl, fun _ => ⟨?_, ((w_up_slot (by first | decide | omega)).trans ((w_up_slot (by first | decide | omega)).trans ((w_up_slot (by first | decide | omega)).trans (((ff24 215 16 (by omega) (by unfold wG; omega) (by omega) (by omega) (by omega)).trans (w_up_slot (by first | decide | omega)))))))⟩, fun z => absurd z (by omega), hcE, fE, (gI_up (gI_up (gI_up gg24 (by omega) (by omega) (by omega)) (by omega) (by omega) (by omega)) (by omega) (by omega) (by omega)), (rmR_up (rmR_up (rmR_up (rmR_tr (rmR_up hR (by omega) (by first | decide | omega)) rr24) (by omega) (by first | decide | omega)) (by omega) (by first | decide | omega)) (by omega) (by first | decide | omega))⟩
                    refine ⟨⟨(((w_up_slot (by first | decide | omega)).trans ((w_up_slot (by first | decide | omega)).trans ((w_up_slot (by first | decide | omega)).trans (((ff24 48 fo (by omega) (by unfold wG; omega) (by omega) (by omega) (by omega)).trans (w_up_slot (by first | decide | omega))))))) : (w_up (w_up (w_up Sq24 55 fo (wb_l2i (esV tl))) 56 fo (wb_l2i (wb_lushr (esV tl) 32))) 51 fo rv) 48 fo = (S 48 fo)).trans b1, (((w_up_slot (by first | decide | omega)).trans ((w_up_slot (by first | decide | omega)).trans ((w_up_slot (by first | decide | omega)).trans (((ff24 49 fo (by omega) (by unfold wG; omega) (by omega) (by omega) (by omega)).trans (w_up_same _ _ _ _)))))) : (w_up (w_up (w_up Sq24 55 fo (wb_l2i (esV tl))) 56 fo (wb_l2i (wb_lushr (esV tl) 32))) 51 fo rv) 49 fo = k), (((w_up_slot (by first | decide | omega)).trans ((w_up_slot (by first | decide | omega)).trans ((w_up_slot (by first | decide | omega)).trans (((ff24 50 fo (by omega) (by unfold wG; omega) (by omega) (by omega) (by omega)).trans (w_up_slot (by first | decide | omega))))))) : (w_up (w_up (w_up Sq24 55 fo (wb_l2i (esV tl))) 56 fo (wb_l2i (wb_lushr (esV tl) 32))) 51 fo rv) 50 fo = (S 50 fo)).trans b3, ((w_up_same _ _ _ _) : (w_up (w_up (w_up Sq24 55 fo (wb_l2i (esV tl))) 56 fo (wb_l2i (wb_lushr (esV tl) 32))) 51 fo rv) 51 fo = rv), (((w_up_slot (by first | decide | omega)).trans ((w_up_slot (by first | decide | omega)).trans ((w_up_slot (by first | decide | omega)).trans (((ff24 52 fo (by omega) (by unfold wG; omega) (by omega) (by omega) (by omega)).trans (w_up_slot (by first | decide | omega))))))) : (w_up (w_up (w_up Sq24 55 fo (wb_l2i (esV tl))) 56 fo (wb_l2i (wb_lushr (esV tl) 32))) 51 fo rv) 52 fo = (S 52 fo)).trans b5⟩, ((((w_up_slot (by first | decide | omega)).trans ((w_up_slot (by first | decide | omega)).trans ((w_up_slot (by first | decide | omega)).trans (((ff24 53 fo (by omega) (by unfold wG; omega) (by omega) (by omega) (by omega)).trans (w_up_slot (by first | decide | omega))))))) : (w_up (w_up (w_up Sq24 55 fo (wb_l2i (esV tl))) 56 fo (wb_l2i (wb_lushr (esV tl) 32))) 51 fo rv) 53 fo = (S 53 fo)).trans b6).trans (if_neg (fun z => by have z1 := z.1; simp only [hoN] at z1; omega)).symm, ((((w_up_slot (by first | decide | omega)).trans ((w_up_slot (by first | decide | omega)).trans ((w_up_slot (by first | decide | omega)).trans (((ff24 54 fo (by omega) (by unfold wG; omega) (by omega) (by omega) (by omega)).trans (w_up_slot (by first | decide | omega))))))) : (w_up (w_up (w_up Sq24 55 fo (wb_l2i (esV tl))) 56 fo (wb_l2i (wb_lushr (esV tl) 32))) 51 fo rv) 54 fo = (S 54 fo)).trans b7).trans (if_neg (fun z => by have z1 := z.1; simp only [hoN] at z1; omega)).symm, ?_, ?_⟩
                    · exact (((w_up_slot (by first | decide | omega)).trans ((w_up_slot (by first | decide | omega)).trans (w_up_same _ _ _ _))) : (w_up (w_up (w_up Sq24 55 fo (wb_l2i (esV tl))) 56 fo (wb_l2i (wb_lushr (esV tl) 32))) 51 fo rv) 55 fo = (wb_l2i (esV tl))).trans (if_pos ⟨hll, by exact Or.inr (Or.inl rfl)⟩).symm
                    · exact (((w_up_slot (by first | decide | omega)).trans (w_up_same _ _ _ _)) : (w_up (w_up (w_up Sq24 55 fo (wb_l2i (esV tl))) 56 fo (wb_l2i (wb_lushr (esV tl) 32))) 51 fo rv) 56 fo = (wb_l2i (wb_lushr (esV tl) 32))).trans (if_pos ⟨hll, by exact Or.inr (Or.inl rfl)⟩).symm
                  · skip
                    exact absurd c47 (by omega)
                · skip
                  exact absurd c46 (by omega)
      · skip
        exact absurd c18 (by omega)
    · skip
      exact absurd c16 (by omega)
  · skip
    exact absurd c14 (by omega)
theorem lax_73_215 {k am kd fo : Int} (h72 : S 72 1 = 73) (hl : cSl S) (l4 : S 158 4 = 215) (l7 : S 158 7 = kd) (l14 : S 158 14 = fo) (hfo : 0 ≤ fo ∧ fo < S 48 (-1)) (hC : w_CL S) (hk : 0 ≤ k ∧ k < 60) (hkd : 2 ≤ kd ∧ kd ≤ 6 ∧ kd ≠ 5 ∧ (kd = 6 → am = 0)) (ham : am = 0 ∨ am = 1) : wJ (pe_GA xs) wY0 M (d + 6) t_XL_lookAtHost ((pe_at t_XL_lookAtHost.bl 0).getD (0, [])).2 [(0, (2, 158)), (1, (0, k)), (2, (0, am))] [] S (fun o Z => o = .inl none ∧ w_up (w_up S 49 fo k) 215 16 5 = Z) := by
  have h48 := hl.2.2.2
  refine wa_aload_n (n := 0) rfl ?_
  refine wb_gf4 158 rfl (wy_pr rfl) wt_158 wf_5_0 (v := 72) wl_158_0 ?_
  refine wb_gf5 72 rfl (wy_pr rfl) wt_72 wf_2_1 (v := 73) (h72) (fun r1 => ?_)
  refine wa_astore_n (n := 3) rfl ?_
  refine wa_aload_n (n := 0) rfl ?_
  refine wb_gf4 158 rfl (wy_pr rfl) wt_158 wf_5_3 (v := 47) wl_158_3 ?_
  refine wa_iconst ?_
  refine wb_aald5 47 1 rfl rfl (wy_pr rfl) wt_47 (by rw [show _ = _ from ((cl_47 hC))]; omega) wl_47_1 ?_
  refine wa_aload_n (n := 0) rfl ?_
  refine wb_gfi 158 rfl (wy_pr rfl) wt_158 wf_5_14 (v := fo) (l14) (fun r2 => ?_)
  refine wa_iload_n (n := 1) rfl ?_
  refine wb_iast 49 rfl (wy_pr rfl) wt_49 (n := (S 48 (-1))) ((hl.2.2.1 1 (by decide))) (by omega) (by omega) ⟨(by omega), (by omega)⟩ ?_
  refine wa_aload_n (n := 0) rfl ?_
  refine wb_gfi 158 rfl (wy_pr rfl) wt_158 wf_5_7 (v := kd) ((w_up_slot (by decide)).trans (l7)) (fun r3 => ?_)
  refine wa_ifne (w_rg0 (by omega) (by omega)) ⟨_, rfl⟩ (fun c4 => ?_) (fun c4 => ?_)
  · skip
    refine wa_aload_n (n := 0) rfl ?_
    refine wb_gfi 158 rfl (wy_pr rfl) wt_158 wf_5_7 (v := kd) ((w_up_slot (by decide)).trans (l7)) (fun r5 => ?_)
    refine wa_iconst ?_
    refine wa_icmpne (w_rg0 (by omega) (by omega)) (w_rg0 (by omega) (by omega)) ⟨_, rfl⟩ (fun c6 => ?_) (fun c6 => ?_)
    · skip
      refine wa_aload_n (n := 0) rfl ?_
      refine wb_gfi 158 rfl (wy_pr rfl) wt_158 wf_5_7 (v := kd) ((w_up_slot (by decide)).trans (l7)) (fun r7 => ?_)
      refine wa_iconst ?_
      refine wa_icmpne (w_rg0 (by omega) (by omega)) (w_rg0 (by omega) (by omega)) ⟨_, rfl⟩ (fun c8 => ?_) (fun c8 => ?_)
      · skip
        refine wa_aload_n (n := 0) rfl ?_
        refine wb_gfi 158 rfl (wy_pr rfl) wt_158 wf_5_7 (v := kd) ((w_up_slot (by decide)).trans (l7)) (fun r9 => ?_)
        refine wa_bipush (w_rg2 (by omega) (by omega)) ?_
        refine wa_icmpne (w_rg0 (by omega) (by omega)) (w_rg0 (by omega) (by omega)) ⟨_, rfl⟩ (fun c10 => ?_) (fun c10 => ?_)
        · skip
          refine wa_aload_n (n := 0) rfl ?_
          refine wb_gf5 158 rfl (wy_pr rfl) wt_158 wf_5_4 (v := 215) ((w_up_slot (by decide)).trans (l4)) (fun r11 => ?_)
          refine wa_iconst ?_
          refine wb_pfi 215 rfl (wy_pr rfl) wt_215 wf_8_16 (n := 16) rfl ⟨(by omega), (by omega)⟩ ?_
          refine wa_return rfl ?_
          exact ⟨rfl, rfl⟩
        · skip
          refine wa_iload_n (n := 2) rfl ?_
          refine wa_iconst ?_
          refine wa_icmpne (w_rg0 (by omega) (by omega)) (w_rg0 (by omega) (by omega)) ⟨_, rfl⟩ (fun c12 => ?_) (fun c12 => ?_)
          · skip
            refine wa_aload_n (n := 0) rfl ?_
            refine wb_gf5 158 rfl (wy_pr rfl) wt_158 wf_5_4 (v := 215) ((w_up_slot (by decide)).trans (l4)) (fun r13 => ?_)
            refine wa_iconst ?_
            refine wb_pfi 215 rfl (wy_pr rfl) wt_215 wf_8_16 (n := 16) rfl ⟨(by omega), (by omega)⟩ ?_
            refine wa_return rfl ?_
            exact ⟨rfl, rfl⟩
          · skip
            exfalso; omega
      · skip
        exact absurd c8 (by omega)
    · skip
      exact absurd c6 (by omega)
  · skip
    exact absurd c4 (by omega)
set_option maxHeartbeats 4000000 in
theorem lag_73_226 {k am l nm wk nms fo at0 wo mo : Int} {W tl : List Int} {CH : List aQ} (hC : w_CL S) (hK : KC 87 97 93 114 115 74 73 T cs ms os S) (hw : wHo cs ms os) (hX : w_X xs) (hI : gI S) (hN : hLn 73 74 nm wk W S) (h72 : S 72 1 = 73) (hc : cCh 73 121 120 74 T cs ms os CH wo mo S) (hWh : wd_at S 74 64) (hl : cSl S) (l4 : S 158 4 = 226) (l7 : S 158 7 = 0) (l14 : S 158 14 = fo) (hfo : 0 ≤ fo ∧ fo < S 48 (-1)) (hbl : blE l fo S) (hll : l = 1 ∨ l = 2) (hk : 0 ≤ k ∧ k < (cs.length : Int)) (ham : am = 0 ∨ am = 1) : wJ (pe_GA xs) wY0 (mS [120, 121, 122, 123, 124]) (d + 6) t_XL_lookAtHost ((pe_at t_XL_lookAtHost.bl 0).getD (0, [])).2 [(0, (2, 158)), (1, (0, k)), (2, (0, am))] [] S (lhQ 73 120 121 74 226 T cs ms os CH wo mo 0 nms fo (if gtA T cs ms os am W k = -1 then fdA T cs ms am W k else gtA T cs ms os am W k) (hoN l k (if gtA T cs ms os am W k = -1 then fdA T cs ms am W k else gtA T cs ms os am W k) 0 0 at0) S) := by
  have hR := rmR_rfl S
  have h48 := hl.2.2.2
  have hn := KC_n hK
  have hn2 := hn.2.2
  have h400 := hw.1
  obtain ⟨⟨b1, b2, b3, b4, b5⟩, b6, b7, b8, b9⟩ := hbl
  obtain ⟨fd, hfd⟩ : ∃ r : Int, r = fdA T cs ms am W k := ⟨_, rfl⟩
  have hfr := fdA_rg (T := T) (st := am) (W := W) hw hk
  rw [← hfd] at hfr ⊢
  obtain ⟨gt, hgt⟩ : ∃ r : Int, r = gtA T cs ms os am W k := ⟨_, rfl⟩
  have hgr := gtA_rg (T := T) (st := am) (W := W) hw hk
  rw [← hgt] at hgr ⊢
  refine wa_aload_n (n := 0) rfl ?_
  refine wb_gf4 158 rfl (wy_pr rfl) wt_158 wf_5_0 (v := 72) wl_158_0 ?_
  refine wb_gf5 72 rfl (wy_pr rfl) wt_72 wf_2_1 (v := 73) (h72) (fun r11 => ?_)
  refine wa_astore_n (n := 3) rfl ?_
  refine wa_aload_n (n := 0) rfl ?_
  refine wb_gf4 158 rfl (wy_pr rfl) wt_158 wf_5_3 (v := 47) wl_158_3 ?_
  refine wa_iconst ?_
  refine wb_aald5 47 1 rfl rfl (wy_pr rfl) wt_47 (by rw [show _ = _ from ((cl_47 hC))]; omega) wl_47_1 ?_
  refine wa_aload_n (n := 0) rfl ?_
  refine wb_gfi 158 rfl (wy_pr rfl) wt_158 wf_5_14 (v := fo) (l14) (fun r12 => ?_)
  refine wa_iload_n (n := 1) rfl ?_
  refine wb_iast 49 rfl (wy_pr rfl) wt_49 (n := (S 48 (-1))) ((hl.2.2.1 1 (by decide))) (by omega) (by omega) ⟨(by omega), (by omega)⟩ ?_
  refine wa_aload_n (n := 0) rfl ?_
  refine wb_gfi 158 rfl (wy_pr rfl) wt_158 wf_5_7 (v := 0) ((w_up_slot (by decide)).trans (l7)) (fun r13 => ?_)
  refine wa_ifne (w_rg0 (by omega) (by omega)) ⟨_, rfl⟩ (fun c14 => ?_) (fun c14 => ?_)
  · skip
    exact absurd c14 (by omega)
  · skip
    refine wa_aload_n (n := 0) rfl ?_
    refine wa_iload_n (n := 1) rfl ?_
    refine wa_iload_n (n := 2) rfl ?_
    have f15 : ∀ (j : Nat) (x : Int), j < 4000000 → j ≠ wG → ¬ lahC 73 120 121 fo j x → (w_up S 49 fo k) j x = S j x := fun j x j0 j1 hj => (w_up_no (lah_n (j2 := 49) (x2 := fo) hj (⟨by omega, by omega, rfl⟩)))
    have hc15 : cCh 73 121 120 74 T cs ms os CH wo mo (w_up S 49 fo k) := cCh_ag hc (fun j x hj => (w_up_no (by omega)))
    have hC15 : w_CL (w_up S 49 fo k) := lhC_73 hC hc15 hfo.1 f15
    have hN15 : hLn 73 74 nm wk W (w_up S 49 fo k) := hLn_ag hN (fun j x hj => f15 j x (by omega) (by unfold wG; omega) (by unfold lahC lahA; omega))
    have hK15 : KC 87 97 93 114 115 74 73 T cs ms os (w_up S 49 fo k) := KC_ag hK (f15 73 2 (by omega) (by unfold wG; omega) (by unfold lahC lahA; omega)) (f15 73 4 (by omega) (by unfold wG; omega) (by unfold lahC lahA; omega)) (fun j hj => funext (fun x => f15 j x (by omega) (by unfold wG; omega) (by unfold lahC lahA; omega)))
    have hW15 : wd_at (w_up S 49 fo k) 74 64 := wda_a9 hWh (fun j x j0 j1 => f15 j x (by omega) (by unfold wG; omega) (by unfold lahC lahA; omega))
    refine wa_cv 158 rfl (wy_pr rfl) wt_158 (M2 := fun _ => False) rfl at_XL_getter ⟨_, rfl⟩ rfl rfl ⟨(Or.inr ⟨wy_pr rfl, fun q => q⟩), (Or.inr ⟨wy_pr rfl, fun q => q⟩), trivial, trivial, trivial⟩ trivial (fun _ _ q => False.elim q) (wJ_mono (gtr_73 (S := (w_up S 49 fo k)) (k := k) (st := am) (d := d) hC15 hK15 hw hX (gI_up hI (by omega) (by omega) (by omega)) hN15 hk ham) (fun o Z hz => (⟨hz.1, hz.2.1, hz.2.2.1, by rw [hgt]; exact hz.2.2.2⟩ : sc_ag 159 (w_up S 49 fo k) Z ∧ gI Z ∧ rmR (w_up S 49 fo k) Z ∧ o = .inl (some (0, gt))))) (fun oq15 Sq15 hp16 q15 => ?_)
    rcases q15 with ⟨fz15, gz15, rz15, rfl⟩
    show wJ _ _ _ _ _ _ _ _ _ _
    refine wa_istore (n := 4) rfl ?_
    refine wa_goto ⟨_, rfl⟩ ?_
    refine wa_aload_n (n := 0) rfl ?_
    refine wb_gfi 158 rfl (wy_pr rfl) wt_158 wf_5_7 (v := 0) (((fz15 158 7 (by omega)).trans ((w_up_slot (by decide)).trans (l7)))) (fun r17 => ?_)
    refine wa_ifeq (w_rg0 (by omega) (by omega)) ⟨_, rfl⟩ (fun c18 => ?_) (fun c18 => ?_)
    · skip
      refine wa_iload (n := 4) rfl ?_
      refine wa_iconst ?_
      refine wa_icmpne (w_rg0 (by omega) (by omega)) (w_rg0 (by omega) (by omega)) ⟨_, rfl⟩ (fun c19 => ?_) (fun c19 => ?_)
      · skip
        refine wa_iload (n := 4) rfl ?_
        refine wa_ifge (w_rg0 (by omega) (by omega)) ⟨_, rfl⟩ (fun c20 => ?_) (fun c20 => ?_)
        · skip
          refine wa_aload_n (n := 0) rfl ?_
          refine wb_gf4 158 rfl (wy_pr rfl) wt_158 wf_5_3 (v := 47) wl_158_3 ?_
          refine wa_iconst ?_
          refine wb_aald5 47 3 rfl rfl (wy_pr rfl) wt_47 (by rw [show _ = _ from (((fz15 47 (-1) (by omega)).trans ((w_up_slot (by decide)).trans ((cl_47 hC)))))]; omega) wl_47_3 ?_
          refine wa_aload_n (n := 0) rfl ?_
          refine wb_gfi 158 rfl (wy_pr rfl) wt_158 wf_5_14 (v := fo) (((fz15 158 14 (by omega)).trans ((w_up_slot (by decide)).trans (l14)))) (fun r21 => ?_)
          refine wa_iload (n := 4) rfl ?_
          refine wb_iast 51 rfl (wy_pr rfl) wt_51 (n := (S 48 (-1))) (((fz15 51 (-1) (by omega)).trans ((w_up_slot (by decide)).trans ((hl.2.2.1 3 (by decide)))))) (by omega) (by omega) ⟨(by omega), (by omega)⟩ ?_
          refine wa_return rfl ?_
          have fE : ∀ (j : Nat) (x : Int), j < 4000000 → j ≠ wG → ¬ lahM 73 120 121 226 fo j x → (w_up Sq15 51 fo gt) j x = S j x := fun j x j0 j1 hj => ((w_up_no (lah_m (j2 := 51) (x2 := fo) hj (Or.inl ⟨by omega, by omega, rfl⟩))).trans (((fz15 j x (lah_d hj)).trans ((w_up_no (lah_m (j2 := 49) (x2 := fo) hj (Or.inl ⟨by omega, by omega, rfl⟩)))))))
          have hcE : cCh 73 121 120 74 T cs ms os CH wo mo (w_up Sq15 51 fo gt) := cCh_ag hc (fun j x hj => ((w_up_no (by omega)).trans ((fz15 j x (by omega)).trans (w_up_no (by omega)))))
          have hwh : (if gt = -1 then fd else gt) = gt := by first | exact if_pos (by omega) | exact if_neg (by omega)
          rw [hwh]
          refine ⟨rfl, fun _ => ⟨?_, ((w_up_slot (by first | decide | omega)).trans (((fz15 226 16 (by omega)).trans (w_up_slot (by first | decide | omega)))))⟩, fun z => absurd z (by omega), hcE, fE, (gI_up gz15 (by omega) (by omega) (by omega)), (rmR_up (rmR_tr (rmR_up hR (by omega) (by first | decide | omega)) rz15) (by omega) (by first | decide | omega))⟩
          refine ⟨⟨(((w_up_slot (by first | decide | omega)).trans (((fz15 48 fo (by omega)).trans (w_up_slot (by first | decide | omega))))) : (w_up Sq15 51 fo gt) 48 fo = (S 48 fo)).trans b1, (((w_up_slot (by first | decide | omega)).trans (((fz15 49 fo (by omega)).trans (w_up_same _ _ _ _)))) : (w_up Sq15 51 fo gt) 49 fo = k), (((w_up_slot (by first | decide | omega)).trans (((fz15 50 fo (by omega)).trans (w_up_slot (by first | decide | omega))))) : (w_up Sq15 51 fo gt) 50 fo = (S 50 fo)).trans b3, ((w_up_same _ _ _ _) : (w_up Sq15 51 fo gt) 51 fo = gt), (((w_up_slot (by first | decide | omega)).trans (((fz15 52 fo (by omega)).trans (w_up_slot (by first | decide | omega))))) : (w_up Sq15 51 fo gt) 52 fo = (S 52 fo)).trans b5⟩, ((((w_up_slot (by first | decide | omega)).trans (((fz15 53 fo (by omega)).trans (w_up_slot (by first | decide | omega))))) : (w_up Sq15 51 fo gt) 53 fo = (S 53 fo)).trans b6).trans (if_neg (fun z => by have z1 := z.1; simp only [hoN] at z1; omega)).symm, ((((w_up_slot (by first | decide | omega)).trans (((fz15 54 fo (by omega)).trans (w_up_slot (by first | decide | omega))))) : (w_up Sq15 51 fo gt) 54 fo = (S 54 fo)).trans b7).trans (if_neg (fun z => by have z1 := z.1; simp only [hoN] at z1; omega)).symm, ?_, ?_⟩
          · exact ((((w_up_slot (by first | decide | omega)).trans (((fz15 55 fo (by omega)).trans (w_up_slot (by first | decide | omega))))) : (w_up Sq15 51 fo gt) 55 fo = (S 55 fo)).trans b8).trans (if_neg (fun z => by rcases z.2 with y | y | y; exact absurd y (by first | decide | omega); exact absurd y (by first | decide | omega); exact absurd y.2 (by simp only [hoN]; decide))).symm
          · exact ((((w_up_slot (by first | decide | omega)).trans (((fz15 56 fo (by omega)).trans (w_up_slot (by first | decide | omega))))) : (w_up Sq15 51 fo gt) 56 fo = (S 56 fo)).trans b9).trans (if_neg (fun z => by rcases z.2 with y | y | y; exact absurd y (by first | decide | omega); exact absurd y (by first | decide | omega); exact absurd y.2 (by simp only [hoN]; decide))).symm
        · skip
          refine wa_aload_n (n := 0) rfl ?_
          refine wb_gf5 158 rfl (wy_pr rfl) wt_158 wf_5_4 (v := 226) (((fz15 158 4 (by omega)).trans ((w_up_slot (by decide)).trans (l4)))) (fun r22 => ?_)
          refine wa_iload (n := 4) rfl ?_
          refine wa_iconst ?_
          refine wa_icmpne (w_rg0 (by omega) (by omega)) (w_rg0 (by omega) (by omega)) ⟨_, rfl⟩ (fun c23 => ?_) (fun c23 => ?_)
          · skip
            refine wa_iload (n := 4) rfl ?_
            refine wa_ineg ?_
            refine wa_fall ⟨_, rfl⟩ ?_
            refine wb_pfi 226 rfl (wy_pr rfl) wt_226 wf_8_16 (n := 16) rfl ⟨(by omega), (by omega)⟩ ?_
            refine wa_fall ⟨_, rfl⟩ ?_
            refine wa_aload_n (n := 0) rfl ?_
            refine wb_gf4 158 rfl (wy_pr rfl) wt_158 wf_5_3 (v := 47) wl_158_3 ?_
            refine wa_iconst ?_
            refine wb_aald5 47 3 rfl rfl (wy_pr rfl) wt_47 (by rw [show _ = _ from ((w_up_slot (by decide)).trans (((fz15 47 (-1) (by omega)).trans ((w_up_slot (by decide)).trans ((cl_47 hC))))))]; omega) wl_47_3 ?_
            refine wa_aload_n (n := 0) rfl ?_
            refine wb_gfi 158 rfl (wy_pr rfl) wt_158 wf_5_14 (v := fo) ((w_up_slot (by decide)).trans (((fz15 158 14 (by omega)).trans ((w_up_slot (by decide)).trans (l14))))) (fun r24 => ?_)
            refine wa_iload (n := 4) rfl ?_
            refine wb_iast 51 rfl (wy_pr rfl) wt_51 (n := (S 48 (-1))) ((w_up_slot (by decide)).trans (((fz15 51 (-1) (by omega)).trans ((w_up_slot (by decide)).trans ((hl.2.2.1 3 (by decide))))))) (by omega) (by omega) ⟨(by omega), (by omega)⟩ ?_
            refine wa_return rfl ?_
            have fE : ∀ (j : Nat) (x : Int), j < 4000000 → j ≠ wG → ¬ lahM 73 120 121 226 fo j x → (w_up (w_up Sq15 226 16 (-gt)) 51 fo gt) j x = S j x := fun j x j0 j1 hj => ((w_up_no (lah_m (j2 := 51) (x2 := fo) hj (Or.inl ⟨by omega, by omega, rfl⟩))).trans ((w_up_no (lah_m (j2 := 226) (x2 := 16) hj (Or.inr ⟨rfl, rfl⟩))).trans (((fz15 j x (lah_d hj)).trans ((w_up_no (lah_m (j2 := 49) (x2 := fo) hj (Or.inl ⟨by omega, by omega, rfl⟩))))))))
            have hcE : cCh 73 121 120 74 T cs ms os CH wo mo (w_up (w_up Sq15 226 16 (-gt)) 51 fo gt) := cCh_ag hc (fun j x hj => ((w_up_no (by omega)).trans ((w_up_no (by omega)).trans ((fz15 j x (by omega)).trans (w_up_no (by omega))))))
            have hwh : (if gt = -1 then fd else gt) = gt := by first | exact if_pos (by omega) | exact if_neg (by omega)
            rw [hwh]
            refine ⟨rfl, fun z => absurd z (by omega), fun _ => ?_, hcE, fE, (gI_up (gI_up gz15 (by omega) (by omega) (by omega)) (by omega) (by omega) (by omega)), (rmR_up (rmR_up (rmR_tr (rmR_up hR (by omega) (by first | decide | omega)) rz15) (by omega) (by first | decide | omega)) (by omega) (by first | decide | omega))⟩
            refine (((w_up_slot (by first | decide | omega)).trans (w_up_same _ _ _ _)) : (w_up (w_up Sq15 226 16 (-gt)) 51 fo gt) 226 16 = (-gt)).trans ?_
            first | omega | (rw [if_pos (by omega)]) | (rw [if_neg (by omega)])
          · skip
            exact absurd c23 (by omega)
      · skip
        refine wa_aload_n (n := 0) rfl ?_
        refine wb_gfi 158 rfl (wy_pr rfl) wt_158 wf_5_7 (v := 0) (((fz15 158 7 (by omega)).trans ((w_up_slot (by decide)).trans (l7)))) (fun r25 => ?_)
        refine wa_ifeq (w_rg0 (by omega) (by omega)) ⟨_, rfl⟩ (fun c26 => ?_) (fun c26 => ?_)
        · skip
          refine wa_aload_n (n := 0) rfl ?_
          refine wa_iload_n (n := 1) rfl ?_
          refine wa_iload_n (n := 2) rfl ?_
          have f27 : ∀ (j : Nat) (x : Int), j < 4000000 → j ≠ wG → ¬ lahC 73 120 121 fo j x → Sq15 j x = S j x := fun j x j0 j1 hj => (((fz15 j x (lah_c hj)).trans ((w_up_no (lah_n (j2 := 49) (x2 := fo) hj (⟨by omega, by omega, rfl⟩))))))
          have hc27 : cCh 73 121 120 74 T cs ms os CH wo mo Sq15 := cCh_ag hc (fun j x hj => ((fz15 j x (by omega)).trans (w_up_no (by omega))))
          have hC27 : w_CL Sq15 := lhC_73 hC hc27 hfo.1 f27
          have hN27 : hLn 73 74 nm wk W Sq15 := hLn_ag hN (fun j x hj => f27 j x (by omega) (by unfold wG; omega) (by unfold lahC lahA; omega))
          have hK27 : KC 87 97 93 114 115 74 73 T cs ms os Sq15 := KC_ag hK (f27 73 2 (by omega) (by unfold wG; omega) (by unfold lahC lahA; omega)) (f27 73 4 (by omega) (by unfold wG; omega) (by unfold lahC lahA; omega)) (fun j hj => funext (fun x => f27 j x (by omega) (by unfold wG; omega) (by unfold lahC lahA; omega)))
          have hW27 : wd_at Sq15 74 64 := wda_a9 hWh (fun j x j0 j1 => f27 j x (by omega) (by unfold wG; omega) (by unfold lahC lahA; omega))
          refine wa_cv 158 rfl (wy_pr rfl) wt_158 (M2 := fun _ => False) rfl at_XL_fieldOf ⟨_, rfl⟩ rfl rfl ⟨trivial, (Or.inr ⟨wy_pr rfl, fun q => q⟩), (Or.inr ⟨wy_pr rfl, fun q => q⟩), trivial, trivial, trivial⟩ trivial (fun _ _ q => False.elim q) (wJ_mono (fof_73 (S := Sq15) (k := k) (st := am) (d := d) hC27 hK27 hw hX gz15 hN27 hk ham) (fun o Z hz => (⟨hz.1, hz.2.1, hz.2.2.1, by rw [hfd]; exact hz.2.2.2⟩ : sc_ag 159 Sq15 Z ∧ gI Z ∧ rmR Sq15 Z ∧ o = .inl (some (0, fd))))) (fun oq27 Sq27 hp28 q27 => ?_)
          rcases q27 with ⟨fz27, gz27, rz27, rfl⟩
          show wJ _ _ _ _ _ _ _ _ _ _
          refine wa_istore (n := 4) rfl ?_
          refine wa_fall ⟨_, rfl⟩ ?_
          refine wa_iload (n := 4) rfl ?_
          refine wa_ifge (w_rg0 (by omega) (by omega)) ⟨_, rfl⟩ (fun c29 => ?_) (fun c29 => ?_)
          · skip
            refine wa_aload_n (n := 0) rfl ?_
            refine wb_gf4 158 rfl (wy_pr rfl) wt_158 wf_5_3 (v := 47) wl_158_3 ?_
            refine wa_iconst ?_
            refine wb_aald5 47 3 rfl rfl (wy_pr rfl) wt_47 (by rw [show _ = _ from (((fz27 47 (-1) (by omega)).trans (((fz15 47 (-1) (by omega)).trans ((w_up_slot (by decide)).trans ((cl_47 hC)))))))]; omega) wl_47_3 ?_
            refine wa_aload_n (n := 0) rfl ?_
            refine wb_gfi 158 rfl (wy_pr rfl) wt_158 wf_5_14 (v := fo) (((fz27 158 14 (by omega)).trans (((fz15 158 14 (by omega)).trans ((w_up_slot (by decide)).trans (l14)))))) (fun r30 => ?_)
            refine wa_iload (n := 4) rfl ?_
            refine wb_iast 51 rfl (wy_pr rfl) wt_51 (n := (S 48 (-1))) (((fz27 51 (-1) (by omega)).trans (((fz15 51 (-1) (by omega)).trans ((w_up_slot (by decide)).trans ((hl.2.2.1 3 (by decide)))))))) (by omega) (by omega) ⟨(by omega), (by omega)⟩ ?_
            refine wa_return rfl ?_
            have fE : ∀ (j : Nat) (x : Int), j < 4000000 → j ≠ wG → ¬ lahM 73 120 121 226 fo j x → (w_up Sq27 51 fo fd) j x = S j x := fun j x j0 j1 hj => ((w_up_no (lah_m (j2 := 51) (x2 := fo) hj (Or.inl ⟨by omega, by omega, rfl⟩))).trans (((fz27 j x (lah_d hj)).trans ((((fz15 j x (lah_d hj)).trans ((w_up_no (lah_m (j2 := 49) (x2 := fo) hj (Or.inl ⟨by omega, by omega, rfl⟩))))))))))
            have hcE : cCh 73 121 120 74 T cs ms os CH wo mo (w_up Sq27 51 fo fd) := cCh_ag hc (fun j x hj => ((w_up_no (by omega)).trans ((fz27 j x (by omega)).trans ((fz15 j x (by omega)).trans (w_up_no (by omega))))))
            have hwh : (if gt = -1 then fd else gt) = fd := by first | exact if_pos (by omega) | exact if_neg (by omega)
            rw [hwh]
            refine ⟨rfl, fun _ => ⟨?_, ((w_up_slot (by first | decide | omega)).trans (((fz27 226 16 (by omega)).trans (((fz15 226 16 (by omega)).trans (w_up_slot (by first | decide | omega)))))))⟩, fun z => absurd z (by omega), hcE, fE, (gI_up gz27 (by omega) (by omega) (by omega)), (rmR_up (rmR_tr (rmR_tr (rmR_up hR (by omega) (by first | decide | omega)) rz15) rz27) (by omega) (by first | decide | omega))⟩
            refine ⟨⟨(((w_up_slot (by first | decide | omega)).trans (((fz27 48 fo (by omega)).trans (((fz15 48 fo (by omega)).trans (w_up_slot (by first | decide | omega))))))) : (w_up Sq27 51 fo fd) 48 fo = (S 48 fo)).trans b1, (((w_up_slot (by first | decide | omega)).trans (((fz27 49 fo (by omega)).trans (((fz15 49 fo (by omega)).trans (w_up_same _ _ _ _)))))) : (w_up Sq27 51 fo fd) 49 fo = k), (((w_up_slot (by first | decide | omega)).trans (((fz27 50 fo (by omega)).trans (((fz15 50 fo (by omega)).trans (w_up_slot (by first | decide | omega))))))) : (w_up Sq27 51 fo fd) 50 fo = (S 50 fo)).trans b3, ((w_up_same _ _ _ _) : (w_up Sq27 51 fo fd) 51 fo = fd), (((w_up_slot (by first | decide | omega)).trans (((fz27 52 fo (by omega)).trans (((fz15 52 fo (by omega)).trans (w_up_slot (by first | decide | omega))))))) : (w_up Sq27 51 fo fd) 52 fo = (S 52 fo)).trans b5⟩, ((((w_up_slot (by first | decide | omega)).trans (((fz27 53 fo (by omega)).trans (((fz15 53 fo (by omega)).trans (w_up_slot (by first | decide | omega))))))) : (w_up Sq27 51 fo fd) 53 fo = (S 53 fo)).trans b6).trans (if_neg (fun z => by have z1 := z.1; simp only [hoN] at z1; omega)).symm, ((((w_up_slot (by first | decide | omega)).trans (((fz27 54 fo (by omega)).trans (((fz15 54 fo (by omega)).trans (w_up_slot (by first | decide | omega))))))) : (w_up Sq27 51 fo fd) 54 fo = (S 54 fo)).trans b7).trans (if_neg (fun z => by have z1 := z.1; simp only [hoN] at z1; omega)).symm, ?_, ?_⟩
            · exact ((((w_up_slot (by first | decide | omega)).trans (((fz27 55 fo (by omega)).trans (((fz15 55 fo (by omega)).trans (w_up_slot (by first | decide | omega))))))) : (w_up Sq27 51 fo fd) 55 fo = (S 55 fo)).trans b8).trans (if_neg (fun z => by rcases z.2 with y | y | y; exact absurd y (by first | decide | omega); exact absurd y (by first | decide | omega); exact absurd y.2 (by simp only [hoN]; decide))).symm
            · exact ((((w_up_slot (by first | decide | omega)).trans (((fz27 56 fo (by omega)).trans (((fz15 56 fo (by omega)).trans (w_up_slot (by first | decide | omega))))))) : (w_up Sq27 51 fo fd) 56 fo = (S 56 fo)).trans b9).trans (if_neg (fun z => by rcases z.2 with y | y | y; exact absurd y (by first | decide | omega); exact absurd y (by first | decide | omega); exact absurd y.2 (by simp only [hoN]; decide))).symm
          · skip
            refine wa_aload_n (n := 0) rfl ?_
            refine wb_gf5 158 rfl (wy_pr rfl) wt_158 wf_5_4 (v := 226) (((fz27 158 4 (by omega)).trans (((fz15 158 4 (by omega)).trans ((w_up_slot (by decide)).trans (l4)))))) (fun r31 => ?_)
            refine wa_iload (n := 4) rfl ?_
            refine wa_iconst ?_
            refine wa_icmpne (w_rg0 (by omega) (by omega)) (w_rg0 (by omega) (by omega)) ⟨_, rfl⟩ (fun c32 => ?_) (fun c32 => ?_)
            · skip
              refine wa_iload (n := 4) rfl ?_
              refine wa_ineg ?_
              refine wa_fall ⟨_, rfl⟩ ?_
              refine wb_pfi 226 rfl (wy_pr rfl) wt_226 wf_8_16 (n := 16) rfl ⟨(by omega), (by omega)⟩ ?_
              refine wa_fall ⟨_, rfl⟩ ?_
              refine wa_aload_n (n := 0) rfl ?_
              refine wb_gf4 158 rfl (wy_pr rfl) wt_158 wf_5_3 (v := 47) wl_158_3 ?_
              refine wa_iconst ?_
              refine wb_aald5 47 3 rfl rfl (wy_pr rfl) wt_47 (by rw [show _ = _ from ((w_up_slot (by decide)).trans (((fz27 47 (-1) (by omega)).trans (((fz15 47 (-1) (by omega)).trans ((w_up_slot (by decide)).trans ((cl_47 hC))))))))]; omega) wl_47_3 ?_
              refine wa_aload_n (n := 0) rfl ?_
              refine wb_gfi 158 rfl (wy_pr rfl) wt_158 wf_5_14 (v := fo) ((w_up_slot (by decide)).trans (((fz27 158 14 (by omega)).trans (((fz15 158 14 (by omega)).trans ((w_up_slot (by decide)).trans (l14))))))) (fun r33 => ?_)
              refine wa_iload (n := 4) rfl ?_
              refine wb_iast 51 rfl (wy_pr rfl) wt_51 (n := (S 48 (-1))) ((w_up_slot (by decide)).trans (((fz27 51 (-1) (by omega)).trans (((fz15 51 (-1) (by omega)).trans ((w_up_slot (by decide)).trans ((hl.2.2.1 3 (by decide))))))))) (by omega) (by omega) ⟨(by omega), (by omega)⟩ ?_
              refine wa_return rfl ?_
              have fE : ∀ (j : Nat) (x : Int), j < 4000000 → j ≠ wG → ¬ lahM 73 120 121 226 fo j x → (w_up (w_up Sq27 226 16 (-fd)) 51 fo fd) j x = S j x := fun j x j0 j1 hj => ((w_up_no (lah_m (j2 := 51) (x2 := fo) hj (Or.inl ⟨by omega, by omega, rfl⟩))).trans ((w_up_no (lah_m (j2 := 226) (x2 := 16) hj (Or.inr ⟨rfl, rfl⟩))).trans (((fz27 j x (lah_d hj)).trans ((((fz15 j x (lah_d hj)).trans ((w_up_no (lah_m (j2 := 49) (x2 := fo) hj (Or.inl ⟨by omega, by omega, rfl⟩)))))))))))
              have hcE : cCh 73 121 120 74 T cs ms os CH wo mo (w_up (w_up Sq27 226 16 (-fd)) 51 fo fd) := cCh_ag hc (fun j x hj => ((w_up_no (by omega)).trans ((w_up_no (by omega)).trans ((fz27 j x (by omega)).trans ((fz15 j x (by omega)).trans (w_up_no (by omega)))))))
              have hwh : (if gt = -1 then fd else gt) = fd := by first | exact if_pos (by omega) | exact if_neg (by omega)
              rw [hwh]
              refine ⟨rfl, fun z => absurd z (by omega), fun _ => ?_, hcE, fE, (gI_up (gI_up gz27 (by omega) (by omega) (by omega)) (by omega) (by omega) (by omega)), (rmR_up (rmR_up (rmR_tr (rmR_tr (rmR_up hR (by omega) (by first | decide | omega)) rz15) rz27) (by omega) (by first | decide | omega)) (by omega) (by first | decide | omega))⟩
              refine (((w_up_slot (by first | decide | omega)).trans (w_up_same _ _ _ _)) : (w_up (w_up Sq27 226 16 (-fd)) 51 fo fd) 226 16 = (-fd)).trans ?_
              first | omega | (rw [if_pos (by omega)]) | (rw [if_neg (by omega)])
            · skip
              refine wa_iconst ?_
              refine wa_goto ⟨_, rfl⟩ ?_
              refine wb_pfi 226 rfl (wy_pr rfl) wt_226 wf_8_16 (n := 16) rfl ⟨(by omega), (by omega)⟩ ?_
              refine wa_fall ⟨_, rfl⟩ ?_
              refine wa_aload_n (n := 0) rfl ?_
              refine wb_gf4 158 rfl (wy_pr rfl) wt_158 wf_5_3 (v := 47) wl_158_3 ?_
              refine wa_iconst ?_
              refine wb_aald5 47 3 rfl rfl (wy_pr rfl) wt_47 (by rw [show _ = _ from ((w_up_slot (by decide)).trans (((fz27 47 (-1) (by omega)).trans (((fz15 47 (-1) (by omega)).trans ((w_up_slot (by decide)).trans ((cl_47 hC))))))))]; omega) wl_47_3 ?_
              refine wa_aload_n (n := 0) rfl ?_
              refine wb_gfi 158 rfl (wy_pr rfl) wt_158 wf_5_14 (v := fo) ((w_up_slot (by decide)).trans (((fz27 158 14 (by omega)).trans (((fz15 158 14 (by omega)).trans ((w_up_slot (by decide)).trans (l14))))))) (fun r34 => ?_)
              refine wa_iload (n := 4) rfl ?_
              refine wb_iast 51 rfl (wy_pr rfl) wt_51 (n := (S 48 (-1))) ((w_up_slot (by decide)).trans (((fz27 51 (-1) (by omega)).trans (((fz15 51 (-1) (by omega)).trans ((w_up_slot (by decide)).trans ((hl.2.2.1 3 (by decide))))))))) (by omega) (by omega) ⟨(by omega), (by omega)⟩ ?_
              refine wa_return rfl ?_
              have fE : ∀ (j : Nat) (x : Int), j < 4000000 → j ≠ wG → ¬ lahM 73 120 121 226 fo j x → (w_up (w_up Sq27 226 16 4) 51 fo fd) j x = S j x := fun j x j0 j1 hj => ((w_up_no (lah_m (j2 := 51) (x2 := fo) hj (Or.inl ⟨by omega, by omega, rfl⟩))).trans ((w_up_no (lah_m (j2 := 226) (x2 := 16) hj (Or.inr ⟨rfl, rfl⟩))).trans (((fz27 j x (lah_d hj)).trans ((((fz15 j x (lah_d hj)).trans ((w_up_no (lah_m (j2 := 49) (x2 := fo) hj (Or.inl ⟨by omega, by omega, rfl⟩)))))))))))
              have hcE : cCh 73 121 120 74 T cs ms os CH wo mo (w_up (w_up Sq27 226 16 4) 51 fo fd) := cCh_ag hc (fun j x hj => ((w_up_no (by omega)).trans ((w_up_no (by omega)).trans ((fz27 j x (by omega)).trans ((fz15 j x (by omega)).trans (w_up_no (by omega)))))))
              have hwh : (if gt = -1 then fd else gt) = fd := by first | exact if_pos (by omega) | exact if_neg (by omega)
              rw [hwh]
              refine ⟨rfl, fun z => absurd z (by omega), fun _ => ?_, hcE, fE, (gI_up (gI_up gz27 (by omega) (by omega) (by omega)) (by omega) (by omega) (by omega)), (rmR_up (rmR_up (rmR_tr (rmR_tr (rmR_up hR (by omega) (by first | decide | omega)) rz15) rz27) (by omega) (by first | decide | omega)) (by omega) (by first | decide | omega))⟩
              refine (((w_up_slot (by first | decide | omega)).trans (w_up_same _ _ _ _)) : (w_up (w_up Sq27 226 16 4) 51 fo fd) 226 16 = 4).trans ?_
              first | omega | (rw [if_pos (by omega)]) | (rw [if_neg (by omega)])
        · skip
          exact absurd c26 (by omega)
    · skip
      exact absurd c18 (by omega)
set_option maxHeartbeats 4000000 in
theorem las_73_226 {k am l nm wk nms fo at0 wo mo : Int} {W tl : List Int} {CH : List aQ} (hC : w_CL S) (hK : KC 87 97 93 114 115 74 73 T cs ms os S) (hw : wHo cs ms os) (hX : w_X xs) (hI : gI S) (hN : hLn 73 74 nm wk W S) (h72 : S 72 1 = 73) (hc : cCh 73 121 120 74 T cs ms os CH wo mo S) (hWh : wd_at S 74 64) (hl : cSl S) (l4 : S 158 4 = 226) (l7 : S 158 7 = 1) (l12 : S 158 12 = (tl.length : Int)) (l13 : S 158 13 = esV tl) (htl : tl.length ≤ 8) (hes : esOk tl) (hty : ∀ c ∈ tl, c < 9 + (cs.length : Int)) (hwo : wo < 10000000) (htl1 : tl.length = 1) (l14 : S 158 14 = fo) (hfo : 0 ≤ fo ∧ fo < S 48 (-1)) (hbl : blE l fo S) (hll : l = 1 ∨ l = 2) (hk : 0 ≤ k ∧ k < (cs.length : Int)) (ham : am = 0 ∨ am = 1) : wJ (pe_GA xs) wY0 (mS [120, 121, 122, 123, 124]) (d + 6) t_XL_lookAtHost ((pe_at t_XL_lookAtHost.bl 0).getD (0, [])).2 [(0, (2, 158)), (1, (0, k)), (2, (0, am))] [] S (lhQ 73 120 121 74 226 T cs ms os (chN CH wo mo (k, am, 1, (wnW [115, 101, 116] W), tl) (FA T cs ms os k am 1 (wnW [115, 101, 116] W))).1 (chN CH wo mo (k, am, 1, (wnW [115, 101, 116] W), tl) (FA T cs ms os k am 1 (wnW [115, 101, 116] W))).2 mo 1 nms fo (if (FA T cs ms os k am 1 (wnW [115, 101, 116] W)) = [] then fdA T cs ms am W k else (rvA T cs ms os (k, am, 1, (wnW [115, 101, 116] W), tl))) (if (FA T cs ms os k am 1 (wnW [115, 101, 116] W)) = [] then hoN l k (if (FA T cs ms os k am 1 (wnW [115, 101, 116] W)) = [] then fdA T cs ms am W k else (rvA T cs ms os (k, am, 1, (wnW [115, 101, 116] W), tl))) 0 0 at0 else hoN l k (if (FA T cs ms os k am 1 (wnW [115, 101, 116] W)) = [] then fdA T cs ms am W k else (rvA T cs ms os (k, am, 1, (wnW [115, 101, 116] W), tl))) 1 (esV tl) at0) S) := by
  have hR := rmR_rfl S
  have h48 := hl.2.2.2
  have hn := KC_n hK
  have hn2 := hn.2.2
  have h400 := hw.1
  obtain ⟨⟨b1, b2, b3, b4, b5⟩, b6, b7, b8, b9⟩ := hbl
  have hear : 0 ≤ esV tl ∧ esV tl < 72057594037927936 := by have z := esV_rg tl hes; have z2 := p7_le (n := tl.length) htl; omega
  have hlo := wb_l2i_rg (esV tl)
  have hhi := wb_l2i_rg (wb_lushr (esV tl) 32)
  obtain ⟨rv, hrv⟩ : ∃ r : Int, r = (rvA T cs ms os (k, am, 1, (wnW [115, 101, 116] W), tl)) := ⟨_, rfl⟩
  have hrr := rvA_rg (T := T) (q := (k, am, 1, (wnW [115, 101, 116] W), tl)) hw hk
  rw [← hrv] at hrr ⊢
  obtain ⟨fd, hfd⟩ : ∃ r : Int, r = fdA T cs ms am W k := ⟨_, rfl⟩
  have hfr := fdA_rg (T := T) (st := am) (W := W) hw hk
  rw [← hfd] at hfr ⊢
  have hF0 : (FA T cs ms os k am 1 (wnW [115, 101, 116] W)) = [] ↔ rv = -1 := by
    rw [hrv]
    unfold rvA
    constructor
    · intro z; exact if_pos z
    · intro z
      by_cases c : (FA T cs ms os k am 1 (wnW [115, 101, 116] W)) = []
      · exact c
      · exfalso
        have z1 : sgA cs ms tl (FA T cs ms os k am 1 (wnW [115, 101, 116] W)) = -1 := by have z2 := z; rw [if_neg c] at z2; exact z2
        have hsn := sgA_no (tl := tl) hw (FA_m (T := T) (am := am) (fs := 1) (WW := (wnW [115, 101, 116] W)) hw hk (by omega))
        exact hsn z1
  refine wa_aload_n (n := 0) rfl ?_
  refine wb_gf4 158 rfl (wy_pr rfl) wt_158 wf_5_0 (v := 72) wl_158_0 ?_
  refine wb_gf5 72 rfl (wy_pr rfl) wt_72 wf_2_1 (v := 73) (h72) (fun r11 => ?_)
  refine wa_astore_n (n := 3) rfl ?_
  refine wa_aload_n (n := 0) rfl ?_
  refine wb_gf4 158 rfl (wy_pr rfl) wt_158 wf_5_3 (v := 47) wl_158_3 ?_
  refine wa_iconst ?_
  refine wb_aald5 47 1 rfl rfl (wy_pr rfl) wt_47 (by rw [show _ = _ from ((cl_47 hC))]; omega) wl_47_1 ?_
  refine wa_aload_n (n := 0) rfl ?_
  refine wb_gfi 158 rfl (wy_pr rfl) wt_158 wf_5_14 (v := fo) (l14) (fun r12 => ?_)
  refine wa_iload_n (n := 1) rfl ?_
  refine wb_iast 49 rfl (wy_pr rfl) wt_49 (n := (S 48 (-1))) ((hl.2.2.1 1 (by decide))) (by omega) (by omega) ⟨(by omega), (by omega)⟩ ?_
  refine wa_aload_n (n := 0) rfl ?_
  refine wb_gfi 158 rfl (wy_pr rfl) wt_158 wf_5_7 (v := 1) ((w_up_slot (by decide)).trans (l7)) (fun r13 => ?_)
  refine wa_ifne (w_rg0 (by omega) (by omega)) ⟨_, rfl⟩ (fun c14 => ?_) (fun c14 => ?_)
  · skip
    refine wa_aload_n (n := 0) rfl ?_
    refine wb_gfi 158 rfl (wy_pr rfl) wt_158 wf_5_7 (v := 1) ((w_up_slot (by decide)).trans (l7)) (fun r15 => ?_)
    refine wa_iconst ?_
    refine wa_icmpne (w_rg0 (by omega) (by omega)) (w_rg0 (by omega) (by omega)) ⟨_, rfl⟩ (fun c16 => ?_) (fun c16 => ?_)
    · skip
      exact absurd c16 (by omega)
    · skip
      refine wa_aload_n (n := 3) rfl ?_
      refine wa_iload_n (n := 1) rfl ?_
      refine wa_iload_n (n := 2) rfl ?_
      refine wa_aload_n (n := 0) rfl ?_
      refine wa_ks ?_
      have f17 : ∀ (j : Nat) (x : Int), j < 4000000 → j ≠ wG → ¬ lahC 73 120 121 fo j x → (w_up S 49 fo k) j x = S j x := fun j x j0 j1 hj => (w_up_no (lah_n (j2 := 49) (x2 := fo) hj (⟨by omega, by omega, rfl⟩)))
      have hc17 : cCh 73 121 120 74 T cs ms os CH wo mo (w_up S 49 fo k) := cCh_ag hc (fun j x hj => (w_up_no (by omega)))
      have hC17 : w_CL (w_up S 49 fo k) := lhC_73 hC hc17 hfo.1 f17
      have hN17 : hLn 73 74 nm wk W (w_up S 49 fo k) := hLn_ag hN (fun j x hj => f17 j x (by omega) (by unfold wG; omega) (by unfold lahC lahA; omega))
      have hK17 : KC 87 97 93 114 115 74 73 T cs ms os (w_up S 49 fo k) := KC_ag hK (f17 73 2 (by omega) (by unfold wG; omega) (by unfold lahC lahA; omega)) (f17 73 4 (by omega) (by unfold wG; omega) (by unfold lahC lahA; omega)) (fun j hj => funext (fun x => f17 j x (by omega) (by unfold wG; omega) (by unfold lahC lahA; omega)))
      have hW17 : wd_at (w_up S 49 fo k) 74 64 := wda_a9 hWh (fun j x j0 j1 => f17 j x (by omega) (by unfold wG; omega) (by unfold lahC lahA; omega))
      refine wa_cv 158 rfl (wy_pr rfl) wt_158 (M2 := fun _ => False) rfl at_XL_wordBehind ⟨_, rfl⟩ rfl rfl ⟨(Or.inr ⟨wy_pr rfl, fun q => q⟩), (Or.inr ⟨wy_pr rfl, fun q => q⟩), trivial, trivial, trivial⟩ ⟨trivial, trivial, (Or.inr ⟨wy_pr rfl, fun q => q⟩), trivial⟩ (fun _ _ q => False.elim q) (wb51_73 (S := (w_up S 49 fo k)) hX hC17 (gI_up hI (by omega) (by omega) (by omega)) hN17.1.1 hN17.1.2 hN17.2.1 hN17.2.2.1.1 hN17.2.2.1.2 hN17.2.2.2.1.1 hN17.2.2.2.1.2.1 hN17.2.2.2.1.2.2 hN17.2.2.2.2.1.1 hN17.2.2.2.2.1.2 hN17.2.2.2.2.2.1) (fun oq17 Sq17 hp18 q17 => ?_)
      rcases q17 with ⟨fz17, gz17, rz17, wd, rfl, hv17⟩
      show wJ _ _ _ _ _ _ _ _ _ _
      have hvr17 := hwW_rg hv17
      have h7_17 : (w_up S 49 fo k) 74 7 ≤ 1024 := hN17.2.2.2.2.2.2
      refine wa_iconst ?_
      refine wa_aload_n (n := 0) rfl ?_
      refine wb_gfl 158 rfl (wy_pr rfl) wt_158 wf_5_13 (v := (esV tl)) (((fz17 158 13 (by omega)).trans ((w_up_slot (by decide)).trans (l13)))) (fun r19 => ?_)
      refine wa_iconst ?_
      have f20 : ∀ (j : Nat) (x : Int), j < 4000000 → j ≠ wG → ¬ lahC 73 120 121 fo j x → Sq17 j x = S j x := fun j x j0 j1 hj => (((fz17 j x (lah_c hj)).trans ((w_up_no (lah_n (j2 := 49) (x2 := fo) hj (⟨by omega, by omega, rfl⟩))))))
      have hc20 : cCh 73 121 120 74 T cs ms os CH wo mo Sq17 := cCh_ag hc (fun j x hj => ((fz17 j x (by omega)).trans (w_up_no (by omega))))
      have hC20 : w_CL Sq17 := lhC_73 hC hc20 hfo.1 f20
      have hN20 : hLn 73 74 nm wk W Sq17 := hLn_ag hN (fun j x hj => f20 j x (by omega) (by unfold wG; omega) (by unfold lahC lahA; omega))
      have hK20 : KC 87 97 93 114 115 74 73 T cs ms os Sq17 := KC_ag hK (f20 73 2 (by omega) (by unfold wG; omega) (by unfold lahC lahA; omega)) (f20 73 4 (by omega) (by unfold wG; omega) (by unfold lahC lahA; omega)) (fun j hj => funext (fun x => f20 j x (by omega) (by unfold wG; omega) (by unfold lahC lahA; omega)))
      have hW20 : wd_at Sq17 74 64 := wda_a9 hWh (fun j x j0 j1 => f20 j x (by omega) (by unfold wG; omega) (by unfold lahC lahA; omega))
      have hqk20 : qOk 74 cs Sq17 (k, am, 1, (wnW [115, 101, 116] W), tl) wd := ⟨hk, ⟨by show (0 : Int) ≤ am; omega, by show am ≤ (2 : Int); omega⟩, Or.inr rfl, ⟨htl, hes⟩, Or.inr ⟨by show am ≠ 2; omega, hwW_ag hv17 (fun j x j0 j1 => fz17 j x (by omega))⟩⟩
      have hwM20 : wdM 97 T ms Sq17 (if am = 2 then 2 else 1) wd (wnW [115, 101, 116] W) := by rw [if_neg (by omega)]; exact wdM_w hW20 hK20 (by rcases hqk20.2.2.2.2 with z | z; exact absurd z.1 (by show ¬ am = 2; omega); exact z.2) (by first | decide | omega)
      have hwr20 := qOk_rg hqk20 hc20.2.2.2.2.2.2
      have hch20 : ∀ K : List aKp, kpR 73 121 K Sq17 → wJ (pe_GA xs) wY0 (mS [120, 121, 122, 123, 124]) (d + 5) t_XO_choose ((pe_at t_XO_choose.bl 0).getD (0, [])).2 [(0, (2, 73)), (1, (0, k)), (2, (0, am)), (3, (0, wd)), (4, (0, 1)), (5, (1, esV tl)), (7, (0, (tl.length : Int)))] [] Sq17 (chQ 73 120 121 cs ms K (qKy (k, am, 1, (wnW [115, 101, 116] W), tl) wd) wd tl (FA T cs ms os k am 1 (wnW [115, 101, 116] W)) Sq17) := fun K hkp => cho_73 (pc := if (1 : Int) = 1 then 1 else -1) hC20 hK20 hw gz17 hc20.2.2.2.2.2.1 hkp (by rw [hc20.2.2.1]; exact hc20.2.2.2.1) (by rw [hc20.2.1]; exact hc20.2.2.2.2.1) hk ⟨by omega, by omega⟩ hwM20 ⟨by omega, by omega⟩ (Or.inr ⟨rfl, if_pos rfl⟩) htl hes hty rfl rfl
      obtain ⟨⟨K0, hK0, -⟩, -⟩ := id hc20
      have hcz20 : wJ (pe_GA xs) wY0 (mS [120, 121, 122, 123, 124]) (d + 5) t_XO_choose ((pe_at t_XO_choose.bl 0).getD (0, [])).2 [(0, (2, 73)), (1, (0, k)), (2, (0, am)), (3, (0, wd)), (4, (0, 1)), (5, (1, esV tl)), (7, (0, (tl.length : Int)))] [] Sq17 (fun o Z => o = .inl (some (0, rv)) ∧ cCh 73 121 120 74 T cs ms os (chN CH wo mo (k, am, 1, (wnW [115, 101, 116] W), tl) (FA T cs ms os k am 1 (wnW [115, 101, 116] W))).1 (chN CH wo mo (k, am, 1, (wnW [115, 101, 116] W), tl) (FA T cs ms os k am 1 (wnW [115, 101, 116] W))).2 mo Z ∧ chF 73 120 121 Sq17 Z ∧ gI Z ∧ rmR Sq17 Z) := by
        refine wJ_mono (chA_w (fun K hkp => hch20 K hkp) hc20) (fun o Z hz => ?_)
        rw [hrv]
        exact chA_e (q := (k, am, 1, (wnW [115, 101, 116] W), tl)) ⟨by decide, by decide, by decide, by decide⟩ hW20 hK20 hc20 hw hqk20 hz gz17 hwo
      rw [show (tl.length : Int) = 1 by omega] at hcz20
      refine wa_cv 73 rfl (wy_pr rfl) wt_73 (M2 := mS [120, 121, 122, 123, 124]) rfl at_XO_choose ⟨_, rfl⟩ rfl rfl ⟨(Or.inr ⟨wy_pr rfl, mS_no rfl⟩), (Or.inr ⟨wy_pr rfl, mS_no rfl⟩), trivial, trivial, trivial⟩ trivial (fun _ _ q => q) (hcz20) (fun oq20 Sq20 hp21 q20 => ?_)
      rcases q20 with ⟨rfl, hcq20, ff20, gg20, rr20⟩
      show wJ _ _ _ _ _ _ _ _ _ _
      refine wa_istore (n := 4) rfl ?_
      refine wa_goto ⟨_, rfl⟩ ?_
      refine wa_aload_n (n := 0) rfl ?_
      refine wb_gfi 158 rfl (wy_pr rfl) wt_158 wf_5_7 (v := 1) (((ff20 158 7 (by omega) (by unfold wG; omega) (by omega) (by omega) (by omega)).trans (((fz17 158 7 (by omega)).trans ((w_up_slot (by decide)).trans (l7)))))) (fun r22 => ?_)
      refine wa_ifeq (w_rg0 (by omega) (by omega)) ⟨_, rfl⟩ (fun c23 => ?_) (fun c23 => ?_)
      · skip
        exact absurd c23 (by omega)
      · skip
        refine wa_iload (n := 4) rfl ?_
        refine wa_iflt (w_rg0 (by omega) (by omega)) ⟨_, rfl⟩ (fun c24 => ?_) (fun c24 => ?_)
        · skip
          refine wa_iload (n := 4) rfl ?_
          refine wa_iconst ?_
          refine wa_icmpne (w_rg0 (by omega) (by omega)) (w_rg0 (by omega) (by omega)) ⟨_, rfl⟩ (fun c25 => ?_) (fun c25 => ?_)
          · skip
            refine wa_iload (n := 4) rfl ?_
            refine wa_ifge (w_rg0 (by omega) (by omega)) ⟨_, rfl⟩ (fun c26 => ?_) (fun c26 => ?_)
            · skip
              exact absurd c26 (by omega)
            · skip
              refine wa_aload_n (n := 0) rfl ?_
              refine wb_gf5 158 rfl (wy_pr rfl) wt_158 wf_5_4 (v := 226) (((ff20 158 4 (by omega) (by unfold wG; omega) (by omega) (by omega) (by omega)).trans (((fz17 158 4 (by omega)).trans ((w_up_slot (by decide)).trans (l4)))))) (fun r27 => ?_)
              refine wa_iload (n := 4) rfl ?_
              refine wa_iconst ?_
              refine wa_icmpne (w_rg0 (by omega) (by omega)) (w_rg0 (by omega) (by omega)) ⟨_, rfl⟩ (fun c28 => ?_) (fun c28 => ?_)
              · skip
                refine wa_iload (n := 4) rfl ?_
                refine wa_ineg ?_
                refine wa_fall ⟨_, rfl⟩ ?_
                refine wb_pfi 226 rfl (wy_pr rfl) wt_226 wf_8_16 (n := 16) rfl ⟨(by omega), (by omega)⟩ ?_
                refine wa_fall ⟨_, rfl⟩ ?_
                refine wa_aload_n (n := 0) rfl ?_
                refine wb_gf4 158 rfl (wy_pr rfl) wt_158 wf_5_3 (v := 47) wl_158_3 ?_
                refine wa_iconst ?_
                refine wb_aald5 47 3 rfl rfl (wy_pr rfl) wt_47 (by rw [show _ = _ from ((w_up_slot (by decide)).trans (((ff20 47 (-1) (by omega) (by unfold wG; omega) (by omega) (by omega) (by omega)).trans (((fz17 47 (-1) (by omega)).trans ((w_up_slot (by decide)).trans ((cl_47 hC))))))))]; omega) wl_47_3 ?_
                refine wa_aload_n (n := 0) rfl ?_
                refine wb_gfi 158 rfl (wy_pr rfl) wt_158 wf_5_14 (v := fo) ((w_up_slot (by decide)).trans (((ff20 158 14 (by omega) (by unfold wG; omega) (by omega) (by omega) (by omega)).trans (((fz17 158 14 (by omega)).trans ((w_up_slot (by decide)).trans (l14))))))) (fun r29 => ?_)
                refine wa_iload (n := 4) rfl ?_
                refine wb_iast 51 rfl (wy_pr rfl) wt_51 (n := (S 48 (-1))) ((w_up_slot (by decide)).trans (((ff20 51 (-1) (by omega) (by unfold wG; omega) (by omega) (by omega) (by omega)).trans (((fz17 51 (-1) (by omega)).trans ((w_up_slot (by decide)).trans ((hl.2.2.1 3 (by decide))))))))) (by omega) (by omega) ⟨(by omega), (by omega)⟩ ?_
                refine wa_return rfl ?_
                have fE : ∀ (j : Nat) (x : Int), j < 4000000 → j ≠ wG → ¬ lahM 73 120 121 226 fo j x → (w_up (w_up Sq20 226 16 (-rv)) 51 fo rv) j x = S j x := fun j x j0 j1 hj => ((w_up_no (lah_m (j2 := 51) (x2 := fo) hj (Or.inl ⟨by omega, by omega, rfl⟩))).trans ((w_up_no (lah_m (j2 := 226) (x2 := 16) hj (Or.inr ⟨rfl, rfl⟩))).trans (((ff20 j x j0 j1 (lah_f hj).1 (lah_f hj).2.1 (lah_f hj).2.2).trans ((((fz17 j x (lah_d hj)).trans ((w_up_no (lah_m (j2 := 49) (x2 := fo) hj (Or.inl ⟨by omega, by omega, rfl⟩)))))))))))
                have hcE := cCh_ag hcq20 (Z := (w_up (w_up Sq20 226 16 (-rv)) 51 fo rv)) (fun j x hj => ((w_up_no (by omega)).trans (w_up_no (by omega))))
                have hwh : (if (FA T cs ms os k am 1 (wnW [115, 101, 116] W)) = [] then fd else rv) = rv := by first | exact if_pos (hF0.mpr (by omega)) | exact if_neg (fun z => by have := hF0.mp z; omega)
                have hen : (if (FA T cs ms os k am 1 (wnW [115, 101, 116] W)) = [] then hoN l k (if (FA T cs ms os k am 1 (wnW [115, 101, 116] W)) = [] then fd else rv) 0 0 at0 else hoN l k (if (FA T cs ms os k am 1 (wnW [115, 101, 116] W)) = [] then fd else rv) 1 (esV tl) at0) = hoN l k rv 1 (esV tl) at0 := by rw [hwh]; exact if_neg (fun z => by have := hF0.mp z; omega)
                rw [hen, hwh]
                refine ⟨rfl, fun z => absurd z (by omega), fun _ => ?_, hcE, fE, (gI_up (gI_up gg20 (by omega) (by omega) (by omega)) (by omega) (by omega) (by omega)), (rmR_up (rmR_up (rmR_tr (rmR_tr (rmR_up hR (by omega) (by first | decide | omega)) rz17) rr20) (by omega) (by first | decide | omega)) (by omega) (by first | decide | omega))⟩
                refine (((w_up_slot (by first | decide | omega)).trans (w_up_same _ _ _ _)) : (w_up (w_up Sq20 226 16 (-rv)) 51 fo rv) 226 16 = (-rv)).trans ?_
                first | omega | (rw [if_pos (by omega)]) | (rw [if_neg (by omega)])
              · skip
                exact absurd c28 (by omega)
          · skip
            refine wa_aload_n (n := 0) rfl ?_
            refine wb_gfi 158 rfl (wy_pr rfl) wt_158 wf_5_7 (v := 1) (((ff20 158 7 (by omega) (by unfold wG; omega) (by omega) (by omega) (by omega)).trans (((fz17 158 7 (by omega)).trans ((w_up_slot (by decide)).trans (l7)))))) (fun r30 => ?_)
            refine wa_ifeq (w_rg0 (by omega) (by omega)) ⟨_, rfl⟩ (fun c31 => ?_) (fun c31 => ?_)
            · skip
              exact absurd c31 (by omega)
            · skip
              refine wa_aload_n (n := 0) rfl ?_
              refine wb_gfi 158 rfl (wy_pr rfl) wt_158 wf_5_7 (v := 1) (((ff20 158 7 (by omega) (by unfold wG; omega) (by omega) (by omega) (by omega)).trans (((fz17 158 7 (by omega)).trans ((w_up_slot (by decide)).trans (l7)))))) (fun r32 => ?_)
              refine wa_iconst ?_
              refine wa_icmpne (w_rg0 (by omega) (by omega)) (w_rg0 (by omega) (by omega)) ⟨_, rfl⟩ (fun c33 => ?_) (fun c33 => ?_)
              · skip
                exact absurd c33 (by omega)
              · skip
                refine wa_fall ⟨_, rfl⟩ ?_
                refine wa_aload_n (n := 0) rfl ?_
                refine wa_iload_n (n := 1) rfl ?_
                refine wa_iload_n (n := 2) rfl ?_
                have f34 : ∀ (j : Nat) (x : Int), j < 4000000 → j ≠ wG → ¬ lahC 73 120 121 fo j x → Sq20 j x = S j x := fun j x j0 j1 hj => (((ff20 j x j0 j1 (lah_e hj).1 (lah_e hj).2.1 (lah_e hj).2.2).trans ((((fz17 j x (lah_c hj)).trans ((w_up_no (lah_n (j2 := 49) (x2 := fo) hj (⟨by omega, by omega, rfl⟩)))))))))
                have hc34 := cCh_ag hcq20 (Z := Sq20) (fun j x hj => rfl)
                have hC34 : w_CL Sq20 := lhC_73 hC hc34 hfo.1 f34
                have hN34 : hLn 73 74 nm wk W Sq20 := hLn_ag hN (fun j x hj => f34 j x (by omega) (by unfold wG; omega) (by unfold lahC lahA; omega))
                have hK34 : KC 87 97 93 114 115 74 73 T cs ms os Sq20 := KC_ag hK (f34 73 2 (by omega) (by unfold wG; omega) (by unfold lahC lahA; omega)) (f34 73 4 (by omega) (by unfold wG; omega) (by unfold lahC lahA; omega)) (fun j hj => funext (fun x => f34 j x (by omega) (by unfold wG; omega) (by unfold lahC lahA; omega)))
                have hW34 : wd_at Sq20 74 64 := wda_a9 hWh (fun j x j0 j1 => f34 j x (by omega) (by unfold wG; omega) (by unfold lahC lahA; omega))
                refine wa_cv 158 rfl (wy_pr rfl) wt_158 (M2 := fun _ => False) rfl at_XL_fieldOf ⟨_, rfl⟩ rfl rfl ⟨trivial, (Or.inr ⟨wy_pr rfl, fun q => q⟩), (Or.inr ⟨wy_pr rfl, fun q => q⟩), trivial, trivial, trivial⟩ trivial (fun _ _ q => False.elim q) (wJ_mono (fof_73 (S := Sq20) (k := k) (st := am) (d := d) hC34 hK34 hw hX gg20 hN34 hk ham) (fun o Z hz => (⟨hz.1, hz.2.1, hz.2.2.1, by rw [hfd]; exact hz.2.2.2⟩ : sc_ag 159 Sq20 Z ∧ gI Z ∧ rmR Sq20 Z ∧ o = .inl (some (0, fd))))) (fun oq34 Sq34 hp35 q34 => ?_)
                rcases q34 with ⟨fz34, gz34, rz34, rfl⟩
                show wJ _ _ _ _ _ _ _ _ _ _
                refine wa_istore (n := 4) rfl ?_
                refine wa_fall ⟨_, rfl⟩ ?_
                refine wa_iload (n := 4) rfl ?_
                refine wa_ifge (w_rg0 (by omega) (by omega)) ⟨_, rfl⟩ (fun c36 => ?_) (fun c36 => ?_)
                · skip
                  refine wa_aload_n (n := 0) rfl ?_
                  refine wb_gf4 158 rfl (wy_pr rfl) wt_158 wf_5_3 (v := 47) wl_158_3 ?_
                  refine wa_iconst ?_
                  refine wb_aald5 47 3 rfl rfl (wy_pr rfl) wt_47 (by rw [show _ = _ from (((fz34 47 (-1) (by omega)).trans (((ff20 47 (-1) (by omega) (by unfold wG; omega) (by omega) (by omega) (by omega)).trans (((fz17 47 (-1) (by omega)).trans ((w_up_slot (by decide)).trans ((cl_47 hC)))))))))]; omega) wl_47_3 ?_
                  refine wa_aload_n (n := 0) rfl ?_
                  refine wb_gfi 158 rfl (wy_pr rfl) wt_158 wf_5_14 (v := fo) (((fz34 158 14 (by omega)).trans (((ff20 158 14 (by omega) (by unfold wG; omega) (by omega) (by omega) (by omega)).trans (((fz17 158 14 (by omega)).trans ((w_up_slot (by decide)).trans (l14)))))))) (fun r37 => ?_)
                  refine wa_iload (n := 4) rfl ?_
                  refine wb_iast 51 rfl (wy_pr rfl) wt_51 (n := (S 48 (-1))) (((fz34 51 (-1) (by omega)).trans (((ff20 51 (-1) (by omega) (by unfold wG; omega) (by omega) (by omega) (by omega)).trans (((fz17 51 (-1) (by omega)).trans ((w_up_slot (by decide)).trans ((hl.2.2.1 3 (by decide)))))))))) (by omega) (by omega) ⟨(by omega), (by omega)⟩ ?_
                  refine wa_return rfl ?_
                  have fE : ∀ (j : Nat) (x : Int), j < 4000000 → j ≠ wG → ¬ lahM 73 120 121 226 fo j x → (w_up Sq34 51 fo fd) j x = S j x := fun j x j0 j1 hj => ((w_up_no (lah_m (j2 := 51) (x2 := fo) hj (Or.inl ⟨by omega, by omega, rfl⟩))).trans (((fz34 j x (lah_d hj)).trans ((((ff20 j x j0 j1 (lah_f hj).1 (lah_f hj).2.1 (lah_f hj).2.2).trans ((((fz17 j x (lah_d hj)).trans ((w_up_no (lah_m (j2 := 49) (x2 := fo) hj (Or.inl ⟨by omega, by omega, rfl⟩)))))))))))))
                  have hcE := cCh_ag hcq20 (Z := (w_up Sq34 51 fo fd)) (fun j x hj => ((w_up_no (by omega)).trans (fz34 j x (by omega))))
                  have hwh : (if (FA T cs ms os k am 1 (wnW [115, 101, 116] W)) = [] then fd else rv) = fd := by first | exact if_pos (hF0.mpr (by omega)) | exact if_neg (fun z => by have := hF0.mp z; omega)
                  have hen : (if (FA T cs ms os k am 1 (wnW [115, 101, 116] W)) = [] then hoN l k (if (FA T cs ms os k am 1 (wnW [115, 101, 116] W)) = [] then fd else rv) 0 0 at0 else hoN l k (if (FA T cs ms os k am 1 (wnW [115, 101, 116] W)) = [] then fd else rv) 1 (esV tl) at0) = hoN l k fd 0 0 at0 := by rw [hwh]; exact if_pos (hF0.mpr (by omega))
                  rw [hen, hwh]
                  refine ⟨rfl, fun _ => ⟨?_, ((w_up_slot (by first | decide | omega)).trans (((fz34 226 16 (by omega)).trans (((ff20 226 16 (by omega) (by unfold wG; omega) (by omega) (by omega) (by omega)).trans (((fz17 226 16 (by omega)).trans (w_up_slot (by first | decide | omega)))))))))⟩, fun z => absurd z (by omega), hcE, fE, (gI_up gz34 (by omega) (by omega) (by omega)), (rmR_up (rmR_tr (rmR_tr (rmR_tr (rmR_up hR (by omega) (by first | decide | omega)) rz17) rr20) rz34) (by omega) (by first | decide | omega))⟩
                  refine ⟨⟨(((w_up_slot (by first | decide | omega)).trans (((fz34 48 fo (by omega)).trans (((ff20 48 fo (by omega) (by unfold wG; omega) (by omega) (by omega) (by omega)).trans (((fz17 48 fo (by omega)).trans (w_up_slot (by first | decide | omega))))))))) : (w_up Sq34 51 fo fd) 48 fo = (S 48 fo)).trans b1, (((w_up_slot (by first | decide | omega)).trans (((fz34 49 fo (by omega)).trans (((ff20 49 fo (by omega) (by unfold wG; omega) (by omega) (by omega) (by omega)).trans (((fz17 49 fo (by omega)).trans (w_up_same _ _ _ _)))))))) : (w_up Sq34 51 fo fd) 49 fo = k), (((w_up_slot (by first | decide | omega)).trans (((fz34 50 fo (by omega)).trans (((ff20 50 fo (by omega) (by unfold wG; omega) (by omega) (by omega) (by omega)).trans (((fz17 50 fo (by omega)).trans (w_up_slot (by first | decide | omega))))))))) : (w_up Sq34 51 fo fd) 50 fo = (S 50 fo)).trans b3, ((w_up_same _ _ _ _) : (w_up Sq34 51 fo fd) 51 fo = fd), (((w_up_slot (by first | decide | omega)).trans (((fz34 52 fo (by omega)).trans (((ff20 52 fo (by omega) (by unfold wG; omega) (by omega) (by omega) (by omega)).trans (((fz17 52 fo (by omega)).trans (w_up_slot (by first | decide | omega))))))))) : (w_up Sq34 51 fo fd) 52 fo = (S 52 fo)).trans b5⟩, ((((w_up_slot (by first | decide | omega)).trans (((fz34 53 fo (by omega)).trans (((ff20 53 fo (by omega) (by unfold wG; omega) (by omega) (by omega) (by omega)).trans (((fz17 53 fo (by omega)).trans (w_up_slot (by first | decide | omega))))))))) : (w_up Sq34 51 fo fd) 53 fo = (S 53 fo)).trans b6).trans (if_neg (fun z => by have z1 := z.1; simp only [hoN] at z1; omega)).symm, ((((w_up_slot (by first | decide | omega)).trans (((fz34 54 fo (by omega)).trans (((ff20 54 fo (by omega) (by unfold wG; omega) (by omega) (by omega) (by omega)).trans (((fz17 54 fo (by omega)).trans (w_up_slot (by first | decide | omega))))))))) : (w_up Sq34 51 fo fd) 54 fo = (S 54 fo)).trans b7).trans (if_neg (fun z => by have z1 := z.1; simp only [hoN] at z1; omega)).symm, ?_, ?_⟩
                  · exact ((((w_up_slot (by first | decide | omega)).trans (((fz34 55 fo (by omega)).trans (((ff20 55 fo (by omega) (by unfold wG; omega) (by omega) (by omega) (by omega)).trans (((fz17 55 fo (by omega)).trans (w_up_slot (by first | decide | omega))))))))) : (w_up Sq34 51 fo fd) 55 fo = (S 55 fo)).trans b8).trans (if_neg (fun z => by rcases z.2 with y | y | y; exact absurd y (by first | decide | omega); exact absurd y (by first | decide | omega); exact absurd y.2 (by simp only [hoN]; decide))).symm
                  · exact ((((w_up_slot (by first | decide | omega)).trans (((fz34 56 fo (by omega)).trans (((ff20 56 fo (by omega) (by unfold wG; omega) (by omega) (by omega) (by omega)).trans (((fz17 56 fo (by omega)).trans (w_up_slot (by first | decide | omega))))))))) : (w_up Sq34 51 fo fd) 56 fo = (S 56 fo)).trans b9).trans (if_neg (fun z => by rcases z.2 with y | y | y; exact absurd y (by first | decide | omega); exact absurd y (by first | decide | omega); exact absurd y.2 (by simp only [hoN]; decide))).symm
                · skip
                  refine wa_aload_n (n := 0) rfl ?_
                  refine wb_gf5 158 rfl (wy_pr rfl) wt_158 wf_5_4 (v := 226) (((fz34 158 4 (by omega)).trans (((ff20 158 4 (by omega) (by unfold wG; omega) (by omega) (by omega) (by omega)).trans (((fz17 158 4 (by omega)).trans ((w_up_slot (by decide)).trans (l4)))))))) (fun r38 => ?_)
                  refine wa_iload (n := 4) rfl ?_
                  refine wa_iconst ?_
                  refine wa_icmpne (w_rg0 (by omega) (by omega)) (w_rg0 (by omega) (by omega)) ⟨_, rfl⟩ (fun c39 => ?_) (fun c39 => ?_)
                  · skip
                    refine wa_iload (n := 4) rfl ?_
                    refine wa_ineg ?_
                    refine wa_fall ⟨_, rfl⟩ ?_
                    refine wb_pfi 226 rfl (wy_pr rfl) wt_226 wf_8_16 (n := 16) rfl ⟨(by omega), (by omega)⟩ ?_
                    refine wa_fall ⟨_, rfl⟩ ?_
                    refine wa_aload_n (n := 0) rfl ?_
                    refine wb_gf4 158 rfl (wy_pr rfl) wt_158 wf_5_3 (v := 47) wl_158_3 ?_
                    refine wa_iconst ?_
                    refine wb_aald5 47 3 rfl rfl (wy_pr rfl) wt_47 (by rw [show _ = _ from ((w_up_slot (by decide)).trans (((fz34 47 (-1) (by omega)).trans (((ff20 47 (-1) (by omega) (by unfold wG; omega) (by omega) (by omega) (by omega)).trans (((fz17 47 (-1) (by omega)).trans ((w_up_slot (by decide)).trans ((cl_47 hC))))))))))]; omega) wl_47_3 ?_
                    refine wa_aload_n (n := 0) rfl ?_
                    refine wb_gfi 158 rfl (wy_pr rfl) wt_158 wf_5_14 (v := fo) ((w_up_slot (by decide)).trans (((fz34 158 14 (by omega)).trans (((ff20 158 14 (by omega) (by unfold wG; omega) (by omega) (by omega) (by omega)).trans (((fz17 158 14 (by omega)).trans ((w_up_slot (by decide)).trans (l14))))))))) (fun r40 => ?_)
                    refine wa_iload (n := 4) rfl ?_
                    refine wb_iast 51 rfl (wy_pr rfl) wt_51 (n := (S 48 (-1))) ((w_up_slot (by decide)).trans (((fz34 51 (-1) (by omega)).trans (((ff20 51 (-1) (by omega) (by unfold wG; omega) (by omega) (by omega) (by omega)).trans (((fz17 51 (-1) (by omega)).trans ((w_up_slot (by decide)).trans ((hl.2.2.1 3 (by decide))))))))))) (by omega) (by omega) ⟨(by omega), (by omega)⟩ ?_
                    refine wa_return rfl ?_
                    have fE : ∀ (j : Nat) (x : Int), j < 4000000 → j ≠ wG → ¬ lahM 73 120 121 226 fo j x → (w_up (w_up Sq34 226 16 (-fd)) 51 fo fd) j x = S j x := fun j x j0 j1 hj => ((w_up_no (lah_m (j2 := 51) (x2 := fo) hj (Or.inl ⟨by omega, by omega, rfl⟩))).trans ((w_up_no (lah_m (j2 := 226) (x2 := 16) hj (Or.inr ⟨rfl, rfl⟩))).trans (((fz34 j x (lah_d hj)).trans ((((ff20 j x j0 j1 (lah_f hj).1 (lah_f hj).2.1 (lah_f hj).2.2).trans ((((fz17 j x (lah_d hj)).trans ((w_up_no (lah_m (j2 := 49) (x2 := fo) hj (Or.inl ⟨by omega, by omega, rfl⟩))))))))))))))
                    have hcE := cCh_ag hcq20 (Z := (w_up (w_up Sq34 226 16 (-fd)) 51 fo fd)) (fun j x hj => ((w_up_no (by omega)).trans ((w_up_no (by omega)).trans (fz34 j x (by omega)))))
                    have hwh : (if (FA T cs ms os k am 1 (wnW [115, 101, 116] W)) = [] then fd else rv) = fd := by first | exact if_pos (hF0.mpr (by omega)) | exact if_neg (fun z => by have := hF0.mp z; omega)
                    have hen : (if (FA T cs ms os k am 1 (wnW [115, 101, 116] W)) = [] then hoN l k (if (FA T cs ms os k am 1 (wnW [115, 101, 116] W)) = [] then fd else rv) 0 0 at0 else hoN l k (if (FA T cs ms os k am 1 (wnW [115, 101, 116] W)) = [] then fd else rv) 1 (esV tl) at0) = hoN l k fd 0 0 at0 := by rw [hwh]; exact if_pos (hF0.mpr (by omega))
                    rw [hen, hwh]
                    refine ⟨rfl, fun z => absurd z (by omega), fun _ => ?_, hcE, fE, (gI_up (gI_up gz34 (by omega) (by omega) (by omega)) (by omega) (by omega) (by omega)), (rmR_up (rmR_up (rmR_tr (rmR_tr (rmR_tr (rmR_up hR (by omega) (by first | decide | omega)) rz17) rr20) rz34) (by omega) (by first | decide | omega)) (by omega) (by first | decide | omega))⟩
                    refine (((w_up_slot (by first | decide | omega)).trans (w_up_same _ _ _ _)) : (w_up (w_up Sq34 226 16 (-fd)) 51 fo fd) 226 16 = (-fd)).trans ?_
                    first | omega | (rw [if_pos (by omega)]) | (rw [if_neg (by omega)])
                  · skip
                    refine wa_iconst ?_
                    refine wa_goto ⟨_, rfl⟩ ?_
                    refine wb_pfi 226 rfl (wy_pr rfl) wt_226 wf_8_16 (n := 16) rfl ⟨(by omega), (by omega)⟩ ?_
                    refine wa_fall ⟨_, rfl⟩ ?_
                    refine wa_aload_n (n := 0) rfl ?_
                    refine wb_gf4 158 rfl (wy_pr rfl) wt_158 wf_5_3 (v := 47) wl_158_3 ?_
                    refine wa_iconst ?_
                    refine wb_aald5 47 3 rfl rfl (wy_pr rfl) wt_47 (by rw [show _ = _ from ((w_up_slot (by decide)).trans (((fz34 47 (-1) (by omega)).trans (((ff20 47 (-1) (by omega) (by unfold wG; omega) (by omega) (by omega) (by omega)).trans (((fz17 47 (-1) (by omega)).trans ((w_up_slot (by decide)).trans ((cl_47 hC))))))))))]; omega) wl_47_3 ?_
                    refine wa_aload_n (n := 0) rfl ?_
                    refine wb_gfi 158 rfl (wy_pr rfl) wt_158 wf_5_14 (v := fo) ((w_up_slot (by decide)).trans (((fz34 158 14 (by omega)).trans (((ff20 158 14 (by omega) (by unfold wG; omega) (by omega) (by omega) (by omega)).trans (((fz17 158 14 (by omega)).trans ((w_up_slot (by decide)).trans (l14))))))))) (fun r41 => ?_)
                    refine wa_iload (n := 4) rfl ?_
                    refine wb_iast 51 rfl (wy_pr rfl) wt_51 (n := (S 48 (-1))) ((w_up_slot (by decide)).trans (((fz34 51 (-1) (by omega)).trans (((ff20 51 (-1) (by omega) (by unfold wG; omega) (by omega) (by omega) (by omega)).trans (((fz17 51 (-1) (by omega)).trans ((w_up_slot (by decide)).trans ((hl.2.2.1 3 (by decide))))))))))) (by omega) (by omega) ⟨(by omega), (by omega)⟩ ?_
                    refine wa_return rfl ?_
                    have fE : ∀ (j : Nat) (x : Int), j < 4000000 → j ≠ wG → ¬ lahM 73 120 121 226 fo j x → (w_up (w_up Sq34 226 16 4) 51 fo fd) j x = S j x := fun j x j0 j1 hj => ((w_up_no (lah_m (j2 := 51) (x2 := fo) hj (Or.inl ⟨by omega, by omega, rfl⟩))).trans ((w_up_no (lah_m (j2 := 226) (x2 := 16) hj (Or.inr ⟨rfl, rfl⟩))).trans (((fz34 j x (lah_d hj)).trans ((((ff20 j x j0 j1 (lah_f hj).1 (lah_f hj).2.1 (lah_f hj).2.2).trans ((((fz17 j x (lah_d hj)).trans ((w_up_no (lah_m (j2 := 49) (x2 := fo) hj (Or.inl ⟨by omega, by omega, rfl⟩))))))))))))))
                    have hcE := cCh_ag hcq20 (Z := (w_up (w_up Sq34 226 16 4) 51 fo fd)) (fun j x hj => ((w_up_no (by omega)).trans ((w_up_no (by omega)).trans (fz34 j x (by omega)))))
                    have hwh : (if (FA T cs ms os k am 1 (wnW [115, 101, 116] W)) = [] then fd else rv) = fd := by first | exact if_pos (hF0.mpr (by omega)) | exact if_neg (fun z => by have := hF0.mp z; omega)
                    have hen : (if (FA T cs ms os k am 1 (wnW [115, 101, 116] W)) = [] then hoN l k (if (FA T cs ms os k am 1 (wnW [115, 101, 116] W)) = [] then fd else rv) 0 0 at0 else hoN l k (if (FA T cs ms os k am 1 (wnW [115, 101, 116] W)) = [] then fd else rv) 1 (esV tl) at0) = hoN l k fd 0 0 at0 := by rw [hwh]; exact if_pos (hF0.mpr (by omega))
                    rw [hen, hwh]
                    refine ⟨rfl, fun z => absurd z (by omega), fun _ => ?_, hcE, fE, (gI_up (gI_up gz34 (by omega) (by omega) (by omega)) (by omega) (by omega) (by omega)), (rmR_up (rmR_up (rmR_tr (rmR_tr (rmR_tr (rmR_up hR (by omega) (by first | decide | omega)) rz17) rr20) rz34) (by omega) (by first | decide | omega)) (by omega) (by first | decide | omega))⟩
                    refine (((w_up_slot (by first | decide | omega)).trans (w_up_same _ _ _ _)) : (w_up (w_up Sq34 226 16 4) 51 fo fd) 226 16 = 4).trans ?_
                    first | omega | (rw [if_pos (by omega)]) | (rw [if_neg (by omega)])
        · skip
          refine wa_aload_n (n := 0) rfl ?_
          refine wb_gf4 158 rfl (wy_pr rfl) wt_158 wf_5_3 (v := 47) wl_158_3 ?_
          refine wa_bipush (w_rg2 (by omega) (by omega)) ?_
          refine wb_aald5 47 7 rfl rfl (wy_pr rfl) wt_47 (by rw [show _ = _ from (((ff20 47 (-1) (by omega) (by unfold wG; omega) (by omega) (by omega) (by omega)).trans (((fz17 47 (-1) (by omega)).trans ((w_up_slot (by decide)).trans ((cl_47 hC)))))))]; omega) wl_47_7 ?_
          refine wa_aload_n (n := 0) rfl ?_
          refine wb_gfi 158 rfl (wy_pr rfl) wt_158 wf_5_14 (v := fo) (((ff20 158 14 (by omega) (by unfold wG; omega) (by omega) (by omega) (by omega)).trans (((fz17 158 14 (by omega)).trans ((w_up_slot (by decide)).trans (l14)))))) (fun r42 => ?_)
          refine wa_aload_n (n := 0) rfl ?_
          refine wb_gfl 158 rfl (wy_pr rfl) wt_158 wf_5_13 (v := (esV tl)) (((ff20 158 13 (by omega) (by unfold wG; omega) (by omega) (by omega) (by omega)).trans (((fz17 158 13 (by omega)).trans ((w_up_slot (by decide)).trans (l13)))))) (fun r43 => ?_)
          refine wa_l2i ?_
          refine wb_iast 55 rfl (wy_pr rfl) wt_55 (n := (S 48 (-1))) (((ff20 55 (-1) (by omega) (by unfold wG; omega) (by omega) (by omega) (by omega)).trans (((fz17 55 (-1) (by omega)).trans ((w_up_slot (by decide)).trans ((hl.2.2.1 7 (by decide)))))))) (by omega) (by omega) ⟨(by omega), (by omega)⟩ ?_
          refine wa_aload_n (n := 0) rfl ?_
          refine wb_gf4 158 rfl (wy_pr rfl) wt_158 wf_5_3 (v := 47) wl_158_3 ?_
          refine wa_bipush (w_rg2 (by omega) (by omega)) ?_
          refine wb_aald5 47 8 rfl rfl (wy_pr rfl) wt_47 (by rw [show _ = _ from ((w_up_slot (by decide)).trans (((ff20 47 (-1) (by omega) (by unfold wG; omega) (by omega) (by omega) (by omega)).trans (((fz17 47 (-1) (by omega)).trans ((w_up_slot (by decide)).trans ((cl_47 hC))))))))]; omega) wl_47_8 ?_
          refine wa_aload_n (n := 0) rfl ?_
          refine wb_gfi 158 rfl (wy_pr rfl) wt_158 wf_5_14 (v := fo) ((w_up_slot (by decide)).trans (((ff20 158 14 (by omega) (by unfold wG; omega) (by omega) (by omega) (by omega)).trans (((fz17 158 14 (by omega)).trans ((w_up_slot (by decide)).trans (l14))))))) (fun r44 => ?_)
          refine wa_aload_n (n := 0) rfl ?_
          refine wb_gfl 158 rfl (wy_pr rfl) wt_158 wf_5_13 (v := (esV tl)) ((w_up_slot (by decide)).trans (((ff20 158 13 (by omega) (by unfold wG; omega) (by omega) (by omega) (by omega)).trans (((fz17 158 13 (by omega)).trans ((w_up_slot (by decide)).trans (l13))))))) (fun r45 => ?_)
          refine wa_bipush (w_rg2 (by omega) (by omega)) ?_
          refine wa_lushr ?_
          refine wa_l2i ?_
          refine wb_iast 56 rfl (wy_pr rfl) wt_56 (n := (S 48 (-1))) ((w_up_slot (by decide)).trans (((ff20 56 (-1) (by omega) (by unfold wG; omega) (by omega) (by omega) (by omega)).trans (((fz17 56 (-1) (by omega)).trans ((w_up_slot (by decide)).trans ((hl.2.2.1 8 (by decide))))))))) (by omega) (by omega) ⟨(by omega), (by omega)⟩ ?_
          refine wa_fall ⟨_, rfl⟩ ?_
          refine wa_iload (n := 4) rfl ?_
          refine wa_iconst ?_
          refine wa_icmpne (w_rg0 (by omega) (by omega)) (w_rg0 (by omega) (by omega)) ⟨_, rfl⟩ (fun c46 => ?_) (fun c46 => ?_)
          · skip
            refine wa_iload (n := 4) rfl ?_
            refine wa_ifge (w_rg0 (by omega) (by omega)) ⟨_, rfl⟩ (fun c47 => ?_) (fun c47 => ?_)
            · skip
              refine wa_aload_n (n := 0) rfl ?_
              refine wb_gf4 158 rfl (wy_pr rfl) wt_158 wf_5_3 (v := 47) wl_158_3 ?_
              refine wa_iconst ?_
              refine wb_aald5 47 3 rfl rfl (wy_pr rfl) wt_47 (by rw [show _ = _ from ((w_up_slot (by decide)).trans ((w_up_slot (by decide)).trans (((ff20 47 (-1) (by omega) (by unfold wG; omega) (by omega) (by omega) (by omega)).trans (((fz17 47 (-1) (by omega)).trans ((w_up_slot (by decide)).trans ((cl_47 hC)))))))))]; omega) wl_47_3 ?_
              refine wa_aload_n (n := 0) rfl ?_
              refine wb_gfi 158 rfl (wy_pr rfl) wt_158 wf_5_14 (v := fo) ((w_up_slot (by decide)).trans ((w_up_slot (by decide)).trans (((ff20 158 14 (by omega) (by unfold wG; omega) (by omega) (by omega) (by omega)).trans (((fz17 158 14 (by omega)).trans ((w_up_slot (by decide)).trans (l14)))))))) (fun r48 => ?_)
              refine wa_iload (n := 4) rfl ?_
              refine wb_iast 51 rfl (wy_pr rfl) wt_51 (n := (S 48 (-1))) ((w_up_slot (by decide)).trans ((w_up_slot (by decide)).trans (((ff20 51 (-1) (by omega) (by unfold wG; omega) (by omega) (by omega) (by omega)).trans (((fz17 51 (-1) (by omega)).trans ((w_up_slot (by decide)).trans ((hl.2.2.1 3 (by decide)))))))))) (by omega) (by omega) ⟨(by omega), (by omega)⟩ ?_
              refine wa_return rfl ?_
              have fE : ∀ (j : Nat) (x : Int), j < 4000000 → j ≠ wG → ¬ lahM 73 120 121 226 fo j x → (w_up (w_up (w_up Sq20 55 fo (wb_l2i (esV tl))) 56 fo (wb_l2i (wb_lushr (esV tl) 32))) 51 fo rv) j x = S j x := fun j x j0 j1 hj => ((w_up_no (lah_m (j2 := 51) (x2 := fo) hj (Or.inl ⟨by omega, by omega, rfl⟩))).trans ((w_up_no (lah_m (j2 := 56) (x2 := fo) hj (Or.inl ⟨by omega, by omega, rfl⟩))).trans ((w_up_no (lah_m (j2 := 55) (x2 := fo) hj (Or.inl ⟨by omega, by omega, rfl⟩))).trans (((ff20 j x j0 j1 (lah_f hj).1 (lah_f hj).2.1 (lah_f hj).2.2).trans ((((fz17 j x (lah_d hj)).trans ((w_up_no (lah_m (j2 := 49) (x2 := fo) hj (Or.inl ⟨by omega, by omega, rfl⟩))))))))))))
              have hcE := cCh_ag hcq20 (Z := (w_up (w_up (w_up Sq20 55 fo (wb_l2i (esV tl))) 56 fo (wb_l2i (wb_lushr (esV tl) 32))) 51 fo rv)) (fun j x hj => ((w_up_no (by omega)).trans ((w_up_no (by omega)).trans (w_up_no (by omega)))))
              have hwh : (if (FA T cs ms os k am 1 (wnW [115, 101, 116] W)) = [] then fd else rv) = rv := by first | exact if_pos (hF0.mpr (by omega)) | exact if_neg (fun z => by have := hF0.mp z; omega)
              have hen : (if (FA T cs ms os k am 1 (wnW [115, 101, 116] W)) = [] then hoN l k (if (FA T cs ms os k am 1 (wnW [115, 101, 116] W)) = [] then fd else rv) 0 0 at0 else hoN l k (if (FA T cs ms os k am 1 (wnW [115, 101, 116] W)) = [] then fd else rv) 1 (esV tl) at0) = hoN l k rv 1 (esV tl) at0 := by rw [hwh]; exact if_neg (fun z => by have := hF0.mp z; omega)
              rw [hen, hwh]
              refine ⟨rfl, fun _ => ⟨?_, ((w_up_slot (by first | decide | omega)).trans ((w_up_slot (by first | decide | omega)).trans ((w_up_slot (by first | decide | omega)).trans (((ff20 226 16 (by omega) (by unfold wG; omega) (by omega) (by omega) (by omega)).trans (((fz17 226 16 (by omega)).trans (w_up_slot (by first | decide | omega)))))))))⟩, fun z => absurd z (by omega), hcE, fE, (gI_up (gI_up (gI_up gg20 (by omega) (by omega) (by omega)) (by omega) (by omega) (by omega)) (by omega) (by omega) (by omega)), (rmR_up (rmR_up (rmR_up (rmR_tr (rmR_tr (rmR_up hR (by omega) (by first | decide | omega)) rz17) rr20) (by omega) (by first | decide | omega)) (by omega) (by first | decide | omega)) (by omega) (by first | decide | omega))⟩
              refine ⟨⟨(((w_up_slot (by first | decide | omega)).trans ((w_up_slot (by first | decide | omega)).trans ((w_up_slot (by first | decide | omega)).trans (((ff20 48 fo (by omega) (by unfold wG; omega) (by omega) (by omega) (by omega)).trans (((fz17 48 fo (by omega)).trans (w_up_slot (by first | decide | omega))))))))) : (w_up (w_up (w_up Sq20 55 fo (wb_l2i (esV tl))) 56 fo (wb_l2i (wb_lushr (esV tl) 32))) 51 fo rv) 48 fo = (S 48 fo)).trans b1, (((w_up_slot (by first | decide | omega)).trans ((w_up_slot (by first | decide | omega)).trans ((w_up_slot (by first | decide | omega)).trans (((ff20 49 fo (by omega) (by unfold wG; omega) (by omega) (by omega) (by omega)).trans (((fz17 49 fo (by omega)).trans (w_up_same _ _ _ _)))))))) : (w_up (w_up (w_up Sq20 55 fo (wb_l2i (esV tl))) 56 fo (wb_l2i (wb_lushr (esV tl) 32))) 51 fo rv) 49 fo = k), (((w_up_slot (by first | decide | omega)).trans ((w_up_slot (by first | decide | omega)).trans ((w_up_slot (by first | decide | omega)).trans (((ff20 50 fo (by omega) (by unfold wG; omega) (by omega) (by omega) (by omega)).trans (((fz17 50 fo (by omega)).trans (w_up_slot (by first | decide | omega))))))))) : (w_up (w_up (w_up Sq20 55 fo (wb_l2i (esV tl))) 56 fo (wb_l2i (wb_lushr (esV tl) 32))) 51 fo rv) 50 fo = (S 50 fo)).trans b3, ((w_up_same _ _ _ _) : (w_up (w_up (w_up Sq20 55 fo (wb_l2i (esV tl))) 56 fo (wb_l2i (wb_lushr (esV tl) 32))) 51 fo rv) 51 fo = rv), (((w_up_slot (by first | decide | omega)).trans ((w_up_slot (by first | decide | omega)).trans ((w_up_slot (by first | decide | omega)).trans (((ff20 52 fo (by omega) (by unfold wG; omega) (by omega) (by omega) (by omega)).trans (((fz17 52 fo (by omega)).trans (w_up_slot (by first | decide | omega))))))))) : (w_up (w_up (w_up Sq20 55 fo (wb_l2i (esV tl))) 56 fo (wb_l2i (wb_lushr (esV tl) 32))) 51 fo rv) 52 fo = (S 52 fo)).trans b5⟩, ((((w_up_slot (by first | decide | omega)).trans ((w_up_slot (by first | decide | omega)).trans ((w_up_slot (by first | decide | omega)).trans (((ff20 53 fo (by omega) (by unfold wG; omega) (by omega) (by omega) (by omega)).trans (((fz17 53 fo (by omega)).trans (w_up_slot (by first | decide | omega))))))))) : (w_up (w_up (w_up Sq20 55 fo (wb_l2i (esV tl))) 56 fo (wb_l2i (wb_lushr (esV tl) 32))) 51 fo rv) 53 fo = (S 53 fo)).trans b6).trans (if_neg (fun z => by have z1 := z.1; simp only [hoN] at z1; omega)).symm, ((((w_up_slot (by first | decide | omega)).trans ((w_up_slot (by first | decide | omega)).trans ((w_up_slot (by first | decide | omega)).trans (((ff20 54 fo (by omega) (by unfold wG; omega) (by omega) (by omega) (by omega)).trans (((fz17 54 fo (by omega)).trans (w_up_slot (by first | decide | omega))))))))) : (w_up (w_up (w_up Sq20 55 fo (wb_l2i (esV tl))) 56 fo (wb_l2i (wb_lushr (esV tl) 32))) 51 fo rv) 54 fo = (S 54 fo)).trans b7).trans (if_neg (fun z => by have z1 := z.1; simp only [hoN] at z1; omega)).symm, ?_, ?_⟩
              · exact (((w_up_slot (by first | decide | omega)).trans ((w_up_slot (by first | decide | omega)).trans (w_up_same _ _ _ _))) : (w_up (w_up (w_up Sq20 55 fo (wb_l2i (esV tl))) 56 fo (wb_l2i (wb_lushr (esV tl) 32))) 51 fo rv) 55 fo = (wb_l2i (esV tl))).trans (if_pos ⟨hll, by exact Or.inr (Or.inr ⟨rfl, rfl⟩)⟩).symm
              · exact (((w_up_slot (by first | decide | omega)).trans (w_up_same _ _ _ _)) : (w_up (w_up (w_up Sq20 55 fo (wb_l2i (esV tl))) 56 fo (wb_l2i (wb_lushr (esV tl) 32))) 51 fo rv) 56 fo = (wb_l2i (wb_lushr (esV tl) 32))).trans (if_pos ⟨hll, by exact Or.inr (Or.inr ⟨rfl, rfl⟩)⟩).symm
            · skip
              exact absurd c47 (by omega)
          · skip
            exact absurd c46 (by omega)
  · skip
    exact absurd c14 (by omega)
set_option maxHeartbeats 4000000 in
theorem lam_73_226 {k am l nm wk nms fo at0 wo mo : Int} {W tl : List Int} {CH : List aQ} (hC : w_CL S) (hK : KC 87 97 93 114 115 74 73 T cs ms os S) (hw : wHo cs ms os) (hX : w_X xs) (hI : gI S) (hN : hLn 73 74 nm wk W S) (h72 : S 72 1 = 73) (hc : cCh 73 121 120 74 T cs ms os CH wo mo S) (hWh : wd_at S 74 64) (hl : cSl S) (l4 : S 158 4 = 226) (l7 : S 158 7 = 5) (l12 : S 158 12 = (tl.length : Int)) (l13 : S 158 13 = esV tl) (htl : tl.length ≤ 8) (hes : esOk tl) (hty : ∀ c ∈ tl, c < 9 + (cs.length : Int)) (hwo : wo < 10000000) (l14 : S 158 14 = fo) (hfo : 0 ≤ fo ∧ fo < S 48 (-1)) (hbl : blE l fo S) (hll : l = 1 ∨ l = 2) (hk : 0 ≤ k ∧ k < (cs.length : Int)) (ham : am = 0 ∨ am = 1) : wJ (pe_GA xs) wY0 (mS [120, 121, 122, 123, 124]) (d + 6) t_XL_lookAtHost ((pe_at t_XL_lookAtHost.bl 0).getD (0, [])).2 [(0, (2, 158)), (1, (0, k)), (2, (0, am))] [] S (lhQ 73 120 121 74 226 T cs ms os (chN CH wo mo (k, am, 0, (wnW ([] : List Int) W), tl) (FA T cs ms os k am 0 (wnW ([] : List Int) W))).1 (chN CH wo mo (k, am, 0, (wnW ([] : List Int) W), tl) (FA T cs ms os k am 0 (wnW ([] : List Int) W))).2 mo 5 nms fo (rvA T cs ms os (k, am, 0, (wnW ([] : List Int) W), tl)) (hoN l k (rvA T cs ms os (k, am, 0, (wnW ([] : List Int) W), tl)) (tl.length : Int) (esV tl) at0) S) := by
  have hR := rmR_rfl S
  have h48 := hl.2.2.2
  have hn := KC_n hK
  have hn2 := hn.2.2
  have h400 := hw.1
  obtain ⟨⟨b1, b2, b3, b4, b5⟩, b6, b7, b8, b9⟩ := hbl
  have hear : 0 ≤ esV tl ∧ esV tl < 72057594037927936 := by have z := esV_rg tl hes; have z2 := p7_le (n := tl.length) htl; omega
  have hlo := wb_l2i_rg (esV tl)
  have hhi := wb_l2i_rg (wb_lushr (esV tl) 32)
  obtain ⟨rv, hrv⟩ : ∃ r : Int, r = (rvA T cs ms os (k, am, 0, (wnW ([] : List Int) W), tl)) := ⟨_, rfl⟩
  have hrr := rvA_rg (T := T) (q := (k, am, 0, (wnW ([] : List Int) W), tl)) hw hk
  rw [← hrv] at hrr ⊢
  refine wa_aload_n (n := 0) rfl ?_
  refine wb_gf4 158 rfl (wy_pr rfl) wt_158 wf_5_0 (v := 72) wl_158_0 ?_
  refine wb_gf5 72 rfl (wy_pr rfl) wt_72 wf_2_1 (v := 73) (h72) (fun r11 => ?_)
  refine wa_astore_n (n := 3) rfl ?_
  refine wa_aload_n (n := 0) rfl ?_
  refine wb_gf4 158 rfl (wy_pr rfl) wt_158 wf_5_3 (v := 47) wl_158_3 ?_
  refine wa_iconst ?_
  refine wb_aald5 47 1 rfl rfl (wy_pr rfl) wt_47 (by rw [show _ = _ from ((cl_47 hC))]; omega) wl_47_1 ?_
  refine wa_aload_n (n := 0) rfl ?_
  refine wb_gfi 158 rfl (wy_pr rfl) wt_158 wf_5_14 (v := fo) (l14) (fun r12 => ?_)
  refine wa_iload_n (n := 1) rfl ?_
  refine wb_iast 49 rfl (wy_pr rfl) wt_49 (n := (S 48 (-1))) ((hl.2.2.1 1 (by decide))) (by omega) (by omega) ⟨(by omega), (by omega)⟩ ?_
  refine wa_aload_n (n := 0) rfl ?_
  refine wb_gfi 158 rfl (wy_pr rfl) wt_158 wf_5_7 (v := 5) ((w_up_slot (by decide)).trans (l7)) (fun r13 => ?_)
  refine wa_ifne (w_rg0 (by omega) (by omega)) ⟨_, rfl⟩ (fun c14 => ?_) (fun c14 => ?_)
  · skip
    refine wa_aload_n (n := 0) rfl ?_
    refine wb_gfi 158 rfl (wy_pr rfl) wt_158 wf_5_7 (v := 5) ((w_up_slot (by decide)).trans (l7)) (fun r15 => ?_)
    refine wa_iconst ?_
    refine wa_icmpne (w_rg0 (by omega) (by omega)) (w_rg0 (by omega) (by omega)) ⟨_, rfl⟩ (fun c16 => ?_) (fun c16 => ?_)
    · skip
      refine wa_aload_n (n := 0) rfl ?_
      refine wb_gfi 158 rfl (wy_pr rfl) wt_158 wf_5_7 (v := 5) ((w_up_slot (by decide)).trans (l7)) (fun r17 => ?_)
      refine wa_iconst ?_
      refine wa_icmpne (w_rg0 (by omega) (by omega)) (w_rg0 (by omega) (by omega)) ⟨_, rfl⟩ (fun c18 => ?_) (fun c18 => ?_)
      · skip
        exact absurd c18 (by omega)
      · skip
        refine wa_aload_n (n := 3) rfl ?_
        refine wa_iload_n (n := 1) rfl ?_
        refine wa_iload_n (n := 2) rfl ?_
        refine wa_aload_n (n := 0) rfl ?_
        refine wa_ks ?_
        have f19 : ∀ (j : Nat) (x : Int), j < 4000000 → j ≠ wG → ¬ lahC 73 120 121 fo j x → (w_up S 49 fo k) j x = S j x := fun j x j0 j1 hj => (w_up_no (lah_n (j2 := 49) (x2 := fo) hj (⟨by omega, by omega, rfl⟩)))
        have hc19 : cCh 73 121 120 74 T cs ms os CH wo mo (w_up S 49 fo k) := cCh_ag hc (fun j x hj => (w_up_no (by omega)))
        have hC19 : w_CL (w_up S 49 fo k) := lhC_73 hC hc19 hfo.1 f19
        have hN19 : hLn 73 74 nm wk W (w_up S 49 fo k) := hLn_ag hN (fun j x hj => f19 j x (by omega) (by unfold wG; omega) (by unfold lahC lahA; omega))
        have hK19 : KC 87 97 93 114 115 74 73 T cs ms os (w_up S 49 fo k) := KC_ag hK (f19 73 2 (by omega) (by unfold wG; omega) (by unfold lahC lahA; omega)) (f19 73 4 (by omega) (by unfold wG; omega) (by unfold lahC lahA; omega)) (fun j hj => funext (fun x => f19 j x (by omega) (by unfold wG; omega) (by unfold lahC lahA; omega)))
        have hW19 : wd_at (w_up S 49 fo k) 74 64 := wda_a9 hWh (fun j x j0 j1 => f19 j x (by omega) (by unfold wG; omega) (by unfold lahC lahA; omega))
        refine wa_cv 158 rfl (wy_pr rfl) wt_158 (M2 := fun _ => False) rfl at_XL_wordBehind ⟨_, rfl⟩ rfl rfl ⟨(Or.inr ⟨wy_pr rfl, fun q => q⟩), (Or.inr ⟨wy_pr rfl, fun q => q⟩), trivial, trivial, trivial⟩ ⟨trivial, trivial, (Or.inr ⟨wy_pr rfl, fun q => q⟩), trivial⟩ (fun _ _ q => False.elim q) (wb53_73 (S := (w_up S 49 fo k)) hX hC19 (gI_up hI (by omega) (by omega) (by omega)) hN19.1.1 hN19.1.2 hN19.2.1 hN19.2.2.1.1 hN19.2.2.1.2 hN19.2.2.2.1.1 hN19.2.2.2.1.2.1 hN19.2.2.2.1.2.2 hN19.2.2.2.2.1.1 hN19.2.2.2.2.1.2 hN19.2.2.2.2.2.1) (fun oq19 Sq19 hp20 q19 => ?_)
        rcases q19 with ⟨fz19, gz19, rz19, wd, rfl, hv19⟩
        show wJ _ _ _ _ _ _ _ _ _ _
        have hvr19 := hwW_rg hv19
        have h7_19 : (w_up S 49 fo k) 74 7 ≤ 1024 := hN19.2.2.2.2.2.2
        refine wa_iconst ?_
        refine wa_aload_n (n := 0) rfl ?_
        refine wb_gfl 158 rfl (wy_pr rfl) wt_158 wf_5_13 (v := (esV tl)) (((fz19 158 13 (by omega)).trans ((w_up_slot (by decide)).trans (l13)))) (fun r21 => ?_)
        refine wa_aload_n (n := 0) rfl ?_
        refine wb_gfi 158 rfl (wy_pr rfl) wt_158 wf_5_12 (v := (tl.length : Int)) (((fz19 158 12 (by omega)).trans ((w_up_slot (by decide)).trans (l12)))) (fun r22 => ?_)
        have f23 : ∀ (j : Nat) (x : Int), j < 4000000 → j ≠ wG → ¬ lahC 73 120 121 fo j x → Sq19 j x = S j x := fun j x j0 j1 hj => (((fz19 j x (lah_c hj)).trans ((w_up_no (lah_n (j2 := 49) (x2 := fo) hj (⟨by omega, by omega, rfl⟩))))))
        have hc23 : cCh 73 121 120 74 T cs ms os CH wo mo Sq19 := cCh_ag hc (fun j x hj => ((fz19 j x (by omega)).trans (w_up_no (by omega))))
        have hC23 : w_CL Sq19 := lhC_73 hC hc23 hfo.1 f23
        have hN23 : hLn 73 74 nm wk W Sq19 := hLn_ag hN (fun j x hj => f23 j x (by omega) (by unfold wG; omega) (by unfold lahC lahA; omega))
        have hK23 : KC 87 97 93 114 115 74 73 T cs ms os Sq19 := KC_ag hK (f23 73 2 (by omega) (by unfold wG; omega) (by unfold lahC lahA; omega)) (f23 73 4 (by omega) (by unfold wG; omega) (by unfold lahC lahA; omega)) (fun j hj => funext (fun x => f23 j x (by omega) (by unfold wG; omega) (by unfold lahC lahA; omega)))
        have hW23 : wd_at Sq19 74 64 := wda_a9 hWh (fun j x j0 j1 => f23 j x (by omega) (by unfold wG; omega) (by unfold lahC lahA; omega))
        have hqk23 : qOk 74 cs Sq19 (k, am, 0, (wnW ([] : List Int) W), tl) wd := ⟨hk, ⟨by show (0 : Int) ≤ am; omega, by show am ≤ (2 : Int); omega⟩, Or.inl rfl, ⟨htl, hes⟩, Or.inr ⟨by show am ≠ 2; omega, hwW_ag hv19 (fun j x j0 j1 => fz19 j x (by omega))⟩⟩
        have hwM23 : wdM 97 T ms Sq19 (if am = 2 then 2 else 1) wd (wnW ([] : List Int) W) := by rw [if_neg (by omega)]; exact wdM_w hW23 hK23 (by rcases hqk23.2.2.2.2 with z | z; exact absurd z.1 (by show ¬ am = 2; omega); exact z.2) (by first | decide | omega)
        have hwr23 := qOk_rg hqk23 hc23.2.2.2.2.2.2
        have hch23 : ∀ K : List aKp, kpR 73 121 K Sq19 → wJ (pe_GA xs) wY0 (mS [120, 121, 122, 123, 124]) (d + 5) t_XO_choose ((pe_at t_XO_choose.bl 0).getD (0, [])).2 [(0, (2, 73)), (1, (0, k)), (2, (0, am)), (3, (0, wd)), (4, (0, 0)), (5, (1, esV tl)), (7, (0, (tl.length : Int)))] [] Sq19 (chQ 73 120 121 cs ms K (qKy (k, am, 0, (wnW ([] : List Int) W), tl) wd) wd tl (FA T cs ms os k am 0 (wnW ([] : List Int) W)) Sq19) := fun K hkp => cho_73 (pc := if (0 : Int) = 1 then 1 else -1) hC23 hK23 hw gz19 hc23.2.2.2.2.2.1 hkp (by rw [hc23.2.2.1]; exact hc23.2.2.2.1) (by rw [hc23.2.1]; exact hc23.2.2.2.2.1) hk ⟨by omega, by omega⟩ hwM23 ⟨by omega, by omega⟩ (Or.inl ⟨rfl, if_neg (by first | decide | omega)⟩) htl hes hty rfl rfl
        obtain ⟨⟨K0, hK0, -⟩, -⟩ := id hc23
        have hcz23 : wJ (pe_GA xs) wY0 (mS [120, 121, 122, 123, 124]) (d + 5) t_XO_choose ((pe_at t_XO_choose.bl 0).getD (0, [])).2 [(0, (2, 73)), (1, (0, k)), (2, (0, am)), (3, (0, wd)), (4, (0, 0)), (5, (1, esV tl)), (7, (0, (tl.length : Int)))] [] Sq19 (fun o Z => o = .inl (some (0, rv)) ∧ cCh 73 121 120 74 T cs ms os (chN CH wo mo (k, am, 0, (wnW ([] : List Int) W), tl) (FA T cs ms os k am 0 (wnW ([] : List Int) W))).1 (chN CH wo mo (k, am, 0, (wnW ([] : List Int) W), tl) (FA T cs ms os k am 0 (wnW ([] : List Int) W))).2 mo Z ∧ chF 73 120 121 Sq19 Z ∧ gI Z ∧ rmR Sq19 Z) := by
          refine wJ_mono (chA_w (fun K hkp => hch23 K hkp) hc23) (fun o Z hz => ?_)
          rw [hrv]
          exact chA_e (q := (k, am, 0, (wnW ([] : List Int) W), tl)) ⟨by decide, by decide, by decide, by decide⟩ hW23 hK23 hc23 hw hqk23 hz gz19 hwo
        refine wa_cv 73 rfl (wy_pr rfl) wt_73 (M2 := mS [120, 121, 122, 123, 124]) rfl at_XO_choose ⟨_, rfl⟩ rfl rfl ⟨(Or.inr ⟨wy_pr rfl, mS_no rfl⟩), (Or.inr ⟨wy_pr rfl, mS_no rfl⟩), trivial, trivial, trivial⟩ trivial (fun _ _ q => q) (hcz23) (fun oq23 Sq23 hp24 q23 => ?_)
        rcases q23 with ⟨rfl, hcq23, ff23, gg23, rr23⟩
        show wJ _ _ _ _ _ _ _ _ _ _
        refine wa_istore (n := 4) rfl ?_
        refine wa_goto ⟨_, rfl⟩ ?_
        refine wa_aload_n (n := 0) rfl ?_
        refine wb_gfi 158 rfl (wy_pr rfl) wt_158 wf_5_7 (v := 5) (((ff23 158 7 (by omega) (by unfold wG; omega) (by omega) (by omega) (by omega)).trans (((fz19 158 7 (by omega)).trans ((w_up_slot (by decide)).trans (l7)))))) (fun r25 => ?_)
        refine wa_ifeq (w_rg0 (by omega) (by omega)) ⟨_, rfl⟩ (fun c26 => ?_) (fun c26 => ?_)
        · skip
          exact absurd c26 (by omega)
        · skip
          refine wa_iload (n := 4) rfl ?_
          refine wa_iflt (w_rg0 (by omega) (by omega)) ⟨_, rfl⟩ (fun c27 => ?_) (fun c27 => ?_)
          · skip
            refine wa_iload (n := 4) rfl ?_
            refine wa_iconst ?_
            refine wa_icmpne (w_rg0 (by omega) (by omega)) (w_rg0 (by omega) (by omega)) ⟨_, rfl⟩ (fun c28 => ?_) (fun c28 => ?_)
            · skip
              refine wa_iload (n := 4) rfl ?_
              refine wa_ifge (w_rg0 (by omega) (by omega)) ⟨_, rfl⟩ (fun c29 => ?_) (fun c29 => ?_)
              · skip
                exact absurd c29 (by omega)
              · skip
                refine wa_aload_n (n := 0) rfl ?_
                refine wb_gf5 158 rfl (wy_pr rfl) wt_158 wf_5_4 (v := 226) (((ff23 158 4 (by omega) (by unfold wG; omega) (by omega) (by omega) (by omega)).trans (((fz19 158 4 (by omega)).trans ((w_up_slot (by decide)).trans (l4)))))) (fun r30 => ?_)
                refine wa_iload (n := 4) rfl ?_
                refine wa_iconst ?_
                refine wa_icmpne (w_rg0 (by omega) (by omega)) (w_rg0 (by omega) (by omega)) ⟨_, rfl⟩ (fun c31 => ?_) (fun c31 => ?_)
                · skip
                  refine wa_iload (n := 4) rfl ?_
                  refine wa_ineg ?_
                  refine wa_fall ⟨_, rfl⟩ ?_
                  refine wb_pfi 226 rfl (wy_pr rfl) wt_226 wf_8_16 (n := 16) rfl ⟨(by omega), (by omega)⟩ ?_
                  refine wa_fall ⟨_, rfl⟩ ?_
                  refine wa_aload_n (n := 0) rfl ?_
                  refine wb_gf4 158 rfl (wy_pr rfl) wt_158 wf_5_3 (v := 47) wl_158_3 ?_
                  refine wa_iconst ?_
                  refine wb_aald5 47 3 rfl rfl (wy_pr rfl) wt_47 (by rw [show _ = _ from ((w_up_slot (by decide)).trans (((ff23 47 (-1) (by omega) (by unfold wG; omega) (by omega) (by omega) (by omega)).trans (((fz19 47 (-1) (by omega)).trans ((w_up_slot (by decide)).trans ((cl_47 hC))))))))]; omega) wl_47_3 ?_
                  refine wa_aload_n (n := 0) rfl ?_
                  refine wb_gfi 158 rfl (wy_pr rfl) wt_158 wf_5_14 (v := fo) ((w_up_slot (by decide)).trans (((ff23 158 14 (by omega) (by unfold wG; omega) (by omega) (by omega) (by omega)).trans (((fz19 158 14 (by omega)).trans ((w_up_slot (by decide)).trans (l14))))))) (fun r32 => ?_)
                  refine wa_iload (n := 4) rfl ?_
                  refine wb_iast 51 rfl (wy_pr rfl) wt_51 (n := (S 48 (-1))) ((w_up_slot (by decide)).trans (((ff23 51 (-1) (by omega) (by unfold wG; omega) (by omega) (by omega) (by omega)).trans (((fz19 51 (-1) (by omega)).trans ((w_up_slot (by decide)).trans ((hl.2.2.1 3 (by decide))))))))) (by omega) (by omega) ⟨(by omega), (by omega)⟩ ?_
                  refine wa_return rfl ?_
                  have fE : ∀ (j : Nat) (x : Int), j < 4000000 → j ≠ wG → ¬ lahM 73 120 121 226 fo j x → (w_up (w_up Sq23 226 16 (-rv)) 51 fo rv) j x = S j x := fun j x j0 j1 hj => ((w_up_no (lah_m (j2 := 51) (x2 := fo) hj (Or.inl ⟨by omega, by omega, rfl⟩))).trans ((w_up_no (lah_m (j2 := 226) (x2 := 16) hj (Or.inr ⟨rfl, rfl⟩))).trans (((ff23 j x j0 j1 (lah_f hj).1 (lah_f hj).2.1 (lah_f hj).2.2).trans ((((fz19 j x (lah_d hj)).trans ((w_up_no (lah_m (j2 := 49) (x2 := fo) hj (Or.inl ⟨by omega, by omega, rfl⟩)))))))))))
                  have hcE := cCh_ag hcq23 (Z := (w_up (w_up Sq23 226 16 (-rv)) 51 fo rv)) (fun j x hj => ((w_up_no (by omega)).trans (w_up_no (by omega))))
                  refine ⟨rfl, fun z => absurd z (by omega), fun _ => ?_, hcE, fE, (gI_up (gI_up gg23 (by omega) (by omega) (by omega)) (by omega) (by omega) (by omega)), (rmR_up (rmR_up (rmR_tr (rmR_tr (rmR_up hR (by omega) (by first | decide | omega)) rz19) rr23) (by omega) (by first | decide | omega)) (by omega) (by first | decide | omega))⟩
                  refine (((w_up_slot (by first | decide | omega)).trans (w_up_same _ _ _ _)) : (w_up (w_up Sq23 226 16 (-rv)) 51 fo rv) 226 16 = (-rv)).trans ?_
                  first | omega | (rw [if_pos (by omega)]) | (rw [if_neg (by omega)])
                · skip
                  exact absurd c31 (by omega)
            · skip
              refine wa_aload_n (n := 0) rfl ?_
              refine wb_gfi 158 rfl (wy_pr rfl) wt_158 wf_5_7 (v := 5) (((ff23 158 7 (by omega) (by unfold wG; omega) (by omega) (by omega) (by omega)).trans (((fz19 158 7 (by omega)).trans ((w_up_slot (by decide)).trans (l7)))))) (fun r33 => ?_)
              refine wa_ifeq (w_rg0 (by omega) (by omega)) ⟨_, rfl⟩ (fun c34 => ?_) (fun c34 => ?_)
              · skip
                exact absurd c34 (by omega)
              · skip
                refine wa_aload_n (n := 0) rfl ?_
                refine wb_gfi 158 rfl (wy_pr rfl) wt_158 wf_5_7 (v := 5) (((ff23 158 7 (by omega) (by unfold wG; omega) (by omega) (by omega) (by omega)).trans (((fz19 158 7 (by omega)).trans ((w_up_slot (by decide)).trans (l7)))))) (fun r35 => ?_)
                refine wa_iconst ?_
                refine wa_icmpne (w_rg0 (by omega) (by omega)) (w_rg0 (by omega) (by omega)) ⟨_, rfl⟩ (fun c36 => ?_) (fun c36 => ?_)
                · skip
                  refine wa_iload (n := 4) rfl ?_
                  refine wa_ifge (w_rg0 (by omega) (by omega)) ⟨_, rfl⟩ (fun c37 => ?_) (fun c37 => ?_)
                  · skip
                    exact absurd c37 (by omega)
                  · skip
                    refine wa_aload_n (n := 0) rfl ?_
                    refine wb_gf5 158 rfl (wy_pr rfl) wt_158 wf_5_4 (v := 226) (((ff23 158 4 (by omega) (by unfold wG; omega) (by omega) (by omega) (by omega)).trans (((fz19 158 4 (by omega)).trans ((w_up_slot (by decide)).trans (l4)))))) (fun r38 => ?_)
                    refine wa_iload (n := 4) rfl ?_
                    refine wa_iconst ?_
                    refine wa_icmpne (w_rg0 (by omega) (by omega)) (w_rg0 (by omega) (by omega)) ⟨_, rfl⟩ (fun c39 => ?_) (fun c39 => ?_)
                    · skip
                      exact absurd c39 (by omega)
                    · skip
                      refine wa_iconst ?_
                      refine wa_goto ⟨_, rfl⟩ ?_
                      refine wb_pfi 226 rfl (wy_pr rfl) wt_226 wf_8_16 (n := 16) rfl ⟨(by omega), (by omega)⟩ ?_
                      refine wa_fall ⟨_, rfl⟩ ?_
                      refine wa_aload_n (n := 0) rfl ?_
                      refine wb_gf4 158 rfl (wy_pr rfl) wt_158 wf_5_3 (v := 47) wl_158_3 ?_
                      refine wa_iconst ?_
                      refine wb_aald5 47 3 rfl rfl (wy_pr rfl) wt_47 (by rw [show _ = _ from ((w_up_slot (by decide)).trans (((ff23 47 (-1) (by omega) (by unfold wG; omega) (by omega) (by omega) (by omega)).trans (((fz19 47 (-1) (by omega)).trans ((w_up_slot (by decide)).trans ((cl_47 hC))))))))]; omega) wl_47_3 ?_
                      refine wa_aload_n (n := 0) rfl ?_
                      refine wb_gfi 158 rfl (wy_pr rfl) wt_158 wf_5_14 (v := fo) ((w_up_slot (by decide)).trans (((ff23 158 14 (by omega) (by unfold wG; omega) (by omega) (by omega) (by omega)).trans (((fz19 158 14 (by omega)).trans ((w_up_slot (by decide)).trans (l14))))))) (fun r40 => ?_)
                      refine wa_iload (n := 4) rfl ?_
                      refine wb_iast 51 rfl (wy_pr rfl) wt_51 (n := (S 48 (-1))) ((w_up_slot (by decide)).trans (((ff23 51 (-1) (by omega) (by unfold wG; omega) (by omega) (by omega) (by omega)).trans (((fz19 51 (-1) (by omega)).trans ((w_up_slot (by decide)).trans ((hl.2.2.1 3 (by decide))))))))) (by omega) (by omega) ⟨(by omega), (by omega)⟩ ?_
                      refine wa_return rfl ?_
                      have fE : ∀ (j : Nat) (x : Int), j < 4000000 → j ≠ wG → ¬ lahM 73 120 121 226 fo j x → (w_up (w_up Sq23 226 16 4) 51 fo rv) j x = S j x := fun j x j0 j1 hj => ((w_up_no (lah_m (j2 := 51) (x2 := fo) hj (Or.inl ⟨by omega, by omega, rfl⟩))).trans ((w_up_no (lah_m (j2 := 226) (x2 := 16) hj (Or.inr ⟨rfl, rfl⟩))).trans (((ff23 j x j0 j1 (lah_f hj).1 (lah_f hj).2.1 (lah_f hj).2.2).trans ((((fz19 j x (lah_d hj)).trans ((w_up_no (lah_m (j2 := 49) (x2 := fo) hj (Or.inl ⟨by omega, by omega, rfl⟩)))))))))))
                      have hcE := cCh_ag hcq23 (Z := (w_up (w_up Sq23 226 16 4) 51 fo rv)) (fun j x hj => ((w_up_no (by omega)).trans (w_up_no (by omega))))
                      refine ⟨rfl, fun z => absurd z (by omega), fun _ => ?_, hcE, fE, (gI_up (gI_up gg23 (by omega) (by omega) (by omega)) (by omega) (by omega) (by omega)), (rmR_up (rmR_up (rmR_tr (rmR_tr (rmR_up hR (by omega) (by first | decide | omega)) rz19) rr23) (by omega) (by first | decide | omega)) (by omega) (by first | decide | omega))⟩
                      refine (((w_up_slot (by first | decide | omega)).trans (w_up_same _ _ _ _)) : (w_up (w_up Sq23 226 16 4) 51 fo rv) 226 16 = 4).trans ?_
                      first | omega | (rw [if_pos (by omega)]) | (rw [if_neg (by omega)])
                · skip
                  exact absurd c36 (by omega)
          · skip
            refine wa_aload_n (n := 0) rfl ?_
            refine wb_gf4 158 rfl (wy_pr rfl) wt_158 wf_5_3 (v := 47) wl_158_3 ?_
            refine wa_bipush (w_rg2 (by omega) (by omega)) ?_
            refine wb_aald5 47 7 rfl rfl (wy_pr rfl) wt_47 (by rw [show _ = _ from (((ff23 47 (-1) (by omega) (by unfold wG; omega) (by omega) (by omega) (by omega)).trans (((fz19 47 (-1) (by omega)).trans ((w_up_slot (by decide)).trans ((cl_47 hC)))))))]; omega) wl_47_7 ?_
            refine wa_aload_n (n := 0) rfl ?_
            refine wb_gfi 158 rfl (wy_pr rfl) wt_158 wf_5_14 (v := fo) (((ff23 158 14 (by omega) (by unfold wG; omega) (by omega) (by omega) (by omega)).trans (((fz19 158 14 (by omega)).trans ((w_up_slot (by decide)).trans (l14)))))) (fun r41 => ?_)
            refine wa_aload_n (n := 0) rfl ?_
            refine wb_gfl 158 rfl (wy_pr rfl) wt_158 wf_5_13 (v := (esV tl)) (((ff23 158 13 (by omega) (by unfold wG; omega) (by omega) (by omega) (by omega)).trans (((fz19 158 13 (by omega)).trans ((w_up_slot (by decide)).trans (l13)))))) (fun r42 => ?_)
            refine wa_l2i ?_
            refine wb_iast 55 rfl (wy_pr rfl) wt_55 (n := (S 48 (-1))) (((ff23 55 (-1) (by omega) (by unfold wG; omega) (by omega) (by omega) (by omega)).trans (((fz19 55 (-1) (by omega)).trans ((w_up_slot (by decide)).trans ((hl.2.2.1 7 (by decide)))))))) (by omega) (by omega) ⟨(by omega), (by omega)⟩ ?_
            refine wa_aload_n (n := 0) rfl ?_
            refine wb_gf4 158 rfl (wy_pr rfl) wt_158 wf_5_3 (v := 47) wl_158_3 ?_
            refine wa_bipush (w_rg2 (by omega) (by omega)) ?_
            refine wb_aald5 47 8 rfl rfl (wy_pr rfl) wt_47 (by rw [show _ = _ from ((w_up_slot (by decide)).trans (((ff23 47 (-1) (by omega) (by unfold wG; omega) (by omega) (by omega) (by omega)).trans (((fz19 47 (-1) (by omega)).trans ((w_up_slot (by decide)).trans ((cl_47 hC))))))))]; omega) wl_47_8 ?_
            refine wa_aload_n (n := 0) rfl ?_
            refine wb_gfi 158 rfl (wy_pr rfl) wt_158 wf_5_14 (v := fo) ((w_up_slot (by decide)).trans (((ff23 158 14 (by omega) (by unfold wG; omega) (by omega) (by omega) (by omega)).trans (((fz19 158 14 (by omega)).trans ((w_up_slot (by decide)).trans (l14))))))) (fun r43 => ?_)
            refine wa_aload_n (n := 0) rfl ?_
            refine wb_gfl 158 rfl (wy_pr rfl) wt_158 wf_5_13 (v := (esV tl)) ((w_up_slot (by decide)).trans (((ff23 158 13 (by omega) (by unfold wG; omega) (by omega) (by omega) (by omega)).trans (((fz19 158 13 (by omega)).trans ((w_up_slot (by decide)).trans (l13))))))) (fun r44 => ?_)
            refine wa_bipush (w_rg2 (by omega) (by omega)) ?_
            refine wa_lushr ?_
            refine wa_l2i ?_
            refine wb_iast 56 rfl (wy_pr rfl) wt_56 (n := (S 48 (-1))) ((w_up_slot (by decide)).trans (((ff23 56 (-1) (by omega) (by unfold wG; omega) (by omega) (by omega) (by omega)).trans (((fz19 56 (-1) (by omega)).trans ((w_up_slot (by decide)).trans ((hl.2.2.1 8 (by decide))))))))) (by omega) (by omega) ⟨(by omega), (by omega)⟩ ?_
            refine wa_fall ⟨_, rfl⟩ ?_
            refine wa_iload (n := 4) rfl ?_
            refine wa_iconst ?_
            refine wa_icmpne (w_rg0 (by omega) (by omega)) (w_rg0 (by omega) (by omega)) ⟨_, rfl⟩ (fun c45 => ?_) (fun c45 => ?_)
            · skip
              refine wa_iload (n := 4) rfl ?_
              refine wa_ifge (w_rg0 (by omega) (by omega)) ⟨_, rfl⟩ (fun c46 => ?_) (fun c46 => ?_)
              · skip
                refine wa_aload_n (n := 0) rfl ?_
                refine wb_gf4 158 rfl (wy_pr rfl) wt_158 wf_5_3 (v := 47) wl_158_3 ?_
                refine wa_iconst ?_
                refine wb_aald5 47 3 rfl rfl (wy_pr rfl) wt_47 (by rw [show _ = _ from ((w_up_slot (by decide)).trans ((w_up_slot (by decide)).trans (((ff23 47 (-1) (by omega) (by unfold wG; omega) (by omega) (by omega) (by omega)).trans (((fz19 47 (-1) (by omega)).trans ((w_up_slot (by decide)).trans ((cl_47 hC)))))))))]; omega) wl_47_3 ?_
                refine wa_aload_n (n := 0) rfl ?_
                refine wb_gfi 158 rfl (wy_pr rfl) wt_158 wf_5_14 (v := fo) ((w_up_slot (by decide)).trans ((w_up_slot (by decide)).trans (((ff23 158 14 (by omega) (by unfold wG; omega) (by omega) (by omega) (by omega)).trans (((fz19 158 14 (by omega)).trans ((w_up_slot (by decide)).trans (l14)))))))) (fun r47 => ?_)
                refine wa_iload (n := 4) rfl ?_
                refine wb_iast 51 rfl (wy_pr rfl) wt_51 (n := (S 48 (-1))) ((w_up_slot (by decide)).trans ((w_up_slot (by decide)).trans (((ff23 51 (-1) (by omega) (by unfold wG; omega) (by omega) (by omega) (by omega)).trans (((fz19 51 (-1) (by omega)).trans ((w_up_slot (by decide)).trans ((hl.2.2.1 3 (by decide)))))))))) (by omega) (by omega) ⟨(by omega), (by omega)⟩ ?_
                refine wa_return rfl ?_
                have fE : ∀ (j : Nat) (x : Int), j < 4000000 → j ≠ wG → ¬ lahM 73 120 121 226 fo j x → (w_up (w_up (w_up Sq23 55 fo (wb_l2i (esV tl))) 56 fo (wb_l2i (wb_lushr (esV tl) 32))) 51 fo rv) j x = S j x := fun j x j0 j1 hj => ((w_up_no (lah_m (j2 := 51) (x2 := fo) hj (Or.inl ⟨by omega, by omega, rfl⟩))).trans ((w_up_no (lah_m (j2 := 56) (x2 := fo) hj (Or.inl ⟨by omega, by omega, rfl⟩))).trans ((w_up_no (lah_m (j2 := 55) (x2 := fo) hj (Or.inl ⟨by omega, by omega, rfl⟩))).trans (((ff23 j x j0 j1 (lah_f hj).1 (lah_f hj).2.1 (lah_f hj).2.2).trans ((((fz19 j x (lah_d hj)).trans ((w_up_no (lah_m (j2 := 49) (x2 := fo) hj (Or.inl ⟨by omega, by omega, rfl⟩))))))))))))
                have hcE := cCh_ag hcq23 (Z := (w_up (w_up (w_up Sq23 55 fo (wb_l2i (esV tl))) 56 fo (wb_l2i (wb_lushr (esV tl) 32))) 51 fo rv)) (fun j x hj => ((w_up_no (by omega)).trans ((w_up_no (by omega)).trans (w_up_no (by omega)))))
                refine ⟨rfl, fun _ => ⟨?_, ((w_up_slot (by first | decide | omega)).trans ((w_up_slot (by first | decide | omega)).trans ((w_up_slot (by first | decide | omega)).trans (((ff23 226 16 (by omega) (by unfold wG; omega) (by omega) (by omega) (by omega)).trans (((fz19 226 16 (by omega)).trans (w_up_slot (by first | decide | omega)))))))))⟩, fun z => absurd z (by omega), hcE, fE, (gI_up (gI_up (gI_up gg23 (by omega) (by omega) (by omega)) (by omega) (by omega) (by omega)) (by omega) (by omega) (by omega)), (rmR_up (rmR_up (rmR_up (rmR_tr (rmR_tr (rmR_up hR (by omega) (by first | decide | omega)) rz19) rr23) (by omega) (by first | decide | omega)) (by omega) (by first | decide | omega)) (by omega) (by first | decide | omega))⟩
                refine ⟨⟨(((w_up_slot (by first | decide | omega)).trans ((w_up_slot (by first | decide | omega)).trans ((w_up_slot (by first | decide | omega)).trans (((ff23 48 fo (by omega) (by unfold wG; omega) (by omega) (by omega) (by omega)).trans (((fz19 48 fo (by omega)).trans (w_up_slot (by first | decide | omega))))))))) : (w_up (w_up (w_up Sq23 55 fo (wb_l2i (esV tl))) 56 fo (wb_l2i (wb_lushr (esV tl) 32))) 51 fo rv) 48 fo = (S 48 fo)).trans b1, (((w_up_slot (by first | decide | omega)).trans ((w_up_slot (by first | decide | omega)).trans ((w_up_slot (by first | decide | omega)).trans (((ff23 49 fo (by omega) (by unfold wG; omega) (by omega) (by omega) (by omega)).trans (((fz19 49 fo (by omega)).trans (w_up_same _ _ _ _)))))))) : (w_up (w_up (w_up Sq23 55 fo (wb_l2i (esV tl))) 56 fo (wb_l2i (wb_lushr (esV tl) 32))) 51 fo rv) 49 fo = k), (((w_up_slot (by first | decide | omega)).trans ((w_up_slot (by first | decide | omega)).trans ((w_up_slot (by first | decide | omega)).trans (((ff23 50 fo (by omega) (by unfold wG; omega) (by omega) (by omega) (by omega)).trans (((fz19 50 fo (by omega)).trans (w_up_slot (by first | decide | omega))))))))) : (w_up (w_up (w_up Sq23 55 fo (wb_l2i (esV tl))) 56 fo (wb_l2i (wb_lushr (esV tl) 32))) 51 fo rv) 50 fo = (S 50 fo)).trans b3, ((w_up_same _ _ _ _) : (w_up (w_up (w_up Sq23 55 fo (wb_l2i (esV tl))) 56 fo (wb_l2i (wb_lushr (esV tl) 32))) 51 fo rv) 51 fo = rv), (((w_up_slot (by first | decide | omega)).trans ((w_up_slot (by first | decide | omega)).trans ((w_up_slot (by first | decide | omega)).trans (((ff23 52 fo (by omega) (by unfold wG; omega) (by omega) (by omega) (by omega)).trans (((fz19 52 fo (by omega)).trans (w_up_slot (by first | decide | omega))))))))) : (w_up (w_up (w_up Sq23 55 fo (wb_l2i (esV tl))) 56 fo (wb_l2i (wb_lushr (esV tl) 32))) 51 fo rv) 52 fo = (S 52 fo)).trans b5⟩, ((((w_up_slot (by first | decide | omega)).trans ((w_up_slot (by first | decide | omega)).trans ((w_up_slot (by first | decide | omega)).trans (((ff23 53 fo (by omega) (by unfold wG; omega) (by omega) (by omega) (by omega)).trans (((fz19 53 fo (by omega)).trans (w_up_slot (by first | decide | omega))))))))) : (w_up (w_up (w_up Sq23 55 fo (wb_l2i (esV tl))) 56 fo (wb_l2i (wb_lushr (esV tl) 32))) 51 fo rv) 53 fo = (S 53 fo)).trans b6).trans (if_neg (fun z => by have z1 := z.1; simp only [hoN] at z1; omega)).symm, ((((w_up_slot (by first | decide | omega)).trans ((w_up_slot (by first | decide | omega)).trans ((w_up_slot (by first | decide | omega)).trans (((ff23 54 fo (by omega) (by unfold wG; omega) (by omega) (by omega) (by omega)).trans (((fz19 54 fo (by omega)).trans (w_up_slot (by first | decide | omega))))))))) : (w_up (w_up (w_up Sq23 55 fo (wb_l2i (esV tl))) 56 fo (wb_l2i (wb_lushr (esV tl) 32))) 51 fo rv) 54 fo = (S 54 fo)).trans b7).trans (if_neg (fun z => by have z1 := z.1; simp only [hoN] at z1; omega)).symm, ?_, ?_⟩
                · exact (((w_up_slot (by first | decide | omega)).trans ((w_up_slot (by first | decide | omega)).trans (w_up_same _ _ _ _))) : (w_up (w_up (w_up Sq23 55 fo (wb_l2i (esV tl))) 56 fo (wb_l2i (wb_lushr (esV tl) 32))) 51 fo rv) 55 fo = (wb_l2i (esV tl))).trans (if_pos ⟨hll, by exact Or.inl rfl⟩).symm
                · exact (((w_up_slot (by first | decide | omega)).trans (w_up_same _ _ _ _)) : (w_up (w_up (w_up Sq23 55 fo (wb_l2i (esV tl))) 56 fo (wb_l2i (wb_lushr (esV tl) 32))) 51 fo rv) 56 fo = (wb_l2i (wb_lushr (esV tl) 32))).trans (if_pos ⟨hll, by exact Or.inl rfl⟩).symm
              · skip
                exact absurd c46 (by omega)
            · skip
              exact absurd c45 (by omega)
    · skip
      exact absurd c16 (by omega)
  · skip
    exact absurd c14 (by omega)
set_option maxHeartbeats 4000000 in
theorem lan_73_226 {k am l nm wk nms fo at0 wo mo : Int} {W tl : List Int} {CH : List aQ} (hC : w_CL S) (hK : KC 87 97 93 114 115 74 73 T cs ms os S) (hw : wHo cs ms os) (hX : w_X xs) (hI : gI S) (h72 : S 72 1 = 73) (hc : cCh 73 121 120 74 T cs ms os CH wo mo S) (hWh : wd_at S 74 64) (hl : cSl S) (l4 : S 158 4 = 226) (l7 : S 158 7 = 6) (l12 : S 158 12 = (tl.length : Int)) (l13 : S 158 13 = esV tl) (htl : tl.length ≤ 8) (hes : esOk tl) (hty : ∀ c ∈ tl, c < 9 + (cs.length : Int)) (hwo : wo < 10000000) (l14 : S 158 14 = fo) (hfo : 0 ≤ fo ∧ fo < S 48 (-1)) (hbl : blE l fo S) (hll : l = 1 ∨ l = 2) (hk : 0 ≤ k ∧ k < (cs.length : Int)) (ham : am = 1) : wJ (pe_GA xs) wY0 (mS [120, 121, 122, 123, 124]) (d + 6) t_XL_lookAtHost ((pe_at t_XL_lookAtHost.bl 0).getD (0, [])).2 [(0, (2, 158)), (1, (0, k)), (2, (0, am))] [] S (lhQ 73 120 121 74 226 T cs ms os (chN CH wo mo (k, 2, 0, [], tl) (FA T cs ms os k 2 0 [])).1 (chN CH wo mo (k, 2, 0, [], tl) (FA T cs ms os k 2 0 [])).2 mo 6 nms fo (rvA T cs ms os (k, 2, 0, [], tl)) (hoN l k (rvA T cs ms os (k, 2, 0, [], tl)) (tl.length : Int) (esV tl) at0) S) := by
  have hR := rmR_rfl S
  have h48 := hl.2.2.2
  have hn := KC_n hK
  have hn2 := hn.2.2
  have h400 := hw.1
  obtain ⟨⟨b1, b2, b3, b4, b5⟩, b6, b7, b8, b9⟩ := hbl
  have hear : 0 ≤ esV tl ∧ esV tl < 72057594037927936 := by have z := esV_rg tl hes; have z2 := p7_le (n := tl.length) htl; omega
  have hlo := wb_l2i_rg (esV tl)
  have hhi := wb_l2i_rg (wb_lushr (esV tl) 32)
  obtain ⟨rv, hrv⟩ : ∃ r : Int, r = (rvA T cs ms os (k, 2, 0, [], tl)) := ⟨_, rfl⟩
  have hrr := rvA_rg (T := T) (q := (k, 2, 0, [], tl)) hw hk
  rw [← hrv] at hrr ⊢
  refine wa_aload_n (n := 0) rfl ?_
  refine wb_gf4 158 rfl (wy_pr rfl) wt_158 wf_5_0 (v := 72) wl_158_0 ?_
  refine wb_gf5 72 rfl (wy_pr rfl) wt_72 wf_2_1 (v := 73) (h72) (fun r11 => ?_)
  refine wa_astore_n (n := 3) rfl ?_
  refine wa_aload_n (n := 0) rfl ?_
  refine wb_gf4 158 rfl (wy_pr rfl) wt_158 wf_5_3 (v := 47) wl_158_3 ?_
  refine wa_iconst ?_
  refine wb_aald5 47 1 rfl rfl (wy_pr rfl) wt_47 (by rw [show _ = _ from ((cl_47 hC))]; omega) wl_47_1 ?_
  refine wa_aload_n (n := 0) rfl ?_
  refine wb_gfi 158 rfl (wy_pr rfl) wt_158 wf_5_14 (v := fo) (l14) (fun r12 => ?_)
  refine wa_iload_n (n := 1) rfl ?_
  refine wb_iast 49 rfl (wy_pr rfl) wt_49 (n := (S 48 (-1))) ((hl.2.2.1 1 (by decide))) (by omega) (by omega) ⟨(by omega), (by omega)⟩ ?_
  refine wa_aload_n (n := 0) rfl ?_
  refine wb_gfi 158 rfl (wy_pr rfl) wt_158 wf_5_7 (v := 6) ((w_up_slot (by decide)).trans (l7)) (fun r13 => ?_)
  refine wa_ifne (w_rg0 (by omega) (by omega)) ⟨_, rfl⟩ (fun c14 => ?_) (fun c14 => ?_)
  · skip
    refine wa_aload_n (n := 0) rfl ?_
    refine wb_gfi 158 rfl (wy_pr rfl) wt_158 wf_5_7 (v := 6) ((w_up_slot (by decide)).trans (l7)) (fun r15 => ?_)
    refine wa_iconst ?_
    refine wa_icmpne (w_rg0 (by omega) (by omega)) (w_rg0 (by omega) (by omega)) ⟨_, rfl⟩ (fun c16 => ?_) (fun c16 => ?_)
    · skip
      refine wa_aload_n (n := 0) rfl ?_
      refine wb_gfi 158 rfl (wy_pr rfl) wt_158 wf_5_7 (v := 6) ((w_up_slot (by decide)).trans (l7)) (fun r17 => ?_)
      refine wa_iconst ?_
      refine wa_icmpne (w_rg0 (by omega) (by omega)) (w_rg0 (by omega) (by omega)) ⟨_, rfl⟩ (fun c18 => ?_) (fun c18 => ?_)
      · skip
        refine wa_aload_n (n := 0) rfl ?_
        refine wb_gfi 158 rfl (wy_pr rfl) wt_158 wf_5_7 (v := 6) ((w_up_slot (by decide)).trans (l7)) (fun r19 => ?_)
        refine wa_bipush (w_rg2 (by omega) (by omega)) ?_
        refine wa_icmpne (w_rg0 (by omega) (by omega)) (w_rg0 (by omega) (by omega)) ⟨_, rfl⟩ (fun c20 => ?_) (fun c20 => ?_)
        · skip
          exact absurd c20 (by omega)
        · skip
          refine wa_iload_n (n := 2) rfl ?_
          refine wa_iconst ?_
          refine wa_icmpne (w_rg0 (by omega) (by omega)) (w_rg0 (by omega) (by omega)) ⟨_, rfl⟩ (fun c21 => ?_) (fun c21 => ?_)
          · skip
            exact absurd c21 (by omega)
          · skip
            refine wa_aload_n (n := 3) rfl ?_
            refine wa_iload_n (n := 1) rfl ?_
            refine wa_iconst ?_
            refine wa_bipush (w_rg2 (by omega) (by omega)) ?_
            refine wa_iconst ?_
            refine wa_aload_n (n := 0) rfl ?_
            refine wb_gfl 158 rfl (wy_pr rfl) wt_158 wf_5_13 (v := (esV tl)) ((w_up_slot (by decide)).trans (l13)) (fun r22 => ?_)
            refine wa_aload_n (n := 0) rfl ?_
            refine wb_gfi 158 rfl (wy_pr rfl) wt_158 wf_5_12 (v := (tl.length : Int)) ((w_up_slot (by decide)).trans (l12)) (fun r23 => ?_)
            have f24 : ∀ (j : Nat) (x : Int), j < 4000000 → j ≠ wG → ¬ lahC 73 120 121 fo j x → (w_up S 49 fo k) j x = S j x := fun j x j0 j1 hj => (w_up_no (lah_n (j2 := 49) (x2 := fo) hj (⟨by omega, by omega, rfl⟩)))
            have hc24 : cCh 73 121 120 74 T cs ms os CH wo mo (w_up S 49 fo k) := cCh_ag hc (fun j x hj => (w_up_no (by omega)))
            have hC24 : w_CL (w_up S 49 fo k) := lhC_73 hC hc24 hfo.1 f24
            have hK24 : KC 87 97 93 114 115 74 73 T cs ms os (w_up S 49 fo k) := KC_ag hK (f24 73 2 (by omega) (by unfold wG; omega) (by unfold lahC lahA; omega)) (f24 73 4 (by omega) (by unfold wG; omega) (by unfold lahC lahA; omega)) (fun j hj => funext (fun x => f24 j x (by omega) (by unfold wG; omega) (by unfold lahC lahA; omega)))
            have hW24 : wd_at (w_up S 49 fo k) 74 64 := wda_a9 hWh (fun j x j0 j1 => f24 j x (by omega) (by unfold wG; omega) (by unfold lahC lahA; omega))
            have hqk24 : qOk 74 cs (w_up S 49 fo k) (k, 2, 0, [], tl) 12 := ⟨hk, ⟨by show (0 : Int) ≤ 2; decide, by show (2 : Int) ≤ 2; decide⟩, Or.inl rfl, ⟨htl, hes⟩, Or.inl ⟨rfl, rfl, rfl⟩⟩
            have hwM24 : wdM 97 T ms (w_up S 49 fo k) (if (2 : Int) = 2 then 2 else 1) 12 [] := wdM_n hK24
            have hwr24 := qOk_rg hqk24 hc24.2.2.2.2.2.2
            have hch24 : ∀ K : List aKp, kpR 73 121 K (w_up S 49 fo k) → wJ (pe_GA xs) wY0 (mS [120, 121, 122, 123, 124]) (d + 5) t_XO_choose ((pe_at t_XO_choose.bl 0).getD (0, [])).2 [(0, (2, 73)), (1, (0, k)), (2, (0, 2)), (3, (0, 12)), (4, (0, 0)), (5, (1, esV tl)), (7, (0, (tl.length : Int)))] [] (w_up S 49 fo k) (chQ 73 120 121 cs ms K (qKy (k, 2, 0, [], tl) 12) 12 tl (FA T cs ms os k 2 0 []) (w_up S 49 fo k)) := fun K hkp => cho_73 (pc := if (0 : Int) = 1 then 1 else -1) hC24 hK24 hw (gI_up hI (by omega) (by omega) (by omega)) hc24.2.2.2.2.2.1 hkp (by rw [hc24.2.2.1]; exact hc24.2.2.2.1) (by rw [hc24.2.1]; exact hc24.2.2.2.2.1) hk ⟨by omega, by omega⟩ hwM24 ⟨by omega, by omega⟩ (Or.inl ⟨rfl, if_neg (by first | decide | omega)⟩) htl hes hty rfl rfl
            obtain ⟨⟨K0, hK0, -⟩, -⟩ := id hc24
            have hcz24 : wJ (pe_GA xs) wY0 (mS [120, 121, 122, 123, 124]) (d + 5) t_XO_choose ((pe_at t_XO_choose.bl 0).getD (0, [])).2 [(0, (2, 73)), (1, (0, k)), (2, (0, 2)), (3, (0, 12)), (4, (0, 0)), (5, (1, esV tl)), (7, (0, (tl.length : Int)))] [] (w_up S 49 fo k) (fun o Z => o = .inl (some (0, rv)) ∧ cCh 73 121 120 74 T cs ms os (chN CH wo mo (k, 2, 0, [], tl) (FA T cs ms os k 2 0 [])).1 (chN CH wo mo (k, 2, 0, [], tl) (FA T cs ms os k 2 0 [])).2 mo Z ∧ chF 73 120 121 (w_up S 49 fo k) Z ∧ gI Z ∧ rmR (w_up S 49 fo k) Z) := by
              refine wJ_mono (chA_w (fun K hkp => hch24 K hkp) hc24) (fun o Z hz => ?_)
              rw [hrv]
              exact chA_e (q := (k, 2, 0, [], tl)) ⟨by decide, by decide, by decide, by decide⟩ hW24 hK24 hc24 hw hqk24 hz (gI_up hI (by omega) (by omega) (by omega)) hwo
            refine wa_cv 73 rfl (wy_pr rfl) wt_73 (M2 := mS [120, 121, 122, 123, 124]) rfl at_XO_choose ⟨_, rfl⟩ rfl rfl ⟨(Or.inr ⟨wy_pr rfl, mS_no rfl⟩), (Or.inr ⟨wy_pr rfl, mS_no rfl⟩), trivial, trivial, trivial⟩ trivial (fun _ _ q => q) (hcz24) (fun oq24 Sq24 hp25 q24 => ?_)
            rcases q24 with ⟨rfl, hcq24, ff24, gg24, rr24⟩
            show wJ _ _ _ _ _ _ _ _ _ _
            refine wa_istore (n := 4) rfl ?_
            refine wa_goto ⟨_, rfl⟩ ?_
            refine wa_aload_n (n := 0) rfl ?_
            refine wb_gfi 158 rfl (wy_pr rfl) wt_158 wf_5_7 (v := 6) (((ff24 158 7 (by omega) (by unfold wG; omega) (by omega) (by omega) (by omega)).trans ((w_up_slot (by decide)).trans (l7)))) (fun r26 => ?_)
            refine wa_ifeq (w_rg0 (by omega) (by omega)) ⟨_, rfl⟩ (fun c27 => ?_) (fun c27 => ?_)
            · skip
              exact absurd c27 (by omega)
            · skip
              refine wa_iload (n := 4) rfl ?_
              refine wa_iflt (w_rg0 (by omega) (by omega)) ⟨_, rfl⟩ (fun c28 => ?_) (fun c28 => ?_)
              · skip
                refine wa_iload (n := 4) rfl ?_
                refine wa_iconst ?_
                refine wa_icmpne (w_rg0 (by omega) (by omega)) (w_rg0 (by omega) (by omega)) ⟨_, rfl⟩ (fun c29 => ?_) (fun c29 => ?_)
                · skip
                  refine wa_iload (n := 4) rfl ?_
                  refine wa_ifge (w_rg0 (by omega) (by omega)) ⟨_, rfl⟩ (fun c30 => ?_) (fun c30 => ?_)
                  · skip
                    exact absurd c30 (by omega)
                  · skip
                    refine wa_aload_n (n := 0) rfl ?_
                    refine wb_gf5 158 rfl (wy_pr rfl) wt_158 wf_5_4 (v := 226) (((ff24 158 4 (by omega) (by unfold wG; omega) (by omega) (by omega) (by omega)).trans ((w_up_slot (by decide)).trans (l4)))) (fun r31 => ?_)
                    refine wa_iload (n := 4) rfl ?_
                    refine wa_iconst ?_
                    refine wa_icmpne (w_rg0 (by omega) (by omega)) (w_rg0 (by omega) (by omega)) ⟨_, rfl⟩ (fun c32 => ?_) (fun c32 => ?_)
                    · skip
                      refine wa_iload (n := 4) rfl ?_
                      refine wa_ineg ?_
                      refine wa_fall ⟨_, rfl⟩ ?_
                      refine wb_pfi 226 rfl (wy_pr rfl) wt_226 wf_8_16 (n := 16) rfl ⟨(by omega), (by omega)⟩ ?_
                      refine wa_fall ⟨_, rfl⟩ ?_
                      refine wa_aload_n (n := 0) rfl ?_
                      refine wb_gf4 158 rfl (wy_pr rfl) wt_158 wf_5_3 (v := 47) wl_158_3 ?_
                      refine wa_iconst ?_
                      refine wb_aald5 47 3 rfl rfl (wy_pr rfl) wt_47 (by rw [show _ = _ from ((w_up_slot (by decide)).trans (((ff24 47 (-1) (by omega) (by unfold wG; omega) (by omega) (by omega) (by omega)).trans ((w_up_slot (by decide)).trans ((cl_47 hC))))))]; omega) wl_47_3 ?_
                      refine wa_aload_n (n := 0) rfl ?_
                      refine wb_gfi 158 rfl (wy_pr rfl) wt_158 wf_5_14 (v := fo) ((w_up_slot (by decide)).trans (((ff24 158 14 (by omega) (by unfold wG; omega) (by omega) (by omega) (by omega)).trans ((w_up_slot (by decide)).trans (l14))))) (fun r33 => ?_)
                      refine wa_iload (n := 4) rfl ?_
                      refine wb_iast 51 rfl (wy_pr rfl) wt_51 (n := (S 48 (-1))) ((w_up_slot (by decide)).trans (((ff24 51 (-1) (by omega) (by unfold wG; omega) (by omega) (by omega) (by omega)).trans ((w_up_slot (by decide)).trans ((hl.2.2.1 3 (by decide))))))) (by omega) (by omega) ⟨(by omega), (by omega)⟩ ?_
                      refine wa_return rfl ?_
                      have fE : ∀ (j : Nat) (x : Int), j < 4000000 → j ≠ wG → ¬ lahM 73 120 121 226 fo j x → (w_up (w_up Sq24 226 16 (-rv)) 51 fo rv) j x = S j x := fun j x j0 j1 hj => ((w_up_no (lah_m (j2 := 51) (x2 := fo) hj (Or.inl ⟨by omega, by omega, rfl⟩))).trans ((w_up_no (lah_m (j2 := 226) (x2 := 16) hj (Or.inr ⟨rfl, rfl⟩))).trans (((ff24 j x j0 j1 (lah_f hj).1 (lah_f hj).2.1 (lah_f hj).2.2).trans ((w_up_no (lah_m (j2 := 49) (x2 := fo) hj (Or.inl ⟨by omega, by omega, rfl⟩))))))))
                      have hcE := cCh_ag hcq24 (Z := (w_up (w_up Sq24 226 16 (-rv)) 51 fo rv)) (fun j x hj => ((w_up_no (by omega)).trans (w_up_no (by omega))))
                      refine ⟨rfl, fun z => absurd z (by omega), fun _ => ?_, hcE, fE, (gI_up (gI_up gg24 (by omega) (by omega) (by omega)) (by omega) (by omega) (by omega)), (rmR_up (rmR_up (rmR_tr (rmR_up hR (by omega) (by first | decide | omega)) rr24) (by omega) (by first | decide | omega)) (by omega) (by first | decide | omega))⟩
                      refine (((w_up_slot (by first | decide | omega)).trans (w_up_same _ _ _ _)) : (w_up (w_up Sq24 226 16 (-rv)) 51 fo rv) 226 16 = (-rv)).trans ?_
                      first | omega | (rw [if_pos (by omega)]) | (rw [if_neg (by omega)])
                    · skip
                      exact absurd c32 (by omega)
                · skip
                  refine wa_aload_n (n := 0) rfl ?_
                  refine wb_gfi 158 rfl (wy_pr rfl) wt_158 wf_5_7 (v := 6) (((ff24 158 7 (by omega) (by unfold wG; omega) (by omega) (by omega) (by omega)).trans ((w_up_slot (by decide)).trans (l7)))) (fun r34 => ?_)
                  refine wa_ifeq (w_rg0 (by omega) (by omega)) ⟨_, rfl⟩ (fun c35 => ?_) (fun c35 => ?_)
                  · skip
                    exact absurd c35 (by omega)
                  · skip
                    refine wa_aload_n (n := 0) rfl ?_
                    refine wb_gfi 158 rfl (wy_pr rfl) wt_158 wf_5_7 (v := 6) (((ff24 158 7 (by omega) (by unfold wG; omega) (by omega) (by omega) (by omega)).trans ((w_up_slot (by decide)).trans (l7)))) (fun r36 => ?_)
                    refine wa_iconst ?_
                    refine wa_icmpne (w_rg0 (by omega) (by omega)) (w_rg0 (by omega) (by omega)) ⟨_, rfl⟩ (fun c37 => ?_) (fun c37 => ?_)
                    · skip
                      refine wa_iload (n := 4) rfl ?_
                      refine wa_ifge (w_rg0 (by omega) (by omega)) ⟨_, rfl⟩ (fun c38 => ?_) (fun c38 => ?_)
                      · skip
                        exact absurd c38 (by omega)
                      · skip
                        refine wa_aload_n (n := 0) rfl ?_
                        refine wb_gf5 158 rfl (wy_pr rfl) wt_158 wf_5_4 (v := 226) (((ff24 158 4 (by omega) (by unfold wG; omega) (by omega) (by omega) (by omega)).trans ((w_up_slot (by decide)).trans (l4)))) (fun r39 => ?_)
                        refine wa_iload (n := 4) rfl ?_
                        refine wa_iconst ?_
                        refine wa_icmpne (w_rg0 (by omega) (by omega)) (w_rg0 (by omega) (by omega)) ⟨_, rfl⟩ (fun c40 => ?_) (fun c40 => ?_)
                        · skip
                          exact absurd c40 (by omega)
                        · skip
                          refine wa_iconst ?_
                          refine wa_goto ⟨_, rfl⟩ ?_
                          refine wb_pfi 226 rfl (wy_pr rfl) wt_226 wf_8_16 (n := 16) rfl ⟨(by omega), (by omega)⟩ ?_
                          refine wa_fall ⟨_, rfl⟩ ?_
                          refine wa_aload_n (n := 0) rfl ?_
                          refine wb_gf4 158 rfl (wy_pr rfl) wt_158 wf_5_3 (v := 47) wl_158_3 ?_
                          refine wa_iconst ?_
                          refine wb_aald5 47 3 rfl rfl (wy_pr rfl) wt_47 (by rw [show _ = _ from ((w_up_slot (by decide)).trans (((ff24 47 (-1) (by omega) (by unfold wG; omega) (by omega) (by omega) (by omega)).trans ((w_up_slot (by decide)).trans ((cl_47 hC))))))]; omega) wl_47_3 ?_
                          refine wa_aload_n (n := 0) rfl ?_
                          refine wb_gfi 158 rfl (wy_pr rfl) wt_158 wf_5_14 (v := fo) ((w_up_slot (by decide)).trans (((ff24 158 14 (by omega) (by unfold wG; omega) (by omega) (by omega) (by omega)).trans ((w_up_slot (by decide)).trans (l14))))) (fun r41 => ?_)
                          refine wa_iload (n := 4) rfl ?_
                          refine wb_iast 51 rfl (wy_pr rfl) wt_51 (n := (S 48 (-1))) ((w_up_slot (by decide)).trans (((ff24 51 (-1) (by omega) (by unfold wG; omega) (by omega) (by omega) (by omega)).trans ((w_up_slot (by decide)).trans ((hl.2.2.1 3 (by decide))))))) (by omega) (by omega) ⟨(by omega), (by omega)⟩ ?_
                          refine wa_return rfl ?_
                          have fE : ∀ (j : Nat) (x : Int), j < 4000000 → j ≠ wG → ¬ lahM 73 120 121 226 fo j x → (w_up (w_up Sq24 226 16 4) 51 fo rv) j x = S j x := fun j x j0 j1 hj => ((w_up_no (lah_m (j2 := 51) (x2 := fo) hj (Or.inl ⟨by omega, by omega, rfl⟩))).trans ((w_up_no (lah_m (j2 := 226) (x2 := 16) hj (Or.inr ⟨rfl, rfl⟩))).trans (((ff24 j x j0 j1 (lah_f hj).1 (lah_f hj).2.1 (lah_f hj).2.2).trans ((w_up_no (lah_m (j2 := 49) (x2 := fo) hj (Or.inl ⟨by omega, by omega, rfl⟩))))))))
                          have hcE := cCh_ag hcq24 (Z := (w_up (w_up Sq24 226 16 4) 51 fo rv)) (fun j x hj => ((w_up_no (by omega)).trans (w_up_no (by omega))))
                          refine ⟨rfl, fun z => absurd z (by omega), fun _ => ?_, hcE, fE, (gI_up (gI_up gg24 (by omega) (by omega) (by omega)) (by omega) (by omega) (by omega)), (rmR_up (rmR_up (rmR_tr (rmR_up hR (by omega) (by first | decide | omega)) rr24) (by omega) (by first | decide | omega)) (by omega) (by first | decide | omega))⟩
                          refine (((w_up_slot (by first | decide | omega)).trans (w_up_same _ _ _ _)) : (w_up (w_up Sq24 226 16 4) 51 fo rv) 226 16 = 4).trans ?_
                          first | omega | (rw [if_pos (by omega)]) | (rw [if_neg (by omega)])
                    · skip
                      exact absurd c37 (by omega)
              · skip
                refine wa_aload_n (n := 0) rfl ?_
                refine wb_gf4 158 rfl (wy_pr rfl) wt_158 wf_5_3 (v := 47) wl_158_3 ?_
                refine wa_bipush (w_rg2 (by omega) (by omega)) ?_
                refine wb_aald5 47 7 rfl rfl (wy_pr rfl) wt_47 (by rw [show _ = _ from (((ff24 47 (-1) (by omega) (by unfold wG; omega) (by omega) (by omega) (by omega)).trans ((w_up_slot (by decide)).trans ((cl_47 hC)))))]; omega) wl_47_7 ?_
                refine wa_aload_n (n := 0) rfl ?_
                refine wb_gfi 158 rfl (wy_pr rfl) wt_158 wf_5_14 (v := fo) (((ff24 158 14 (by omega) (by unfold wG; omega) (by omega) (by omega) (by omega)).trans ((w_up_slot (by decide)).trans (l14)))) (fun r42 => ?_)
                refine wa_aload_n (n := 0) rfl ?_
                refine wb_gfl 158 rfl (wy_pr rfl) wt_158 wf_5_13 (v := (esV tl)) (((ff24 158 13 (by omega) (by unfold wG; omega) (by omega) (by omega) (by omega)).trans ((w_up_slot (by decide)).trans (l13)))) (fun r43 => ?_)
                refine wa_l2i ?_
                refine wb_iast 55 rfl (wy_pr rfl) wt_55 (n := (S 48 (-1))) (((ff24 55 (-1) (by omega) (by unfold wG; omega) (by omega) (by omega) (by omega)).trans ((w_up_slot (by decide)).trans ((hl.2.2.1 7 (by decide)))))) (by omega) (by omega) ⟨(by omega), (by omega)⟩ ?_
                refine wa_aload_n (n := 0) rfl ?_
                refine wb_gf4 158 rfl (wy_pr rfl) wt_158 wf_5_3 (v := 47) wl_158_3 ?_
                refine wa_bipush (w_rg2 (by omega) (by omega)) ?_
                refine wb_aald5 47 8 rfl rfl (wy_pr rfl) wt_47 (by rw [show _ = _ from ((w_up_slot (by decide)).trans (((ff24 47 (-1) (by omega) (by unfold wG; omega) (by omega) (by omega) (by omega)).trans ((w_up_slot (by decide)).trans ((cl_47 hC))))))]; omega) wl_47_8 ?_
                refine wa_aload_n (n := 0) rfl ?_
                refine wb_gfi 158 rfl (wy_pr rfl) wt_158 wf_5_14 (v := fo) ((w_up_slot (by decide)).trans (((ff24 158 14 (by omega) (by unfold wG; omega) (by omega) (by omega) (by omega)).trans ((w_up_slot (by decide)).trans (l14))))) (fun r44 => ?_)
                refine wa_aload_n (n := 0) rfl ?_
                refine wb_gfl 158 rfl (wy_pr rfl) wt_158 wf_5_13 (v := (esV tl)) ((w_up_slot (by decide)).trans (((ff24 158 13 (by omega) (by unfold wG; omega) (by omega) (by omega) (by omega)).trans ((w_up_slot (by decide)).trans (l13))))) (fun r45 => ?_)
                refine wa_bipush (w_rg2 (by omega) (by omega)) ?_
                refine wa_lushr ?_
                refine wa_l2i ?_
                refine wb_iast 56 rfl (wy_pr rfl) wt_56 (n := (S 48 (-1))) ((w_up_slot (by decide)).trans (((ff24 56 (-1) (by omega) (by unfold wG; omega) (by omega) (by omega) (by omega)).trans ((w_up_slot (by decide)).trans ((hl.2.2.1 8 (by decide))))))) (by omega) (by omega) ⟨(by omega), (by omega)⟩ ?_
                refine wa_fall ⟨_, rfl⟩ ?_
                refine wa_iload (n := 4) rfl ?_
                refine wa_iconst ?_
                refine wa_icmpne (w_rg0 (by omega) (by omega)) (w_rg0 (by omega) (by omega)) ⟨_, rfl⟩ (fun c46 => ?_) (fun c46 => ?_)
                · skip
                  refine wa_iload (n := 4) rfl ?_
                  refine wa_ifge (w_rg0 (by omega) (by omega)) ⟨_, rfl⟩ (fun c47 => ?_) (fun c47 => ?_)
                  · skip
                    refine wa_aload_n (n := 0) rfl ?_
                    refine wb_gf4 158 rfl (wy_pr rfl) wt_158 wf_5_3 (v := 47) wl_158_3 ?_
                    refine wa_iconst ?_
                    refine wb_aald5 47 3 rfl rfl (wy_pr rfl) wt_47 (by rw [show _ = _ from ((w_up_slot (by decide)).trans ((w_up_slot (by decide)).trans (((ff24 47 (-1) (by omega) (by unfold wG; omega) (by omega) (by omega) (by omega)).trans ((w_up_slot (by decide)).trans ((cl_47 hC)))))))]; omega) wl_47_3 ?_
                    refine wa_aload_n (n := 0) rfl ?_
                    refine wb_gfi 158 rfl (wy_pr rfl) wt_158 wf_5_14 (v := fo) ((w_up_slot (by decide)).trans ((w_up_slot (by decide)).trans (((ff24 158 14 (by omega) (by unfold wG; omega) (by omega) (by omega) (by omega)).trans ((w_up_slot (by decide)).trans (l14)))))) (fun r48 => ?_)
                    refine wa_iload (n := 4) rfl ?_
                    refine wb_iast 51 rfl (wy_pr rfl) wt_51 (n := (S 48 (-1))) ((w_up_slot (by decide)).trans ((w_up_slot (by decide)).trans (((ff24 51 (-1) (by omega) (by unfold wG; omega) (by omega) (by omega) (by omega)).trans ((w_up_slot (by decide)).trans ((hl.2.2.1 3 (by decide)))))))) (by omega) (by omega) ⟨(by omega), (by omega)⟩ ?_
                    refine wa_return rfl ?_
                    have fE : ∀ (j : Nat) (x : Int), j < 4000000 → j ≠ wG → ¬ lahM 73 120 121 226 fo j x → (w_up (w_up (w_up Sq24 55 fo (wb_l2i (esV tl))) 56 fo (wb_l2i (wb_lushr (esV tl) 32))) 51 fo rv) j x = S j x := fun j x j0 j1 hj => ((w_up_no (lah_m (j2 := 51) (x2 := fo) hj (Or.inl ⟨by omega, by omega, rfl⟩))).trans ((w_up_no (lah_m (j2 := 56) (x2 := fo) hj (Or.inl ⟨by omega, by omega, rfl⟩))).trans ((w_up_no (lah_m (j2 := 55) (x2 := fo) hj (Or.inl ⟨by omega, by omega, rfl⟩))).trans (((ff24 j x j0 j1 (lah_f hj).1 (lah_f hj).2.1 (lah_f hj).2.2).trans ((w_up_no (lah_m (j2 := 49) (x2 := fo) hj (Or.inl ⟨by omega, by omega, rfl⟩)))))))))
                    have hcE := cCh_ag hcq24 (Z := (w_up (w_up (w_up Sq24 55 fo (wb_l2i (esV tl))) 56 fo (wb_l2i (wb_lushr (esV tl) 32))) 51 fo rv)) (fun j x hj => ((w_up_no (by omega)).trans ((w_up_no (by omega)).trans (w_up_no (by omega)))))
                    refine ⟨rfl, fun _ => ⟨?_, ((w_up_slot (by first | decide | omega)).trans ((w_up_slot (by first | decide | omega)).trans ((w_up_slot (by first | decide | omega)).trans (((ff24 226 16 (by omega) (by unfold wG; omega) (by omega) (by omega) (by omega)).trans (w_up_slot (by first | decide | omega)))))))⟩, fun z => absurd z (by omega), hcE, fE, (gI_up (gI_up (gI_up gg24 (by omega) (by omega) (by omega)) (by omega) (by omega) (by omega)) (by omega) (by omega) (by omega)), (rmR_up (rmR_up (rmR_up (rmR_tr (rmR_up hR (by omega) (by first | decide | omega)) rr24) (by omega) (by first | decide | omega)) (by omega) (by first | decide | omega)) (by omega) (by first | decide | omega))⟩
                    refine ⟨⟨(((w_up_slot (by first | decide | omega)).trans ((w_up_slot (by first | decide | omega)).trans ((w_up_slot (by first | decide | omega)).trans (((ff24 48 fo (by omega) (by unfold wG; omega) (by omega) (by omega) (by omega)).trans (w_up_slot (by first | decide | omega))))))) : (w_up (w_up (w_up Sq24 55 fo (wb_l2i (esV tl))) 56 fo (wb_l2i (wb_lushr (esV tl) 32))) 51 fo rv) 48 fo = (S 48 fo)).trans b1, (((w_up_slot (by first | decide | omega)).trans ((w_up_slot (by first | decide | omega)).trans ((w_up_slot (by first | decide | omega)).trans (((ff24 49 fo (by omega) (by unfold wG; omega) (by omega) (by omega) (by omega)).trans (w_up_same _ _ _ _)))))) : (w_up (w_up (w_up Sq24 55 fo (wb_l2i (esV tl))) 56 fo (wb_l2i (wb_lushr (esV tl) 32))) 51 fo rv) 49 fo = k), (((w_up_slot (by first | decide | omega)).trans ((w_up_slot (by first | decide | omega)).trans ((w_up_slot (by first | decide | omega)).trans (((ff24 50 fo (by omega) (by unfold wG; omega) (by omega) (by omega) (by omega)).trans (w_up_slot (by first | decide | omega))))))) : (w_up (w_up (w_up Sq24 55 fo (wb_l2i (esV tl))) 56 fo (wb_l2i (wb_lushr (esV tl) 32))) 51 fo rv) 50 fo = (S 50 fo)).trans b3, ((w_up_same _ _ _ _) : (w_up (w_up (w_up Sq24 55 fo (wb_l2i (esV tl))) 56 fo (wb_l2i (wb_lushr (esV tl) 32))) 51 fo rv) 51 fo = rv), (((w_up_slot (by first | decide | omega)).trans ((w_up_slot (by first | decide | omega)).trans ((w_up_slot (by first | decide | omega)).trans (((ff24 52 fo (by omega) (by unfold wG; omega) (by omega) (by omega) (by omega)).trans (w_up_slot (by first | decide | omega))))))) : (w_up (w_up (w_up Sq24 55 fo (wb_l2i (esV tl))) 56 fo (wb_l2i (wb_lushr (esV tl) 32))) 51 fo rv) 52 fo = (S 52 fo)).trans b5⟩, ((((w_up_slot (by first | decide | omega)).trans ((w_up_slot (by first | decide | omega)).trans ((w_up_slot (by first | decide | omega)).trans (((ff24 53 fo (by omega) (by unfold wG; omega) (by omega) (by omega) (by omega)).trans (w_up_slot (by first | decide | omega))))))) : (w_up (w_up (w_up Sq24 55 fo (wb_l2i (esV tl))) 56 fo (wb_l2i (wb_lushr (esV tl) 32))) 51 fo rv) 53 fo = (S 53 fo)).trans b6).trans (if_neg (fun z => by have z1 := z.1; simp only [hoN] at z1; omega)).symm, ((((w_up_slot (by first | decide | omega)).trans ((w_up_slot (by first | decide | omega)).trans ((w_up_slot (by first | decide | omega)).trans (((ff24 54 fo (by omega) (by unfold wG; omega) (by omega) (by omega) (by omega)).trans (w_up_slot (by first | decide | omega))))))) : (w_up (w_up (w_up Sq24 55 fo (wb_l2i (esV tl))) 56 fo (wb_l2i (wb_lushr (esV tl) 32))) 51 fo rv) 54 fo = (S 54 fo)).trans b7).trans (if_neg (fun z => by have z1 := z.1; simp only [hoN] at z1; omega)).symm, ?_, ?_⟩
                    · exact (((w_up_slot (by first | decide | omega)).trans ((w_up_slot (by first | decide | omega)).trans (w_up_same _ _ _ _))) : (w_up (w_up (w_up Sq24 55 fo (wb_l2i (esV tl))) 56 fo (wb_l2i (wb_lushr (esV tl) 32))) 51 fo rv) 55 fo = (wb_l2i (esV tl))).trans (if_pos ⟨hll, by exact Or.inr (Or.inl rfl)⟩).symm
                    · exact (((w_up_slot (by first | decide | omega)).trans (w_up_same _ _ _ _)) : (w_up (w_up (w_up Sq24 55 fo (wb_l2i (esV tl))) 56 fo (wb_l2i (wb_lushr (esV tl) 32))) 51 fo rv) 56 fo = (wb_l2i (wb_lushr (esV tl) 32))).trans (if_pos ⟨hll, by exact Or.inr (Or.inl rfl)⟩).symm
                  · skip
                    exact absurd c47 (by omega)
                · skip
                  exact absurd c46 (by omega)
      · skip
        exact absurd c18 (by omega)
    · skip
      exact absurd c16 (by omega)
  · skip
    exact absurd c14 (by omega)
theorem lax_73_226 {k am kd fo : Int} (h72 : S 72 1 = 73) (hl : cSl S) (l4 : S 158 4 = 226) (l7 : S 158 7 = kd) (l14 : S 158 14 = fo) (hfo : 0 ≤ fo ∧ fo < S 48 (-1)) (hC : w_CL S) (hk : 0 ≤ k ∧ k < 60) (hkd : 2 ≤ kd ∧ kd ≤ 6 ∧ kd ≠ 5 ∧ (kd = 6 → am = 0)) (ham : am = 0 ∨ am = 1) : wJ (pe_GA xs) wY0 M (d + 6) t_XL_lookAtHost ((pe_at t_XL_lookAtHost.bl 0).getD (0, [])).2 [(0, (2, 158)), (1, (0, k)), (2, (0, am))] [] S (fun o Z => o = .inl none ∧ w_up (w_up S 49 fo k) 226 16 5 = Z) := by
  have h48 := hl.2.2.2
  refine wa_aload_n (n := 0) rfl ?_
  refine wb_gf4 158 rfl (wy_pr rfl) wt_158 wf_5_0 (v := 72) wl_158_0 ?_
  refine wb_gf5 72 rfl (wy_pr rfl) wt_72 wf_2_1 (v := 73) (h72) (fun r1 => ?_)
  refine wa_astore_n (n := 3) rfl ?_
  refine wa_aload_n (n := 0) rfl ?_
  refine wb_gf4 158 rfl (wy_pr rfl) wt_158 wf_5_3 (v := 47) wl_158_3 ?_
  refine wa_iconst ?_
  refine wb_aald5 47 1 rfl rfl (wy_pr rfl) wt_47 (by rw [show _ = _ from ((cl_47 hC))]; omega) wl_47_1 ?_
  refine wa_aload_n (n := 0) rfl ?_
  refine wb_gfi 158 rfl (wy_pr rfl) wt_158 wf_5_14 (v := fo) (l14) (fun r2 => ?_)
  refine wa_iload_n (n := 1) rfl ?_
  refine wb_iast 49 rfl (wy_pr rfl) wt_49 (n := (S 48 (-1))) ((hl.2.2.1 1 (by decide))) (by omega) (by omega) ⟨(by omega), (by omega)⟩ ?_
  refine wa_aload_n (n := 0) rfl ?_
  refine wb_gfi 158 rfl (wy_pr rfl) wt_158 wf_5_7 (v := kd) ((w_up_slot (by decide)).trans (l7)) (fun r3 => ?_)
  refine wa_ifne (w_rg0 (by omega) (by omega)) ⟨_, rfl⟩ (fun c4 => ?_) (fun c4 => ?_)
  · skip
    refine wa_aload_n (n := 0) rfl ?_
    refine wb_gfi 158 rfl (wy_pr rfl) wt_158 wf_5_7 (v := kd) ((w_up_slot (by decide)).trans (l7)) (fun r5 => ?_)
    refine wa_iconst ?_
    refine wa_icmpne (w_rg0 (by omega) (by omega)) (w_rg0 (by omega) (by omega)) ⟨_, rfl⟩ (fun c6 => ?_) (fun c6 => ?_)
    · skip
      refine wa_aload_n (n := 0) rfl ?_
      refine wb_gfi 158 rfl (wy_pr rfl) wt_158 wf_5_7 (v := kd) ((w_up_slot (by decide)).trans (l7)) (fun r7 => ?_)
      refine wa_iconst ?_
      refine wa_icmpne (w_rg0 (by omega) (by omega)) (w_rg0 (by omega) (by omega)) ⟨_, rfl⟩ (fun c8 => ?_) (fun c8 => ?_)
      · skip
        refine wa_aload_n (n := 0) rfl ?_
        refine wb_gfi 158 rfl (wy_pr rfl) wt_158 wf_5_7 (v := kd) ((w_up_slot (by decide)).trans (l7)) (fun r9 => ?_)
        refine wa_bipush (w_rg2 (by omega) (by omega)) ?_
        refine wa_icmpne (w_rg0 (by omega) (by omega)) (w_rg0 (by omega) (by omega)) ⟨_, rfl⟩ (fun c10 => ?_) (fun c10 => ?_)
        · skip
          refine wa_aload_n (n := 0) rfl ?_
          refine wb_gf5 158 rfl (wy_pr rfl) wt_158 wf_5_4 (v := 226) ((w_up_slot (by decide)).trans (l4)) (fun r11 => ?_)
          refine wa_iconst ?_
          refine wb_pfi 226 rfl (wy_pr rfl) wt_226 wf_8_16 (n := 16) rfl ⟨(by omega), (by omega)⟩ ?_
          refine wa_return rfl ?_
          exact ⟨rfl, rfl⟩
        · skip
          refine wa_iload_n (n := 2) rfl ?_
          refine wa_iconst ?_
          refine wa_icmpne (w_rg0 (by omega) (by omega)) (w_rg0 (by omega) (by omega)) ⟨_, rfl⟩ (fun c12 => ?_) (fun c12 => ?_)
          · skip
            refine wa_aload_n (n := 0) rfl ?_
            refine wb_gf5 158 rfl (wy_pr rfl) wt_158 wf_5_4 (v := 226) ((w_up_slot (by decide)).trans (l4)) (fun r13 => ?_)
            refine wa_iconst ?_
            refine wb_pfi 226 rfl (wy_pr rfl) wt_226 wf_8_16 (n := 16) rfl ⟨(by omega), (by omega)⟩ ?_
            refine wa_return rfl ?_
            exact ⟨rfl, rfl⟩
          · skip
            exfalso; omega
      · skip
        exact absurd c8 (by omega)
    · skip
      exact absurd c6 (by omega)
  · skip
    exact absurd c4 (by omega)
theorem lhC_162 {CH : List aQ} {wo mo fo : Int} (hC : w_CL S) (hc : cCh 162 210 209 163 T cs ms os CH wo mo Z) (hfo : 0 ≤ fo) (f : ∀ (j : Nat) (x : Int), j < 4000000 → j ≠ wG → ¬ lahC 162 209 210 fo j x → Z j x = S j x) : w_CL Z := fun q hq => by
  by_cases c : q.1 = 214
  · obtain ⟨⟨K, k1, -⟩, -⟩ := hc
    rw [wz_128 q hq (by omega), c]
    exact k1.2.2.2.1.2.2.2
  · have h1 := wz_nc q hq
    have h2 := (wz_lt q hq).1
    exact (f q.1 (-1) (by omega) (by unfold wG; omega) (by unfold lahC lahA; omega)).trans (hC q hq)
set_option maxHeartbeats 4000000 in
theorem lag_162_215 {k am l nm wk nms fo at0 wo mo : Int} {W tl : List Int} {CH : List aQ} (hC : w_CL S) (hK : KC 176 186 182 203 204 163 162 T cs ms os S) (hw : wHo cs ms os) (hX : w_X xs) (hI : gI S) (hN : hLn 162 163 nm wk W S) (h72 : S 72 1 = 162) (hc : cCh 162 210 209 163 T cs ms os CH wo mo S) (hWh : wd_at S 163 64) (hl : cSl S) (l4 : S 158 4 = 215) (l7 : S 158 7 = 0) (l14 : S 158 14 = fo) (hfo : 0 ≤ fo ∧ fo < S 48 (-1)) (hbl : blE l fo S) (hll : l = 1 ∨ l = 2) (hk : 0 ≤ k ∧ k < (cs.length : Int)) (ham : am = 0 ∨ am = 1) : wJ (pe_GA xs) wY0 (mS [209, 210, 211, 212, 213]) (d + 6) t_XL_lookAtHost ((pe_at t_XL_lookAtHost.bl 0).getD (0, [])).2 [(0, (2, 158)), (1, (0, k)), (2, (0, am))] [] S (lhQ 162 209 210 163 215 T cs ms os CH wo mo 0 nms fo (if gtA T cs ms os am W k = -1 then fdA T cs ms am W k else gtA T cs ms os am W k) (hoN l k (if gtA T cs ms os am W k = -1 then fdA T cs ms am W k else gtA T cs ms os am W k) 0 0 at0) S) := by
  have hR := rmR_rfl S
  have h48 := hl.2.2.2
  have hn := KC_n hK
  have hn2 := hn.2.2
  have h400 := hw.1
  obtain ⟨⟨b1, b2, b3, b4, b5⟩, b6, b7, b8, b9⟩ := hbl
  obtain ⟨fd, hfd⟩ : ∃ r : Int, r = fdA T cs ms am W k := ⟨_, rfl⟩
  have hfr := fdA_rg (T := T) (st := am) (W := W) hw hk
  rw [← hfd] at hfr ⊢
  obtain ⟨gt, hgt⟩ : ∃ r : Int, r = gtA T cs ms os am W k := ⟨_, rfl⟩
  have hgr := gtA_rg (T := T) (st := am) (W := W) hw hk
  rw [← hgt] at hgr ⊢
  refine wa_aload_n (n := 0) rfl ?_
  refine wb_gf4 158 rfl (wy_pr rfl) wt_158 wf_5_0 (v := 72) wl_158_0 ?_
  refine wb_gf5 72 rfl (wy_pr rfl) wt_72 wf_2_1 (v := 162) (h72) (fun r11 => ?_)
  refine wa_astore_n (n := 3) rfl ?_
  refine wa_aload_n (n := 0) rfl ?_
  refine wb_gf4 158 rfl (wy_pr rfl) wt_158 wf_5_3 (v := 47) wl_158_3 ?_
  refine wa_iconst ?_
  refine wb_aald5 47 1 rfl rfl (wy_pr rfl) wt_47 (by rw [show _ = _ from ((cl_47 hC))]; omega) wl_47_1 ?_
  refine wa_aload_n (n := 0) rfl ?_
  refine wb_gfi 158 rfl (wy_pr rfl) wt_158 wf_5_14 (v := fo) (l14) (fun r12 => ?_)
  refine wa_iload_n (n := 1) rfl ?_
  refine wb_iast 49 rfl (wy_pr rfl) wt_49 (n := (S 48 (-1))) ((hl.2.2.1 1 (by decide))) (by omega) (by omega) ⟨(by omega), (by omega)⟩ ?_
  refine wa_aload_n (n := 0) rfl ?_
  refine wb_gfi 158 rfl (wy_pr rfl) wt_158 wf_5_7 (v := 0) ((w_up_slot (by decide)).trans (l7)) (fun r13 => ?_)
  refine wa_ifne (w_rg0 (by omega) (by omega)) ⟨_, rfl⟩ (fun c14 => ?_) (fun c14 => ?_)
  · skip
    exact absurd c14 (by omega)
  · skip
    refine wa_aload_n (n := 0) rfl ?_
    refine wa_iload_n (n := 1) rfl ?_
    refine wa_iload_n (n := 2) rfl ?_
    have f15 : ∀ (j : Nat) (x : Int), j < 4000000 → j ≠ wG → ¬ lahC 162 209 210 fo j x → (w_up S 49 fo k) j x = S j x := fun j x j0 j1 hj => (w_up_no (lah_n (j2 := 49) (x2 := fo) hj (⟨by omega, by omega, rfl⟩)))
    have hc15 : cCh 162 210 209 163 T cs ms os CH wo mo (w_up S 49 fo k) := cCh_ag hc (fun j x hj => (w_up_no (by omega)))
    have hC15 : w_CL (w_up S 49 fo k) := lhC_162 hC hc15 hfo.1 f15
    have hN15 : hLn 162 163 nm wk W (w_up S 49 fo k) := hLn_ag hN (fun j x hj => f15 j x (by omega) (by unfold wG; omega) (by unfold lahC lahA; omega))
    have hK15 : KC 176 186 182 203 204 163 162 T cs ms os (w_up S 49 fo k) := KC_ag hK (f15 162 2 (by omega) (by unfold wG; omega) (by unfold lahC lahA; omega)) (f15 162 4 (by omega) (by unfold wG; omega) (by unfold lahC lahA; omega)) (fun j hj => funext (fun x => f15 j x (by omega) (by unfold wG; omega) (by unfold lahC lahA; omega)))
    have hW15 : wd_at (w_up S 49 fo k) 163 64 := wda_a9 hWh (fun j x j0 j1 => f15 j x (by omega) (by unfold wG; omega) (by unfold lahC lahA; omega))
    refine wa_cv 158 rfl (wy_pr rfl) wt_158 (M2 := fun _ => False) rfl at_XL_getter ⟨_, rfl⟩ rfl rfl ⟨(Or.inr ⟨wy_pr rfl, fun q => q⟩), (Or.inr ⟨wy_pr rfl, fun q => q⟩), trivial, trivial, trivial⟩ trivial (fun _ _ q => False.elim q) (wJ_mono (gtr_162 (S := (w_up S 49 fo k)) (k := k) (st := am) (d := d) hC15 hK15 hw hX (gI_up hI (by omega) (by omega) (by omega)) hN15 hk ham) (fun o Z hz => (⟨hz.1, hz.2.1, hz.2.2.1, by rw [hgt]; exact hz.2.2.2⟩ : sc_ag 159 (w_up S 49 fo k) Z ∧ gI Z ∧ rmR (w_up S 49 fo k) Z ∧ o = .inl (some (0, gt))))) (fun oq15 Sq15 hp16 q15 => ?_)
    rcases q15 with ⟨fz15, gz15, rz15, rfl⟩
    show wJ _ _ _ _ _ _ _ _ _ _
    refine wa_istore (n := 4) rfl ?_
    refine wa_goto ⟨_, rfl⟩ ?_
    refine wa_aload_n (n := 0) rfl ?_
    refine wb_gfi 158 rfl (wy_pr rfl) wt_158 wf_5_7 (v := 0) (((fz15 158 7 (by omega)).trans ((w_up_slot (by decide)).trans (l7)))) (fun r17 => ?_)
    refine wa_ifeq (w_rg0 (by omega) (by omega)) ⟨_, rfl⟩ (fun c18 => ?_) (fun c18 => ?_)
    · skip
      refine wa_iload (n := 4) rfl ?_
      refine wa_iconst ?_
      refine wa_icmpne (w_rg0 (by omega) (by omega)) (w_rg0 (by omega) (by omega)) ⟨_, rfl⟩ (fun c19 => ?_) (fun c19 => ?_)
      · skip
        refine wa_iload (n := 4) rfl ?_
        refine wa_ifge (w_rg0 (by omega) (by omega)) ⟨_, rfl⟩ (fun c20 => ?_) (fun c20 => ?_)
        · skip
          refine wa_aload_n (n := 0) rfl ?_
          refine wb_gf4 158 rfl (wy_pr rfl) wt_158 wf_5_3 (v := 47) wl_158_3 ?_
          refine wa_iconst ?_
          refine wb_aald5 47 3 rfl rfl (wy_pr rfl) wt_47 (by rw [show _ = _ from (((fz15 47 (-1) (by omega)).trans ((w_up_slot (by decide)).trans ((cl_47 hC)))))]; omega) wl_47_3 ?_
          refine wa_aload_n (n := 0) rfl ?_
          refine wb_gfi 158 rfl (wy_pr rfl) wt_158 wf_5_14 (v := fo) (((fz15 158 14 (by omega)).trans ((w_up_slot (by decide)).trans (l14)))) (fun r21 => ?_)
          refine wa_iload (n := 4) rfl ?_
          refine wb_iast 51 rfl (wy_pr rfl) wt_51 (n := (S 48 (-1))) (((fz15 51 (-1) (by omega)).trans ((w_up_slot (by decide)).trans ((hl.2.2.1 3 (by decide)))))) (by omega) (by omega) ⟨(by omega), (by omega)⟩ ?_
          refine wa_return rfl ?_
          have fE : ∀ (j : Nat) (x : Int), j < 4000000 → j ≠ wG → ¬ lahM 162 209 210 215 fo j x → (w_up Sq15 51 fo gt) j x = S j x := fun j x j0 j1 hj => ((w_up_no (lah_m (j2 := 51) (x2 := fo) hj (Or.inl ⟨by omega, by omega, rfl⟩))).trans (((fz15 j x (lah_d hj)).trans ((w_up_no (lah_m (j2 := 49) (x2 := fo) hj (Or.inl ⟨by omega, by omega, rfl⟩)))))))
          have hcE : cCh 162 210 209 163 T cs ms os CH wo mo (w_up Sq15 51 fo gt) := cCh_ag hc (fun j x hj => ((w_up_no (by omega)).trans ((fz15 j x (by omega)).trans (w_up_no (by omega)))))
          have hwh : (if gt = -1 then fd else gt) = gt := by first | exact if_pos (by omega) | exact if_neg (by omega)
          rw [hwh]
          refine ⟨rfl, fun _ => ⟨?_, ((w_up_slot (by first | decide | omega)).trans (((fz15 215 16 (by omega)).trans (w_up_slot (by first | decide | omega)))))⟩, fun z => absurd z (by omega), hcE, fE, (gI_up gz15 (by omega) (by omega) (by omega)), (rmR_up (rmR_tr (rmR_up hR (by omega) (by first | decide | omega)) rz15) (by omega) (by first | decide | omega))⟩
          refine ⟨⟨(((w_up_slot (by first | decide | omega)).trans (((fz15 48 fo (by omega)).trans (w_up_slot (by first | decide | omega))))) : (w_up Sq15 51 fo gt) 48 fo = (S 48 fo)).trans b1, (((w_up_slot (by first | decide | omega)).trans (((fz15 49 fo (by omega)).trans (w_up_same _ _ _ _)))) : (w_up Sq15 51 fo gt) 49 fo = k), (((w_up_slot (by first | decide | omega)).trans (((fz15 50 fo (by omega)).trans (w_up_slot (by first | decide | omega))))) : (w_up Sq15 51 fo gt) 50 fo = (S 50 fo)).trans b3, ((w_up_same _ _ _ _) : (w_up Sq15 51 fo gt) 51 fo = gt), (((w_up_slot (by first | decide | omega)).trans (((fz15 52 fo (by omega)).trans (w_up_slot (by first | decide | omega))))) : (w_up Sq15 51 fo gt) 52 fo = (S 52 fo)).trans b5⟩, ((((w_up_slot (by first | decide | omega)).trans (((fz15 53 fo (by omega)).trans (w_up_slot (by first | decide | omega))))) : (w_up Sq15 51 fo gt) 53 fo = (S 53 fo)).trans b6).trans (if_neg (fun z => by have z1 := z.1; simp only [hoN] at z1; omega)).symm, ((((w_up_slot (by first | decide | omega)).trans (((fz15 54 fo (by omega)).trans (w_up_slot (by first | decide | omega))))) : (w_up Sq15 51 fo gt) 54 fo = (S 54 fo)).trans b7).trans (if_neg (fun z => by have z1 := z.1; simp only [hoN] at z1; omega)).symm, ?_, ?_⟩
          · exact ((((w_up_slot (by first | decide | omega)).trans (((fz15 55 fo (by omega)).trans (w_up_slot (by first | decide | omega))))) : (w_up Sq15 51 fo gt) 55 fo = (S 55 fo)).trans b8).trans (if_neg (fun z => by rcases z.2 with y | y | y; exact absurd y (by first | decide | omega); exact absurd y (by first | decide | omega); exact absurd y.2 (by simp only [hoN]; decide))).symm
          · exact ((((w_up_slot (by first | decide | omega)).trans (((fz15 56 fo (by omega)).trans (w_up_slot (by first | decide | omega))))) : (w_up Sq15 51 fo gt) 56 fo = (S 56 fo)).trans b9).trans (if_neg (fun z => by rcases z.2 with y | y | y; exact absurd y (by first | decide | omega); exact absurd y (by first | decide | omega); exact absurd y.2 (by simp only [hoN]; decide))).symm
        · skip
          refine wa_aload_n (n := 0) rfl ?_
          refine wb_gf5 158 rfl (wy_pr rfl) wt_158 wf_5_4 (v := 215) (((fz15 158 4 (by omega)).trans ((w_up_slot (by decide)).trans (l4)))) (fun r22 => ?_)
          refine wa_iload (n := 4) rfl ?_
          refine wa_iconst ?_
          refine wa_icmpne (w_rg0 (by omega) (by omega)) (w_rg0 (by omega) (by omega)) ⟨_, rfl⟩ (fun c23 => ?_) (fun c23 => ?_)
          · skip
            refine wa_iload (n := 4) rfl ?_
            refine wa_ineg ?_
            refine wa_fall ⟨_, rfl⟩ ?_
            refine wb_pfi 215 rfl (wy_pr rfl) wt_215 wf_8_16 (n := 16) rfl ⟨(by omega), (by omega)⟩ ?_
            refine wa_fall ⟨_, rfl⟩ ?_
            refine wa_aload_n (n := 0) rfl ?_
            refine wb_gf4 158 rfl (wy_pr rfl) wt_158 wf_5_3 (v := 47) wl_158_3 ?_
            refine wa_iconst ?_
            refine wb_aald5 47 3 rfl rfl (wy_pr rfl) wt_47 (by rw [show _ = _ from ((w_up_slot (by decide)).trans (((fz15 47 (-1) (by omega)).trans ((w_up_slot (by decide)).trans ((cl_47 hC))))))]; omega) wl_47_3 ?_
            refine wa_aload_n (n := 0) rfl ?_
            refine wb_gfi 158 rfl (wy_pr rfl) wt_158 wf_5_14 (v := fo) ((w_up_slot (by decide)).trans (((fz15 158 14 (by omega)).trans ((w_up_slot (by decide)).trans (l14))))) (fun r24 => ?_)
            refine wa_iload (n := 4) rfl ?_
            refine wb_iast 51 rfl (wy_pr rfl) wt_51 (n := (S 48 (-1))) ((w_up_slot (by decide)).trans (((fz15 51 (-1) (by omega)).trans ((w_up_slot (by decide)).trans ((hl.2.2.1 3 (by decide))))))) (by omega) (by omega) ⟨(by omega), (by omega)⟩ ?_
            refine wa_return rfl ?_
            have fE : ∀ (j : Nat) (x : Int), j < 4000000 → j ≠ wG → ¬ lahM 162 209 210 215 fo j x → (w_up (w_up Sq15 215 16 (-gt)) 51 fo gt) j x = S j x := fun j x j0 j1 hj => ((w_up_no (lah_m (j2 := 51) (x2 := fo) hj (Or.inl ⟨by omega, by omega, rfl⟩))).trans ((w_up_no (lah_m (j2 := 215) (x2 := 16) hj (Or.inr ⟨rfl, rfl⟩))).trans (((fz15 j x (lah_d hj)).trans ((w_up_no (lah_m (j2 := 49) (x2 := fo) hj (Or.inl ⟨by omega, by omega, rfl⟩))))))))
            have hcE : cCh 162 210 209 163 T cs ms os CH wo mo (w_up (w_up Sq15 215 16 (-gt)) 51 fo gt) := cCh_ag hc (fun j x hj => ((w_up_no (by omega)).trans ((w_up_no (by omega)).trans ((fz15 j x (by omega)).trans (w_up_no (by omega))))))
            have hwh : (if gt = -1 then fd else gt) = gt := by first | exact if_pos (by omega) | exact if_neg (by omega)
            rw [hwh]
            refine ⟨rfl, fun z => absurd z (by omega), fun _ => ?_, hcE, fE, (gI_up (gI_up gz15 (by omega) (by omega) (by omega)) (by omega) (by omega) (by omega)), (rmR_up (rmR_up (rmR_tr (rmR_up hR (by omega) (by first | decide | omega)) rz15) (by omega) (by first | decide | omega)) (by omega) (by first | decide | omega))⟩
            refine (((w_up_slot (by first | decide | omega)).trans (w_up_same _ _ _ _)) : (w_up (w_up Sq15 215 16 (-gt)) 51 fo gt) 215 16 = (-gt)).trans ?_
            first | omega | (rw [if_pos (by omega)]) | (rw [if_neg (by omega)])
          · skip
            exact absurd c23 (by omega)
      · skip
        refine wa_aload_n (n := 0) rfl ?_
        refine wb_gfi 158 rfl (wy_pr rfl) wt_158 wf_5_7 (v := 0) (((fz15 158 7 (by omega)).trans ((w_up_slot (by decide)).trans (l7)))) (fun r25 => ?_)
        refine wa_ifeq (w_rg0 (by omega) (by omega)) ⟨_, rfl⟩ (fun c26 => ?_) (fun c26 => ?_)
        · skip
          refine wa_aload_n (n := 0) rfl ?_
          refine wa_iload_n (n := 1) rfl ?_
          refine wa_iload_n (n := 2) rfl ?_
          have f27 : ∀ (j : Nat) (x : Int), j < 4000000 → j ≠ wG → ¬ lahC 162 209 210 fo j x → Sq15 j x = S j x := fun j x j0 j1 hj => (((fz15 j x (lah_c hj)).trans ((w_up_no (lah_n (j2 := 49) (x2 := fo) hj (⟨by omega, by omega, rfl⟩))))))
          have hc27 : cCh 162 210 209 163 T cs ms os CH wo mo Sq15 := cCh_ag hc (fun j x hj => ((fz15 j x (by omega)).trans (w_up_no (by omega))))
          have hC27 : w_CL Sq15 := lhC_162 hC hc27 hfo.1 f27
          have hN27 : hLn 162 163 nm wk W Sq15 := hLn_ag hN (fun j x hj => f27 j x (by omega) (by unfold wG; omega) (by unfold lahC lahA; omega))
          have hK27 : KC 176 186 182 203 204 163 162 T cs ms os Sq15 := KC_ag hK (f27 162 2 (by omega) (by unfold wG; omega) (by unfold lahC lahA; omega)) (f27 162 4 (by omega) (by unfold wG; omega) (by unfold lahC lahA; omega)) (fun j hj => funext (fun x => f27 j x (by omega) (by unfold wG; omega) (by unfold lahC lahA; omega)))
          have hW27 : wd_at Sq15 163 64 := wda_a9 hWh (fun j x j0 j1 => f27 j x (by omega) (by unfold wG; omega) (by unfold lahC lahA; omega))
          refine wa_cv 158 rfl (wy_pr rfl) wt_158 (M2 := fun _ => False) rfl at_XL_fieldOf ⟨_, rfl⟩ rfl rfl ⟨trivial, (Or.inr ⟨wy_pr rfl, fun q => q⟩), (Or.inr ⟨wy_pr rfl, fun q => q⟩), trivial, trivial, trivial⟩ trivial (fun _ _ q => False.elim q) (wJ_mono (fof_162 (S := Sq15) (k := k) (st := am) (d := d) hC27 hK27 hw hX gz15 hN27 hk ham) (fun o Z hz => (⟨hz.1, hz.2.1, hz.2.2.1, by rw [hfd]; exact hz.2.2.2⟩ : sc_ag 159 Sq15 Z ∧ gI Z ∧ rmR Sq15 Z ∧ o = .inl (some (0, fd))))) (fun oq27 Sq27 hp28 q27 => ?_)
          rcases q27 with ⟨fz27, gz27, rz27, rfl⟩
          show wJ _ _ _ _ _ _ _ _ _ _
          refine wa_istore (n := 4) rfl ?_
          refine wa_fall ⟨_, rfl⟩ ?_
          refine wa_iload (n := 4) rfl ?_
          refine wa_ifge (w_rg0 (by omega) (by omega)) ⟨_, rfl⟩ (fun c29 => ?_) (fun c29 => ?_)
          · skip
            refine wa_aload_n (n := 0) rfl ?_
            refine wb_gf4 158 rfl (wy_pr rfl) wt_158 wf_5_3 (v := 47) wl_158_3 ?_
            refine wa_iconst ?_
            refine wb_aald5 47 3 rfl rfl (wy_pr rfl) wt_47 (by rw [show _ = _ from (((fz27 47 (-1) (by omega)).trans (((fz15 47 (-1) (by omega)).trans ((w_up_slot (by decide)).trans ((cl_47 hC)))))))]; omega) wl_47_3 ?_
            refine wa_aload_n (n := 0) rfl ?_
            refine wb_gfi 158 rfl (wy_pr rfl) wt_158 wf_5_14 (v := fo) (((fz27 158 14 (by omega)).trans (((fz15 158 14 (by omega)).trans ((w_up_slot (by decide)).trans (l14)))))) (fun r30 => ?_)
            refine wa_iload (n := 4) rfl ?_
            refine wb_iast 51 rfl (wy_pr rfl) wt_51 (n := (S 48 (-1))) (((fz27 51 (-1) (by omega)).trans (((fz15 51 (-1) (by omega)).trans ((w_up_slot (by decide)).trans ((hl.2.2.1 3 (by decide)))))))) (by omega) (by omega) ⟨(by omega), (by omega)⟩ ?_
            refine wa_return rfl ?_
            have fE : ∀ (j : Nat) (x : Int), j < 4000000 → j ≠ wG → ¬ lahM 162 209 210 215 fo j x → (w_up Sq27 51 fo fd) j x = S j x := fun j x j0 j1 hj => ((w_up_no (lah_m (j2 := 51) (x2 := fo) hj (Or.inl ⟨by omega, by omega, rfl⟩))).trans (((fz27 j x (lah_d hj)).trans ((((fz15 j x (lah_d hj)).trans ((w_up_no (lah_m (j2 := 49) (x2 := fo) hj (Or.inl ⟨by omega, by omega, rfl⟩))))))))))
            have hcE : cCh 162 210 209 163 T cs ms os CH wo mo (w_up Sq27 51 fo fd) := cCh_ag hc (fun j x hj => ((w_up_no (by omega)).trans ((fz27 j x (by omega)).trans ((fz15 j x (by omega)).trans (w_up_no (by omega))))))
            have hwh : (if gt = -1 then fd else gt) = fd := by first | exact if_pos (by omega) | exact if_neg (by omega)
            rw [hwh]
            refine ⟨rfl, fun _ => ⟨?_, ((w_up_slot (by first | decide | omega)).trans (((fz27 215 16 (by omega)).trans (((fz15 215 16 (by omega)).trans (w_up_slot (by first | decide | omega)))))))⟩, fun z => absurd z (by omega), hcE, fE, (gI_up gz27 (by omega) (by omega) (by omega)), (rmR_up (rmR_tr (rmR_tr (rmR_up hR (by omega) (by first | decide | omega)) rz15) rz27) (by omega) (by first | decide | omega))⟩
            refine ⟨⟨(((w_up_slot (by first | decide | omega)).trans (((fz27 48 fo (by omega)).trans (((fz15 48 fo (by omega)).trans (w_up_slot (by first | decide | omega))))))) : (w_up Sq27 51 fo fd) 48 fo = (S 48 fo)).trans b1, (((w_up_slot (by first | decide | omega)).trans (((fz27 49 fo (by omega)).trans (((fz15 49 fo (by omega)).trans (w_up_same _ _ _ _)))))) : (w_up Sq27 51 fo fd) 49 fo = k), (((w_up_slot (by first | decide | omega)).trans (((fz27 50 fo (by omega)).trans (((fz15 50 fo (by omega)).trans (w_up_slot (by first | decide | omega))))))) : (w_up Sq27 51 fo fd) 50 fo = (S 50 fo)).trans b3, ((w_up_same _ _ _ _) : (w_up Sq27 51 fo fd) 51 fo = fd), (((w_up_slot (by first | decide | omega)).trans (((fz27 52 fo (by omega)).trans (((fz15 52 fo (by omega)).trans (w_up_slot (by first | decide | omega))))))) : (w_up Sq27 51 fo fd) 52 fo = (S 52 fo)).trans b5⟩, ((((w_up_slot (by first | decide | omega)).trans (((fz27 53 fo (by omega)).trans (((fz15 53 fo (by omega)).trans (w_up_slot (by first | decide | omega))))))) : (w_up Sq27 51 fo fd) 53 fo = (S 53 fo)).trans b6).trans (if_neg (fun z => by have z1 := z.1; simp only [hoN] at z1; omega)).symm, ((((w_up_slot (by first | decide | omega)).trans (((fz27 54 fo (by omega)).trans (((fz15 54 fo (by omega)).trans (w_up_slot (by first | decide | omega))))))) : (w_up Sq27 51 fo fd) 54 fo = (S 54 fo)).trans b7).trans (if_neg (fun z => by have z1 := z.1; simp only [hoN] at z1; omega)).symm, ?_, ?_⟩
            · exact ((((w_up_slot (by first | decide | omega)).trans (((fz27 55 fo (by omega)).trans (((fz15 55 fo (by omega)).trans (w_up_slot (by first | decide | omega))))))) : (w_up Sq27 51 fo fd) 55 fo = (S 55 fo)).trans b8).trans (if_neg (fun z => by rcases z.2 with y | y | y; exact absurd y (by first | decide | omega); exact absurd y (by first | decide | omega); exact absurd y.2 (by simp only [hoN]; decide))).symm
            · exact ((((w_up_slot (by first | decide | omega)).trans (((fz27 56 fo (by omega)).trans (((fz15 56 fo (by omega)).trans (w_up_slot (by first | decide | omega))))))) : (w_up Sq27 51 fo fd) 56 fo = (S 56 fo)).trans b9).trans (if_neg (fun z => by rcases z.2 with y | y | y; exact absurd y (by first | decide | omega); exact absurd y (by first | decide | omega); exact absurd y.2 (by simp only [hoN]; decide))).symm
          · skip
            refine wa_aload_n (n := 0) rfl ?_
            refine wb_gf5 158 rfl (wy_pr rfl) wt_158 wf_5_4 (v := 215) (((fz27 158 4 (by omega)).trans (((fz15 158 4 (by omega)).trans ((w_up_slot (by decide)).trans (l4)))))) (fun r31 => ?_)
            refine wa_iload (n := 4) rfl ?_
            refine wa_iconst ?_
            refine wa_icmpne (w_rg0 (by omega) (by omega)) (w_rg0 (by omega) (by omega)) ⟨_, rfl⟩ (fun c32 => ?_) (fun c32 => ?_)
            · skip
              refine wa_iload (n := 4) rfl ?_
              refine wa_ineg ?_
              refine wa_fall ⟨_, rfl⟩ ?_
              refine wb_pfi 215 rfl (wy_pr rfl) wt_215 wf_8_16 (n := 16) rfl ⟨(by omega), (by omega)⟩ ?_
              refine wa_fall ⟨_, rfl⟩ ?_
              refine wa_aload_n (n := 0) rfl ?_
              refine wb_gf4 158 rfl (wy_pr rfl) wt_158 wf_5_3 (v := 47) wl_158_3 ?_
              refine wa_iconst ?_
              refine wb_aald5 47 3 rfl rfl (wy_pr rfl) wt_47 (by rw [show _ = _ from ((w_up_slot (by decide)).trans (((fz27 47 (-1) (by omega)).trans (((fz15 47 (-1) (by omega)).trans ((w_up_slot (by decide)).trans ((cl_47 hC))))))))]; omega) wl_47_3 ?_
              refine wa_aload_n (n := 0) rfl ?_
              refine wb_gfi 158 rfl (wy_pr rfl) wt_158 wf_5_14 (v := fo) ((w_up_slot (by decide)).trans (((fz27 158 14 (by omega)).trans (((fz15 158 14 (by omega)).trans ((w_up_slot (by decide)).trans (l14))))))) (fun r33 => ?_)
              refine wa_iload (n := 4) rfl ?_
              refine wb_iast 51 rfl (wy_pr rfl) wt_51 (n := (S 48 (-1))) ((w_up_slot (by decide)).trans (((fz27 51 (-1) (by omega)).trans (((fz15 51 (-1) (by omega)).trans ((w_up_slot (by decide)).trans ((hl.2.2.1 3 (by decide))))))))) (by omega) (by omega) ⟨(by omega), (by omega)⟩ ?_
              refine wa_return rfl ?_
              have fE : ∀ (j : Nat) (x : Int), j < 4000000 → j ≠ wG → ¬ lahM 162 209 210 215 fo j x → (w_up (w_up Sq27 215 16 (-fd)) 51 fo fd) j x = S j x := fun j x j0 j1 hj => ((w_up_no (lah_m (j2 := 51) (x2 := fo) hj (Or.inl ⟨by omega, by omega, rfl⟩))).trans ((w_up_no (lah_m (j2 := 215) (x2 := 16) hj (Or.inr ⟨rfl, rfl⟩))).trans (((fz27 j x (lah_d hj)).trans ((((fz15 j x (lah_d hj)).trans ((w_up_no (lah_m (j2 := 49) (x2 := fo) hj (Or.inl ⟨by omega, by omega, rfl⟩)))))))))))
              have hcE : cCh 162 210 209 163 T cs ms os CH wo mo (w_up (w_up Sq27 215 16 (-fd)) 51 fo fd) := cCh_ag hc (fun j x hj => ((w_up_no (by omega)).trans ((w_up_no (by omega)).trans ((fz27 j x (by omega)).trans ((fz15 j x (by omega)).trans (w_up_no (by omega)))))))
              have hwh : (if gt = -1 then fd else gt) = fd := by first | exact if_pos (by omega) | exact if_neg (by omega)
              rw [hwh]
              refine ⟨rfl, fun z => absurd z (by omega), fun _ => ?_, hcE, fE, (gI_up (gI_up gz27 (by omega) (by omega) (by omega)) (by omega) (by omega) (by omega)), (rmR_up (rmR_up (rmR_tr (rmR_tr (rmR_up hR (by omega) (by first | decide | omega)) rz15) rz27) (by omega) (by first | decide | omega)) (by omega) (by first | decide | omega))⟩
              refine (((w_up_slot (by first | decide | omega)).trans (w_up_same _ _ _ _)) : (w_up (w_up Sq27 215 16 (-fd)) 51 fo fd) 215 16 = (-fd)).trans ?_
              first | omega | (rw [if_pos (by omega)]) | (rw [if_neg (by omega)])
            · skip
              refine wa_iconst ?_
              refine wa_goto ⟨_, rfl⟩ ?_
              refine wb_pfi 215 rfl (wy_pr rfl) wt_215 wf_8_16 (n := 16) rfl ⟨(by omega), (by omega)⟩ ?_
              refine wa_fall ⟨_, rfl⟩ ?_
              refine wa_aload_n (n := 0) rfl ?_
              refine wb_gf4 158 rfl (wy_pr rfl) wt_158 wf_5_3 (v := 47) wl_158_3 ?_
              refine wa_iconst ?_
              refine wb_aald5 47 3 rfl rfl (wy_pr rfl) wt_47 (by rw [show _ = _ from ((w_up_slot (by decide)).trans (((fz27 47 (-1) (by omega)).trans (((fz15 47 (-1) (by omega)).trans ((w_up_slot (by decide)).trans ((cl_47 hC))))))))]; omega) wl_47_3 ?_
              refine wa_aload_n (n := 0) rfl ?_
              refine wb_gfi 158 rfl (wy_pr rfl) wt_158 wf_5_14 (v := fo) ((w_up_slot (by decide)).trans (((fz27 158 14 (by omega)).trans (((fz15 158 14 (by omega)).trans ((w_up_slot (by decide)).trans (l14))))))) (fun r34 => ?_)
              refine wa_iload (n := 4) rfl ?_
              refine wb_iast 51 rfl (wy_pr rfl) wt_51 (n := (S 48 (-1))) ((w_up_slot (by decide)).trans (((fz27 51 (-1) (by omega)).trans (((fz15 51 (-1) (by omega)).trans ((w_up_slot (by decide)).trans ((hl.2.2.1 3 (by decide))))))))) (by omega) (by omega) ⟨(by omega), (by omega)⟩ ?_
              refine wa_return rfl ?_
              have fE : ∀ (j : Nat) (x : Int), j < 4000000 → j ≠ wG → ¬ lahM 162 209 210 215 fo j x → (w_up (w_up Sq27 215 16 4) 51 fo fd) j x = S j x := fun j x j0 j1 hj => ((w_up_no (lah_m (j2 := 51) (x2 := fo) hj (Or.inl ⟨by omega, by omega, rfl⟩))).trans ((w_up_no (lah_m (j2 := 215) (x2 := 16) hj (Or.inr ⟨rfl, rfl⟩))).trans (((fz27 j x (lah_d hj)).trans ((((fz15 j x (lah_d hj)).trans ((w_up_no (lah_m (j2 := 49) (x2 := fo) hj (Or.inl ⟨by omega, by omega, rfl⟩)))))))))))
              have hcE : cCh 162 210 209 163 T cs ms os CH wo mo (w_up (w_up Sq27 215 16 4) 51 fo fd) := cCh_ag hc (fun j x hj => ((w_up_no (by omega)).trans ((w_up_no (by omega)).trans ((fz27 j x (by omega)).trans ((fz15 j x (by omega)).trans (w_up_no (by omega)))))))
              have hwh : (if gt = -1 then fd else gt) = fd := by first | exact if_pos (by omega) | exact if_neg (by omega)
              rw [hwh]
              refine ⟨rfl, fun z => absurd z (by omega), fun _ => ?_, hcE, fE, (gI_up (gI_up gz27 (by omega) (by omega) (by omega)) (by omega) (by omega) (by omega)), (rmR_up (rmR_up (rmR_tr (rmR_tr (rmR_up hR (by omega) (by first | decide | omega)) rz15) rz27) (by omega) (by first | decide | omega)) (by omega) (by first | decide | omega))⟩
              refine (((w_up_slot (by first | decide | omega)).trans (w_up_same _ _ _ _)) : (w_up (w_up Sq27 215 16 4) 51 fo fd) 215 16 = 4).trans ?_
              first | omega | (rw [if_pos (by omega)]) | (rw [if_neg (by omega)])
        · skip
          exact absurd c26 (by omega)
    · skip
      exact absurd c18 (by omega)
set_option maxHeartbeats 4000000 in
theorem las_162_215 {k am l nm wk nms fo at0 wo mo : Int} {W tl : List Int} {CH : List aQ} (hC : w_CL S) (hK : KC 176 186 182 203 204 163 162 T cs ms os S) (hw : wHo cs ms os) (hX : w_X xs) (hI : gI S) (hN : hLn 162 163 nm wk W S) (h72 : S 72 1 = 162) (hc : cCh 162 210 209 163 T cs ms os CH wo mo S) (hWh : wd_at S 163 64) (hl : cSl S) (l4 : S 158 4 = 215) (l7 : S 158 7 = 1) (l12 : S 158 12 = (tl.length : Int)) (l13 : S 158 13 = esV tl) (htl : tl.length ≤ 8) (hes : esOk tl) (hty : ∀ c ∈ tl, c < 9 + (cs.length : Int)) (hwo : wo < 10000000) (htl1 : tl.length = 1) (l14 : S 158 14 = fo) (hfo : 0 ≤ fo ∧ fo < S 48 (-1)) (hbl : blE l fo S) (hll : l = 1 ∨ l = 2) (hk : 0 ≤ k ∧ k < (cs.length : Int)) (ham : am = 0 ∨ am = 1) : wJ (pe_GA xs) wY0 (mS [209, 210, 211, 212, 213]) (d + 6) t_XL_lookAtHost ((pe_at t_XL_lookAtHost.bl 0).getD (0, [])).2 [(0, (2, 158)), (1, (0, k)), (2, (0, am))] [] S (lhQ 162 209 210 163 215 T cs ms os (chN CH wo mo (k, am, 1, (wnW [115, 101, 116] W), tl) (FA T cs ms os k am 1 (wnW [115, 101, 116] W))).1 (chN CH wo mo (k, am, 1, (wnW [115, 101, 116] W), tl) (FA T cs ms os k am 1 (wnW [115, 101, 116] W))).2 mo 1 nms fo (if (FA T cs ms os k am 1 (wnW [115, 101, 116] W)) = [] then fdA T cs ms am W k else (rvA T cs ms os (k, am, 1, (wnW [115, 101, 116] W), tl))) (if (FA T cs ms os k am 1 (wnW [115, 101, 116] W)) = [] then hoN l k (if (FA T cs ms os k am 1 (wnW [115, 101, 116] W)) = [] then fdA T cs ms am W k else (rvA T cs ms os (k, am, 1, (wnW [115, 101, 116] W), tl))) 0 0 at0 else hoN l k (if (FA T cs ms os k am 1 (wnW [115, 101, 116] W)) = [] then fdA T cs ms am W k else (rvA T cs ms os (k, am, 1, (wnW [115, 101, 116] W), tl))) 1 (esV tl) at0) S) := by
  have hR := rmR_rfl S
  have h48 := hl.2.2.2
  have hn := KC_n hK
  have hn2 := hn.2.2
  have h400 := hw.1
  obtain ⟨⟨b1, b2, b3, b4, b5⟩, b6, b7, b8, b9⟩ := hbl
  have hear : 0 ≤ esV tl ∧ esV tl < 72057594037927936 := by have z := esV_rg tl hes; have z2 := p7_le (n := tl.length) htl; omega
  have hlo := wb_l2i_rg (esV tl)
  have hhi := wb_l2i_rg (wb_lushr (esV tl) 32)
  obtain ⟨rv, hrv⟩ : ∃ r : Int, r = (rvA T cs ms os (k, am, 1, (wnW [115, 101, 116] W), tl)) := ⟨_, rfl⟩
  have hrr := rvA_rg (T := T) (q := (k, am, 1, (wnW [115, 101, 116] W), tl)) hw hk
  rw [← hrv] at hrr ⊢
  obtain ⟨fd, hfd⟩ : ∃ r : Int, r = fdA T cs ms am W k := ⟨_, rfl⟩
  have hfr := fdA_rg (T := T) (st := am) (W := W) hw hk
  rw [← hfd] at hfr ⊢
  have hF0 : (FA T cs ms os k am 1 (wnW [115, 101, 116] W)) = [] ↔ rv = -1 := by
    rw [hrv]
    unfold rvA
    constructor
    · intro z; exact if_pos z
    · intro z
      by_cases c : (FA T cs ms os k am 1 (wnW [115, 101, 116] W)) = []
      · exact c
      · exfalso
        have z1 : sgA cs ms tl (FA T cs ms os k am 1 (wnW [115, 101, 116] W)) = -1 := by have z2 := z; rw [if_neg c] at z2; exact z2
        have hsn := sgA_no (tl := tl) hw (FA_m (T := T) (am := am) (fs := 1) (WW := (wnW [115, 101, 116] W)) hw hk (by omega))
        exact hsn z1
  refine wa_aload_n (n := 0) rfl ?_
  refine wb_gf4 158 rfl (wy_pr rfl) wt_158 wf_5_0 (v := 72) wl_158_0 ?_
  refine wb_gf5 72 rfl (wy_pr rfl) wt_72 wf_2_1 (v := 162) (h72) (fun r11 => ?_)
  refine wa_astore_n (n := 3) rfl ?_
  refine wa_aload_n (n := 0) rfl ?_
  refine wb_gf4 158 rfl (wy_pr rfl) wt_158 wf_5_3 (v := 47) wl_158_3 ?_
  refine wa_iconst ?_
  refine wb_aald5 47 1 rfl rfl (wy_pr rfl) wt_47 (by rw [show _ = _ from ((cl_47 hC))]; omega) wl_47_1 ?_
  refine wa_aload_n (n := 0) rfl ?_
  refine wb_gfi 158 rfl (wy_pr rfl) wt_158 wf_5_14 (v := fo) (l14) (fun r12 => ?_)
  refine wa_iload_n (n := 1) rfl ?_
  refine wb_iast 49 rfl (wy_pr rfl) wt_49 (n := (S 48 (-1))) ((hl.2.2.1 1 (by decide))) (by omega) (by omega) ⟨(by omega), (by omega)⟩ ?_
  refine wa_aload_n (n := 0) rfl ?_
  refine wb_gfi 158 rfl (wy_pr rfl) wt_158 wf_5_7 (v := 1) ((w_up_slot (by decide)).trans (l7)) (fun r13 => ?_)
  refine wa_ifne (w_rg0 (by omega) (by omega)) ⟨_, rfl⟩ (fun c14 => ?_) (fun c14 => ?_)
  · skip
    refine wa_aload_n (n := 0) rfl ?_
    refine wb_gfi 158 rfl (wy_pr rfl) wt_158 wf_5_7 (v := 1) ((w_up_slot (by decide)).trans (l7)) (fun r15 => ?_)
    refine wa_iconst ?_
    refine wa_icmpne (w_rg0 (by omega) (by omega)) (w_rg0 (by omega) (by omega)) ⟨_, rfl⟩ (fun c16 => ?_) (fun c16 => ?_)
    · skip
      exact absurd c16 (by omega)
    · skip
      refine wa_aload_n (n := 3) rfl ?_
      refine wa_iload_n (n := 1) rfl ?_
      refine wa_iload_n (n := 2) rfl ?_
      refine wa_aload_n (n := 0) rfl ?_
      refine wa_ks ?_
      have f17 : ∀ (j : Nat) (x : Int), j < 4000000 → j ≠ wG → ¬ lahC 162 209 210 fo j x → (w_up S 49 fo k) j x = S j x := fun j x j0 j1 hj => (w_up_no (lah_n (j2 := 49) (x2 := fo) hj (⟨by omega, by omega, rfl⟩)))
      have hc17 : cCh 162 210 209 163 T cs ms os CH wo mo (w_up S 49 fo k) := cCh_ag hc (fun j x hj => (w_up_no (by omega)))
      have hC17 : w_CL (w_up S 49 fo k) := lhC_162 hC hc17 hfo.1 f17
      have hN17 : hLn 162 163 nm wk W (w_up S 49 fo k) := hLn_ag hN (fun j x hj => f17 j x (by omega) (by unfold wG; omega) (by unfold lahC lahA; omega))
      have hK17 : KC 176 186 182 203 204 163 162 T cs ms os (w_up S 49 fo k) := KC_ag hK (f17 162 2 (by omega) (by unfold wG; omega) (by unfold lahC lahA; omega)) (f17 162 4 (by omega) (by unfold wG; omega) (by unfold lahC lahA; omega)) (fun j hj => funext (fun x => f17 j x (by omega) (by unfold wG; omega) (by unfold lahC lahA; omega)))
      have hW17 : wd_at (w_up S 49 fo k) 163 64 := wda_a9 hWh (fun j x j0 j1 => f17 j x (by omega) (by unfold wG; omega) (by unfold lahC lahA; omega))
      refine wa_cv 158 rfl (wy_pr rfl) wt_158 (M2 := fun _ => False) rfl at_XL_wordBehind ⟨_, rfl⟩ rfl rfl ⟨(Or.inr ⟨wy_pr rfl, fun q => q⟩), (Or.inr ⟨wy_pr rfl, fun q => q⟩), trivial, trivial, trivial⟩ ⟨trivial, trivial, (Or.inr ⟨wy_pr rfl, fun q => q⟩), trivial⟩ (fun _ _ q => False.elim q) (wb51_162 (S := (w_up S 49 fo k)) hX hC17 (gI_up hI (by omega) (by omega) (by omega)) hN17.1.1 hN17.1.2 hN17.2.1 hN17.2.2.1.1 hN17.2.2.1.2 hN17.2.2.2.1.1 hN17.2.2.2.1.2.1 hN17.2.2.2.1.2.2 hN17.2.2.2.2.1.1 hN17.2.2.2.2.1.2 hN17.2.2.2.2.2.1) (fun oq17 Sq17 hp18 q17 => ?_)
      rcases q17 with ⟨fz17, gz17, rz17, wd, rfl, hv17⟩
      show wJ _ _ _ _ _ _ _ _ _ _
      have hvr17 := hwW_rg hv17
      have h7_17 : (w_up S 49 fo k) 163 7 ≤ 1024 := hN17.2.2.2.2.2.2
      refine wa_iconst ?_
      refine wa_aload_n (n := 0) rfl ?_
      refine wb_gfl 158 rfl (wy_pr rfl) wt_158 wf_5_13 (v := (esV tl)) (((fz17 158 13 (by omega)).trans ((w_up_slot (by decide)).trans (l13)))) (fun r19 => ?_)
      refine wa_iconst ?_
      have f20 : ∀ (j : Nat) (x : Int), j < 4000000 → j ≠ wG → ¬ lahC 162 209 210 fo j x → Sq17 j x = S j x := fun j x j0 j1 hj => (((fz17 j x (lah_c hj)).trans ((w_up_no (lah_n (j2 := 49) (x2 := fo) hj (⟨by omega, by omega, rfl⟩))))))
      have hc20 : cCh 162 210 209 163 T cs ms os CH wo mo Sq17 := cCh_ag hc (fun j x hj => ((fz17 j x (by omega)).trans (w_up_no (by omega))))
      have hC20 : w_CL Sq17 := lhC_162 hC hc20 hfo.1 f20
      have hN20 : hLn 162 163 nm wk W Sq17 := hLn_ag hN (fun j x hj => f20 j x (by omega) (by unfold wG; omega) (by unfold lahC lahA; omega))
      have hK20 : KC 176 186 182 203 204 163 162 T cs ms os Sq17 := KC_ag hK (f20 162 2 (by omega) (by unfold wG; omega) (by unfold lahC lahA; omega)) (f20 162 4 (by omega) (by unfold wG; omega) (by unfold lahC lahA; omega)) (fun j hj => funext (fun x => f20 j x (by omega) (by unfold wG; omega) (by unfold lahC lahA; omega)))
      have hW20 : wd_at Sq17 163 64 := wda_a9 hWh (fun j x j0 j1 => f20 j x (by omega) (by unfold wG; omega) (by unfold lahC lahA; omega))
      have hqk20 : qOk 163 cs Sq17 (k, am, 1, (wnW [115, 101, 116] W), tl) wd := ⟨hk, ⟨by show (0 : Int) ≤ am; omega, by show am ≤ (2 : Int); omega⟩, Or.inr rfl, ⟨htl, hes⟩, Or.inr ⟨by show am ≠ 2; omega, hwW_ag hv17 (fun j x j0 j1 => fz17 j x (by omega))⟩⟩
      have hwM20 : wdM 186 T ms Sq17 (if am = 2 then 2 else 1) wd (wnW [115, 101, 116] W) := by rw [if_neg (by omega)]; exact wdM_w hW20 hK20 (by rcases hqk20.2.2.2.2 with z | z; exact absurd z.1 (by show ¬ am = 2; omega); exact z.2) (by first | decide | omega)
      have hwr20 := qOk_rg hqk20 hc20.2.2.2.2.2.2
      have hch20 : ∀ K : List aKp, kpR 162 210 K Sq17 → wJ (pe_GA xs) wY0 (mS [209, 210, 211, 212, 213]) (d + 5) t_XO_choose ((pe_at t_XO_choose.bl 0).getD (0, [])).2 [(0, (2, 162)), (1, (0, k)), (2, (0, am)), (3, (0, wd)), (4, (0, 1)), (5, (1, esV tl)), (7, (0, (tl.length : Int)))] [] Sq17 (chQ 162 209 210 cs ms K (qKy (k, am, 1, (wnW [115, 101, 116] W), tl) wd) wd tl (FA T cs ms os k am 1 (wnW [115, 101, 116] W)) Sq17) := fun K hkp => cho_162 (pc := if (1 : Int) = 1 then 1 else -1) hC20 hK20 hw gz17 hc20.2.2.2.2.2.1 hkp (by rw [hc20.2.2.1]; exact hc20.2.2.2.1) (by rw [hc20.2.1]; exact hc20.2.2.2.2.1) hk ⟨by omega, by omega⟩ hwM20 ⟨by omega, by omega⟩ (Or.inr ⟨rfl, if_pos rfl⟩) htl hes hty rfl rfl
      obtain ⟨⟨K0, hK0, -⟩, -⟩ := id hc20
      have hcz20 : wJ (pe_GA xs) wY0 (mS [209, 210, 211, 212, 213]) (d + 5) t_XO_choose ((pe_at t_XO_choose.bl 0).getD (0, [])).2 [(0, (2, 162)), (1, (0, k)), (2, (0, am)), (3, (0, wd)), (4, (0, 1)), (5, (1, esV tl)), (7, (0, (tl.length : Int)))] [] Sq17 (fun o Z => o = .inl (some (0, rv)) ∧ cCh 162 210 209 163 T cs ms os (chN CH wo mo (k, am, 1, (wnW [115, 101, 116] W), tl) (FA T cs ms os k am 1 (wnW [115, 101, 116] W))).1 (chN CH wo mo (k, am, 1, (wnW [115, 101, 116] W), tl) (FA T cs ms os k am 1 (wnW [115, 101, 116] W))).2 mo Z ∧ chF 162 209 210 Sq17 Z ∧ gI Z ∧ rmR Sq17 Z) := by
        refine wJ_mono (chA_w (fun K hkp => hch20 K hkp) hc20) (fun o Z hz => ?_)
        rw [hrv]
        exact chA_e (q := (k, am, 1, (wnW [115, 101, 116] W), tl)) ⟨by decide, by decide, by decide, by decide⟩ hW20 hK20 hc20 hw hqk20 hz gz17 hwo
      rw [show (tl.length : Int) = 1 by omega] at hcz20
      refine wa_cv 162 rfl (wy_pr rfl) wt_162 (M2 := mS [209, 210, 211, 212, 213]) rfl at_XO_choose ⟨_, rfl⟩ rfl rfl ⟨(Or.inr ⟨wy_pr rfl, mS_no rfl⟩), (Or.inr ⟨wy_pr rfl, mS_no rfl⟩), trivial, trivial, trivial⟩ trivial (fun _ _ q => q) (hcz20) (fun oq20 Sq20 hp21 q20 => ?_)
      rcases q20 with ⟨rfl, hcq20, ff20, gg20, rr20⟩
      show wJ _ _ _ _ _ _ _ _ _ _
      refine wa_istore (n := 4) rfl ?_
      refine wa_goto ⟨_, rfl⟩ ?_
      refine wa_aload_n (n := 0) rfl ?_
      refine wb_gfi 158 rfl (wy_pr rfl) wt_158 wf_5_7 (v := 1) (((ff20 158 7 (by omega) (by unfold wG; omega) (by omega) (by omega) (by omega)).trans (((fz17 158 7 (by omega)).trans ((w_up_slot (by decide)).trans (l7)))))) (fun r22 => ?_)
      refine wa_ifeq (w_rg0 (by omega) (by omega)) ⟨_, rfl⟩ (fun c23 => ?_) (fun c23 => ?_)
      · skip
        exact absurd c23 (by omega)
      · skip
        refine wa_iload (n := 4) rfl ?_
        refine wa_iflt (w_rg0 (by omega) (by omega)) ⟨_, rfl⟩ (fun c24 => ?_) (fun c24 => ?_)
        · skip
          refine wa_iload (n := 4) rfl ?_
          refine wa_iconst ?_
          refine wa_icmpne (w_rg0 (by omega) (by omega)) (w_rg0 (by omega) (by omega)) ⟨_, rfl⟩ (fun c25 => ?_) (fun c25 => ?_)
          · skip
            refine wa_iload (n := 4) rfl ?_
            refine wa_ifge (w_rg0 (by omega) (by omega)) ⟨_, rfl⟩ (fun c26 => ?_) (fun c26 => ?_)
            · skip
              exact absurd c26 (by omega)
            · skip
              refine wa_aload_n (n := 0) rfl ?_
              refine wb_gf5 158 rfl (wy_pr rfl) wt_158 wf_5_4 (v := 215) (((ff20 158 4 (by omega) (by unfold wG; omega) (by omega) (by omega) (by omega)).trans (((fz17 158 4 (by omega)).trans ((w_up_slot (by decide)).trans (l4)))))) (fun r27 => ?_)
              refine wa_iload (n := 4) rfl ?_
              refine wa_iconst ?_
              refine wa_icmpne (w_rg0 (by omega) (by omega)) (w_rg0 (by omega) (by omega)) ⟨_, rfl⟩ (fun c28 => ?_) (fun c28 => ?_)
              · skip
                refine wa_iload (n := 4) rfl ?_
                refine wa_ineg ?_
                refine wa_fall ⟨_, rfl⟩ ?_
                refine wb_pfi 215 rfl (wy_pr rfl) wt_215 wf_8_16 (n := 16) rfl ⟨(by omega), (by omega)⟩ ?_
                refine wa_fall ⟨_, rfl⟩ ?_
                refine wa_aload_n (n := 0) rfl ?_
                refine wb_gf4 158 rfl (wy_pr rfl) wt_158 wf_5_3 (v := 47) wl_158_3 ?_
                refine wa_iconst ?_
                refine wb_aald5 47 3 rfl rfl (wy_pr rfl) wt_47 (by rw [show _ = _ from ((w_up_slot (by decide)).trans (((ff20 47 (-1) (by omega) (by unfold wG; omega) (by omega) (by omega) (by omega)).trans (((fz17 47 (-1) (by omega)).trans ((w_up_slot (by decide)).trans ((cl_47 hC))))))))]; omega) wl_47_3 ?_
                refine wa_aload_n (n := 0) rfl ?_
                refine wb_gfi 158 rfl (wy_pr rfl) wt_158 wf_5_14 (v := fo) ((w_up_slot (by decide)).trans (((ff20 158 14 (by omega) (by unfold wG; omega) (by omega) (by omega) (by omega)).trans (((fz17 158 14 (by omega)).trans ((w_up_slot (by decide)).trans (l14))))))) (fun r29 => ?_)
                refine wa_iload (n := 4) rfl ?_
                refine wb_iast 51 rfl (wy_pr rfl) wt_51 (n := (S 48 (-1))) ((w_up_slot (by decide)).trans (((ff20 51 (-1) (by omega) (by unfold wG; omega) (by omega) (by omega) (by omega)).trans (((fz17 51 (-1) (by omega)).trans ((w_up_slot (by decide)).trans ((hl.2.2.1 3 (by decide))))))))) (by omega) (by omega) ⟨(by omega), (by omega)⟩ ?_
                refine wa_return rfl ?_
                have fE : ∀ (j : Nat) (x : Int), j < 4000000 → j ≠ wG → ¬ lahM 162 209 210 215 fo j x → (w_up (w_up Sq20 215 16 (-rv)) 51 fo rv) j x = S j x := fun j x j0 j1 hj => ((w_up_no (lah_m (j2 := 51) (x2 := fo) hj (Or.inl ⟨by omega, by omega, rfl⟩))).trans ((w_up_no (lah_m (j2 := 215) (x2 := 16) hj (Or.inr ⟨rfl, rfl⟩))).trans (((ff20 j x j0 j1 (lah_f hj).1 (lah_f hj).2.1 (lah_f hj).2.2).trans ((((fz17 j x (lah_d hj)).trans ((w_up_no (lah_m (j2 := 49) (x2 := fo) hj (Or.inl ⟨by omega, by omega, rfl⟩)))))))))))
                have hcE := cCh_ag hcq20 (Z := (w_up (w_up Sq20 215 16 (-rv)) 51 fo rv)) (fun j x hj => ((w_up_no (by omega)).trans (w_up_no (by omega))))
                have hwh : (if (FA T cs ms os k am 1 (wnW [115, 101, 116] W)) = [] then fd else rv) = rv := by first | exact if_pos (hF0.mpr (by omega)) | exact if_neg (fun z => by have := hF0.mp z; omega)
                have hen : (if (FA T cs ms os k am 1 (wnW [115, 101, 116] W)) = [] then hoN l k (if (FA T cs ms os k am 1 (wnW [115, 101, 116] W)) = [] then fd else rv) 0 0 at0 else hoN l k (if (FA T cs ms os k am 1 (wnW [115, 101, 116] W)) = [] then fd else rv) 1 (esV tl) at0) = hoN l k rv 1 (esV tl) at0 := by rw [hwh]; exact if_neg (fun z => by have := hF0.mp z; omega)
                rw [hen, hwh]
                refine ⟨rfl, fun z => absurd z (by omega), fun _ => ?_, hcE, fE, (gI_up (gI_up gg20 (by omega) (by omega) (by omega)) (by omega) (by omega) (by omega)), (rmR_up (rmR_up (rmR_tr (rmR_tr (rmR_up hR (by omega) (by first | decide | omega)) rz17) rr20) (by omega) (by first | decide | omega)) (by omega) (by first | decide | omega))⟩
                refine (((w_up_slot (by first | decide | omega)).trans (w_up_same _ _ _ _)) : (w_up (w_up Sq20 215 16 (-rv)) 51 fo rv) 215 16 = (-rv)).trans ?_
                first | omega | (rw [if_pos (by omega)]) | (rw [if_neg (by omega)])
              · skip
                exact absurd c28 (by omega)
          · skip
            refine wa_aload_n (n := 0) rfl ?_
            refine wb_gfi 158 rfl (wy_pr rfl) wt_158 wf_5_7 (v := 1) (((ff20 158 7 (by omega) (by unfold wG; omega) (by omega) (by omega) (by omega)).trans (((fz17 158 7 (by omega)).trans ((w_up_slot (by decide)).trans (l7)))))) (fun r30 => ?_)
            refine wa_ifeq (w_rg0 (by omega) (by omega)) ⟨_, rfl⟩ (fun c31 => ?_) (fun c31 => ?_)
            · skip
              exact absurd c31 (by omega)
            · skip
              refine wa_aload_n (n := 0) rfl ?_
              refine wb_gfi 158 rfl (wy_pr rfl) wt_158 wf_5_7 (v := 1) (((ff20 158 7 (by omega) (by unfold wG; omega) (by omega) (by omega) (by omega)).trans (((fz17 158 7 (by omega)).trans ((w_up_slot (by decide)).trans (l7)))))) (fun r32 => ?_)
              refine wa_iconst ?_
              refine wa_icmpne (w_rg0 (by omega) (by omega)) (w_rg0 (by omega) (by omega)) ⟨_, rfl⟩ (fun c33 => ?_) (fun c33 => ?_)
              · skip
                exact absurd c33 (by omega)
              · skip
                refine wa_fall ⟨_, rfl⟩ ?_
                refine wa_aload_n (n := 0) rfl ?_
                refine wa_iload_n (n := 1) rfl ?_
                refine wa_iload_n (n := 2) rfl ?_
                have f34 : ∀ (j : Nat) (x : Int), j < 4000000 → j ≠ wG → ¬ lahC 162 209 210 fo j x → Sq20 j x = S j x := fun j x j0 j1 hj => (((ff20 j x j0 j1 (lah_e hj).1 (lah_e hj).2.1 (lah_e hj).2.2).trans ((((fz17 j x (lah_c hj)).trans ((w_up_no (lah_n (j2 := 49) (x2 := fo) hj (⟨by omega, by omega, rfl⟩)))))))))
                have hc34 := cCh_ag hcq20 (Z := Sq20) (fun j x hj => rfl)
                have hC34 : w_CL Sq20 := lhC_162 hC hc34 hfo.1 f34
                have hN34 : hLn 162 163 nm wk W Sq20 := hLn_ag hN (fun j x hj => f34 j x (by omega) (by unfold wG; omega) (by unfold lahC lahA; omega))
                have hK34 : KC 176 186 182 203 204 163 162 T cs ms os Sq20 := KC_ag hK (f34 162 2 (by omega) (by unfold wG; omega) (by unfold lahC lahA; omega)) (f34 162 4 (by omega) (by unfold wG; omega) (by unfold lahC lahA; omega)) (fun j hj => funext (fun x => f34 j x (by omega) (by unfold wG; omega) (by unfold lahC lahA; omega)))
                have hW34 : wd_at Sq20 163 64 := wda_a9 hWh (fun j x j0 j1 => f34 j x (by omega) (by unfold wG; omega) (by unfold lahC lahA; omega))
                refine wa_cv 158 rfl (wy_pr rfl) wt_158 (M2 := fun _ => False) rfl at_XL_fieldOf ⟨_, rfl⟩ rfl rfl ⟨trivial, (Or.inr ⟨wy_pr rfl, fun q => q⟩), (Or.inr ⟨wy_pr rfl, fun q => q⟩), trivial, trivial, trivial⟩ trivial (fun _ _ q => False.elim q) (wJ_mono (fof_162 (S := Sq20) (k := k) (st := am) (d := d) hC34 hK34 hw hX gg20 hN34 hk ham) (fun o Z hz => (⟨hz.1, hz.2.1, hz.2.2.1, by rw [hfd]; exact hz.2.2.2⟩ : sc_ag 159 Sq20 Z ∧ gI Z ∧ rmR Sq20 Z ∧ o = .inl (some (0, fd))))) (fun oq34 Sq34 hp35 q34 => ?_)
                rcases q34 with ⟨fz34, gz34, rz34, rfl⟩
                show wJ _ _ _ _ _ _ _ _ _ _
                refine wa_istore (n := 4) rfl ?_
                refine wa_fall ⟨_, rfl⟩ ?_
                refine wa_iload (n := 4) rfl ?_
                refine wa_ifge (w_rg0 (by omega) (by omega)) ⟨_, rfl⟩ (fun c36 => ?_) (fun c36 => ?_)
                · skip
                  refine wa_aload_n (n := 0) rfl ?_
                  refine wb_gf4 158 rfl (wy_pr rfl) wt_158 wf_5_3 (v := 47) wl_158_3 ?_
                  refine wa_iconst ?_
                  refine wb_aald5 47 3 rfl rfl (wy_pr rfl) wt_47 (by rw [show _ = _ from (((fz34 47 (-1) (by omega)).trans (((ff20 47 (-1) (by omega) (by unfold wG; omega) (by omega) (by omega) (by omega)).trans (((fz17 47 (-1) (by omega)).trans ((w_up_slot (by decide)).trans ((cl_47 hC)))))))))]; omega) wl_47_3 ?_
                  refine wa_aload_n (n := 0) rfl ?_
                  refine wb_gfi 158 rfl (wy_pr rfl) wt_158 wf_5_14 (v := fo) (((fz34 158 14 (by omega)).trans (((ff20 158 14 (by omega) (by unfold wG; omega) (by omega) (by omega) (by omega)).trans (((fz17 158 14 (by omega)).trans ((w_up_slot (by decide)).trans (l14)))))))) (fun r37 => ?_)
                  refine wa_iload (n := 4) rfl ?_
                  refine wb_iast 51 rfl (wy_pr rfl) wt_51 (n := (S 48 (-1))) (((fz34 51 (-1) (by omega)).trans (((ff20 51 (-1) (by omega) (by unfold wG; omega) (by omega) (by omega) (by omega)).trans (((fz17 51 (-1) (by omega)).trans ((w_up_slot (by decide)).trans ((hl.2.2.1 3 (by decide)))))))))) (by omega) (by omega) ⟨(by omega), (by omega)⟩ ?_
                  refine wa_return rfl ?_
                  have fE : ∀ (j : Nat) (x : Int), j < 4000000 → j ≠ wG → ¬ lahM 162 209 210 215 fo j x → (w_up Sq34 51 fo fd) j x = S j x := fun j x j0 j1 hj => ((w_up_no (lah_m (j2 := 51) (x2 := fo) hj (Or.inl ⟨by omega, by omega, rfl⟩))).trans (((fz34 j x (lah_d hj)).trans ((((ff20 j x j0 j1 (lah_f hj).1 (lah_f hj).2.1 (lah_f hj).2.2).trans ((((fz17 j x (lah_d hj)).trans ((w_up_no (lah_m (j2 := 49) (x2 := fo) hj (Or.inl ⟨by omega, by omega, rfl⟩)))))))))))))
                  have hcE := cCh_ag hcq20 (Z := (w_up Sq34 51 fo fd)) (fun j x hj => ((w_up_no (by omega)).trans (fz34 j x (by omega))))
                  have hwh : (if (FA T cs ms os k am 1 (wnW [115, 101, 116] W)) = [] then fd else rv) = fd := by first | exact if_pos (hF0.mpr (by omega)) | exact if_neg (fun z => by have := hF0.mp z; omega)
                  have hen : (if (FA T cs ms os k am 1 (wnW [115, 101, 116] W)) = [] then hoN l k (if (FA T cs ms os k am 1 (wnW [115, 101, 116] W)) = [] then fd else rv) 0 0 at0 else hoN l k (if (FA T cs ms os k am 1 (wnW [115, 101, 116] W)) = [] then fd else rv) 1 (esV tl) at0) = hoN l k fd 0 0 at0 := by rw [hwh]; exact if_pos (hF0.mpr (by omega))
                  rw [hen, hwh]
                  refine ⟨rfl, fun _ => ⟨?_, ((w_up_slot (by first | decide | omega)).trans (((fz34 215 16 (by omega)).trans (((ff20 215 16 (by omega) (by unfold wG; omega) (by omega) (by omega) (by omega)).trans (((fz17 215 16 (by omega)).trans (w_up_slot (by first | decide | omega)))))))))⟩, fun z => absurd z (by omega), hcE, fE, (gI_up gz34 (by omega) (by omega) (by omega)), (rmR_up (rmR_tr (rmR_tr (rmR_tr (rmR_up hR (by omega) (by first | decide | omega)) rz17) rr20) rz34) (by omega) (by first | decide | omega))⟩
                  refine ⟨⟨(((w_up_slot (by first | decide | omega)).trans (((fz34 48 fo (by omega)).trans (((ff20 48 fo (by omega) (by unfold wG; omega) (by omega) (by omega) (by omega)).trans (((fz17 48 fo (by omega)).trans (w_up_slot (by first | decide | omega))))))))) : (w_up Sq34 51 fo fd) 48 fo = (S 48 fo)).trans b1, (((w_up_slot (by first | decide | omega)).trans (((fz34 49 fo (by omega)).trans (((ff20 49 fo (by omega) (by unfold wG; omega) (by omega) (by omega) (by omega)).trans (((fz17 49 fo (by omega)).trans (w_up_same _ _ _ _)))))))) : (w_up Sq34 51 fo fd) 49 fo = k), (((w_up_slot (by first | decide | omega)).trans (((fz34 50 fo (by omega)).trans (((ff20 50 fo (by omega) (by unfold wG; omega) (by omega) (by omega) (by omega)).trans (((fz17 50 fo (by omega)).trans (w_up_slot (by first | decide | omega))))))))) : (w_up Sq34 51 fo fd) 50 fo = (S 50 fo)).trans b3, ((w_up_same _ _ _ _) : (w_up Sq34 51 fo fd) 51 fo = fd), (((w_up_slot (by first | decide | omega)).trans (((fz34 52 fo (by omega)).trans (((ff20 52 fo (by omega) (by unfold wG; omega) (by omega) (by omega) (by omega)).trans (((fz17 52 fo (by omega)).trans (w_up_slot (by first | decide | omega))))))))) : (w_up Sq34 51 fo fd) 52 fo = (S 52 fo)).trans b5⟩, ((((w_up_slot (by first | decide | omega)).trans (((fz34 53 fo (by omega)).trans (((ff20 53 fo (by omega) (by unfold wG; omega) (by omega) (by omega) (by omega)).trans (((fz17 53 fo (by omega)).trans (w_up_slot (by first | decide | omega))))))))) : (w_up Sq34 51 fo fd) 53 fo = (S 53 fo)).trans b6).trans (if_neg (fun z => by have z1 := z.1; simp only [hoN] at z1; omega)).symm, ((((w_up_slot (by first | decide | omega)).trans (((fz34 54 fo (by omega)).trans (((ff20 54 fo (by omega) (by unfold wG; omega) (by omega) (by omega) (by omega)).trans (((fz17 54 fo (by omega)).trans (w_up_slot (by first | decide | omega))))))))) : (w_up Sq34 51 fo fd) 54 fo = (S 54 fo)).trans b7).trans (if_neg (fun z => by have z1 := z.1; simp only [hoN] at z1; omega)).symm, ?_, ?_⟩
                  · exact ((((w_up_slot (by first | decide | omega)).trans (((fz34 55 fo (by omega)).trans (((ff20 55 fo (by omega) (by unfold wG; omega) (by omega) (by omega) (by omega)).trans (((fz17 55 fo (by omega)).trans (w_up_slot (by first | decide | omega))))))))) : (w_up Sq34 51 fo fd) 55 fo = (S 55 fo)).trans b8).trans (if_neg (fun z => by rcases z.2 with y | y | y; exact absurd y (by first | decide | omega); exact absurd y (by first | decide | omega); exact absurd y.2 (by simp only [hoN]; decide))).symm
                  · exact ((((w_up_slot (by first | decide | omega)).trans (((fz34 56 fo (by omega)).trans (((ff20 56 fo (by omega) (by unfold wG; omega) (by omega) (by omega) (by omega)).trans (((fz17 56 fo (by omega)).trans (w_up_slot (by first | decide | omega))))))))) : (w_up Sq34 51 fo fd) 56 fo = (S 56 fo)).trans b9).trans (if_neg (fun z => by rcases z.2 with y | y | y; exact absurd y (by first | decide | omega); exact absurd y (by first | decide | omega); exact absurd y.2 (by simp only [hoN]; decide))).symm
                · skip
                  refine wa_aload_n (n := 0) rfl ?_
                  refine wb_gf5 158 rfl (wy_pr rfl) wt_158 wf_5_4 (v := 215) (((fz34 158 4 (by omega)).trans (((ff20 158 4 (by omega) (by unfold wG; omega) (by omega) (by omega) (by omega)).trans (((fz17 158 4 (by omega)).trans ((w_up_slot (by decide)).trans (l4)))))))) (fun r38 => ?_)
                  refine wa_iload (n := 4) rfl ?_
                  refine wa_iconst ?_
                  refine wa_icmpne (w_rg0 (by omega) (by omega)) (w_rg0 (by omega) (by omega)) ⟨_, rfl⟩ (fun c39 => ?_) (fun c39 => ?_)
                  · skip
                    refine wa_iload (n := 4) rfl ?_
                    refine wa_ineg ?_
                    refine wa_fall ⟨_, rfl⟩ ?_
                    refine wb_pfi 215 rfl (wy_pr rfl) wt_215 wf_8_16 (n := 16) rfl ⟨(by omega), (by omega)⟩ ?_
                    refine wa_fall ⟨_, rfl⟩ ?_
                    refine wa_aload_n (n := 0) rfl ?_
                    refine wb_gf4 158 rfl (wy_pr rfl) wt_158 wf_5_3 (v := 47) wl_158_3 ?_
                    refine wa_iconst ?_
                    refine wb_aald5 47 3 rfl rfl (wy_pr rfl) wt_47 (by rw [show _ = _ from ((w_up_slot (by decide)).trans (((fz34 47 (-1) (by omega)).trans (((ff20 47 (-1) (by omega) (by unfold wG; omega) (by omega) (by omega) (by omega)).trans (((fz17 47 (-1) (by omega)).trans ((w_up_slot (by decide)).trans ((cl_47 hC))))))))))]; omega) wl_47_3 ?_
                    refine wa_aload_n (n := 0) rfl ?_
                    refine wb_gfi 158 rfl (wy_pr rfl) wt_158 wf_5_14 (v := fo) ((w_up_slot (by decide)).trans (((fz34 158 14 (by omega)).trans (((ff20 158 14 (by omega) (by unfold wG; omega) (by omega) (by omega) (by omega)).trans (((fz17 158 14 (by omega)).trans ((w_up_slot (by decide)).trans (l14))))))))) (fun r40 => ?_)
                    refine wa_iload (n := 4) rfl ?_
                    refine wb_iast 51 rfl (wy_pr rfl) wt_51 (n := (S 48 (-1))) ((w_up_slot (by decide)).trans (((fz34 51 (-1) (by omega)).trans (((ff20 51 (-1) (by omega) (by unfold wG; omega) (by omega) (by omega) (by omega)).trans (((fz17 51 (-1) (by omega)).trans ((w_up_slot (by decide)).trans ((hl.2.2.1 3 (by decide))))))))))) (by omega) (by omega) ⟨(by omega), (by omega)⟩ ?_
                    refine wa_return rfl ?_
                    have fE : ∀ (j : Nat) (x : Int), j < 4000000 → j ≠ wG → ¬ lahM 162 209 210 215 fo j x → (w_up (w_up Sq34 215 16 (-fd)) 51 fo fd) j x = S j x := fun j x j0 j1 hj => ((w_up_no (lah_m (j2 := 51) (x2 := fo) hj (Or.inl ⟨by omega, by omega, rfl⟩))).trans ((w_up_no (lah_m (j2 := 215) (x2 := 16) hj (Or.inr ⟨rfl, rfl⟩))).trans (((fz34 j x (lah_d hj)).trans ((((ff20 j x j0 j1 (lah_f hj).1 (lah_f hj).2.1 (lah_f hj).2.2).trans ((((fz17 j x (lah_d hj)).trans ((w_up_no (lah_m (j2 := 49) (x2 := fo) hj (Or.inl ⟨by omega, by omega, rfl⟩))))))))))))))
                    have hcE := cCh_ag hcq20 (Z := (w_up (w_up Sq34 215 16 (-fd)) 51 fo fd)) (fun j x hj => ((w_up_no (by omega)).trans ((w_up_no (by omega)).trans (fz34 j x (by omega)))))
                    have hwh : (if (FA T cs ms os k am 1 (wnW [115, 101, 116] W)) = [] then fd else rv) = fd := by first | exact if_pos (hF0.mpr (by omega)) | exact if_neg (fun z => by have := hF0.mp z; omega)
                    have hen : (if (FA T cs ms os k am 1 (wnW [115, 101, 116] W)) = [] then hoN l k (if (FA T cs ms os k am 1 (wnW [115, 101, 116] W)) = [] then fd else rv) 0 0 at0 else hoN l k (if (FA T cs ms os k am 1 (wnW [115, 101, 116] W)) = [] then fd else rv) 1 (esV tl) at0) = hoN l k fd 0 0 at0 := by rw [hwh]; exact if_pos (hF0.mpr (by omega))
                    rw [hen, hwh]
                    refine ⟨rfl, fun z => absurd z (by omega), fun _ => ?_, hcE, fE, (gI_up (gI_up gz34 (by omega) (by omega) (by omega)) (by omega) (by omega) (by omega)), (rmR_up (rmR_up (rmR_tr (rmR_tr (rmR_tr (rmR_up hR (by omega) (by first | decide | omega)) rz17) rr20) rz34) (by omega) (by first | decide | omega)) (by omega) (by first | decide | omega))⟩
                    refine (((w_up_slot (by first | decide | omega)).trans (w_up_same _ _ _ _)) : (w_up (w_up Sq34 215 16 (-fd)) 51 fo fd) 215 16 = (-fd)).trans ?_
                    first | omega | (rw [if_pos (by omega)]) | (rw [if_neg (by omega)])
                  · skip
                    refine wa_iconst ?_
                    refine wa_goto ⟨_, rfl⟩ ?_
                    refine wb_pfi 215 rfl (wy_pr rfl) wt_215 wf_8_16 (n := 16) rfl ⟨(by omega), (by omega)⟩ ?_
                    refine wa_fall ⟨_, rfl⟩ ?_
                    refine wa_aload_n (n := 0) rfl ?_
                    refine wb_gf4 158 rfl (wy_pr rfl) wt_158 wf_5_3 (v := 47) wl_158_3 ?_
                    refine wa_iconst ?_
                    refine wb_aald5 47 3 rfl rfl (wy_pr rfl) wt_47 (by rw [show _ = _ from ((w_up_slot (by decide)).trans (((fz34 47 (-1) (by omega)).trans (((ff20 47 (-1) (by omega) (by unfold wG; omega) (by omega) (by omega) (by omega)).trans (((fz17 47 (-1) (by omega)).trans ((w_up_slot (by decide)).trans ((cl_47 hC))))))))))]; omega) wl_47_3 ?_
                    refine wa_aload_n (n := 0) rfl ?_
                    refine wb_gfi 158 rfl (wy_pr rfl) wt_158 wf_5_14 (v := fo) ((w_up_slot (by decide)).trans (((fz34 158 14 (by omega)).trans (((ff20 158 14 (by omega) (by unfold wG; omega) (by omega) (by omega) (by omega)).trans (((fz17 158 14 (by omega)).trans ((w_up_slot (by decide)).trans (l14))))))))) (fun r41 => ?_)
                    refine wa_iload (n := 4) rfl ?_
                    refine wb_iast 51 rfl (wy_pr rfl) wt_51 (n := (S 48 (-1))) ((w_up_slot (by decide)).trans (((fz34 51 (-1) (by omega)).trans (((ff20 51 (-1) (by omega) (by unfold wG; omega) (by omega) (by omega) (by omega)).trans (((fz17 51 (-1) (by omega)).trans ((w_up_slot (by decide)).trans ((hl.2.2.1 3 (by decide))))))))))) (by omega) (by omega) ⟨(by omega), (by omega)⟩ ?_
                    refine wa_return rfl ?_
                    have fE : ∀ (j : Nat) (x : Int), j < 4000000 → j ≠ wG → ¬ lahM 162 209 210 215 fo j x → (w_up (w_up Sq34 215 16 4) 51 fo fd) j x = S j x := fun j x j0 j1 hj => ((w_up_no (lah_m (j2 := 51) (x2 := fo) hj (Or.inl ⟨by omega, by omega, rfl⟩))).trans ((w_up_no (lah_m (j2 := 215) (x2 := 16) hj (Or.inr ⟨rfl, rfl⟩))).trans (((fz34 j x (lah_d hj)).trans ((((ff20 j x j0 j1 (lah_f hj).1 (lah_f hj).2.1 (lah_f hj).2.2).trans ((((fz17 j x (lah_d hj)).trans ((w_up_no (lah_m (j2 := 49) (x2 := fo) hj (Or.inl ⟨by omega, by omega, rfl⟩))))))))))))))
                    have hcE := cCh_ag hcq20 (Z := (w_up (w_up Sq34 215 16 4) 51 fo fd)) (fun j x hj => ((w_up_no (by omega)).trans ((w_up_no (by omega)).trans (fz34 j x (by omega)))))
                    have hwh : (if (FA T cs ms os k am 1 (wnW [115, 101, 116] W)) = [] then fd else rv) = fd := by first | exact if_pos (hF0.mpr (by omega)) | exact if_neg (fun z => by have := hF0.mp z; omega)
                    have hen : (if (FA T cs ms os k am 1 (wnW [115, 101, 116] W)) = [] then hoN l k (if (FA T cs ms os k am 1 (wnW [115, 101, 116] W)) = [] then fd else rv) 0 0 at0 else hoN l k (if (FA T cs ms os k am 1 (wnW [115, 101, 116] W)) = [] then fd else rv) 1 (esV tl) at0) = hoN l k fd 0 0 at0 := by rw [hwh]; exact if_pos (hF0.mpr (by omega))
                    rw [hen, hwh]
                    refine ⟨rfl, fun z => absurd z (by omega), fun _ => ?_, hcE, fE, (gI_up (gI_up gz34 (by omega) (by omega) (by omega)) (by omega) (by omega) (by omega)), (rmR_up (rmR_up (rmR_tr (rmR_tr (rmR_tr (rmR_up hR (by omega) (by first | decide | omega)) rz17) rr20) rz34) (by omega) (by first | decide | omega)) (by omega) (by first | decide | omega))⟩
                    refine (((w_up_slot (by first | decide | omega)).trans (w_up_same _ _ _ _)) : (w_up (w_up Sq34 215 16 4) 51 fo fd) 215 16 = 4).trans ?_
                    first | omega | (rw [if_pos (by omega)]) | (rw [if_neg (by omega)])
        · skip
          refine wa_aload_n (n := 0) rfl ?_
          refine wb_gf4 158 rfl (wy_pr rfl) wt_158 wf_5_3 (v := 47) wl_158_3 ?_
          refine wa_bipush (w_rg2 (by omega) (by omega)) ?_
          refine wb_aald5 47 7 rfl rfl (wy_pr rfl) wt_47 (by rw [show _ = _ from (((ff20 47 (-1) (by omega) (by unfold wG; omega) (by omega) (by omega) (by omega)).trans (((fz17 47 (-1) (by omega)).trans ((w_up_slot (by decide)).trans ((cl_47 hC)))))))]; omega) wl_47_7 ?_
          refine wa_aload_n (n := 0) rfl ?_
          refine wb_gfi 158 rfl (wy_pr rfl) wt_158 wf_5_14 (v := fo) (((ff20 158 14 (by omega) (by unfold wG; omega) (by omega) (by omega) (by omega)).trans (((fz17 158 14 (by omega)).trans ((w_up_slot (by decide)).trans (l14)))))) (fun r42 => ?_)
          refine wa_aload_n (n := 0) rfl ?_
          refine wb_gfl 158 rfl (wy_pr rfl) wt_158 wf_5_13 (v := (esV tl)) (((ff20 158 13 (by omega) (by unfold wG; omega) (by omega) (by omega) (by omega)).trans (((fz17 158 13 (by omega)).trans ((w_up_slot (by decide)).trans (l13)))))) (fun r43 => ?_)
          refine wa_l2i ?_
          refine wb_iast 55 rfl (wy_pr rfl) wt_55 (n := (S 48 (-1))) (((ff20 55 (-1) (by omega) (by unfold wG; omega) (by omega) (by omega) (by omega)).trans (((fz17 55 (-1) (by omega)).trans ((w_up_slot (by decide)).trans ((hl.2.2.1 7 (by decide)))))))) (by omega) (by omega) ⟨(by omega), (by omega)⟩ ?_
          refine wa_aload_n (n := 0) rfl ?_
          refine wb_gf4 158 rfl (wy_pr rfl) wt_158 wf_5_3 (v := 47) wl_158_3 ?_
          refine wa_bipush (w_rg2 (by omega) (by omega)) ?_
          refine wb_aald5 47 8 rfl rfl (wy_pr rfl) wt_47 (by rw [show _ = _ from ((w_up_slot (by decide)).trans (((ff20 47 (-1) (by omega) (by unfold wG; omega) (by omega) (by omega) (by omega)).trans (((fz17 47 (-1) (by omega)).trans ((w_up_slot (by decide)).trans ((cl_47 hC))))))))]; omega) wl_47_8 ?_
          refine wa_aload_n (n := 0) rfl ?_
          refine wb_gfi 158 rfl (wy_pr rfl) wt_158 wf_5_14 (v := fo) ((w_up_slot (by decide)).trans (((ff20 158 14 (by omega) (by unfold wG; omega) (by omega) (by omega) (by omega)).trans (((fz17 158 14 (by omega)).trans ((w_up_slot (by decide)).trans (l14))))))) (fun r44 => ?_)
          refine wa_aload_n (n := 0) rfl ?_
          refine wb_gfl 158 rfl (wy_pr rfl) wt_158 wf_5_13 (v := (esV tl)) ((w_up_slot (by decide)).trans (((ff20 158 13 (by omega) (by unfold wG; omega) (by omega) (by omega) (by omega)).trans (((fz17 158 13 (by omega)).trans ((w_up_slot (by decide)).trans (l13))))))) (fun r45 => ?_)
          refine wa_bipush (w_rg2 (by omega) (by omega)) ?_
          refine wa_lushr ?_
          refine wa_l2i ?_
          refine wb_iast 56 rfl (wy_pr rfl) wt_56 (n := (S 48 (-1))) ((w_up_slot (by decide)).trans (((ff20 56 (-1) (by omega) (by unfold wG; omega) (by omega) (by omega) (by omega)).trans (((fz17 56 (-1) (by omega)).trans ((w_up_slot (by decide)).trans ((hl.2.2.1 8 (by decide))))))))) (by omega) (by omega) ⟨(by omega), (by omega)⟩ ?_
          refine wa_fall ⟨_, rfl⟩ ?_
          refine wa_iload (n := 4) rfl ?_
          refine wa_iconst ?_
          refine wa_icmpne (w_rg0 (by omega) (by omega)) (w_rg0 (by omega) (by omega)) ⟨_, rfl⟩ (fun c46 => ?_) (fun c46 => ?_)
          · skip
            refine wa_iload (n := 4) rfl ?_
            refine wa_ifge (w_rg0 (by omega) (by omega)) ⟨_, rfl⟩ (fun c47 => ?_) (fun c47 => ?_)
            · skip
              refine wa_aload_n (n := 0) rfl ?_
              refine wb_gf4 158 rfl (wy_pr rfl) wt_158 wf_5_3 (v := 47) wl_158_3 ?_
              refine wa_iconst ?_
              refine wb_aald5 47 3 rfl rfl (wy_pr rfl) wt_47 (by rw [show _ = _ from ((w_up_slot (by decide)).trans ((w_up_slot (by decide)).trans (((ff20 47 (-1) (by omega) (by unfold wG; omega) (by omega) (by omega) (by omega)).trans (((fz17 47 (-1) (by omega)).trans ((w_up_slot (by decide)).trans ((cl_47 hC)))))))))]; omega) wl_47_3 ?_
              refine wa_aload_n (n := 0) rfl ?_
              refine wb_gfi 158 rfl (wy_pr rfl) wt_158 wf_5_14 (v := fo) ((w_up_slot (by decide)).trans ((w_up_slot (by decide)).trans (((ff20 158 14 (by omega) (by unfold wG; omega) (by omega) (by omega) (by omega)).trans (((fz17 158 14 (by omega)).trans ((w_up_slot (by decide)).trans (l14)))))))) (fun r48 => ?_)
              refine wa_iload (n := 4) rfl ?_
              refine wb_iast 51 rfl (wy_pr rfl) wt_51 (n := (S 48 (-1))) ((w_up_slot (by decide)).trans ((w_up_slot (by decide)).trans (((ff20 51 (-1) (by omega) (by unfold wG; omega) (by omega) (by omega) (by omega)).trans (((fz17 51 (-1) (by omega)).trans ((w_up_slot (by decide)).trans ((hl.2.2.1 3 (by decide)))))))))) (by omega) (by omega) ⟨(by omega), (by omega)⟩ ?_
              refine wa_return rfl ?_
              have fE : ∀ (j : Nat) (x : Int), j < 4000000 → j ≠ wG → ¬ lahM 162 209 210 215 fo j x → (w_up (w_up (w_up Sq20 55 fo (wb_l2i (esV tl))) 56 fo (wb_l2i (wb_lushr (esV tl) 32))) 51 fo rv) j x = S j x := fun j x j0 j1 hj => ((w_up_no (lah_m (j2 := 51) (x2 := fo) hj (Or.inl ⟨by omega, by omega, rfl⟩))).trans ((w_up_no (lah_m (j2 := 56) (x2 := fo) hj (Or.inl ⟨by omega, by omega, rfl⟩))).trans ((w_up_no (lah_m (j2 := 55) (x2 := fo) hj (Or.inl ⟨by omega, by omega, rfl⟩))).trans (((ff20 j x j0 j1 (lah_f hj).1 (lah_f hj).2.1 (lah_f hj).2.2).trans ((((fz17 j x (lah_d hj)).trans ((w_up_no (lah_m (j2 := 49) (x2 := fo) hj (Or.inl ⟨by omega, by omega, rfl⟩))))))))))))
              have hcE := cCh_ag hcq20 (Z := (w_up (w_up (w_up Sq20 55 fo (wb_l2i (esV tl))) 56 fo (wb_l2i (wb_lushr (esV tl) 32))) 51 fo rv)) (fun j x hj => ((w_up_no (by omega)).trans ((w_up_no (by omega)).trans (w_up_no (by omega)))))
              have hwh : (if (FA T cs ms os k am 1 (wnW [115, 101, 116] W)) = [] then fd else rv) = rv := by first | exact if_pos (hF0.mpr (by omega)) | exact if_neg (fun z => by have := hF0.mp z; omega)
              have hen : (if (FA T cs ms os k am 1 (wnW [115, 101, 116] W)) = [] then hoN l k (if (FA T cs ms os k am 1 (wnW [115, 101, 116] W)) = [] then fd else rv) 0 0 at0 else hoN l k (if (FA T cs ms os k am 1 (wnW [115, 101, 116] W)) = [] then fd else rv) 1 (esV tl) at0) = hoN l k rv 1 (esV tl) at0 := by rw [hwh]; exact if_neg (fun z => by have := hF0.mp z; omega)
              rw [hen, hwh]
              refine ⟨rfl, fun _ => ⟨?_, ((w_up_slot (by first | decide | omega)).trans ((w_up_slot (by first | decide | omega)).trans ((w_up_slot (by first | decide | omega)).trans (((ff20 215 16 (by omega) (by unfold wG; omega) (by omega) (by omega) (by omega)).trans (((fz17 215 16 (by omega)).trans (w_up_slot (by first | decide | omega)))))))))⟩, fun z => absurd z (by omega), hcE, fE, (gI_up (gI_up (gI_up gg20 (by omega) (by omega) (by omega)) (by omega) (by omega) (by omega)) (by omega) (by omega) (by omega)), (rmR_up (rmR_up (rmR_up (rmR_tr (rmR_tr (rmR_up hR (by omega) (by first | decide | omega)) rz17) rr20) (by omega) (by first | decide | omega)) (by omega) (by first | decide | omega)) (by omega) (by first | decide | omega))⟩
              refine ⟨⟨(((w_up_slot (by first | decide | omega)).trans ((w_up_slot (by first | decide | omega)).trans ((w_up_slot (by first | decide | omega)).trans (((ff20 48 fo (by omega) (by unfold wG; omega) (by omega) (by omega) (by omega)).trans (((fz17 48 fo (by omega)).trans (w_up_slot (by first | decide | omega))))))))) : (w_up (w_up (w_up Sq20 55 fo (wb_l2i (esV tl))) 56 fo (wb_l2i (wb_lushr (esV tl) 32))) 51 fo rv) 48 fo = (S 48 fo)).trans b1, (((w_up_slot (by first | decide | omega)).trans ((w_up_slot (by first | decide | omega)).trans ((w_up_slot (by first | decide | omega)).trans (((ff20 49 fo (by omega) (by unfold wG; omega) (by omega) (by omega) (by omega)).trans (((fz17 49 fo (by omega)).trans (w_up_same _ _ _ _)))))))) : (w_up (w_up (w_up Sq20 55 fo (wb_l2i (esV tl))) 56 fo (wb_l2i (wb_lushr (esV tl) 32))) 51 fo rv) 49 fo = k), (((w_up_slot (by first | decide | omega)).trans ((w_up_slot (by first | decide | omega)).trans ((w_up_slot (by first | decide | omega)).trans (((ff20 50 fo (by omega) (by unfold wG; omega) (by omega) (by omega) (by omega)).trans (((fz17 50 fo (by omega)).trans (w_up_slot (by first | decide | omega))))))))) : (w_up (w_up (w_up Sq20 55 fo (wb_l2i (esV tl))) 56 fo (wb_l2i (wb_lushr (esV tl) 32))) 51 fo rv) 50 fo = (S 50 fo)).trans b3, ((w_up_same _ _ _ _) : (w_up (w_up (w_up Sq20 55 fo (wb_l2i (esV tl))) 56 fo (wb_l2i (wb_lushr (esV tl) 32))) 51 fo rv) 51 fo = rv), (((w_up_slot (by first | decide | omega)).trans ((w_up_slot (by first | decide | omega)).trans ((w_up_slot (by first | decide | omega)).trans (((ff20 52 fo (by omega) (by unfold wG; omega) (by omega) (by omega) (by omega)).trans (((fz17 52 fo (by omega)).trans (w_up_slot (by first | decide | omega))))))))) : (w_up (w_up (w_up Sq20 55 fo (wb_l2i (esV tl))) 56 fo (wb_l2i (wb_lushr (esV tl) 32))) 51 fo rv) 52 fo = (S 52 fo)).trans b5⟩, ((((w_up_slot (by first | decide | omega)).trans ((w_up_slot (by first | decide | omega)).trans ((w_up_slot (by first | decide | omega)).trans (((ff20 53 fo (by omega) (by unfold wG; omega) (by omega) (by omega) (by omega)).trans (((fz17 53 fo (by omega)).trans (w_up_slot (by first | decide | omega))))))))) : (w_up (w_up (w_up Sq20 55 fo (wb_l2i (esV tl))) 56 fo (wb_l2i (wb_lushr (esV tl) 32))) 51 fo rv) 53 fo = (S 53 fo)).trans b6).trans (if_neg (fun z => by have z1 := z.1; simp only [hoN] at z1; omega)).symm, ((((w_up_slot (by first | decide | omega)).trans ((w_up_slot (by first | decide | omega)).trans ((w_up_slot (by first | decide | omega)).trans (((ff20 54 fo (by omega) (by unfold wG; omega) (by omega) (by omega) (by omega)).trans (((fz17 54 fo (by omega)).trans (w_up_slot (by first | decide | omega))))))))) : (w_up (w_up (w_up Sq20 55 fo (wb_l2i (esV tl))) 56 fo (wb_l2i (wb_lushr (esV tl) 32))) 51 fo rv) 54 fo = (S 54 fo)).trans b7).trans (if_neg (fun z => by have z1 := z.1; simp only [hoN] at z1; omega)).symm, ?_, ?_⟩
              · exact (((w_up_slot (by first | decide | omega)).trans ((w_up_slot (by first | decide | omega)).trans (w_up_same _ _ _ _))) : (w_up (w_up (w_up Sq20 55 fo (wb_l2i (esV tl))) 56 fo (wb_l2i (wb_lushr (esV tl) 32))) 51 fo rv) 55 fo = (wb_l2i (esV tl))).trans (if_pos ⟨hll, by exact Or.inr (Or.inr ⟨rfl, rfl⟩)⟩).symm
              · exact (((w_up_slot (by first | decide | omega)).trans (w_up_same _ _ _ _)) : (w_up (w_up (w_up Sq20 55 fo (wb_l2i (esV tl))) 56 fo (wb_l2i (wb_lushr (esV tl) 32))) 51 fo rv) 56 fo = (wb_l2i (wb_lushr (esV tl) 32))).trans (if_pos ⟨hll, by exact Or.inr (Or.inr ⟨rfl, rfl⟩)⟩).symm
            · skip
              exact absurd c47 (by omega)
          · skip
            exact absurd c46 (by omega)
  · skip
    exact absurd c14 (by omega)
set_option maxHeartbeats 4000000 in
theorem lam_162_215 {k am l nm wk nms fo at0 wo mo : Int} {W tl : List Int} {CH : List aQ} (hC : w_CL S) (hK : KC 176 186 182 203 204 163 162 T cs ms os S) (hw : wHo cs ms os) (hX : w_X xs) (hI : gI S) (hN : hLn 162 163 nm wk W S) (h72 : S 72 1 = 162) (hc : cCh 162 210 209 163 T cs ms os CH wo mo S) (hWh : wd_at S 163 64) (hl : cSl S) (l4 : S 158 4 = 215) (l7 : S 158 7 = 5) (l12 : S 158 12 = (tl.length : Int)) (l13 : S 158 13 = esV tl) (htl : tl.length ≤ 8) (hes : esOk tl) (hty : ∀ c ∈ tl, c < 9 + (cs.length : Int)) (hwo : wo < 10000000) (l14 : S 158 14 = fo) (hfo : 0 ≤ fo ∧ fo < S 48 (-1)) (hbl : blE l fo S) (hll : l = 1 ∨ l = 2) (hk : 0 ≤ k ∧ k < (cs.length : Int)) (ham : am = 0 ∨ am = 1) : wJ (pe_GA xs) wY0 (mS [209, 210, 211, 212, 213]) (d + 6) t_XL_lookAtHost ((pe_at t_XL_lookAtHost.bl 0).getD (0, [])).2 [(0, (2, 158)), (1, (0, k)), (2, (0, am))] [] S (lhQ 162 209 210 163 215 T cs ms os (chN CH wo mo (k, am, 0, (wnW ([] : List Int) W), tl) (FA T cs ms os k am 0 (wnW ([] : List Int) W))).1 (chN CH wo mo (k, am, 0, (wnW ([] : List Int) W), tl) (FA T cs ms os k am 0 (wnW ([] : List Int) W))).2 mo 5 nms fo (rvA T cs ms os (k, am, 0, (wnW ([] : List Int) W), tl)) (hoN l k (rvA T cs ms os (k, am, 0, (wnW ([] : List Int) W), tl)) (tl.length : Int) (esV tl) at0) S) := by
  have hR := rmR_rfl S
  have h48 := hl.2.2.2
  have hn := KC_n hK
  have hn2 := hn.2.2
  have h400 := hw.1
  obtain ⟨⟨b1, b2, b3, b4, b5⟩, b6, b7, b8, b9⟩ := hbl
  have hear : 0 ≤ esV tl ∧ esV tl < 72057594037927936 := by have z := esV_rg tl hes; have z2 := p7_le (n := tl.length) htl; omega
  have hlo := wb_l2i_rg (esV tl)
  have hhi := wb_l2i_rg (wb_lushr (esV tl) 32)
  obtain ⟨rv, hrv⟩ : ∃ r : Int, r = (rvA T cs ms os (k, am, 0, (wnW ([] : List Int) W), tl)) := ⟨_, rfl⟩
  have hrr := rvA_rg (T := T) (q := (k, am, 0, (wnW ([] : List Int) W), tl)) hw hk
  rw [← hrv] at hrr ⊢
  refine wa_aload_n (n := 0) rfl ?_
  refine wb_gf4 158 rfl (wy_pr rfl) wt_158 wf_5_0 (v := 72) wl_158_0 ?_
  refine wb_gf5 72 rfl (wy_pr rfl) wt_72 wf_2_1 (v := 162) (h72) (fun r11 => ?_)
  refine wa_astore_n (n := 3) rfl ?_
  refine wa_aload_n (n := 0) rfl ?_
  refine wb_gf4 158 rfl (wy_pr rfl) wt_158 wf_5_3 (v := 47) wl_158_3 ?_
  refine wa_iconst ?_
  refine wb_aald5 47 1 rfl rfl (wy_pr rfl) wt_47 (by rw [show _ = _ from ((cl_47 hC))]; omega) wl_47_1 ?_
  refine wa_aload_n (n := 0) rfl ?_
  refine wb_gfi 158 rfl (wy_pr rfl) wt_158 wf_5_14 (v := fo) (l14) (fun r12 => ?_)
  refine wa_iload_n (n := 1) rfl ?_
  refine wb_iast 49 rfl (wy_pr rfl) wt_49 (n := (S 48 (-1))) ((hl.2.2.1 1 (by decide))) (by omega) (by omega) ⟨(by omega), (by omega)⟩ ?_
  refine wa_aload_n (n := 0) rfl ?_
  refine wb_gfi 158 rfl (wy_pr rfl) wt_158 wf_5_7 (v := 5) ((w_up_slot (by decide)).trans (l7)) (fun r13 => ?_)
  refine wa_ifne (w_rg0 (by omega) (by omega)) ⟨_, rfl⟩ (fun c14 => ?_) (fun c14 => ?_)
  · skip
    refine wa_aload_n (n := 0) rfl ?_
    refine wb_gfi 158 rfl (wy_pr rfl) wt_158 wf_5_7 (v := 5) ((w_up_slot (by decide)).trans (l7)) (fun r15 => ?_)
    refine wa_iconst ?_
    refine wa_icmpne (w_rg0 (by omega) (by omega)) (w_rg0 (by omega) (by omega)) ⟨_, rfl⟩ (fun c16 => ?_) (fun c16 => ?_)
    · skip
      refine wa_aload_n (n := 0) rfl ?_
      refine wb_gfi 158 rfl (wy_pr rfl) wt_158 wf_5_7 (v := 5) ((w_up_slot (by decide)).trans (l7)) (fun r17 => ?_)
      refine wa_iconst ?_
      refine wa_icmpne (w_rg0 (by omega) (by omega)) (w_rg0 (by omega) (by omega)) ⟨_, rfl⟩ (fun c18 => ?_) (fun c18 => ?_)
      · skip
        exact absurd c18 (by omega)
      · skip
        refine wa_aload_n (n := 3) rfl ?_
        refine wa_iload_n (n := 1) rfl ?_
        refine wa_iload_n (n := 2) rfl ?_
        refine wa_aload_n (n := 0) rfl ?_
        refine wa_ks ?_
        have f19 : ∀ (j : Nat) (x : Int), j < 4000000 → j ≠ wG → ¬ lahC 162 209 210 fo j x → (w_up S 49 fo k) j x = S j x := fun j x j0 j1 hj => (w_up_no (lah_n (j2 := 49) (x2 := fo) hj (⟨by omega, by omega, rfl⟩)))
        have hc19 : cCh 162 210 209 163 T cs ms os CH wo mo (w_up S 49 fo k) := cCh_ag hc (fun j x hj => (w_up_no (by omega)))
        have hC19 : w_CL (w_up S 49 fo k) := lhC_162 hC hc19 hfo.1 f19
        have hN19 : hLn 162 163 nm wk W (w_up S 49 fo k) := hLn_ag hN (fun j x hj => f19 j x (by omega) (by unfold wG; omega) (by unfold lahC lahA; omega))
        have hK19 : KC 176 186 182 203 204 163 162 T cs ms os (w_up S 49 fo k) := KC_ag hK (f19 162 2 (by omega) (by unfold wG; omega) (by unfold lahC lahA; omega)) (f19 162 4 (by omega) (by unfold wG; omega) (by unfold lahC lahA; omega)) (fun j hj => funext (fun x => f19 j x (by omega) (by unfold wG; omega) (by unfold lahC lahA; omega)))
        have hW19 : wd_at (w_up S 49 fo k) 163 64 := wda_a9 hWh (fun j x j0 j1 => f19 j x (by omega) (by unfold wG; omega) (by unfold lahC lahA; omega))
        refine wa_cv 158 rfl (wy_pr rfl) wt_158 (M2 := fun _ => False) rfl at_XL_wordBehind ⟨_, rfl⟩ rfl rfl ⟨(Or.inr ⟨wy_pr rfl, fun q => q⟩), (Or.inr ⟨wy_pr rfl, fun q => q⟩), trivial, trivial, trivial⟩ ⟨trivial, trivial, (Or.inr ⟨wy_pr rfl, fun q => q⟩), trivial⟩ (fun _ _ q => False.elim q) (wb53_162 (S := (w_up S 49 fo k)) hX hC19 (gI_up hI (by omega) (by omega) (by omega)) hN19.1.1 hN19.1.2 hN19.2.1 hN19.2.2.1.1 hN19.2.2.1.2 hN19.2.2.2.1.1 hN19.2.2.2.1.2.1 hN19.2.2.2.1.2.2 hN19.2.2.2.2.1.1 hN19.2.2.2.2.1.2 hN19.2.2.2.2.2.1) (fun oq19 Sq19 hp20 q19 => ?_)
        rcases q19 with ⟨fz19, gz19, rz19, wd, rfl, hv19⟩
        show wJ _ _ _ _ _ _ _ _ _ _
        have hvr19 := hwW_rg hv19
        have h7_19 : (w_up S 49 fo k) 163 7 ≤ 1024 := hN19.2.2.2.2.2.2
        refine wa_iconst ?_
        refine wa_aload_n (n := 0) rfl ?_
        refine wb_gfl 158 rfl (wy_pr rfl) wt_158 wf_5_13 (v := (esV tl)) (((fz19 158 13 (by omega)).trans ((w_up_slot (by decide)).trans (l13)))) (fun r21 => ?_)
        refine wa_aload_n (n := 0) rfl ?_
        refine wb_gfi 158 rfl (wy_pr rfl) wt_158 wf_5_12 (v := (tl.length : Int)) (((fz19 158 12 (by omega)).trans ((w_up_slot (by decide)).trans (l12)))) (fun r22 => ?_)
        have f23 : ∀ (j : Nat) (x : Int), j < 4000000 → j ≠ wG → ¬ lahC 162 209 210 fo j x → Sq19 j x = S j x := fun j x j0 j1 hj => (((fz19 j x (lah_c hj)).trans ((w_up_no (lah_n (j2 := 49) (x2 := fo) hj (⟨by omega, by omega, rfl⟩))))))
        have hc23 : cCh 162 210 209 163 T cs ms os CH wo mo Sq19 := cCh_ag hc (fun j x hj => ((fz19 j x (by omega)).trans (w_up_no (by omega))))
        have hC23 : w_CL Sq19 := lhC_162 hC hc23 hfo.1 f23
        have hN23 : hLn 162 163 nm wk W Sq19 := hLn_ag hN (fun j x hj => f23 j x (by omega) (by unfold wG; omega) (by unfold lahC lahA; omega))
        have hK23 : KC 176 186 182 203 204 163 162 T cs ms os Sq19 := KC_ag hK (f23 162 2 (by omega) (by unfold wG; omega) (by unfold lahC lahA; omega)) (f23 162 4 (by omega) (by unfold wG; omega) (by unfold lahC lahA; omega)) (fun j hj => funext (fun x => f23 j x (by omega) (by unfold wG; omega) (by unfold lahC lahA; omega)))
        have hW23 : wd_at Sq19 163 64 := wda_a9 hWh (fun j x j0 j1 => f23 j x (by omega) (by unfold wG; omega) (by unfold lahC lahA; omega))
        have hqk23 : qOk 163 cs Sq19 (k, am, 0, (wnW ([] : List Int) W), tl) wd := ⟨hk, ⟨by show (0 : Int) ≤ am; omega, by show am ≤ (2 : Int); omega⟩, Or.inl rfl, ⟨htl, hes⟩, Or.inr ⟨by show am ≠ 2; omega, hwW_ag hv19 (fun j x j0 j1 => fz19 j x (by omega))⟩⟩
        have hwM23 : wdM 186 T ms Sq19 (if am = 2 then 2 else 1) wd (wnW ([] : List Int) W) := by rw [if_neg (by omega)]; exact wdM_w hW23 hK23 (by rcases hqk23.2.2.2.2 with z | z; exact absurd z.1 (by show ¬ am = 2; omega); exact z.2) (by first | decide | omega)
        have hwr23 := qOk_rg hqk23 hc23.2.2.2.2.2.2
        have hch23 : ∀ K : List aKp, kpR 162 210 K Sq19 → wJ (pe_GA xs) wY0 (mS [209, 210, 211, 212, 213]) (d + 5) t_XO_choose ((pe_at t_XO_choose.bl 0).getD (0, [])).2 [(0, (2, 162)), (1, (0, k)), (2, (0, am)), (3, (0, wd)), (4, (0, 0)), (5, (1, esV tl)), (7, (0, (tl.length : Int)))] [] Sq19 (chQ 162 209 210 cs ms K (qKy (k, am, 0, (wnW ([] : List Int) W), tl) wd) wd tl (FA T cs ms os k am 0 (wnW ([] : List Int) W)) Sq19) := fun K hkp => cho_162 (pc := if (0 : Int) = 1 then 1 else -1) hC23 hK23 hw gz19 hc23.2.2.2.2.2.1 hkp (by rw [hc23.2.2.1]; exact hc23.2.2.2.1) (by rw [hc23.2.1]; exact hc23.2.2.2.2.1) hk ⟨by omega, by omega⟩ hwM23 ⟨by omega, by omega⟩ (Or.inl ⟨rfl, if_neg (by first | decide | omega)⟩) htl hes hty rfl rfl
        obtain ⟨⟨K0, hK0, -⟩, -⟩ := id hc23
        have hcz23 : wJ (pe_GA xs) wY0 (mS [209, 210, 211, 212, 213]) (d + 5) t_XO_choose ((pe_at t_XO_choose.bl 0).getD (0, [])).2 [(0, (2, 162)), (1, (0, k)), (2, (0, am)), (3, (0, wd)), (4, (0, 0)), (5, (1, esV tl)), (7, (0, (tl.length : Int)))] [] Sq19 (fun o Z => o = .inl (some (0, rv)) ∧ cCh 162 210 209 163 T cs ms os (chN CH wo mo (k, am, 0, (wnW ([] : List Int) W), tl) (FA T cs ms os k am 0 (wnW ([] : List Int) W))).1 (chN CH wo mo (k, am, 0, (wnW ([] : List Int) W), tl) (FA T cs ms os k am 0 (wnW ([] : List Int) W))).2 mo Z ∧ chF 162 209 210 Sq19 Z ∧ gI Z ∧ rmR Sq19 Z) := by
          refine wJ_mono (chA_w (fun K hkp => hch23 K hkp) hc23) (fun o Z hz => ?_)
          rw [hrv]
          exact chA_e (q := (k, am, 0, (wnW ([] : List Int) W), tl)) ⟨by decide, by decide, by decide, by decide⟩ hW23 hK23 hc23 hw hqk23 hz gz19 hwo
        refine wa_cv 162 rfl (wy_pr rfl) wt_162 (M2 := mS [209, 210, 211, 212, 213]) rfl at_XO_choose ⟨_, rfl⟩ rfl rfl ⟨(Or.inr ⟨wy_pr rfl, mS_no rfl⟩), (Or.inr ⟨wy_pr rfl, mS_no rfl⟩), trivial, trivial, trivial⟩ trivial (fun _ _ q => q) (hcz23) (fun oq23 Sq23 hp24 q23 => ?_)
        rcases q23 with ⟨rfl, hcq23, ff23, gg23, rr23⟩
        show wJ _ _ _ _ _ _ _ _ _ _
        refine wa_istore (n := 4) rfl ?_
        refine wa_goto ⟨_, rfl⟩ ?_
        refine wa_aload_n (n := 0) rfl ?_
        refine wb_gfi 158 rfl (wy_pr rfl) wt_158 wf_5_7 (v := 5) (((ff23 158 7 (by omega) (by unfold wG; omega) (by omega) (by omega) (by omega)).trans (((fz19 158 7 (by omega)).trans ((w_up_slot (by decide)).trans (l7)))))) (fun r25 => ?_)
        refine wa_ifeq (w_rg0 (by omega) (by omega)) ⟨_, rfl⟩ (fun c26 => ?_) (fun c26 => ?_)
        · skip
          exact absurd c26 (by omega)
        · skip
          refine wa_iload (n := 4) rfl ?_
          refine wa_iflt (w_rg0 (by omega) (by omega)) ⟨_, rfl⟩ (fun c27 => ?_) (fun c27 => ?_)
          · skip
            refine wa_iload (n := 4) rfl ?_
            refine wa_iconst ?_
            refine wa_icmpne (w_rg0 (by omega) (by omega)) (w_rg0 (by omega) (by omega)) ⟨_, rfl⟩ (fun c28 => ?_) (fun c28 => ?_)
            · skip
              refine wa_iload (n := 4) rfl ?_
              refine wa_ifge (w_rg0 (by omega) (by omega)) ⟨_, rfl⟩ (fun c29 => ?_) (fun c29 => ?_)
              · skip
                exact absurd c29 (by omega)
              · skip
                refine wa_aload_n (n := 0) rfl ?_
                refine wb_gf5 158 rfl (wy_pr rfl) wt_158 wf_5_4 (v := 215) (((ff23 158 4 (by omega) (by unfold wG; omega) (by omega) (by omega) (by omega)).trans (((fz19 158 4 (by omega)).trans ((w_up_slot (by decide)).trans (l4)))))) (fun r30 => ?_)
                refine wa_iload (n := 4) rfl ?_
                refine wa_iconst ?_
                refine wa_icmpne (w_rg0 (by omega) (by omega)) (w_rg0 (by omega) (by omega)) ⟨_, rfl⟩ (fun c31 => ?_) (fun c31 => ?_)
                · skip
                  refine wa_iload (n := 4) rfl ?_
                  refine wa_ineg ?_
                  refine wa_fall ⟨_, rfl⟩ ?_
                  refine wb_pfi 215 rfl (wy_pr rfl) wt_215 wf_8_16 (n := 16) rfl ⟨(by omega), (by omega)⟩ ?_
                  refine wa_fall ⟨_, rfl⟩ ?_
                  refine wa_aload_n (n := 0) rfl ?_
                  refine wb_gf4 158 rfl (wy_pr rfl) wt_158 wf_5_3 (v := 47) wl_158_3 ?_
                  refine wa_iconst ?_
                  refine wb_aald5 47 3 rfl rfl (wy_pr rfl) wt_47 (by rw [show _ = _ from ((w_up_slot (by decide)).trans (((ff23 47 (-1) (by omega) (by unfold wG; omega) (by omega) (by omega) (by omega)).trans (((fz19 47 (-1) (by omega)).trans ((w_up_slot (by decide)).trans ((cl_47 hC))))))))]; omega) wl_47_3 ?_
                  refine wa_aload_n (n := 0) rfl ?_
                  refine wb_gfi 158 rfl (wy_pr rfl) wt_158 wf_5_14 (v := fo) ((w_up_slot (by decide)).trans (((ff23 158 14 (by omega) (by unfold wG; omega) (by omega) (by omega) (by omega)).trans (((fz19 158 14 (by omega)).trans ((w_up_slot (by decide)).trans (l14))))))) (fun r32 => ?_)
                  refine wa_iload (n := 4) rfl ?_
                  refine wb_iast 51 rfl (wy_pr rfl) wt_51 (n := (S 48 (-1))) ((w_up_slot (by decide)).trans (((ff23 51 (-1) (by omega) (by unfold wG; omega) (by omega) (by omega) (by omega)).trans (((fz19 51 (-1) (by omega)).trans ((w_up_slot (by decide)).trans ((hl.2.2.1 3 (by decide))))))))) (by omega) (by omega) ⟨(by omega), (by omega)⟩ ?_
                  refine wa_return rfl ?_
                  have fE : ∀ (j : Nat) (x : Int), j < 4000000 → j ≠ wG → ¬ lahM 162 209 210 215 fo j x → (w_up (w_up Sq23 215 16 (-rv)) 51 fo rv) j x = S j x := fun j x j0 j1 hj => ((w_up_no (lah_m (j2 := 51) (x2 := fo) hj (Or.inl ⟨by omega, by omega, rfl⟩))).trans ((w_up_no (lah_m (j2 := 215) (x2 := 16) hj (Or.inr ⟨rfl, rfl⟩))).trans (((ff23 j x j0 j1 (lah_f hj).1 (lah_f hj).2.1 (lah_f hj).2.2).trans ((((fz19 j x (lah_d hj)).trans ((w_up_no (lah_m (j2 := 49) (x2 := fo) hj (Or.inl ⟨by omega, by omega, rfl⟩)))))))))))
                  have hcE := cCh_ag hcq23 (Z := (w_up (w_up Sq23 215 16 (-rv)) 51 fo rv)) (fun j x hj => ((w_up_no (by omega)).trans (w_up_no (by omega))))
                  refine ⟨rfl, fun z => absurd z (by omega), fun _ => ?_, hcE, fE, (gI_up (gI_up gg23 (by omega) (by omega) (by omega)) (by omega) (by omega) (by omega)), (rmR_up (rmR_up (rmR_tr (rmR_tr (rmR_up hR (by omega) (by first | decide | omega)) rz19) rr23) (by omega) (by first | decide | omega)) (by omega) (by first | decide | omega))⟩
                  refine (((w_up_slot (by first | decide | omega)).trans (w_up_same _ _ _ _)) : (w_up (w_up Sq23 215 16 (-rv)) 51 fo rv) 215 16 = (-rv)).trans ?_
                  first | omega | (rw [if_pos (by omega)]) | (rw [if_neg (by omega)])
                · skip
                  exact absurd c31 (by omega)
            · skip
              refine wa_aload_n (n := 0) rfl ?_
              refine wb_gfi 158 rfl (wy_pr rfl) wt_158 wf_5_7 (v := 5) (((ff23 158 7 (by omega) (by unfold wG; omega) (by omega) (by omega) (by omega)).trans (((fz19 158 7 (by omega)).trans ((w_up_slot (by decide)).trans (l7)))))) (fun r33 => ?_)
              refine wa_ifeq (w_rg0 (by omega) (by omega)) ⟨_, rfl⟩ (fun c34 => ?_) (fun c34 => ?_)
              · skip
                exact absurd c34 (by omega)
              · skip
                refine wa_aload_n (n := 0) rfl ?_
                refine wb_gfi 158 rfl (wy_pr rfl) wt_158 wf_5_7 (v := 5) (((ff23 158 7 (by omega) (by unfold wG; omega) (by omega) (by omega) (by omega)).trans (((fz19 158 7 (by omega)).trans ((w_up_slot (by decide)).trans (l7)))))) (fun r35 => ?_)
                refine wa_iconst ?_
                refine wa_icmpne (w_rg0 (by omega) (by omega)) (w_rg0 (by omega) (by omega)) ⟨_, rfl⟩ (fun c36 => ?_) (fun c36 => ?_)
                · skip
                  refine wa_iload (n := 4) rfl ?_
                  refine wa_ifge (w_rg0 (by omega) (by omega)) ⟨_, rfl⟩ (fun c37 => ?_) (fun c37 => ?_)
                  · skip
                    exact absurd c37 (by omega)
                  · skip
                    refine wa_aload_n (n := 0) rfl ?_
                    refine wb_gf5 158 rfl (wy_pr rfl) wt_158 wf_5_4 (v := 215) (((ff23 158 4 (by omega) (by unfold wG; omega) (by omega) (by omega) (by omega)).trans (((fz19 158 4 (by omega)).trans ((w_up_slot (by decide)).trans (l4)))))) (fun r38 => ?_)
                    refine wa_iload (n := 4) rfl ?_
                    refine wa_iconst ?_
                    refine wa_icmpne (w_rg0 (by omega) (by omega)) (w_rg0 (by omega) (by omega)) ⟨_, rfl⟩ (fun c39 => ?_) (fun c39 => ?_)
                    · skip
                      exact absurd c39 (by omega)
                    · skip
                      refine wa_iconst ?_
                      refine wa_goto ⟨_, rfl⟩ ?_
                      refine wb_pfi 215 rfl (wy_pr rfl) wt_215 wf_8_16 (n := 16) rfl ⟨(by omega), (by omega)⟩ ?_
                      refine wa_fall ⟨_, rfl⟩ ?_
                      refine wa_aload_n (n := 0) rfl ?_
                      refine wb_gf4 158 rfl (wy_pr rfl) wt_158 wf_5_3 (v := 47) wl_158_3 ?_
                      refine wa_iconst ?_
                      refine wb_aald5 47 3 rfl rfl (wy_pr rfl) wt_47 (by rw [show _ = _ from ((w_up_slot (by decide)).trans (((ff23 47 (-1) (by omega) (by unfold wG; omega) (by omega) (by omega) (by omega)).trans (((fz19 47 (-1) (by omega)).trans ((w_up_slot (by decide)).trans ((cl_47 hC))))))))]; omega) wl_47_3 ?_
                      refine wa_aload_n (n := 0) rfl ?_
                      refine wb_gfi 158 rfl (wy_pr rfl) wt_158 wf_5_14 (v := fo) ((w_up_slot (by decide)).trans (((ff23 158 14 (by omega) (by unfold wG; omega) (by omega) (by omega) (by omega)).trans (((fz19 158 14 (by omega)).trans ((w_up_slot (by decide)).trans (l14))))))) (fun r40 => ?_)
                      refine wa_iload (n := 4) rfl ?_
                      refine wb_iast 51 rfl (wy_pr rfl) wt_51 (n := (S 48 (-1))) ((w_up_slot (by decide)).trans (((ff23 51 (-1) (by omega) (by unfold wG; omega) (by omega) (by omega) (by omega)).trans (((fz19 51 (-1) (by omega)).trans ((w_up_slot (by decide)).trans ((hl.2.2.1 3 (by decide))))))))) (by omega) (by omega) ⟨(by omega), (by omega)⟩ ?_
                      refine wa_return rfl ?_
                      have fE : ∀ (j : Nat) (x : Int), j < 4000000 → j ≠ wG → ¬ lahM 162 209 210 215 fo j x → (w_up (w_up Sq23 215 16 4) 51 fo rv) j x = S j x := fun j x j0 j1 hj => ((w_up_no (lah_m (j2 := 51) (x2 := fo) hj (Or.inl ⟨by omega, by omega, rfl⟩))).trans ((w_up_no (lah_m (j2 := 215) (x2 := 16) hj (Or.inr ⟨rfl, rfl⟩))).trans (((ff23 j x j0 j1 (lah_f hj).1 (lah_f hj).2.1 (lah_f hj).2.2).trans ((((fz19 j x (lah_d hj)).trans ((w_up_no (lah_m (j2 := 49) (x2 := fo) hj (Or.inl ⟨by omega, by omega, rfl⟩)))))))))))
                      have hcE := cCh_ag hcq23 (Z := (w_up (w_up Sq23 215 16 4) 51 fo rv)) (fun j x hj => ((w_up_no (by omega)).trans (w_up_no (by omega))))
                      refine ⟨rfl, fun z => absurd z (by omega), fun _ => ?_, hcE, fE, (gI_up (gI_up gg23 (by omega) (by omega) (by omega)) (by omega) (by omega) (by omega)), (rmR_up (rmR_up (rmR_tr (rmR_tr (rmR_up hR (by omega) (by first | decide | omega)) rz19) rr23) (by omega) (by first | decide | omega)) (by omega) (by first | decide | omega))⟩
                      refine (((w_up_slot (by first | decide | omega)).trans (w_up_same _ _ _ _)) : (w_up (w_up Sq23 215 16 4) 51 fo rv) 215 16 = 4).trans ?_
                      first | omega | (rw [if_pos (by omega)]) | (rw [if_neg (by omega)])
                · skip
                  exact absurd c36 (by omega)
          · skip
            refine wa_aload_n (n := 0) rfl ?_
            refine wb_gf4 158 rfl (wy_pr rfl) wt_158 wf_5_3 (v := 47) wl_158_3 ?_
            refine wa_bipush (w_rg2 (by omega) (by omega)) ?_
            refine wb_aald5 47 7 rfl rfl (wy_pr rfl) wt_47 (by rw [show _ = _ from (((ff23 47 (-1) (by omega) (by unfold wG; omega) (by omega) (by omega) (by omega)).trans (((fz19 47 (-1) (by omega)).trans ((w_up_slot (by decide)).trans ((cl_47 hC)))))))]; omega) wl_47_7 ?_
            refine wa_aload_n (n := 0) rfl ?_
            refine wb_gfi 158 rfl (wy_pr rfl) wt_158 wf_5_14 (v := fo) (((ff23 158 14 (by omega) (by unfold wG; omega) (by omega) (by omega) (by omega)).trans (((fz19 158 14 (by omega)).trans ((w_up_slot (by decide)).trans (l14)))))) (fun r41 => ?_)
            refine wa_aload_n (n := 0) rfl ?_
            refine wb_gfl 158 rfl (wy_pr rfl) wt_158 wf_5_13 (v := (esV tl)) (((ff23 158 13 (by omega) (by unfold wG; omega) (by omega) (by omega) (by omega)).trans (((fz19 158 13 (by omega)).trans ((w_up_slot (by decide)).trans (l13)))))) (fun r42 => ?_)
            refine wa_l2i ?_
            refine wb_iast 55 rfl (wy_pr rfl) wt_55 (n := (S 48 (-1))) (((ff23 55 (-1) (by omega) (by unfold wG; omega) (by omega) (by omega) (by omega)).trans (((fz19 55 (-1) (by omega)).trans ((w_up_slot (by decide)).trans ((hl.2.2.1 7 (by decide)))))))) (by omega) (by omega) ⟨(by omega), (by omega)⟩ ?_
            refine wa_aload_n (n := 0) rfl ?_
            refine wb_gf4 158 rfl (wy_pr rfl) wt_158 wf_5_3 (v := 47) wl_158_3 ?_
            refine wa_bipush (w_rg2 (by omega) (by omega)) ?_
            refine wb_aald5 47 8 rfl rfl (wy_pr rfl) wt_47 (by rw [show _ = _ from ((w_up_slot (by decide)).trans (((ff23 47 (-1) (by omega) (by unfold wG; omega) (by omega) (by omega) (by omega)).trans (((fz19 47 (-1) (by omega)).trans ((w_up_slot (by decide)).trans ((cl_47 hC))))))))]; omega) wl_47_8 ?_
            refine wa_aload_n (n := 0) rfl ?_
            refine wb_gfi 158 rfl (wy_pr rfl) wt_158 wf_5_14 (v := fo) ((w_up_slot (by decide)).trans (((ff23 158 14 (by omega) (by unfold wG; omega) (by omega) (by omega) (by omega)).trans (((fz19 158 14 (by omega)).trans ((w_up_slot (by decide)).trans (l14))))))) (fun r43 => ?_)
            refine wa_aload_n (n := 0) rfl ?_
            refine wb_gfl 158 rfl (wy_pr rfl) wt_158 wf_5_13 (v := (esV tl)) ((w_up_slot (by decide)).trans (((ff23 158 13 (by omega) (by unfold wG; omega) (by omega) (by omega) (by omega)).trans (((fz19 158 13 (by omega)).trans ((w_up_slot (by decide)).trans (l13))))))) (fun r44 => ?_)
            refine wa_bipush (w_rg2 (by omega) (by omega)) ?_
            refine wa_lushr ?_
            refine wa_l2i ?_
            refine wb_iast 56 rfl (wy_pr rfl) wt_56 (n := (S 48 (-1))) ((w_up_slot (by decide)).trans (((ff23 56 (-1) (by omega) (by unfold wG; omega) (by omega) (by omega) (by omega)).trans (((fz19 56 (-1) (by omega)).trans ((w_up_slot (by decide)).trans ((hl.2.2.1 8 (by decide))))))))) (by omega) (by omega) ⟨(by omega), (by omega)⟩ ?_
            refine wa_fall ⟨_, rfl⟩ ?_
            refine wa_iload (n := 4) rfl ?_
            refine wa_iconst ?_
            refine wa_icmpne (w_rg0 (by omega) (by omega)) (w_rg0 (by omega) (by omega)) ⟨_, rfl⟩ (fun c45 => ?_) (fun c45 => ?_)
            · skip
              refine wa_iload (n := 4) rfl ?_
              refine wa_ifge (w_rg0 (by omega) (by omega)) ⟨_, rfl⟩ (fun c46 => ?_) (fun c46 => ?_)
              · skip
                refine wa_aload_n (n := 0) rfl ?_
                refine wb_gf4 158 rfl (wy_pr rfl) wt_158 wf_5_3 (v := 47) wl_158_3 ?_
                refine wa_iconst ?_
                refine wb_aald5 47 3 rfl rfl (wy_pr rfl) wt_47 (by rw [show _ = _ from ((w_up_slot (by decide)).trans ((w_up_slot (by decide)).trans (((ff23 47 (-1) (by omega) (by unfold wG; omega) (by omega) (by omega) (by omega)).trans (((fz19 47 (-1) (by omega)).trans ((w_up_slot (by decide)).trans ((cl_47 hC)))))))))]; omega) wl_47_3 ?_
                refine wa_aload_n (n := 0) rfl ?_
                refine wb_gfi 158 rfl (wy_pr rfl) wt_158 wf_5_14 (v := fo) ((w_up_slot (by decide)).trans ((w_up_slot (by decide)).trans (((ff23 158 14 (by omega) (by unfold wG; omega) (by omega) (by omega) (by omega)).trans (((fz19 158 14 (by omega)).trans ((w_up_slot (by decide)).trans (l14)))))))) (fun r47 => ?_)
                refine wa_iload (n := 4) rfl ?_
                refine wb_iast 51 rfl (wy_pr rfl) wt_51 (n := (S 48 (-1))) ((w_up_slot (by decide)).trans ((w_up_slot (by decide)).trans (((ff23 51 (-1) (by omega) (by unfold wG; omega) (by omega) (by omega) (by omega)).trans (((fz19 51 (-1) (by omega)).trans ((w_up_slot (by decide)).trans ((hl.2.2.1 3 (by decide)))))))))) (by omega) (by omega) ⟨(by omega), (by omega)⟩ ?_
                refine wa_return rfl ?_
                have fE : ∀ (j : Nat) (x : Int), j < 4000000 → j ≠ wG → ¬ lahM 162 209 210 215 fo j x → (w_up (w_up (w_up Sq23 55 fo (wb_l2i (esV tl))) 56 fo (wb_l2i (wb_lushr (esV tl) 32))) 51 fo rv) j x = S j x := fun j x j0 j1 hj => ((w_up_no (lah_m (j2 := 51) (x2 := fo) hj (Or.inl ⟨by omega, by omega, rfl⟩))).trans ((w_up_no (lah_m (j2 := 56) (x2 := fo) hj (Or.inl ⟨by omega, by omega, rfl⟩))).trans ((w_up_no (lah_m (j2 := 55) (x2 := fo) hj (Or.inl ⟨by omega, by omega, rfl⟩))).trans (((ff23 j x j0 j1 (lah_f hj).1 (lah_f hj).2.1 (lah_f hj).2.2).trans ((((fz19 j x (lah_d hj)).trans ((w_up_no (lah_m (j2 := 49) (x2 := fo) hj (Or.inl ⟨by omega, by omega, rfl⟩))))))))))))
                have hcE := cCh_ag hcq23 (Z := (w_up (w_up (w_up Sq23 55 fo (wb_l2i (esV tl))) 56 fo (wb_l2i (wb_lushr (esV tl) 32))) 51 fo rv)) (fun j x hj => ((w_up_no (by omega)).trans ((w_up_no (by omega)).trans (w_up_no (by omega)))))
                refine ⟨rfl, fun _ => ⟨?_, ((w_up_slot (by first | decide | omega)).trans ((w_up_slot (by first | decide | omega)).trans ((w_up_slot (by first | decide | omega)).trans (((ff23 215 16 (by omega) (by unfold wG; omega) (by omega) (by omega) (by omega)).trans (((fz19 215 16 (by omega)).trans (w_up_slot (by first | decide | omega)))))))))⟩, fun z => absurd z (by omega), hcE, fE, (gI_up (gI_up (gI_up gg23 (by omega) (by omega) (by omega)) (by omega) (by omega) (by omega)) (by omega) (by omega) (by omega)), (rmR_up (rmR_up (rmR_up (rmR_tr (rmR_tr (rmR_up hR (by omega) (by first | decide | omega)) rz19) rr23) (by omega) (by first | decide | omega)) (by omega) (by first | decide | omega)) (by omega) (by first | decide | omega))⟩
                refine ⟨⟨(((w_up_slot (by first | decide | omega)).trans ((w_up_slot (by first | decide | omega)).trans ((w_up_slot (by first | decide | omega)).trans (((ff23 48 fo (by omega) (by unfold wG; omega) (by omega) (by omega) (by omega)).trans (((fz19 48 fo (by omega)).trans (w_up_slot (by first | decide | omega))))))))) : (w_up (w_up (w_up Sq23 55 fo (wb_l2i (esV tl))) 56 fo (wb_l2i (wb_lushr (esV tl) 32))) 51 fo rv) 48 fo = (S 48 fo)).trans b1, (((w_up_slot (by first | decide | omega)).trans ((w_up_slot (by first | decide | omega)).trans ((w_up_slot (by first | decide | omega)).trans (((ff23 49 fo (by omega) (by unfold wG; omega) (by omega) (by omega) (by omega)).trans (((fz19 49 fo (by omega)).trans (w_up_same _ _ _ _)))))))) : (w_up (w_up (w_up Sq23 55 fo (wb_l2i (esV tl))) 56 fo (wb_l2i (wb_lushr (esV tl) 32))) 51 fo rv) 49 fo = k), (((w_up_slot (by first | decide | omega)).trans ((w_up_slot (by first | decide | omega)).trans ((w_up_slot (by first | decide | omega)).trans (((ff23 50 fo (by omega) (by unfold wG; omega) (by omega) (by omega) (by omega)).trans (((fz19 50 fo (by omega)).trans (w_up_slot (by first | decide | omega))))))))) : (w_up (w_up (w_up Sq23 55 fo (wb_l2i (esV tl))) 56 fo (wb_l2i (wb_lushr (esV tl) 32))) 51 fo rv) 50 fo = (S 50 fo)).trans b3, ((w_up_same _ _ _ _) : (w_up (w_up (w_up Sq23 55 fo (wb_l2i (esV tl))) 56 fo (wb_l2i (wb_lushr (esV tl) 32))) 51 fo rv) 51 fo = rv), (((w_up_slot (by first | decide | omega)).trans ((w_up_slot (by first | decide | omega)).trans ((w_up_slot (by first | decide | omega)).trans (((ff23 52 fo (by omega) (by unfold wG; omega) (by omega) (by omega) (by omega)).trans (((fz19 52 fo (by omega)).trans (w_up_slot (by first | decide | omega))))))))) : (w_up (w_up (w_up Sq23 55 fo (wb_l2i (esV tl))) 56 fo (wb_l2i (wb_lushr (esV tl) 32))) 51 fo rv) 52 fo = (S 52 fo)).trans b5⟩, ((((w_up_slot (by first | decide | omega)).trans ((w_up_slot (by first | decide | omega)).trans ((w_up_slot (by first | decide | omega)).trans (((ff23 53 fo (by omega) (by unfold wG; omega) (by omega) (by omega) (by omega)).trans (((fz19 53 fo (by omega)).trans (w_up_slot (by first | decide | omega))))))))) : (w_up (w_up (w_up Sq23 55 fo (wb_l2i (esV tl))) 56 fo (wb_l2i (wb_lushr (esV tl) 32))) 51 fo rv) 53 fo = (S 53 fo)).trans b6).trans (if_neg (fun z => by have z1 := z.1; simp only [hoN] at z1; omega)).symm, ((((w_up_slot (by first | decide | omega)).trans ((w_up_slot (by first | decide | omega)).trans ((w_up_slot (by first | decide | omega)).trans (((ff23 54 fo (by omega) (by unfold wG; omega) (by omega) (by omega) (by omega)).trans (((fz19 54 fo (by omega)).trans (w_up_slot (by first | decide | omega))))))))) : (w_up (w_up (w_up Sq23 55 fo (wb_l2i (esV tl))) 56 fo (wb_l2i (wb_lushr (esV tl) 32))) 51 fo rv) 54 fo = (S 54 fo)).trans b7).trans (if_neg (fun z => by have z1 := z.1; simp only [hoN] at z1; omega)).symm, ?_, ?_⟩
                · exact (((w_up_slot (by first | decide | omega)).trans ((w_up_slot (by first | decide | omega)).trans (w_up_same _ _ _ _))) : (w_up (w_up (w_up Sq23 55 fo (wb_l2i (esV tl))) 56 fo (wb_l2i (wb_lushr (esV tl) 32))) 51 fo rv) 55 fo = (wb_l2i (esV tl))).trans (if_pos ⟨hll, by exact Or.inl rfl⟩).symm
                · exact (((w_up_slot (by first | decide | omega)).trans (w_up_same _ _ _ _)) : (w_up (w_up (w_up Sq23 55 fo (wb_l2i (esV tl))) 56 fo (wb_l2i (wb_lushr (esV tl) 32))) 51 fo rv) 56 fo = (wb_l2i (wb_lushr (esV tl) 32))).trans (if_pos ⟨hll, by exact Or.inl rfl⟩).symm
              · skip
                exact absurd c46 (by omega)
            · skip
              exact absurd c45 (by omega)
    · skip
      exact absurd c16 (by omega)
  · skip
    exact absurd c14 (by omega)
set_option maxHeartbeats 4000000 in
theorem lan_162_215 {k am l nm wk nms fo at0 wo mo : Int} {W tl : List Int} {CH : List aQ} (hC : w_CL S) (hK : KC 176 186 182 203 204 163 162 T cs ms os S) (hw : wHo cs ms os) (hX : w_X xs) (hI : gI S) (h72 : S 72 1 = 162) (hc : cCh 162 210 209 163 T cs ms os CH wo mo S) (hWh : wd_at S 163 64) (hl : cSl S) (l4 : S 158 4 = 215) (l7 : S 158 7 = 6) (l12 : S 158 12 = (tl.length : Int)) (l13 : S 158 13 = esV tl) (htl : tl.length ≤ 8) (hes : esOk tl) (hty : ∀ c ∈ tl, c < 9 + (cs.length : Int)) (hwo : wo < 10000000) (l14 : S 158 14 = fo) (hfo : 0 ≤ fo ∧ fo < S 48 (-1)) (hbl : blE l fo S) (hll : l = 1 ∨ l = 2) (hk : 0 ≤ k ∧ k < (cs.length : Int)) (ham : am = 1) : wJ (pe_GA xs) wY0 (mS [209, 210, 211, 212, 213]) (d + 6) t_XL_lookAtHost ((pe_at t_XL_lookAtHost.bl 0).getD (0, [])).2 [(0, (2, 158)), (1, (0, k)), (2, (0, am))] [] S (lhQ 162 209 210 163 215 T cs ms os (chN CH wo mo (k, 2, 0, [], tl) (FA T cs ms os k 2 0 [])).1 (chN CH wo mo (k, 2, 0, [], tl) (FA T cs ms os k 2 0 [])).2 mo 6 nms fo (rvA T cs ms os (k, 2, 0, [], tl)) (hoN l k (rvA T cs ms os (k, 2, 0, [], tl)) (tl.length : Int) (esV tl) at0) S) := by
  have hR := rmR_rfl S
  have h48 := hl.2.2.2
  have hn := KC_n hK
  have hn2 := hn.2.2
  have h400 := hw.1
  obtain ⟨⟨b1, b2, b3, b4, b5⟩, b6, b7, b8, b9⟩ := hbl
  have hear : 0 ≤ esV tl ∧ esV tl < 72057594037927936 := by have z := esV_rg tl hes; have z2 := p7_le (n := tl.length) htl; omega
  have hlo := wb_l2i_rg (esV tl)
  have hhi := wb_l2i_rg (wb_lushr (esV tl) 32)
  obtain ⟨rv, hrv⟩ : ∃ r : Int, r = (rvA T cs ms os (k, 2, 0, [], tl)) := ⟨_, rfl⟩
  have hrr := rvA_rg (T := T) (q := (k, 2, 0, [], tl)) hw hk
  rw [← hrv] at hrr ⊢
  refine wa_aload_n (n := 0) rfl ?_
  refine wb_gf4 158 rfl (wy_pr rfl) wt_158 wf_5_0 (v := 72) wl_158_0 ?_
  refine wb_gf5 72 rfl (wy_pr rfl) wt_72 wf_2_1 (v := 162) (h72) (fun r11 => ?_)
  refine wa_astore_n (n := 3) rfl ?_
  refine wa_aload_n (n := 0) rfl ?_
  refine wb_gf4 158 rfl (wy_pr rfl) wt_158 wf_5_3 (v := 47) wl_158_3 ?_
  refine wa_iconst ?_
  refine wb_aald5 47 1 rfl rfl (wy_pr rfl) wt_47 (by rw [show _ = _ from ((cl_47 hC))]; omega) wl_47_1 ?_
  refine wa_aload_n (n := 0) rfl ?_
  refine wb_gfi 158 rfl (wy_pr rfl) wt_158 wf_5_14 (v := fo) (l14) (fun r12 => ?_)
  refine wa_iload_n (n := 1) rfl ?_
  refine wb_iast 49 rfl (wy_pr rfl) wt_49 (n := (S 48 (-1))) ((hl.2.2.1 1 (by decide))) (by omega) (by omega) ⟨(by omega), (by omega)⟩ ?_
  refine wa_aload_n (n := 0) rfl ?_
  refine wb_gfi 158 rfl (wy_pr rfl) wt_158 wf_5_7 (v := 6) ((w_up_slot (by decide)).trans (l7)) (fun r13 => ?_)
  refine wa_ifne (w_rg0 (by omega) (by omega)) ⟨_, rfl⟩ (fun c14 => ?_) (fun c14 => ?_)
  · skip
    refine wa_aload_n (n := 0) rfl ?_
    refine wb_gfi 158 rfl (wy_pr rfl) wt_158 wf_5_7 (v := 6) ((w_up_slot (by decide)).trans (l7)) (fun r15 => ?_)
    refine wa_iconst ?_
    refine wa_icmpne (w_rg0 (by omega) (by omega)) (w_rg0 (by omega) (by omega)) ⟨_, rfl⟩ (fun c16 => ?_) (fun c16 => ?_)
    · skip
      refine wa_aload_n (n := 0) rfl ?_
      refine wb_gfi 158 rfl (wy_pr rfl) wt_158 wf_5_7 (v := 6) ((w_up_slot (by decide)).trans (l7)) (fun r17 => ?_)
      refine wa_iconst ?_
      refine wa_icmpne (w_rg0 (by omega) (by omega)) (w_rg0 (by omega) (by omega)) ⟨_, rfl⟩ (fun c18 => ?_) (fun c18 => ?_)
      · skip
        refine wa_aload_n (n := 0) rfl ?_
        refine wb_gfi 158 rfl (wy_pr rfl) wt_158 wf_5_7 (v := 6) ((w_up_slot (by decide)).trans (l7)) (fun r19 => ?_)
        refine wa_bipush (w_rg2 (by omega) (by omega)) ?_
        refine wa_icmpne (w_rg0 (by omega) (by omega)) (w_rg0 (by omega) (by omega)) ⟨_, rfl⟩ (fun c20 => ?_) (fun c20 => ?_)
        · skip
          exact absurd c20 (by omega)
        · skip
          refine wa_iload_n (n := 2) rfl ?_
          refine wa_iconst ?_
          refine wa_icmpne (w_rg0 (by omega) (by omega)) (w_rg0 (by omega) (by omega)) ⟨_, rfl⟩ (fun c21 => ?_) (fun c21 => ?_)
          · skip
            exact absurd c21 (by omega)
          · skip
            refine wa_aload_n (n := 3) rfl ?_
            refine wa_iload_n (n := 1) rfl ?_
            refine wa_iconst ?_
            refine wa_bipush (w_rg2 (by omega) (by omega)) ?_
            refine wa_iconst ?_
            refine wa_aload_n (n := 0) rfl ?_
            refine wb_gfl 158 rfl (wy_pr rfl) wt_158 wf_5_13 (v := (esV tl)) ((w_up_slot (by decide)).trans (l13)) (fun r22 => ?_)
            refine wa_aload_n (n := 0) rfl ?_
            refine wb_gfi 158 rfl (wy_pr rfl) wt_158 wf_5_12 (v := (tl.length : Int)) ((w_up_slot (by decide)).trans (l12)) (fun r23 => ?_)
            have f24 : ∀ (j : Nat) (x : Int), j < 4000000 → j ≠ wG → ¬ lahC 162 209 210 fo j x → (w_up S 49 fo k) j x = S j x := fun j x j0 j1 hj => (w_up_no (lah_n (j2 := 49) (x2 := fo) hj (⟨by omega, by omega, rfl⟩)))
            have hc24 : cCh 162 210 209 163 T cs ms os CH wo mo (w_up S 49 fo k) := cCh_ag hc (fun j x hj => (w_up_no (by omega)))
            have hC24 : w_CL (w_up S 49 fo k) := lhC_162 hC hc24 hfo.1 f24
            have hK24 : KC 176 186 182 203 204 163 162 T cs ms os (w_up S 49 fo k) := KC_ag hK (f24 162 2 (by omega) (by unfold wG; omega) (by unfold lahC lahA; omega)) (f24 162 4 (by omega) (by unfold wG; omega) (by unfold lahC lahA; omega)) (fun j hj => funext (fun x => f24 j x (by omega) (by unfold wG; omega) (by unfold lahC lahA; omega)))
            have hW24 : wd_at (w_up S 49 fo k) 163 64 := wda_a9 hWh (fun j x j0 j1 => f24 j x (by omega) (by unfold wG; omega) (by unfold lahC lahA; omega))
            have hqk24 : qOk 163 cs (w_up S 49 fo k) (k, 2, 0, [], tl) 12 := ⟨hk, ⟨by show (0 : Int) ≤ 2; decide, by show (2 : Int) ≤ 2; decide⟩, Or.inl rfl, ⟨htl, hes⟩, Or.inl ⟨rfl, rfl, rfl⟩⟩
            have hwM24 : wdM 186 T ms (w_up S 49 fo k) (if (2 : Int) = 2 then 2 else 1) 12 [] := wdM_n hK24
            have hwr24 := qOk_rg hqk24 hc24.2.2.2.2.2.2
            have hch24 : ∀ K : List aKp, kpR 162 210 K (w_up S 49 fo k) → wJ (pe_GA xs) wY0 (mS [209, 210, 211, 212, 213]) (d + 5) t_XO_choose ((pe_at t_XO_choose.bl 0).getD (0, [])).2 [(0, (2, 162)), (1, (0, k)), (2, (0, 2)), (3, (0, 12)), (4, (0, 0)), (5, (1, esV tl)), (7, (0, (tl.length : Int)))] [] (w_up S 49 fo k) (chQ 162 209 210 cs ms K (qKy (k, 2, 0, [], tl) 12) 12 tl (FA T cs ms os k 2 0 []) (w_up S 49 fo k)) := fun K hkp => cho_162 (pc := if (0 : Int) = 1 then 1 else -1) hC24 hK24 hw (gI_up hI (by omega) (by omega) (by omega)) hc24.2.2.2.2.2.1 hkp (by rw [hc24.2.2.1]; exact hc24.2.2.2.1) (by rw [hc24.2.1]; exact hc24.2.2.2.2.1) hk ⟨by omega, by omega⟩ hwM24 ⟨by omega, by omega⟩ (Or.inl ⟨rfl, if_neg (by first | decide | omega)⟩) htl hes hty rfl rfl
            obtain ⟨⟨K0, hK0, -⟩, -⟩ := id hc24
            have hcz24 : wJ (pe_GA xs) wY0 (mS [209, 210, 211, 212, 213]) (d + 5) t_XO_choose ((pe_at t_XO_choose.bl 0).getD (0, [])).2 [(0, (2, 162)), (1, (0, k)), (2, (0, 2)), (3, (0, 12)), (4, (0, 0)), (5, (1, esV tl)), (7, (0, (tl.length : Int)))] [] (w_up S 49 fo k) (fun o Z => o = .inl (some (0, rv)) ∧ cCh 162 210 209 163 T cs ms os (chN CH wo mo (k, 2, 0, [], tl) (FA T cs ms os k 2 0 [])).1 (chN CH wo mo (k, 2, 0, [], tl) (FA T cs ms os k 2 0 [])).2 mo Z ∧ chF 162 209 210 (w_up S 49 fo k) Z ∧ gI Z ∧ rmR (w_up S 49 fo k) Z) := by
              refine wJ_mono (chA_w (fun K hkp => hch24 K hkp) hc24) (fun o Z hz => ?_)
              rw [hrv]
              exact chA_e (q := (k, 2, 0, [], tl)) ⟨by decide, by decide, by decide, by decide⟩ hW24 hK24 hc24 hw hqk24 hz (gI_up hI (by omega) (by omega) (by omega)) hwo
            refine wa_cv 162 rfl (wy_pr rfl) wt_162 (M2 := mS [209, 210, 211, 212, 213]) rfl at_XO_choose ⟨_, rfl⟩ rfl rfl ⟨(Or.inr ⟨wy_pr rfl, mS_no rfl⟩), (Or.inr ⟨wy_pr rfl, mS_no rfl⟩), trivial, trivial, trivial⟩ trivial (fun _ _ q => q) (hcz24) (fun oq24 Sq24 hp25 q24 => ?_)
            rcases q24 with ⟨rfl, hcq24, ff24, gg24, rr24⟩
            show wJ _ _ _ _ _ _ _ _ _ _
            refine wa_istore (n := 4) rfl ?_
            refine wa_goto ⟨_, rfl⟩ ?_
            refine wa_aload_n (n := 0) rfl ?_
            refine wb_gfi 158 rfl (wy_pr rfl) wt_158 wf_5_7 (v := 6) (((ff24 158 7 (by omega) (by unfold wG; omega) (by omega) (by omega) (by omega)).trans ((w_up_slot (by decide)).trans (l7)))) (fun r26 => ?_)
            refine wa_ifeq (w_rg0 (by omega) (by omega)) ⟨_, rfl⟩ (fun c27 => ?_) (fun c27 => ?_)
            · skip
              exact absurd c27 (by omega)
            · skip
              refine wa_iload (n := 4) rfl ?_
              refine wa_iflt (w_rg0 (by omega) (by omega)) ⟨_, rfl⟩ (fun c28 => ?_) (fun c28 => ?_)
              · skip
                refine wa_iload (n := 4) rfl ?_
                refine wa_iconst ?_
                refine wa_icmpne (w_rg0 (by omega) (by omega)) (w_rg0 (by omega) (by omega)) ⟨_, rfl⟩ (fun c29 => ?_) (fun c29 => ?_)
                · skip
                  refine wa_iload (n := 4) rfl ?_
                  refine wa_ifge (w_rg0 (by omega) (by omega)) ⟨_, rfl⟩ (fun c30 => ?_) (fun c30 => ?_)
                  · skip
                    exact absurd c30 (by omega)
                  · skip
                    refine wa_aload_n (n := 0) rfl ?_
                    refine wb_gf5 158 rfl (wy_pr rfl) wt_158 wf_5_4 (v := 215) (((ff24 158 4 (by omega) (by unfold wG; omega) (by omega) (by omega) (by omega)).trans ((w_up_slot (by decide)).trans (l4)))) (fun r31 => ?_)
                    refine wa_iload (n := 4) rfl ?_
                    refine wa_iconst ?_
                    refine wa_icmpne (w_rg0 (by omega) (by omega)) (w_rg0 (by omega) (by omega)) ⟨_, rfl⟩ (fun c32 => ?_) (fun c32 => ?_)
                    · skip
                      refine wa_iload (n := 4) rfl ?_
                      refine wa_ineg ?_
                      refine wa_fall ⟨_, rfl⟩ ?_
                      refine wb_pfi 215 rfl (wy_pr rfl) wt_215 wf_8_16 (n := 16) rfl ⟨(by omega), (by omega)⟩ ?_
                      refine wa_fall ⟨_, rfl⟩ ?_
                      refine wa_aload_n (n := 0) rfl ?_
                      refine wb_gf4 158 rfl (wy_pr rfl) wt_158 wf_5_3 (v := 47) wl_158_3 ?_
                      refine wa_iconst ?_
                      refine wb_aald5 47 3 rfl rfl (wy_pr rfl) wt_47 (by rw [show _ = _ from ((w_up_slot (by decide)).trans (((ff24 47 (-1) (by omega) (by unfold wG; omega) (by omega) (by omega) (by omega)).trans ((w_up_slot (by decide)).trans ((cl_47 hC))))))]; omega) wl_47_3 ?_
                      refine wa_aload_n (n := 0) rfl ?_
                      refine wb_gfi 158 rfl (wy_pr rfl) wt_158 wf_5_14 (v := fo) ((w_up_slot (by decide)).trans (((ff24 158 14 (by omega) (by unfold wG; omega) (by omega) (by omega) (by omega)).trans ((w_up_slot (by decide)).trans (l14))))) (fun r33 => ?_)
                      refine wa_iload (n := 4) rfl ?_
                      refine wb_iast 51 rfl (wy_pr rfl) wt_51 (n := (S 48 (-1))) ((w_up_slot (by decide)).trans (((ff24 51 (-1) (by omega) (by unfold wG; omega) (by omega) (by omega) (by omega)).trans ((w_up_slot (by decide)).trans ((hl.2.2.1 3 (by decide))))))) (by omega) (by omega) ⟨(by omega), (by omega)⟩ ?_
                      refine wa_return rfl ?_
                      have fE : ∀ (j : Nat) (x : Int), j < 4000000 → j ≠ wG → ¬ lahM 162 209 210 215 fo j x → (w_up (w_up Sq24 215 16 (-rv)) 51 fo rv) j x = S j x := fun j x j0 j1 hj => ((w_up_no (lah_m (j2 := 51) (x2 := fo) hj (Or.inl ⟨by omega, by omega, rfl⟩))).trans ((w_up_no (lah_m (j2 := 215) (x2 := 16) hj (Or.inr ⟨rfl, rfl⟩))).trans (((ff24 j x j0 j1 (lah_f hj).1 (lah_f hj).2.1 (lah_f hj).2.2).trans ((w_up_no (lah_m (j2 := 49) (x2 := fo) hj (Or.inl ⟨by omega, by omega, rfl⟩))))))))
                      have hcE := cCh_ag hcq24 (Z := (w_up (w_up Sq24 215 16 (-rv)) 51 fo rv)) (fun j x hj => ((w_up_no (by omega)).trans (w_up_no (by omega))))
                      refine ⟨rfl, fun z => absurd z (by omega), fun _ => ?_, hcE, fE, (gI_up (gI_up gg24 (by omega) (by omega) (by omega)) (by omega) (by omega) (by omega)), (rmR_up (rmR_up (rmR_tr (rmR_up hR (by omega) (by first | decide | omega)) rr24) (by omega) (by first | decide | omega)) (by omega) (by first | decide | omega))⟩
                      refine (((w_up_slot (by first | decide | omega)).trans (w_up_same _ _ _ _)) : (w_up (w_up Sq24 215 16 (-rv)) 51 fo rv) 215 16 = (-rv)).trans ?_
                      first | omega | (rw [if_pos (by omega)]) | (rw [if_neg (by omega)])
                    · skip
                      exact absurd c32 (by omega)
                · skip
                  refine wa_aload_n (n := 0) rfl ?_
                  refine wb_gfi 158 rfl (wy_pr rfl) wt_158 wf_5_7 (v := 6) (((ff24 158 7 (by omega) (by unfold wG; omega) (by omega) (by omega) (by omega)).trans ((w_up_slot (by decide)).trans (l7)))) (fun r34 => ?_)
                  refine wa_ifeq (w_rg0 (by omega) (by omega)) ⟨_, rfl⟩ (fun c35 => ?_) (fun c35 => ?_)
                  · skip
                    exact absurd c35 (by omega)
                  · skip
                    refine wa_aload_n (n := 0) rfl ?_
                    refine wb_gfi 158 rfl (wy_pr rfl) wt_158 wf_5_7 (v := 6) (((ff24 158 7 (by omega) (by unfold wG; omega) (by omega) (by omega) (by omega)).trans ((w_up_slot (by decide)).trans (l7)))) (fun r36 => ?_)
                    refine wa_iconst ?_
                    refine wa_icmpne (w_rg0 (by omega) (by omega)) (w_rg0 (by omega) (by omega)) ⟨_, rfl⟩ (fun c37 => ?_) (fun c37 => ?_)
                    · skip
                      refine wa_iload (n := 4) rfl ?_
                      refine wa_ifge (w_rg0 (by omega) (by omega)) ⟨_, rfl⟩ (fun c38 => ?_) (fun c38 => ?_)
                      · skip
                        exact absurd c38 (by omega)
                      · skip
                        refine wa_aload_n (n := 0) rfl ?_
                        refine wb_gf5 158 rfl (wy_pr rfl) wt_158 wf_5_4 (v := 215) (((ff24 158 4 (by omega) (by unfold wG; omega) (by omega) (by omega) (by omega)).trans ((w_up_slot (by decide)).trans (l4)))) (fun r39 => ?_)
                        refine wa_iload (n := 4) rfl ?_
                        refine wa_iconst ?_
                        refine wa_icmpne (w_rg0 (by omega) (by omega)) (w_rg0 (by omega) (by omega)) ⟨_, rfl⟩ (fun c40 => ?_) (fun c40 => ?_)
                        · skip
                          exact absurd c40 (by omega)
                        · skip
                          refine wa_iconst ?_
                          refine wa_goto ⟨_, rfl⟩ ?_
                          refine wb_pfi 215 rfl (wy_pr rfl) wt_215 wf_8_16 (n := 16) rfl ⟨(by omega), (by omega)⟩ ?_
                          refine wa_fall ⟨_, rfl⟩ ?_
                          refine wa_aload_n (n := 0) rfl ?_
                          refine wb_gf4 158 rfl (wy_pr rfl) wt_158 wf_5_3 (v := 47) wl_158_3 ?_
                          refine wa_iconst ?_
                          refine wb_aald5 47 3 rfl rfl (wy_pr rfl) wt_47 (by rw [show _ = _ from ((w_up_slot (by decide)).trans (((ff24 47 (-1) (by omega) (by unfold wG; omega) (by omega) (by omega) (by omega)).trans ((w_up_slot (by decide)).trans ((cl_47 hC))))))]; omega) wl_47_3 ?_
                          refine wa_aload_n (n := 0) rfl ?_
                          refine wb_gfi 158 rfl (wy_pr rfl) wt_158 wf_5_14 (v := fo) ((w_up_slot (by decide)).trans (((ff24 158 14 (by omega) (by unfold wG; omega) (by omega) (by omega) (by omega)).trans ((w_up_slot (by decide)).trans (l14))))) (fun r41 => ?_)
                          refine wa_iload (n := 4) rfl ?_
                          refine wb_iast 51 rfl (wy_pr rfl) wt_51 (n := (S 48 (-1))) ((w_up_slot (by decide)).trans (((ff24 51 (-1) (by omega) (by unfold wG; omega) (by omega) (by omega) (by omega)).trans ((w_up_slot (by decide)).trans ((hl.2.2.1 3 (by decide))))))) (by omega) (by omega) ⟨(by omega), (by omega)⟩ ?_
                          refine wa_return rfl ?_
                          have fE : ∀ (j : Nat) (x : Int), j < 4000000 → j ≠ wG → ¬ lahM 162 209 210 215 fo j x → (w_up (w_up Sq24 215 16 4) 51 fo rv) j x = S j x := fun j x j0 j1 hj => ((w_up_no (lah_m (j2 := 51) (x2 := fo) hj (Or.inl ⟨by omega, by omega, rfl⟩))).trans ((w_up_no (lah_m (j2 := 215) (x2 := 16) hj (Or.inr ⟨rfl, rfl⟩))).trans (((ff24 j x j0 j1 (lah_f hj).1 (lah_f hj).2.1 (lah_f hj).2.2).trans ((w_up_no (lah_m (j2 := 49) (x2 := fo) hj (Or.inl ⟨by omega, by omega, rfl⟩))))))))
                          have hcE := cCh_ag hcq24 (Z := (w_up (w_up Sq24 215 16 4) 51 fo rv)) (fun j x hj => ((w_up_no (by omega)).trans (w_up_no (by omega))))
                          refine ⟨rfl, fun z => absurd z (by omega), fun _ => ?_, hcE, fE, (gI_up (gI_up gg24 (by omega) (by omega) (by omega)) (by omega) (by omega) (by omega)), (rmR_up (rmR_up (rmR_tr (rmR_up hR (by omega) (by first | decide | omega)) rr24) (by omega) (by first | decide | omega)) (by omega) (by first | decide | omega))⟩
                          refine (((w_up_slot (by first | decide | omega)).trans (w_up_same _ _ _ _)) : (w_up (w_up Sq24 215 16 4) 51 fo rv) 215 16 = 4).trans ?_
                          first | omega | (rw [if_pos (by omega)]) | (rw [if_neg (by omega)])
                    · skip
                      exact absurd c37 (by omega)
              · skip
                refine wa_aload_n (n := 0) rfl ?_
                refine wb_gf4 158 rfl (wy_pr rfl) wt_158 wf_5_3 (v := 47) wl_158_3 ?_
                refine wa_bipush (w_rg2 (by omega) (by omega)) ?_
                refine wb_aald5 47 7 rfl rfl (wy_pr rfl) wt_47 (by rw [show _ = _ from (((ff24 47 (-1) (by omega) (by unfold wG; omega) (by omega) (by omega) (by omega)).trans ((w_up_slot (by decide)).trans ((cl_47 hC)))))]; omega) wl_47_7 ?_
                refine wa_aload_n (n := 0) rfl ?_
                refine wb_gfi 158 rfl (wy_pr rfl) wt_158 wf_5_14 (v := fo) (((ff24 158 14 (by omega) (by unfold wG; omega) (by omega) (by omega) (by omega)).trans ((w_up_slot (by decide)).trans (l14)))) (fun r42 => ?_)
                refine wa_aload_n (n := 0) rfl ?_
                refine wb_gfl 158 rfl (wy_pr rfl) wt_158 wf_5_13 (v := (esV tl)) (((ff24 158 13 (by omega) (by unfold wG; omega) (by omega) (by omega) (by omega)).trans ((w_up_slot (by decide)).trans (l13)))) (fun r43 => ?_)
                refine wa_l2i ?_
                refine wb_iast 55 rfl (wy_pr rfl) wt_55 (n := (S 48 (-1))) (((ff24 55 (-1) (by omega) (by unfold wG; omega) (by omega) (by omega) (by omega)).trans ((w_up_slot (by decide)).trans ((hl.2.2.1 7 (by decide)))))) (by omega) (by omega) ⟨(by omega), (by omega)⟩ ?_
                refine wa_aload_n (n := 0) rfl ?_
                refine wb_gf4 158 rfl (wy_pr rfl) wt_158 wf_5_3 (v := 47) wl_158_3 ?_
                refine wa_bipush (w_rg2 (by omega) (by omega)) ?_
                refine wb_aald5 47 8 rfl rfl (wy_pr rfl) wt_47 (by rw [show _ = _ from ((w_up_slot (by decide)).trans (((ff24 47 (-1) (by omega) (by unfold wG; omega) (by omega) (by omega) (by omega)).trans ((w_up_slot (by decide)).trans ((cl_47 hC))))))]; omega) wl_47_8 ?_
                refine wa_aload_n (n := 0) rfl ?_
                refine wb_gfi 158 rfl (wy_pr rfl) wt_158 wf_5_14 (v := fo) ((w_up_slot (by decide)).trans (((ff24 158 14 (by omega) (by unfold wG; omega) (by omega) (by omega) (by omega)).trans ((w_up_slot (by decide)).trans (l14))))) (fun r44 => ?_)
                refine wa_aload_n (n := 0) rfl ?_
                refine wb_gfl 158 rfl (wy_pr rfl) wt_158 wf_5_13 (v := (esV tl)) ((w_up_slot (by decide)).trans (((ff24 158 13 (by omega) (by unfold wG; omega) (by omega) (by omega) (by omega)).trans ((w_up_slot (by decide)).trans (l13))))) (fun r45 => ?_)
                refine wa_bipush (w_rg2 (by omega) (by omega)) ?_
                refine wa_lushr ?_
                refine wa_l2i ?_
                refine wb_iast 56 rfl (wy_pr rfl) wt_56 (n := (S 48 (-1))) ((w_up_slot (by decide)).trans (((ff24 56 (-1) (by omega) (by unfold wG; omega) (by omega) (by omega) (by omega)).trans ((w_up_slot (by decide)).trans ((hl.2.2.1 8 (by decide))))))) (by omega) (by omega) ⟨(by omega), (by omega)⟩ ?_
                refine wa_fall ⟨_, rfl⟩ ?_
                refine wa_iload (n := 4) rfl ?_
                refine wa_iconst ?_
                refine wa_icmpne (w_rg0 (by omega) (by omega)) (w_rg0 (by omega) (by omega)) ⟨_, rfl⟩ (fun c46 => ?_) (fun c46 => ?_)
                · skip
                  refine wa_iload (n := 4) rfl ?_
                  refine wa_ifge (w_rg0 (by omega) (by omega)) ⟨_, rfl⟩ (fun c47 => ?_) (fun c47 => ?_)
                  · skip
                    refine wa_aload_n (n := 0) rfl ?_
                    refine wb_gf4 158 rfl (wy_pr rfl) wt_158 wf_5_3 (v := 47) wl_158_3 ?_
                    refine wa_iconst ?_
                    refine wb_aald5 47 3 rfl rfl (wy_pr rfl) wt_47 (by rw [show _ = _ from ((w_up_slot (by decide)).trans ((w_up_slot (by decide)).trans (((ff24 47 (-1) (by omega) (by unfold wG; omega) (by omega) (by omega) (by omega)).trans ((w_up_slot (by decide)).trans ((cl_47 hC)))))))]; omega) wl_47_3 ?_
                    refine wa_aload_n (n := 0) rfl ?_
                    refine wb_gfi 158 rfl (wy_pr rfl) wt_158 wf_5_14 (v := fo) ((w_up_slot (by decide)).trans ((w_up_slot (by decide)).trans (((ff24 158 14 (by omega) (by unfold wG; omega) (by omega) (by omega) (by omega)).trans ((w_up_slot (by decide)).trans (l14)))))) (fun r48 => ?_)
                    refine wa_iload (n := 4) rfl ?_
                    refine wb_iast 51 rfl (wy_pr rfl) wt_51 (n := (S 48 (-1))) ((w_up_slot (by decide)).trans ((w_up_slot (by decide)).trans (((ff24 51 (-1) (by omega) (by unfold wG; omega) (by omega) (by omega) (by omega)).trans ((w_up_slot (by decide)).trans ((hl.2.2.1 3 (by decide)))))))) (by omega) (by omega) ⟨(by omega), (by omega)⟩ ?_
                    refine wa_return rfl ?_
                    have fE : ∀ (j : Nat) (x : Int), j < 4000000 → j ≠ wG → ¬ lahM 162 209 210 215 fo j x → (w_up (w_up (w_up Sq24 55 fo (wb_l2i (esV tl))) 56 fo (wb_l2i (wb_lushr (esV tl) 32))) 51 fo rv) j x = S j x := fun j x j0 j1 hj => ((w_up_no (lah_m (j2 := 51) (x2 := fo) hj (Or.inl ⟨by omega, by omega, rfl⟩))).trans ((w_up_no (lah_m (j2 := 56) (x2 := fo) hj (Or.inl ⟨by omega, by omega, rfl⟩))).trans ((w_up_no (lah_m (j2 := 55) (x2 := fo) hj (Or.inl ⟨by omega, by omega, rfl⟩))).trans (((ff24 j x j0 j1 (lah_f hj).1 (lah_f hj).2.1 (lah_f hj).2.2).trans ((w_up_no (lah_m (j2 := 49) (x2 := fo) hj (Or.inl ⟨by omega, by omega, rfl⟩)))))))))
                    have hcE := cCh_ag hcq24 (Z := (w_up (w_up (w_up Sq24 55 fo (wb_l2i (esV tl))) 56 fo (wb_l2i (wb_lushr (esV tl) 32))) 51 fo rv)) (fun j x hj => ((w_up_no (by omega)).trans ((w_up_no (by omega)).trans (w_up_no (by omega)))))
                    refine ⟨rfl, fun _ => ⟨?_, ((w_up_slot (by first | decide | omega)).trans ((w_up_slot (by first | decide | omega)).trans ((w_up_slot (by first | decide | omega)).trans (((ff24 215 16 (by omega) (by unfold wG; omega) (by omega) (by omega) (by omega)).trans (w_up_slot (by first | decide | omega)))))))⟩, fun z => absurd z (by omega), hcE, fE, (gI_up (gI_up (gI_up gg24 (by omega) (by omega) (by omega)) (by omega) (by omega) (by omega)) (by omega) (by omega) (by omega)), (rmR_up (rmR_up (rmR_up (rmR_tr (rmR_up hR (by omega) (by first | decide | omega)) rr24) (by omega) (by first | decide | omega)) (by omega) (by first | decide | omega)) (by omega) (by first | decide | omega))⟩
                    refine ⟨⟨(((w_up_slot (by first | decide | omega)).trans ((w_up_slot (by first | decide | omega)).trans ((w_up_slot (by first | decide | omega)).trans (((ff24 48 fo (by omega) (by unfold wG; omega) (by omega) (by omega) (by omega)).trans (w_up_slot (by first | decide | omega))))))) : (w_up (w_up (w_up Sq24 55 fo (wb_l2i (esV tl))) 56 fo (wb_l2i (wb_lushr (esV tl) 32))) 51 fo rv) 48 fo = (S 48 fo)).trans b1, (((w_up_slot (by first | decide | omega)).trans ((w_up_slot (by first | decide | omega)).trans ((w_up_slot (by first | decide | omega)).trans (((ff24 49 fo (by omega) (by unfold wG; omega) (by omega) (by omega) (by omega)).trans (w_up_same _ _ _ _)))))) : (w_up (w_up (w_up Sq24 55 fo (wb_l2i (esV tl))) 56 fo (wb_l2i (wb_lushr (esV tl) 32))) 51 fo rv) 49 fo = k), (((w_up_slot (by first | decide | omega)).trans ((w_up_slot (by first | decide | omega)).trans ((w_up_slot (by first | decide | omega)).trans (((ff24 50 fo (by omega) (by unfold wG; omega) (by omega) (by omega) (by omega)).trans (w_up_slot (by first | decide | omega))))))) : (w_up (w_up (w_up Sq24 55 fo (wb_l2i (esV tl))) 56 fo (wb_l2i (wb_lushr (esV tl) 32))) 51 fo rv) 50 fo = (S 50 fo)).trans b3, ((w_up_same _ _ _ _) : (w_up (w_up (w_up Sq24 55 fo (wb_l2i (esV tl))) 56 fo (wb_l2i (wb_lushr (esV tl) 32))) 51 fo rv) 51 fo = rv), (((w_up_slot (by first | decide | omega)).trans ((w_up_slot (by first | decide | omega)).trans ((w_up_slot (by first | decide | omega)).trans (((ff24 52 fo (by omega) (by unfold wG; omega) (by omega) (by omega) (by omega)).trans (w_up_slot (by first | decide | omega))))))) : (w_up (w_up (w_up Sq24 55 fo (wb_l2i (esV tl))) 56 fo (wb_l2i (wb_lushr (esV tl) 32))) 51 fo rv) 52 fo = (S 52 fo)).trans b5⟩, ((((w_up_slot (by first | decide | omega)).trans ((w_up_slot (by first | decide | omega)).trans ((w_up_slot (by first | decide | omega)).trans (((ff24 53 fo (by omega) (by unfold wG; omega) (by omega) (by omega) (by omega)).trans (w_up_slot (by first | decide | omega))))))) : (w_up (w_up (w_up Sq24 55 fo (wb_l2i (esV tl))) 56 fo (wb_l2i (wb_lushr (esV tl) 32))) 51 fo rv) 53 fo = (S 53 fo)).trans b6).trans (if_neg (fun z => by have z1 := z.1; simp only [hoN] at z1; omega)).symm, ((((w_up_slot (by first | decide | omega)).trans ((w_up_slot (by first | decide | omega)).trans ((w_up_slot (by first | decide | omega)).trans (((ff24 54 fo (by omega) (by unfold wG; omega) (by omega) (by omega) (by omega)).trans (w_up_slot (by first | decide | omega))))))) : (w_up (w_up (w_up Sq24 55 fo (wb_l2i (esV tl))) 56 fo (wb_l2i (wb_lushr (esV tl) 32))) 51 fo rv) 54 fo = (S 54 fo)).trans b7).trans (if_neg (fun z => by have z1 := z.1; simp only [hoN] at z1; omega)).symm, ?_, ?_⟩
                    · exact (((w_up_slot (by first | decide | omega)).trans ((w_up_slot (by first | decide | omega)).trans (w_up_same _ _ _ _))) : (w_up (w_up (w_up Sq24 55 fo (wb_l2i (esV tl))) 56 fo (wb_l2i (wb_lushr (esV tl) 32))) 51 fo rv) 55 fo = (wb_l2i (esV tl))).trans (if_pos ⟨hll, by exact Or.inr (Or.inl rfl)⟩).symm
                    · exact (((w_up_slot (by first | decide | omega)).trans (w_up_same _ _ _ _)) : (w_up (w_up (w_up Sq24 55 fo (wb_l2i (esV tl))) 56 fo (wb_l2i (wb_lushr (esV tl) 32))) 51 fo rv) 56 fo = (wb_l2i (wb_lushr (esV tl) 32))).trans (if_pos ⟨hll, by exact Or.inr (Or.inl rfl)⟩).symm
                  · skip
                    exact absurd c47 (by omega)
                · skip
                  exact absurd c46 (by omega)
      · skip
        exact absurd c18 (by omega)
    · skip
      exact absurd c16 (by omega)
  · skip
    exact absurd c14 (by omega)
theorem lax_162_215 {k am kd fo : Int} (h72 : S 72 1 = 162) (hl : cSl S) (l4 : S 158 4 = 215) (l7 : S 158 7 = kd) (l14 : S 158 14 = fo) (hfo : 0 ≤ fo ∧ fo < S 48 (-1)) (hC : w_CL S) (hk : 0 ≤ k ∧ k < 60) (hkd : 2 ≤ kd ∧ kd ≤ 6 ∧ kd ≠ 5 ∧ (kd = 6 → am = 0)) (ham : am = 0 ∨ am = 1) : wJ (pe_GA xs) wY0 M (d + 6) t_XL_lookAtHost ((pe_at t_XL_lookAtHost.bl 0).getD (0, [])).2 [(0, (2, 158)), (1, (0, k)), (2, (0, am))] [] S (fun o Z => o = .inl none ∧ w_up (w_up S 49 fo k) 215 16 5 = Z) := by
  have h48 := hl.2.2.2
  refine wa_aload_n (n := 0) rfl ?_
  refine wb_gf4 158 rfl (wy_pr rfl) wt_158 wf_5_0 (v := 72) wl_158_0 ?_
  refine wb_gf5 72 rfl (wy_pr rfl) wt_72 wf_2_1 (v := 162) (h72) (fun r1 => ?_)
  refine wa_astore_n (n := 3) rfl ?_
  refine wa_aload_n (n := 0) rfl ?_
  refine wb_gf4 158 rfl (wy_pr rfl) wt_158 wf_5_3 (v := 47) wl_158_3 ?_
  refine wa_iconst ?_
  refine wb_aald5 47 1 rfl rfl (wy_pr rfl) wt_47 (by rw [show _ = _ from ((cl_47 hC))]; omega) wl_47_1 ?_
  refine wa_aload_n (n := 0) rfl ?_
  refine wb_gfi 158 rfl (wy_pr rfl) wt_158 wf_5_14 (v := fo) (l14) (fun r2 => ?_)
  refine wa_iload_n (n := 1) rfl ?_
  refine wb_iast 49 rfl (wy_pr rfl) wt_49 (n := (S 48 (-1))) ((hl.2.2.1 1 (by decide))) (by omega) (by omega) ⟨(by omega), (by omega)⟩ ?_
  refine wa_aload_n (n := 0) rfl ?_
  refine wb_gfi 158 rfl (wy_pr rfl) wt_158 wf_5_7 (v := kd) ((w_up_slot (by decide)).trans (l7)) (fun r3 => ?_)
  refine wa_ifne (w_rg0 (by omega) (by omega)) ⟨_, rfl⟩ (fun c4 => ?_) (fun c4 => ?_)
  · skip
    refine wa_aload_n (n := 0) rfl ?_
    refine wb_gfi 158 rfl (wy_pr rfl) wt_158 wf_5_7 (v := kd) ((w_up_slot (by decide)).trans (l7)) (fun r5 => ?_)
    refine wa_iconst ?_
    refine wa_icmpne (w_rg0 (by omega) (by omega)) (w_rg0 (by omega) (by omega)) ⟨_, rfl⟩ (fun c6 => ?_) (fun c6 => ?_)
    · skip
      refine wa_aload_n (n := 0) rfl ?_
      refine wb_gfi 158 rfl (wy_pr rfl) wt_158 wf_5_7 (v := kd) ((w_up_slot (by decide)).trans (l7)) (fun r7 => ?_)
      refine wa_iconst ?_
      refine wa_icmpne (w_rg0 (by omega) (by omega)) (w_rg0 (by omega) (by omega)) ⟨_, rfl⟩ (fun c8 => ?_) (fun c8 => ?_)
      · skip
        refine wa_aload_n (n := 0) rfl ?_
        refine wb_gfi 158 rfl (wy_pr rfl) wt_158 wf_5_7 (v := kd) ((w_up_slot (by decide)).trans (l7)) (fun r9 => ?_)
        refine wa_bipush (w_rg2 (by omega) (by omega)) ?_
        refine wa_icmpne (w_rg0 (by omega) (by omega)) (w_rg0 (by omega) (by omega)) ⟨_, rfl⟩ (fun c10 => ?_) (fun c10 => ?_)
        · skip
          refine wa_aload_n (n := 0) rfl ?_
          refine wb_gf5 158 rfl (wy_pr rfl) wt_158 wf_5_4 (v := 215) ((w_up_slot (by decide)).trans (l4)) (fun r11 => ?_)
          refine wa_iconst ?_
          refine wb_pfi 215 rfl (wy_pr rfl) wt_215 wf_8_16 (n := 16) rfl ⟨(by omega), (by omega)⟩ ?_
          refine wa_return rfl ?_
          exact ⟨rfl, rfl⟩
        · skip
          refine wa_iload_n (n := 2) rfl ?_
          refine wa_iconst ?_
          refine wa_icmpne (w_rg0 (by omega) (by omega)) (w_rg0 (by omega) (by omega)) ⟨_, rfl⟩ (fun c12 => ?_) (fun c12 => ?_)
          · skip
            refine wa_aload_n (n := 0) rfl ?_
            refine wb_gf5 158 rfl (wy_pr rfl) wt_158 wf_5_4 (v := 215) ((w_up_slot (by decide)).trans (l4)) (fun r13 => ?_)
            refine wa_iconst ?_
            refine wb_pfi 215 rfl (wy_pr rfl) wt_215 wf_8_16 (n := 16) rfl ⟨(by omega), (by omega)⟩ ?_
            refine wa_return rfl ?_
            exact ⟨rfl, rfl⟩
          · skip
            exfalso; omega
      · skip
        exact absurd c8 (by omega)
    · skip
      exact absurd c6 (by omega)
  · skip
    exact absurd c4 (by omega)
set_option maxHeartbeats 4000000 in
theorem lag_162_226 {k am l nm wk nms fo at0 wo mo : Int} {W tl : List Int} {CH : List aQ} (hC : w_CL S) (hK : KC 176 186 182 203 204 163 162 T cs ms os S) (hw : wHo cs ms os) (hX : w_X xs) (hI : gI S) (hN : hLn 162 163 nm wk W S) (h72 : S 72 1 = 162) (hc : cCh 162 210 209 163 T cs ms os CH wo mo S) (hWh : wd_at S 163 64) (hl : cSl S) (l4 : S 158 4 = 226) (l7 : S 158 7 = 0) (l14 : S 158 14 = fo) (hfo : 0 ≤ fo ∧ fo < S 48 (-1)) (hbl : blE l fo S) (hll : l = 1 ∨ l = 2) (hk : 0 ≤ k ∧ k < (cs.length : Int)) (ham : am = 0 ∨ am = 1) : wJ (pe_GA xs) wY0 (mS [209, 210, 211, 212, 213]) (d + 6) t_XL_lookAtHost ((pe_at t_XL_lookAtHost.bl 0).getD (0, [])).2 [(0, (2, 158)), (1, (0, k)), (2, (0, am))] [] S (lhQ 162 209 210 163 226 T cs ms os CH wo mo 0 nms fo (if gtA T cs ms os am W k = -1 then fdA T cs ms am W k else gtA T cs ms os am W k) (hoN l k (if gtA T cs ms os am W k = -1 then fdA T cs ms am W k else gtA T cs ms os am W k) 0 0 at0) S) := by
  have hR := rmR_rfl S
  have h48 := hl.2.2.2
  have hn := KC_n hK
  have hn2 := hn.2.2
  have h400 := hw.1
  obtain ⟨⟨b1, b2, b3, b4, b5⟩, b6, b7, b8, b9⟩ := hbl
  obtain ⟨fd, hfd⟩ : ∃ r : Int, r = fdA T cs ms am W k := ⟨_, rfl⟩
  have hfr := fdA_rg (T := T) (st := am) (W := W) hw hk
  rw [← hfd] at hfr ⊢
  obtain ⟨gt, hgt⟩ : ∃ r : Int, r = gtA T cs ms os am W k := ⟨_, rfl⟩
  have hgr := gtA_rg (T := T) (st := am) (W := W) hw hk
  rw [← hgt] at hgr ⊢
  refine wa_aload_n (n := 0) rfl ?_
  refine wb_gf4 158 rfl (wy_pr rfl) wt_158 wf_5_0 (v := 72) wl_158_0 ?_
  refine wb_gf5 72 rfl (wy_pr rfl) wt_72 wf_2_1 (v := 162) (h72) (fun r11 => ?_)
  refine wa_astore_n (n := 3) rfl ?_
  refine wa_aload_n (n := 0) rfl ?_
  refine wb_gf4 158 rfl (wy_pr rfl) wt_158 wf_5_3 (v := 47) wl_158_3 ?_
  refine wa_iconst ?_
  refine wb_aald5 47 1 rfl rfl (wy_pr rfl) wt_47 (by rw [show _ = _ from ((cl_47 hC))]; omega) wl_47_1 ?_
  refine wa_aload_n (n := 0) rfl ?_
  refine wb_gfi 158 rfl (wy_pr rfl) wt_158 wf_5_14 (v := fo) (l14) (fun r12 => ?_)
  refine wa_iload_n (n := 1) rfl ?_
  refine wb_iast 49 rfl (wy_pr rfl) wt_49 (n := (S 48 (-1))) ((hl.2.2.1 1 (by decide))) (by omega) (by omega) ⟨(by omega), (by omega)⟩ ?_
  refine wa_aload_n (n := 0) rfl ?_
  refine wb_gfi 158 rfl (wy_pr rfl) wt_158 wf_5_7 (v := 0) ((w_up_slot (by decide)).trans (l7)) (fun r13 => ?_)
  refine wa_ifne (w_rg0 (by omega) (by omega)) ⟨_, rfl⟩ (fun c14 => ?_) (fun c14 => ?_)
  · skip
    exact absurd c14 (by omega)
  · skip
    refine wa_aload_n (n := 0) rfl ?_
    refine wa_iload_n (n := 1) rfl ?_
    refine wa_iload_n (n := 2) rfl ?_
    have f15 : ∀ (j : Nat) (x : Int), j < 4000000 → j ≠ wG → ¬ lahC 162 209 210 fo j x → (w_up S 49 fo k) j x = S j x := fun j x j0 j1 hj => (w_up_no (lah_n (j2 := 49) (x2 := fo) hj (⟨by omega, by omega, rfl⟩)))
    have hc15 : cCh 162 210 209 163 T cs ms os CH wo mo (w_up S 49 fo k) := cCh_ag hc (fun j x hj => (w_up_no (by omega)))
    have hC15 : w_CL (w_up S 49 fo k) := lhC_162 hC hc15 hfo.1 f15
    have hN15 : hLn 162 163 nm wk W (w_up S 49 fo k) := hLn_ag hN (fun j x hj => f15 j x (by omega) (by unfold wG; omega) (by unfold lahC lahA; omega))
    have hK15 : KC 176 186 182 203 204 163 162 T cs ms os (w_up S 49 fo k) := KC_ag hK (f15 162 2 (by omega) (by unfold wG; omega) (by unfold lahC lahA; omega)) (f15 162 4 (by omega) (by unfold wG; omega) (by unfold lahC lahA; omega)) (fun j hj => funext (fun x => f15 j x (by omega) (by unfold wG; omega) (by unfold lahC lahA; omega)))
    have hW15 : wd_at (w_up S 49 fo k) 163 64 := wda_a9 hWh (fun j x j0 j1 => f15 j x (by omega) (by unfold wG; omega) (by unfold lahC lahA; omega))
    refine wa_cv 158 rfl (wy_pr rfl) wt_158 (M2 := fun _ => False) rfl at_XL_getter ⟨_, rfl⟩ rfl rfl ⟨(Or.inr ⟨wy_pr rfl, fun q => q⟩), (Or.inr ⟨wy_pr rfl, fun q => q⟩), trivial, trivial, trivial⟩ trivial (fun _ _ q => False.elim q) (wJ_mono (gtr_162 (S := (w_up S 49 fo k)) (k := k) (st := am) (d := d) hC15 hK15 hw hX (gI_up hI (by omega) (by omega) (by omega)) hN15 hk ham) (fun o Z hz => (⟨hz.1, hz.2.1, hz.2.2.1, by rw [hgt]; exact hz.2.2.2⟩ : sc_ag 159 (w_up S 49 fo k) Z ∧ gI Z ∧ rmR (w_up S 49 fo k) Z ∧ o = .inl (some (0, gt))))) (fun oq15 Sq15 hp16 q15 => ?_)
    rcases q15 with ⟨fz15, gz15, rz15, rfl⟩
    show wJ _ _ _ _ _ _ _ _ _ _
    refine wa_istore (n := 4) rfl ?_
    refine wa_goto ⟨_, rfl⟩ ?_
    refine wa_aload_n (n := 0) rfl ?_
    refine wb_gfi 158 rfl (wy_pr rfl) wt_158 wf_5_7 (v := 0) (((fz15 158 7 (by omega)).trans ((w_up_slot (by decide)).trans (l7)))) (fun r17 => ?_)
    refine wa_ifeq (w_rg0 (by omega) (by omega)) ⟨_, rfl⟩ (fun c18 => ?_) (fun c18 => ?_)
    · skip
      refine wa_iload (n := 4) rfl ?_
      refine wa_iconst ?_
      refine wa_icmpne (w_rg0 (by omega) (by omega)) (w_rg0 (by omega) (by omega)) ⟨_, rfl⟩ (fun c19 => ?_) (fun c19 => ?_)
      · skip
        refine wa_iload (n := 4) rfl ?_
        refine wa_ifge (w_rg0 (by omega) (by omega)) ⟨_, rfl⟩ (fun c20 => ?_) (fun c20 => ?_)
        · skip
          refine wa_aload_n (n := 0) rfl ?_
          refine wb_gf4 158 rfl (wy_pr rfl) wt_158 wf_5_3 (v := 47) wl_158_3 ?_
          refine wa_iconst ?_
          refine wb_aald5 47 3 rfl rfl (wy_pr rfl) wt_47 (by rw [show _ = _ from (((fz15 47 (-1) (by omega)).trans ((w_up_slot (by decide)).trans ((cl_47 hC)))))]; omega) wl_47_3 ?_
          refine wa_aload_n (n := 0) rfl ?_
          refine wb_gfi 158 rfl (wy_pr rfl) wt_158 wf_5_14 (v := fo) (((fz15 158 14 (by omega)).trans ((w_up_slot (by decide)).trans (l14)))) (fun r21 => ?_)
          refine wa_iload (n := 4) rfl ?_
          refine wb_iast 51 rfl (wy_pr rfl) wt_51 (n := (S 48 (-1))) (((fz15 51 (-1) (by omega)).trans ((w_up_slot (by decide)).trans ((hl.2.2.1 3 (by decide)))))) (by omega) (by omega) ⟨(by omega), (by omega)⟩ ?_
          refine wa_return rfl ?_
          have fE : ∀ (j : Nat) (x : Int), j < 4000000 → j ≠ wG → ¬ lahM 162 209 210 226 fo j x → (w_up Sq15 51 fo gt) j x = S j x := fun j x j0 j1 hj => ((w_up_no (lah_m (j2 := 51) (x2 := fo) hj (Or.inl ⟨by omega, by omega, rfl⟩))).trans (((fz15 j x (lah_d hj)).trans ((w_up_no (lah_m (j2 := 49) (x2 := fo) hj (Or.inl ⟨by omega, by omega, rfl⟩)))))))
          have hcE : cCh 162 210 209 163 T cs ms os CH wo mo (w_up Sq15 51 fo gt) := cCh_ag hc (fun j x hj => ((w_up_no (by omega)).trans ((fz15 j x (by omega)).trans (w_up_no (by omega)))))
          have hwh : (if gt = -1 then fd else gt) = gt := by first | exact if_pos (by omega) | exact if_neg (by omega)
          rw [hwh]
          refine ⟨rfl, fun _ => ⟨?_, ((w_up_slot (by first | decide | omega)).trans (((fz15 226 16 (by omega)).trans (w_up_slot (by first | decide | omega)))))⟩, fun z => absurd z (by omega), hcE, fE, (gI_up gz15 (by omega) (by omega) (by omega)), (rmR_up (rmR_tr (rmR_up hR (by omega) (by first | decide | omega)) rz15) (by omega) (by first | decide | omega))⟩
          refine ⟨⟨(((w_up_slot (by first | decide | omega)).trans (((fz15 48 fo (by omega)).trans (w_up_slot (by first | decide | omega))))) : (w_up Sq15 51 fo gt) 48 fo = (S 48 fo)).trans b1, (((w_up_slot (by first | decide | omega)).trans (((fz15 49 fo (by omega)).trans (w_up_same _ _ _ _)))) : (w_up Sq15 51 fo gt) 49 fo = k), (((w_up_slot (by first | decide | omega)).trans (((fz15 50 fo (by omega)).trans (w_up_slot (by first | decide | omega))))) : (w_up Sq15 51 fo gt) 50 fo = (S 50 fo)).trans b3, ((w_up_same _ _ _ _) : (w_up Sq15 51 fo gt) 51 fo = gt), (((w_up_slot (by first | decide | omega)).trans (((fz15 52 fo (by omega)).trans (w_up_slot (by first | decide | omega))))) : (w_up Sq15 51 fo gt) 52 fo = (S 52 fo)).trans b5⟩, ((((w_up_slot (by first | decide | omega)).trans (((fz15 53 fo (by omega)).trans (w_up_slot (by first | decide | omega))))) : (w_up Sq15 51 fo gt) 53 fo = (S 53 fo)).trans b6).trans (if_neg (fun z => by have z1 := z.1; simp only [hoN] at z1; omega)).symm, ((((w_up_slot (by first | decide | omega)).trans (((fz15 54 fo (by omega)).trans (w_up_slot (by first | decide | omega))))) : (w_up Sq15 51 fo gt) 54 fo = (S 54 fo)).trans b7).trans (if_neg (fun z => by have z1 := z.1; simp only [hoN] at z1; omega)).symm, ?_, ?_⟩
          · exact ((((w_up_slot (by first | decide | omega)).trans (((fz15 55 fo (by omega)).trans (w_up_slot (by first | decide | omega))))) : (w_up Sq15 51 fo gt) 55 fo = (S 55 fo)).trans b8).trans (if_neg (fun z => by rcases z.2 with y | y | y; exact absurd y (by first | decide | omega); exact absurd y (by first | decide | omega); exact absurd y.2 (by simp only [hoN]; decide))).symm
          · exact ((((w_up_slot (by first | decide | omega)).trans (((fz15 56 fo (by omega)).trans (w_up_slot (by first | decide | omega))))) : (w_up Sq15 51 fo gt) 56 fo = (S 56 fo)).trans b9).trans (if_neg (fun z => by rcases z.2 with y | y | y; exact absurd y (by first | decide | omega); exact absurd y (by first | decide | omega); exact absurd y.2 (by simp only [hoN]; decide))).symm
        · skip
          refine wa_aload_n (n := 0) rfl ?_
          refine wb_gf5 158 rfl (wy_pr rfl) wt_158 wf_5_4 (v := 226) (((fz15 158 4 (by omega)).trans ((w_up_slot (by decide)).trans (l4)))) (fun r22 => ?_)
          refine wa_iload (n := 4) rfl ?_
          refine wa_iconst ?_
          refine wa_icmpne (w_rg0 (by omega) (by omega)) (w_rg0 (by omega) (by omega)) ⟨_, rfl⟩ (fun c23 => ?_) (fun c23 => ?_)
          · skip
            refine wa_iload (n := 4) rfl ?_
            refine wa_ineg ?_
            refine wa_fall ⟨_, rfl⟩ ?_
            refine wb_pfi 226 rfl (wy_pr rfl) wt_226 wf_8_16 (n := 16) rfl ⟨(by omega), (by omega)⟩ ?_
            refine wa_fall ⟨_, rfl⟩ ?_
            refine wa_aload_n (n := 0) rfl ?_
            refine wb_gf4 158 rfl (wy_pr rfl) wt_158 wf_5_3 (v := 47) wl_158_3 ?_
            refine wa_iconst ?_
            refine wb_aald5 47 3 rfl rfl (wy_pr rfl) wt_47 (by rw [show _ = _ from ((w_up_slot (by decide)).trans (((fz15 47 (-1) (by omega)).trans ((w_up_slot (by decide)).trans ((cl_47 hC))))))]; omega) wl_47_3 ?_
            refine wa_aload_n (n := 0) rfl ?_
            refine wb_gfi 158 rfl (wy_pr rfl) wt_158 wf_5_14 (v := fo) ((w_up_slot (by decide)).trans (((fz15 158 14 (by omega)).trans ((w_up_slot (by decide)).trans (l14))))) (fun r24 => ?_)
            refine wa_iload (n := 4) rfl ?_
            refine wb_iast 51 rfl (wy_pr rfl) wt_51 (n := (S 48 (-1))) ((w_up_slot (by decide)).trans (((fz15 51 (-1) (by omega)).trans ((w_up_slot (by decide)).trans ((hl.2.2.1 3 (by decide))))))) (by omega) (by omega) ⟨(by omega), (by omega)⟩ ?_
            refine wa_return rfl ?_
            have fE : ∀ (j : Nat) (x : Int), j < 4000000 → j ≠ wG → ¬ lahM 162 209 210 226 fo j x → (w_up (w_up Sq15 226 16 (-gt)) 51 fo gt) j x = S j x := fun j x j0 j1 hj => ((w_up_no (lah_m (j2 := 51) (x2 := fo) hj (Or.inl ⟨by omega, by omega, rfl⟩))).trans ((w_up_no (lah_m (j2 := 226) (x2 := 16) hj (Or.inr ⟨rfl, rfl⟩))).trans (((fz15 j x (lah_d hj)).trans ((w_up_no (lah_m (j2 := 49) (x2 := fo) hj (Or.inl ⟨by omega, by omega, rfl⟩))))))))
            have hcE : cCh 162 210 209 163 T cs ms os CH wo mo (w_up (w_up Sq15 226 16 (-gt)) 51 fo gt) := cCh_ag hc (fun j x hj => ((w_up_no (by omega)).trans ((w_up_no (by omega)).trans ((fz15 j x (by omega)).trans (w_up_no (by omega))))))
            have hwh : (if gt = -1 then fd else gt) = gt := by first | exact if_pos (by omega) | exact if_neg (by omega)
            rw [hwh]
            refine ⟨rfl, fun z => absurd z (by omega), fun _ => ?_, hcE, fE, (gI_up (gI_up gz15 (by omega) (by omega) (by omega)) (by omega) (by omega) (by omega)), (rmR_up (rmR_up (rmR_tr (rmR_up hR (by omega) (by first | decide | omega)) rz15) (by omega) (by first | decide | omega)) (by omega) (by first | decide | omega))⟩
            refine (((w_up_slot (by first | decide | omega)).trans (w_up_same _ _ _ _)) : (w_up (w_up Sq15 226 16 (-gt)) 51 fo gt) 226 16 = (-gt)).trans ?_
            first | omega | (rw [if_pos (by omega)]) | (rw [if_neg (by omega)])
          · skip
            exact absurd c23 (by omega)
      · skip
        refine wa_aload_n (n := 0) rfl ?_
        refine wb_gfi 158 rfl (wy_pr rfl) wt_158 wf_5_7 (v := 0) (((fz15 158 7 (by omega)).trans ((w_up_slot (by decide)).trans (l7)))) (fun r25 => ?_)
        refine wa_ifeq (w_rg0 (by omega) (by omega)) ⟨_, rfl⟩ (fun c26 => ?_) (fun c26 => ?_)
        · skip
          refine wa_aload_n (n := 0) rfl ?_
          refine wa_iload_n (n := 1) rfl ?_
          refine wa_iload_n (n := 2) rfl ?_
          have f27 : ∀ (j : Nat) (x : Int), j < 4000000 → j ≠ wG → ¬ lahC 162 209 210 fo j x → Sq15 j x = S j x := fun j x j0 j1 hj => (((fz15 j x (lah_c hj)).trans ((w_up_no (lah_n (j2 := 49) (x2 := fo) hj (⟨by omega, by omega, rfl⟩))))))
          have hc27 : cCh 162 210 209 163 T cs ms os CH wo mo Sq15 := cCh_ag hc (fun j x hj => ((fz15 j x (by omega)).trans (w_up_no (by omega))))
          have hC27 : w_CL Sq15 := lhC_162 hC hc27 hfo.1 f27
          have hN27 : hLn 162 163 nm wk W Sq15 := hLn_ag hN (fun j x hj => f27 j x (by omega) (by unfold wG; omega) (by unfold lahC lahA; omega))
          have hK27 : KC 176 186 182 203 204 163 162 T cs ms os Sq15 := KC_ag hK (f27 162 2 (by omega) (by unfold wG; omega) (by unfold lahC lahA; omega)) (f27 162 4 (by omega) (by unfold wG; omega) (by unfold lahC lahA; omega)) (fun j hj => funext (fun x => f27 j x (by omega) (by unfold wG; omega) (by unfold lahC lahA; omega)))
          have hW27 : wd_at Sq15 163 64 := wda_a9 hWh (fun j x j0 j1 => f27 j x (by omega) (by unfold wG; omega) (by unfold lahC lahA; omega))
          refine wa_cv 158 rfl (wy_pr rfl) wt_158 (M2 := fun _ => False) rfl at_XL_fieldOf ⟨_, rfl⟩ rfl rfl ⟨trivial, (Or.inr ⟨wy_pr rfl, fun q => q⟩), (Or.inr ⟨wy_pr rfl, fun q => q⟩), trivial, trivial, trivial⟩ trivial (fun _ _ q => False.elim q) (wJ_mono (fof_162 (S := Sq15) (k := k) (st := am) (d := d) hC27 hK27 hw hX gz15 hN27 hk ham) (fun o Z hz => (⟨hz.1, hz.2.1, hz.2.2.1, by rw [hfd]; exact hz.2.2.2⟩ : sc_ag 159 Sq15 Z ∧ gI Z ∧ rmR Sq15 Z ∧ o = .inl (some (0, fd))))) (fun oq27 Sq27 hp28 q27 => ?_)
          rcases q27 with ⟨fz27, gz27, rz27, rfl⟩
          show wJ _ _ _ _ _ _ _ _ _ _
          refine wa_istore (n := 4) rfl ?_
          refine wa_fall ⟨_, rfl⟩ ?_
          refine wa_iload (n := 4) rfl ?_
          refine wa_ifge (w_rg0 (by omega) (by omega)) ⟨_, rfl⟩ (fun c29 => ?_) (fun c29 => ?_)
          · skip
            refine wa_aload_n (n := 0) rfl ?_
            refine wb_gf4 158 rfl (wy_pr rfl) wt_158 wf_5_3 (v := 47) wl_158_3 ?_
            refine wa_iconst ?_
            refine wb_aald5 47 3 rfl rfl (wy_pr rfl) wt_47 (by rw [show _ = _ from (((fz27 47 (-1) (by omega)).trans (((fz15 47 (-1) (by omega)).trans ((w_up_slot (by decide)).trans ((cl_47 hC)))))))]; omega) wl_47_3 ?_
            refine wa_aload_n (n := 0) rfl ?_
            refine wb_gfi 158 rfl (wy_pr rfl) wt_158 wf_5_14 (v := fo) (((fz27 158 14 (by omega)).trans (((fz15 158 14 (by omega)).trans ((w_up_slot (by decide)).trans (l14)))))) (fun r30 => ?_)
            refine wa_iload (n := 4) rfl ?_
            refine wb_iast 51 rfl (wy_pr rfl) wt_51 (n := (S 48 (-1))) (((fz27 51 (-1) (by omega)).trans (((fz15 51 (-1) (by omega)).trans ((w_up_slot (by decide)).trans ((hl.2.2.1 3 (by decide)))))))) (by omega) (by omega) ⟨(by omega), (by omega)⟩ ?_
            refine wa_return rfl ?_
            have fE : ∀ (j : Nat) (x : Int), j < 4000000 → j ≠ wG → ¬ lahM 162 209 210 226 fo j x → (w_up Sq27 51 fo fd) j x = S j x := fun j x j0 j1 hj => ((w_up_no (lah_m (j2 := 51) (x2 := fo) hj (Or.inl ⟨by omega, by omega, rfl⟩))).trans (((fz27 j x (lah_d hj)).trans ((((fz15 j x (lah_d hj)).trans ((w_up_no (lah_m (j2 := 49) (x2 := fo) hj (Or.inl ⟨by omega, by omega, rfl⟩))))))))))
            have hcE : cCh 162 210 209 163 T cs ms os CH wo mo (w_up Sq27 51 fo fd) := cCh_ag hc (fun j x hj => ((w_up_no (by omega)).trans ((fz27 j x (by omega)).trans ((fz15 j x (by omega)).trans (w_up_no (by omega))))))
            have hwh : (if gt = -1 then fd else gt) = fd := by first | exact if_pos (by omega) | exact if_neg (by omega)
            rw [hwh]
            refine ⟨rfl, fun _ => ⟨?_, ((w_up_slot (by first | decide | omega)).trans (((fz27 226 16 (by omega)).trans (((fz15 226 16 (by omega)).trans (w_up_slot (by first | decide | omega)))))))⟩, fun z => absurd z (by omega), hcE, fE, (gI_up gz27 (by omega) (by omega) (by omega)), (rmR_up (rmR_tr (rmR_tr (rmR_up hR (by omega) (by first | decide | omega)) rz15) rz27) (by omega) (by first | decide | omega))⟩
            refine ⟨⟨(((w_up_slot (by first | decide | omega)).trans (((fz27 48 fo (by omega)).trans (((fz15 48 fo (by omega)).trans (w_up_slot (by first | decide | omega))))))) : (w_up Sq27 51 fo fd) 48 fo = (S 48 fo)).trans b1, (((w_up_slot (by first | decide | omega)).trans (((fz27 49 fo (by omega)).trans (((fz15 49 fo (by omega)).trans (w_up_same _ _ _ _)))))) : (w_up Sq27 51 fo fd) 49 fo = k), (((w_up_slot (by first | decide | omega)).trans (((fz27 50 fo (by omega)).trans (((fz15 50 fo (by omega)).trans (w_up_slot (by first | decide | omega))))))) : (w_up Sq27 51 fo fd) 50 fo = (S 50 fo)).trans b3, ((w_up_same _ _ _ _) : (w_up Sq27 51 fo fd) 51 fo = fd), (((w_up_slot (by first | decide | omega)).trans (((fz27 52 fo (by omega)).trans (((fz15 52 fo (by omega)).trans (w_up_slot (by first | decide | omega))))))) : (w_up Sq27 51 fo fd) 52 fo = (S 52 fo)).trans b5⟩, ((((w_up_slot (by first | decide | omega)).trans (((fz27 53 fo (by omega)).trans (((fz15 53 fo (by omega)).trans (w_up_slot (by first | decide | omega))))))) : (w_up Sq27 51 fo fd) 53 fo = (S 53 fo)).trans b6).trans (if_neg (fun z => by have z1 := z.1; simp only [hoN] at z1; omega)).symm, ((((w_up_slot (by first | decide | omega)).trans (((fz27 54 fo (by omega)).trans (((fz15 54 fo (by omega)).trans (w_up_slot (by first | decide | omega))))))) : (w_up Sq27 51 fo fd) 54 fo = (S 54 fo)).trans b7).trans (if_neg (fun z => by have z1 := z.1; simp only [hoN] at z1; omega)).symm, ?_, ?_⟩
            · exact ((((w_up_slot (by first | decide | omega)).trans (((fz27 55 fo (by omega)).trans (((fz15 55 fo (by omega)).trans (w_up_slot (by first | decide | omega))))))) : (w_up Sq27 51 fo fd) 55 fo = (S 55 fo)).trans b8).trans (if_neg (fun z => by rcases z.2 with y | y | y; exact absurd y (by first | decide | omega); exact absurd y (by first | decide | omega); exact absurd y.2 (by simp only [hoN]; decide))).symm
            · exact ((((w_up_slot (by first | decide | omega)).trans (((fz27 56 fo (by omega)).trans (((fz15 56 fo (by omega)).trans (w_up_slot (by first | decide | omega))))))) : (w_up Sq27 51 fo fd) 56 fo = (S 56 fo)).trans b9).trans (if_neg (fun z => by rcases z.2 with y | y | y; exact absurd y (by first | decide | omega); exact absurd y (by first | decide | omega); exact absurd y.2 (by simp only [hoN]; decide))).symm
          · skip
            refine wa_aload_n (n := 0) rfl ?_
            refine wb_gf5 158 rfl (wy_pr rfl) wt_158 wf_5_4 (v := 226) (((fz27 158 4 (by omega)).trans (((fz15 158 4 (by omega)).trans ((w_up_slot (by decide)).trans (l4)))))) (fun r31 => ?_)
            refine wa_iload (n := 4) rfl ?_
            refine wa_iconst ?_
            refine wa_icmpne (w_rg0 (by omega) (by omega)) (w_rg0 (by omega) (by omega)) ⟨_, rfl⟩ (fun c32 => ?_) (fun c32 => ?_)
            · skip
              refine wa_iload (n := 4) rfl ?_
              refine wa_ineg ?_
              refine wa_fall ⟨_, rfl⟩ ?_
              refine wb_pfi 226 rfl (wy_pr rfl) wt_226 wf_8_16 (n := 16) rfl ⟨(by omega), (by omega)⟩ ?_
              refine wa_fall ⟨_, rfl⟩ ?_
              refine wa_aload_n (n := 0) rfl ?_
              refine wb_gf4 158 rfl (wy_pr rfl) wt_158 wf_5_3 (v := 47) wl_158_3 ?_
              refine wa_iconst ?_
              refine wb_aald5 47 3 rfl rfl (wy_pr rfl) wt_47 (by rw [show _ = _ from ((w_up_slot (by decide)).trans (((fz27 47 (-1) (by omega)).trans (((fz15 47 (-1) (by omega)).trans ((w_up_slot (by decide)).trans ((cl_47 hC))))))))]; omega) wl_47_3 ?_
              refine wa_aload_n (n := 0) rfl ?_
              refine wb_gfi 158 rfl (wy_pr rfl) wt_158 wf_5_14 (v := fo) ((w_up_slot (by decide)).trans (((fz27 158 14 (by omega)).trans (((fz15 158 14 (by omega)).trans ((w_up_slot (by decide)).trans (l14))))))) (fun r33 => ?_)
              refine wa_iload (n := 4) rfl ?_
              refine wb_iast 51 rfl (wy_pr rfl) wt_51 (n := (S 48 (-1))) ((w_up_slot (by decide)).trans (((fz27 51 (-1) (by omega)).trans (((fz15 51 (-1) (by omega)).trans ((w_up_slot (by decide)).trans ((hl.2.2.1 3 (by decide))))))))) (by omega) (by omega) ⟨(by omega), (by omega)⟩ ?_
              refine wa_return rfl ?_
              have fE : ∀ (j : Nat) (x : Int), j < 4000000 → j ≠ wG → ¬ lahM 162 209 210 226 fo j x → (w_up (w_up Sq27 226 16 (-fd)) 51 fo fd) j x = S j x := fun j x j0 j1 hj => ((w_up_no (lah_m (j2 := 51) (x2 := fo) hj (Or.inl ⟨by omega, by omega, rfl⟩))).trans ((w_up_no (lah_m (j2 := 226) (x2 := 16) hj (Or.inr ⟨rfl, rfl⟩))).trans (((fz27 j x (lah_d hj)).trans ((((fz15 j x (lah_d hj)).trans ((w_up_no (lah_m (j2 := 49) (x2 := fo) hj (Or.inl ⟨by omega, by omega, rfl⟩)))))))))))
              have hcE : cCh 162 210 209 163 T cs ms os CH wo mo (w_up (w_up Sq27 226 16 (-fd)) 51 fo fd) := cCh_ag hc (fun j x hj => ((w_up_no (by omega)).trans ((w_up_no (by omega)).trans ((fz27 j x (by omega)).trans ((fz15 j x (by omega)).trans (w_up_no (by omega)))))))
              have hwh : (if gt = -1 then fd else gt) = fd := by first | exact if_pos (by omega) | exact if_neg (by omega)
              rw [hwh]
              refine ⟨rfl, fun z => absurd z (by omega), fun _ => ?_, hcE, fE, (gI_up (gI_up gz27 (by omega) (by omega) (by omega)) (by omega) (by omega) (by omega)), (rmR_up (rmR_up (rmR_tr (rmR_tr (rmR_up hR (by omega) (by first | decide | omega)) rz15) rz27) (by omega) (by first | decide | omega)) (by omega) (by first | decide | omega))⟩
              refine (((w_up_slot (by first | decide | omega)).trans (w_up_same _ _ _ _)) : (w_up (w_up Sq27 226 16 (-fd)) 51 fo fd) 226 16 = (-fd)).trans ?_
              first | omega | (rw [if_pos (by omega)]) | (rw [if_neg (by omega)])
            · skip
              refine wa_iconst ?_
              refine wa_goto ⟨_, rfl⟩ ?_
              refine wb_pfi 226 rfl (wy_pr rfl) wt_226 wf_8_16 (n := 16) rfl ⟨(by omega), (by omega)⟩ ?_
              refine wa_fall ⟨_, rfl⟩ ?_
              refine wa_aload_n (n := 0) rfl ?_
              refine wb_gf4 158 rfl (wy_pr rfl) wt_158 wf_5_3 (v := 47) wl_158_3 ?_
              refine wa_iconst ?_
              refine wb_aald5 47 3 rfl rfl (wy_pr rfl) wt_47 (by rw [show _ = _ from ((w_up_slot (by decide)).trans (((fz27 47 (-1) (by omega)).trans (((fz15 47 (-1) (by omega)).trans ((w_up_slot (by decide)).trans ((cl_47 hC))))))))]; omega) wl_47_3 ?_
              refine wa_aload_n (n := 0) rfl ?_
              refine wb_gfi 158 rfl (wy_pr rfl) wt_158 wf_5_14 (v := fo) ((w_up_slot (by decide)).trans (((fz27 158 14 (by omega)).trans (((fz15 158 14 (by omega)).trans ((w_up_slot (by decide)).trans (l14))))))) (fun r34 => ?_)
              refine wa_iload (n := 4) rfl ?_
              refine wb_iast 51 rfl (wy_pr rfl) wt_51 (n := (S 48 (-1))) ((w_up_slot (by decide)).trans (((fz27 51 (-1) (by omega)).trans (((fz15 51 (-1) (by omega)).trans ((w_up_slot (by decide)).trans ((hl.2.2.1 3 (by decide))))))))) (by omega) (by omega) ⟨(by omega), (by omega)⟩ ?_
              refine wa_return rfl ?_
              have fE : ∀ (j : Nat) (x : Int), j < 4000000 → j ≠ wG → ¬ lahM 162 209 210 226 fo j x → (w_up (w_up Sq27 226 16 4) 51 fo fd) j x = S j x := fun j x j0 j1 hj => ((w_up_no (lah_m (j2 := 51) (x2 := fo) hj (Or.inl ⟨by omega, by omega, rfl⟩))).trans ((w_up_no (lah_m (j2 := 226) (x2 := 16) hj (Or.inr ⟨rfl, rfl⟩))).trans (((fz27 j x (lah_d hj)).trans ((((fz15 j x (lah_d hj)).trans ((w_up_no (lah_m (j2 := 49) (x2 := fo) hj (Or.inl ⟨by omega, by omega, rfl⟩)))))))))))
              have hcE : cCh 162 210 209 163 T cs ms os CH wo mo (w_up (w_up Sq27 226 16 4) 51 fo fd) := cCh_ag hc (fun j x hj => ((w_up_no (by omega)).trans ((w_up_no (by omega)).trans ((fz27 j x (by omega)).trans ((fz15 j x (by omega)).trans (w_up_no (by omega)))))))
              have hwh : (if gt = -1 then fd else gt) = fd := by first | exact if_pos (by omega) | exact if_neg (by omega)
              rw [hwh]
              refine ⟨rfl, fun z => absurd z (by omega), fun _ => ?_, hcE, fE, (gI_up (gI_up gz27 (by omega) (by omega) (by omega)) (by omega) (by omega) (by omega)), (rmR_up (rmR_up (rmR_tr (rmR_tr (rmR_up hR (by omega) (by first | decide | omega)) rz15) rz27) (by omega) (by first | decide | omega)) (by omega) (by first | decide | omega))⟩
              refine (((w_up_slot (by first | decide | omega)).trans (w_up_same _ _ _ _)) : (w_up (w_up Sq27 226 16 4) 51 fo fd) 226 16 = 4).trans ?_
              first | omega | (rw [if_pos (by omega)]) | (rw [if_neg (by omega)])
        · skip
          exact absurd c26 (by omega)
    · skip
      exact absurd c18 (by omega)
set_option maxHeartbeats 4000000 in
theorem las_162_226 {k am l nm wk nms fo at0 wo mo : Int} {W tl : List Int} {CH : List aQ} (hC : w_CL S) (hK : KC 176 186 182 203 204 163 162 T cs ms os S) (hw : wHo cs ms os) (hX : w_X xs) (hI : gI S) (hN : hLn 162 163 nm wk W S) (h72 : S 72 1 = 162) (hc : cCh 162 210 209 163 T cs ms os CH wo mo S) (hWh : wd_at S 163 64) (hl : cSl S) (l4 : S 158 4 = 226) (l7 : S 158 7 = 1) (l12 : S 158 12 = (tl.length : Int)) (l13 : S 158 13 = esV tl) (htl : tl.length ≤ 8) (hes : esOk tl) (hty : ∀ c ∈ tl, c < 9 + (cs.length : Int)) (hwo : wo < 10000000) (htl1 : tl.length = 1) (l14 : S 158 14 = fo) (hfo : 0 ≤ fo ∧ fo < S 48 (-1)) (hbl : blE l fo S) (hll : l = 1 ∨ l = 2) (hk : 0 ≤ k ∧ k < (cs.length : Int)) (ham : am = 0 ∨ am = 1) : wJ (pe_GA xs) wY0 (mS [209, 210, 211, 212, 213]) (d + 6) t_XL_lookAtHost ((pe_at t_XL_lookAtHost.bl 0).getD (0, [])).2 [(0, (2, 158)), (1, (0, k)), (2, (0, am))] [] S (lhQ 162 209 210 163 226 T cs ms os (chN CH wo mo (k, am, 1, (wnW [115, 101, 116] W), tl) (FA T cs ms os k am 1 (wnW [115, 101, 116] W))).1 (chN CH wo mo (k, am, 1, (wnW [115, 101, 116] W), tl) (FA T cs ms os k am 1 (wnW [115, 101, 116] W))).2 mo 1 nms fo (if (FA T cs ms os k am 1 (wnW [115, 101, 116] W)) = [] then fdA T cs ms am W k else (rvA T cs ms os (k, am, 1, (wnW [115, 101, 116] W), tl))) (if (FA T cs ms os k am 1 (wnW [115, 101, 116] W)) = [] then hoN l k (if (FA T cs ms os k am 1 (wnW [115, 101, 116] W)) = [] then fdA T cs ms am W k else (rvA T cs ms os (k, am, 1, (wnW [115, 101, 116] W), tl))) 0 0 at0 else hoN l k (if (FA T cs ms os k am 1 (wnW [115, 101, 116] W)) = [] then fdA T cs ms am W k else (rvA T cs ms os (k, am, 1, (wnW [115, 101, 116] W), tl))) 1 (esV tl) at0) S) := by
  have hR := rmR_rfl S
  have h48 := hl.2.2.2
  have hn := KC_n hK
  have hn2 := hn.2.2
  have h400 := hw.1
  obtain ⟨⟨b1, b2, b3, b4, b5⟩, b6, b7, b8, b9⟩ := hbl
  have hear : 0 ≤ esV tl ∧ esV tl < 72057594037927936 := by have z := esV_rg tl hes; have z2 := p7_le (n := tl.length) htl; omega
  have hlo := wb_l2i_rg (esV tl)
  have hhi := wb_l2i_rg (wb_lushr (esV tl) 32)
  obtain ⟨rv, hrv⟩ : ∃ r : Int, r = (rvA T cs ms os (k, am, 1, (wnW [115, 101, 116] W), tl)) := ⟨_, rfl⟩
  have hrr := rvA_rg (T := T) (q := (k, am, 1, (wnW [115, 101, 116] W), tl)) hw hk
  rw [← hrv] at hrr ⊢
  obtain ⟨fd, hfd⟩ : ∃ r : Int, r = fdA T cs ms am W k := ⟨_, rfl⟩
  have hfr := fdA_rg (T := T) (st := am) (W := W) hw hk
  rw [← hfd] at hfr ⊢
  have hF0 : (FA T cs ms os k am 1 (wnW [115, 101, 116] W)) = [] ↔ rv = -1 := by
    rw [hrv]
    unfold rvA
    constructor
    · intro z; exact if_pos z
    · intro z
      by_cases c : (FA T cs ms os k am 1 (wnW [115, 101, 116] W)) = []
      · exact c
      · exfalso
        have z1 : sgA cs ms tl (FA T cs ms os k am 1 (wnW [115, 101, 116] W)) = -1 := by have z2 := z; rw [if_neg c] at z2; exact z2
        have hsn := sgA_no (tl := tl) hw (FA_m (T := T) (am := am) (fs := 1) (WW := (wnW [115, 101, 116] W)) hw hk (by omega))
        exact hsn z1
  refine wa_aload_n (n := 0) rfl ?_
  refine wb_gf4 158 rfl (wy_pr rfl) wt_158 wf_5_0 (v := 72) wl_158_0 ?_
  refine wb_gf5 72 rfl (wy_pr rfl) wt_72 wf_2_1 (v := 162) (h72) (fun r11 => ?_)
  refine wa_astore_n (n := 3) rfl ?_
  refine wa_aload_n (n := 0) rfl ?_
  refine wb_gf4 158 rfl (wy_pr rfl) wt_158 wf_5_3 (v := 47) wl_158_3 ?_
  refine wa_iconst ?_
  refine wb_aald5 47 1 rfl rfl (wy_pr rfl) wt_47 (by rw [show _ = _ from ((cl_47 hC))]; omega) wl_47_1 ?_
  refine wa_aload_n (n := 0) rfl ?_
  refine wb_gfi 158 rfl (wy_pr rfl) wt_158 wf_5_14 (v := fo) (l14) (fun r12 => ?_)
  refine wa_iload_n (n := 1) rfl ?_
  refine wb_iast 49 rfl (wy_pr rfl) wt_49 (n := (S 48 (-1))) ((hl.2.2.1 1 (by decide))) (by omega) (by omega) ⟨(by omega), (by omega)⟩ ?_
  refine wa_aload_n (n := 0) rfl ?_
  refine wb_gfi 158 rfl (wy_pr rfl) wt_158 wf_5_7 (v := 1) ((w_up_slot (by decide)).trans (l7)) (fun r13 => ?_)
  refine wa_ifne (w_rg0 (by omega) (by omega)) ⟨_, rfl⟩ (fun c14 => ?_) (fun c14 => ?_)
  · skip
    refine wa_aload_n (n := 0) rfl ?_
    refine wb_gfi 158 rfl (wy_pr rfl) wt_158 wf_5_7 (v := 1) ((w_up_slot (by decide)).trans (l7)) (fun r15 => ?_)
    refine wa_iconst ?_
    refine wa_icmpne (w_rg0 (by omega) (by omega)) (w_rg0 (by omega) (by omega)) ⟨_, rfl⟩ (fun c16 => ?_) (fun c16 => ?_)
    · skip
      exact absurd c16 (by omega)
    · skip
      refine wa_aload_n (n := 3) rfl ?_
      refine wa_iload_n (n := 1) rfl ?_
      refine wa_iload_n (n := 2) rfl ?_
      refine wa_aload_n (n := 0) rfl ?_
      refine wa_ks ?_
      have f17 : ∀ (j : Nat) (x : Int), j < 4000000 → j ≠ wG → ¬ lahC 162 209 210 fo j x → (w_up S 49 fo k) j x = S j x := fun j x j0 j1 hj => (w_up_no (lah_n (j2 := 49) (x2 := fo) hj (⟨by omega, by omega, rfl⟩)))
      have hc17 : cCh 162 210 209 163 T cs ms os CH wo mo (w_up S 49 fo k) := cCh_ag hc (fun j x hj => (w_up_no (by omega)))
      have hC17 : w_CL (w_up S 49 fo k) := lhC_162 hC hc17 hfo.1 f17
      have hN17 : hLn 162 163 nm wk W (w_up S 49 fo k) := hLn_ag hN (fun j x hj => f17 j x (by omega) (by unfold wG; omega) (by unfold lahC lahA; omega))
      have hK17 : KC 176 186 182 203 204 163 162 T cs ms os (w_up S 49 fo k) := KC_ag hK (f17 162 2 (by omega) (by unfold wG; omega) (by unfold lahC lahA; omega)) (f17 162 4 (by omega) (by unfold wG; omega) (by unfold lahC lahA; omega)) (fun j hj => funext (fun x => f17 j x (by omega) (by unfold wG; omega) (by unfold lahC lahA; omega)))
      have hW17 : wd_at (w_up S 49 fo k) 163 64 := wda_a9 hWh (fun j x j0 j1 => f17 j x (by omega) (by unfold wG; omega) (by unfold lahC lahA; omega))
      refine wa_cv 158 rfl (wy_pr rfl) wt_158 (M2 := fun _ => False) rfl at_XL_wordBehind ⟨_, rfl⟩ rfl rfl ⟨(Or.inr ⟨wy_pr rfl, fun q => q⟩), (Or.inr ⟨wy_pr rfl, fun q => q⟩), trivial, trivial, trivial⟩ ⟨trivial, trivial, (Or.inr ⟨wy_pr rfl, fun q => q⟩), trivial⟩ (fun _ _ q => False.elim q) (wb51_162 (S := (w_up S 49 fo k)) hX hC17 (gI_up hI (by omega) (by omega) (by omega)) hN17.1.1 hN17.1.2 hN17.2.1 hN17.2.2.1.1 hN17.2.2.1.2 hN17.2.2.2.1.1 hN17.2.2.2.1.2.1 hN17.2.2.2.1.2.2 hN17.2.2.2.2.1.1 hN17.2.2.2.2.1.2 hN17.2.2.2.2.2.1) (fun oq17 Sq17 hp18 q17 => ?_)
      rcases q17 with ⟨fz17, gz17, rz17, wd, rfl, hv17⟩
      show wJ _ _ _ _ _ _ _ _ _ _
      have hvr17 := hwW_rg hv17
      have h7_17 : (w_up S 49 fo k) 163 7 ≤ 1024 := hN17.2.2.2.2.2.2
      refine wa_iconst ?_
      refine wa_aload_n (n := 0) rfl ?_
      refine wb_gfl 158 rfl (wy_pr rfl) wt_158 wf_5_13 (v := (esV tl)) (((fz17 158 13 (by omega)).trans ((w_up_slot (by decide)).trans (l13)))) (fun r19 => ?_)
      refine wa_iconst ?_
      have f20 : ∀ (j : Nat) (x : Int), j < 4000000 → j ≠ wG → ¬ lahC 162 209 210 fo j x → Sq17 j x = S j x := fun j x j0 j1 hj => (((fz17 j x (lah_c hj)).trans ((w_up_no (lah_n (j2 := 49) (x2 := fo) hj (⟨by omega, by omega, rfl⟩))))))
      have hc20 : cCh 162 210 209 163 T cs ms os CH wo mo Sq17 := cCh_ag hc (fun j x hj => ((fz17 j x (by omega)).trans (w_up_no (by omega))))
      have hC20 : w_CL Sq17 := lhC_162 hC hc20 hfo.1 f20
      have hN20 : hLn 162 163 nm wk W Sq17 := hLn_ag hN (fun j x hj => f20 j x (by omega) (by unfold wG; omega) (by unfold lahC lahA; omega))
      have hK20 : KC 176 186 182 203 204 163 162 T cs ms os Sq17 := KC_ag hK (f20 162 2 (by omega) (by unfold wG; omega) (by unfold lahC lahA; omega)) (f20 162 4 (by omega) (by unfold wG; omega) (by unfold lahC lahA; omega)) (fun j hj => funext (fun x => f20 j x (by omega) (by unfold wG; omega) (by unfold lahC lahA; omega)))
      have hW20 : wd_at Sq17 163 64 := wda_a9 hWh (fun j x j0 j1 => f20 j x (by omega) (by unfold wG; omega) (by unfold lahC lahA; omega))
      have hqk20 : qOk 163 cs Sq17 (k, am, 1, (wnW [115, 101, 116] W), tl) wd := ⟨hk, ⟨by show (0 : Int) ≤ am; omega, by show am ≤ (2 : Int); omega⟩, Or.inr rfl, ⟨htl, hes⟩, Or.inr ⟨by show am ≠ 2; omega, hwW_ag hv17 (fun j x j0 j1 => fz17 j x (by omega))⟩⟩
      have hwM20 : wdM 186 T ms Sq17 (if am = 2 then 2 else 1) wd (wnW [115, 101, 116] W) := by rw [if_neg (by omega)]; exact wdM_w hW20 hK20 (by rcases hqk20.2.2.2.2 with z | z; exact absurd z.1 (by show ¬ am = 2; omega); exact z.2) (by first | decide | omega)
      have hwr20 := qOk_rg hqk20 hc20.2.2.2.2.2.2
      have hch20 : ∀ K : List aKp, kpR 162 210 K Sq17 → wJ (pe_GA xs) wY0 (mS [209, 210, 211, 212, 213]) (d + 5) t_XO_choose ((pe_at t_XO_choose.bl 0).getD (0, [])).2 [(0, (2, 162)), (1, (0, k)), (2, (0, am)), (3, (0, wd)), (4, (0, 1)), (5, (1, esV tl)), (7, (0, (tl.length : Int)))] [] Sq17 (chQ 162 209 210 cs ms K (qKy (k, am, 1, (wnW [115, 101, 116] W), tl) wd) wd tl (FA T cs ms os k am 1 (wnW [115, 101, 116] W)) Sq17) := fun K hkp => cho_162 (pc := if (1 : Int) = 1 then 1 else -1) hC20 hK20 hw gz17 hc20.2.2.2.2.2.1 hkp (by rw [hc20.2.2.1]; exact hc20.2.2.2.1) (by rw [hc20.2.1]; exact hc20.2.2.2.2.1) hk ⟨by omega, by omega⟩ hwM20 ⟨by omega, by omega⟩ (Or.inr ⟨rfl, if_pos rfl⟩) htl hes hty rfl rfl
      obtain ⟨⟨K0, hK0, -⟩, -⟩ := id hc20
      have hcz20 : wJ (pe_GA xs) wY0 (mS [209, 210, 211, 212, 213]) (d + 5) t_XO_choose ((pe_at t_XO_choose.bl 0).getD (0, [])).2 [(0, (2, 162)), (1, (0, k)), (2, (0, am)), (3, (0, wd)), (4, (0, 1)), (5, (1, esV tl)), (7, (0, (tl.length : Int)))] [] Sq17 (fun o Z => o = .inl (some (0, rv)) ∧ cCh 162 210 209 163 T cs ms os (chN CH wo mo (k, am, 1, (wnW [115, 101, 116] W), tl) (FA T cs ms os k am 1 (wnW [115, 101, 116] W))).1 (chN CH wo mo (k, am, 1, (wnW [115, 101, 116] W), tl) (FA T cs ms os k am 1 (wnW [115, 101, 116] W))).2 mo Z ∧ chF 162 209 210 Sq17 Z ∧ gI Z ∧ rmR Sq17 Z) := by
        refine wJ_mono (chA_w (fun K hkp => hch20 K hkp) hc20) (fun o Z hz => ?_)
        rw [hrv]
        exact chA_e (q := (k, am, 1, (wnW [115, 101, 116] W), tl)) ⟨by decide, by decide, by decide, by decide⟩ hW20 hK20 hc20 hw hqk20 hz gz17 hwo
      rw [show (tl.length : Int) = 1 by omega] at hcz20
      refine wa_cv 162 rfl (wy_pr rfl) wt_162 (M2 := mS [209, 210, 211, 212, 213]) rfl at_XO_choose ⟨_, rfl⟩ rfl rfl ⟨(Or.inr ⟨wy_pr rfl, mS_no rfl⟩), (Or.inr ⟨wy_pr rfl, mS_no rfl⟩), trivial, trivial, trivial⟩ trivial (fun _ _ q => q) (hcz20) (fun oq20 Sq20 hp21 q20 => ?_)
      rcases q20 with ⟨rfl, hcq20, ff20, gg20, rr20⟩
      show wJ _ _ _ _ _ _ _ _ _ _
      refine wa_istore (n := 4) rfl ?_
      refine wa_goto ⟨_, rfl⟩ ?_
      refine wa_aload_n (n := 0) rfl ?_
      refine wb_gfi 158 rfl (wy_pr rfl) wt_158 wf_5_7 (v := 1) (((ff20 158 7 (by omega) (by unfold wG; omega) (by omega) (by omega) (by omega)).trans (((fz17 158 7 (by omega)).trans ((w_up_slot (by decide)).trans (l7)))))) (fun r22 => ?_)
      refine wa_ifeq (w_rg0 (by omega) (by omega)) ⟨_, rfl⟩ (fun c23 => ?_) (fun c23 => ?_)
      · skip
        exact absurd c23 (by omega)
      · skip
        refine wa_iload (n := 4) rfl ?_
        refine wa_iflt (w_rg0 (by omega) (by omega)) ⟨_, rfl⟩ (fun c24 => ?_) (fun c24 => ?_)
        · skip
          refine wa_iload (n := 4) rfl ?_
          refine wa_iconst ?_
          refine wa_icmpne (w_rg0 (by omega) (by omega)) (w_rg0 (by omega) (by omega)) ⟨_, rfl⟩ (fun c25 => ?_) (fun c25 => ?_)
          · skip
            refine wa_iload (n := 4) rfl ?_
            refine wa_ifge (w_rg0 (by omega) (by omega)) ⟨_, rfl⟩ (fun c26 => ?_) (fun c26 => ?_)
            · skip
              exact absurd c26 (by omega)
            · skip
              refine wa_aload_n (n := 0) rfl ?_
              refine wb_gf5 158 rfl (wy_pr rfl) wt_158 wf_5_4 (v := 226) (((ff20 158 4 (by omega) (by unfold wG; omega) (by omega) (by omega) (by omega)).trans (((fz17 158 4 (by omega)).trans ((w_up_slot (by decide)).trans (l4)))))) (fun r27 => ?_)
              refine wa_iload (n := 4) rfl ?_
              refine wa_iconst ?_
              refine wa_icmpne (w_rg0 (by omega) (by omega)) (w_rg0 (by omega) (by omega)) ⟨_, rfl⟩ (fun c28 => ?_) (fun c28 => ?_)
              · skip
                refine wa_iload (n := 4) rfl ?_
                refine wa_ineg ?_
                refine wa_fall ⟨_, rfl⟩ ?_
                refine wb_pfi 226 rfl (wy_pr rfl) wt_226 wf_8_16 (n := 16) rfl ⟨(by omega), (by omega)⟩ ?_
                refine wa_fall ⟨_, rfl⟩ ?_
                refine wa_aload_n (n := 0) rfl ?_
                refine wb_gf4 158 rfl (wy_pr rfl) wt_158 wf_5_3 (v := 47) wl_158_3 ?_
                refine wa_iconst ?_
                refine wb_aald5 47 3 rfl rfl (wy_pr rfl) wt_47 (by rw [show _ = _ from ((w_up_slot (by decide)).trans (((ff20 47 (-1) (by omega) (by unfold wG; omega) (by omega) (by omega) (by omega)).trans (((fz17 47 (-1) (by omega)).trans ((w_up_slot (by decide)).trans ((cl_47 hC))))))))]; omega) wl_47_3 ?_
                refine wa_aload_n (n := 0) rfl ?_
                refine wb_gfi 158 rfl (wy_pr rfl) wt_158 wf_5_14 (v := fo) ((w_up_slot (by decide)).trans (((ff20 158 14 (by omega) (by unfold wG; omega) (by omega) (by omega) (by omega)).trans (((fz17 158 14 (by omega)).trans ((w_up_slot (by decide)).trans (l14))))))) (fun r29 => ?_)
                refine wa_iload (n := 4) rfl ?_
                refine wb_iast 51 rfl (wy_pr rfl) wt_51 (n := (S 48 (-1))) ((w_up_slot (by decide)).trans (((ff20 51 (-1) (by omega) (by unfold wG; omega) (by omega) (by omega) (by omega)).trans (((fz17 51 (-1) (by omega)).trans ((w_up_slot (by decide)).trans ((hl.2.2.1 3 (by decide))))))))) (by omega) (by omega) ⟨(by omega), (by omega)⟩ ?_
                refine wa_return rfl ?_
                have fE : ∀ (j : Nat) (x : Int), j < 4000000 → j ≠ wG → ¬ lahM 162 209 210 226 fo j x → (w_up (w_up Sq20 226 16 (-rv)) 51 fo rv) j x = S j x := fun j x j0 j1 hj => ((w_up_no (lah_m (j2 := 51) (x2 := fo) hj (Or.inl ⟨by omega, by omega, rfl⟩))).trans ((w_up_no (lah_m (j2 := 226) (x2 := 16) hj (Or.inr ⟨rfl, rfl⟩))).trans (((ff20 j x j0 j1 (lah_f hj).1 (lah_f hj).2.1 (lah_f hj).2.2).trans ((((fz17 j x (lah_d hj)).trans ((w_up_no (lah_m (j2 := 49) (x2 := fo) hj (Or.inl ⟨by omega, by omega, rfl⟩)))))))))))
                have hcE := cCh_ag hcq20 (Z := (w_up (w_up Sq20 226 16 (-rv)) 51 fo rv)) (fun j x hj => ((w_up_no (by omega)).trans (w_up_no (by omega))))
                have hwh : (if (FA T cs ms os k am 1 (wnW [115, 101, 116] W)) = [] then fd else rv) = rv := by first | exact if_pos (hF0.mpr (by omega)) | exact if_neg (fun z => by have := hF0.mp z; omega)
                have hen : (if (FA T cs ms os k am 1 (wnW [115, 101, 116] W)) = [] then hoN l k (if (FA T cs ms os k am 1 (wnW [115, 101, 116] W)) = [] then fd else rv) 0 0 at0 else hoN l k (if (FA T cs ms os k am 1 (wnW [115, 101, 116] W)) = [] then fd else rv) 1 (esV tl) at0) = hoN l k rv 1 (esV tl) at0 := by rw [hwh]; exact if_neg (fun z => by have := hF0.mp z; omega)
                rw [hen, hwh]
                refine ⟨rfl, fun z => absurd z (by omega), fun _ => ?_, hcE, fE, (gI_up (gI_up gg20 (by omega) (by omega) (by omega)) (by omega) (by omega) (by omega)), (rmR_up (rmR_up (rmR_tr (rmR_tr (rmR_up hR (by omega) (by first | decide | omega)) rz17) rr20) (by omega) (by first | decide | omega)) (by omega) (by first | decide | omega))⟩
                refine (((w_up_slot (by first | decide | omega)).trans (w_up_same _ _ _ _)) : (w_up (w_up Sq20 226 16 (-rv)) 51 fo rv) 226 16 = (-rv)).trans ?_
                first | omega | (rw [if_pos (by omega)]) | (rw [if_neg (by omega)])
              · skip
                exact absurd c28 (by omega)
          · skip
            refine wa_aload_n (n := 0) rfl ?_
            refine wb_gfi 158 rfl (wy_pr rfl) wt_158 wf_5_7 (v := 1) (((ff20 158 7 (by omega) (by unfold wG; omega) (by omega) (by omega) (by omega)).trans (((fz17 158 7 (by omega)).trans ((w_up_slot (by decide)).trans (l7)))))) (fun r30 => ?_)
            refine wa_ifeq (w_rg0 (by omega) (by omega)) ⟨_, rfl⟩ (fun c31 => ?_) (fun c31 => ?_)
            · skip
              exact absurd c31 (by omega)
            · skip
              refine wa_aload_n (n := 0) rfl ?_
              refine wb_gfi 158 rfl (wy_pr rfl) wt_158 wf_5_7 (v := 1) (((ff20 158 7 (by omega) (by unfold wG; omega) (by omega) (by omega) (by omega)).trans (((fz17 158 7 (by omega)).trans ((w_up_slot (by decide)).trans (l7)))))) (fun r32 => ?_)
              refine wa_iconst ?_
              refine wa_icmpne (w_rg0 (by omega) (by omega)) (w_rg0 (by omega) (by omega)) ⟨_, rfl⟩ (fun c33 => ?_) (fun c33 => ?_)
              · skip
                exact absurd c33 (by omega)
              · skip
                refine wa_fall ⟨_, rfl⟩ ?_
                refine wa_aload_n (n := 0) rfl ?_
                refine wa_iload_n (n := 1) rfl ?_
                refine wa_iload_n (n := 2) rfl ?_
                have f34 : ∀ (j : Nat) (x : Int), j < 4000000 → j ≠ wG → ¬ lahC 162 209 210 fo j x → Sq20 j x = S j x := fun j x j0 j1 hj => (((ff20 j x j0 j1 (lah_e hj).1 (lah_e hj).2.1 (lah_e hj).2.2).trans ((((fz17 j x (lah_c hj)).trans ((w_up_no (lah_n (j2 := 49) (x2 := fo) hj (⟨by omega, by omega, rfl⟩)))))))))
                have hc34 := cCh_ag hcq20 (Z := Sq20) (fun j x hj => rfl)
                have hC34 : w_CL Sq20 := lhC_162 hC hc34 hfo.1 f34
                have hN34 : hLn 162 163 nm wk W Sq20 := hLn_ag hN (fun j x hj => f34 j x (by omega) (by unfold wG; omega) (by unfold lahC lahA; omega))
                have hK34 : KC 176 186 182 203 204 163 162 T cs ms os Sq20 := KC_ag hK (f34 162 2 (by omega) (by unfold wG; omega) (by unfold lahC lahA; omega)) (f34 162 4 (by omega) (by unfold wG; omega) (by unfold lahC lahA; omega)) (fun j hj => funext (fun x => f34 j x (by omega) (by unfold wG; omega) (by unfold lahC lahA; omega)))
                have hW34 : wd_at Sq20 163 64 := wda_a9 hWh (fun j x j0 j1 => f34 j x (by omega) (by unfold wG; omega) (by unfold lahC lahA; omega))
                refine wa_cv 158 rfl (wy_pr rfl) wt_158 (M2 := fun _ => False) rfl at_XL_fieldOf ⟨_, rfl⟩ rfl rfl ⟨trivial, (Or.inr ⟨wy_pr rfl, fun q => q⟩), (Or.inr ⟨wy_pr rfl, fun q => q⟩), trivial, trivial, trivial⟩ trivial (fun _ _ q => False.elim q) (wJ_mono (fof_162 (S := Sq20) (k := k) (st := am) (d := d) hC34 hK34 hw hX gg20 hN34 hk ham) (fun o Z hz => (⟨hz.1, hz.2.1, hz.2.2.1, by rw [hfd]; exact hz.2.2.2⟩ : sc_ag 159 Sq20 Z ∧ gI Z ∧ rmR Sq20 Z ∧ o = .inl (some (0, fd))))) (fun oq34 Sq34 hp35 q34 => ?_)
                rcases q34 with ⟨fz34, gz34, rz34, rfl⟩
                show wJ _ _ _ _ _ _ _ _ _ _
                refine wa_istore (n := 4) rfl ?_
                refine wa_fall ⟨_, rfl⟩ ?_
                refine wa_iload (n := 4) rfl ?_
                refine wa_ifge (w_rg0 (by omega) (by omega)) ⟨_, rfl⟩ (fun c36 => ?_) (fun c36 => ?_)
                · skip
                  refine wa_aload_n (n := 0) rfl ?_
                  refine wb_gf4 158 rfl (wy_pr rfl) wt_158 wf_5_3 (v := 47) wl_158_3 ?_
                  refine wa_iconst ?_
                  refine wb_aald5 47 3 rfl rfl (wy_pr rfl) wt_47 (by rw [show _ = _ from (((fz34 47 (-1) (by omega)).trans (((ff20 47 (-1) (by omega) (by unfold wG; omega) (by omega) (by omega) (by omega)).trans (((fz17 47 (-1) (by omega)).trans ((w_up_slot (by decide)).trans ((cl_47 hC)))))))))]; omega) wl_47_3 ?_
                  refine wa_aload_n (n := 0) rfl ?_
                  refine wb_gfi 158 rfl (wy_pr rfl) wt_158 wf_5_14 (v := fo) (((fz34 158 14 (by omega)).trans (((ff20 158 14 (by omega) (by unfold wG; omega) (by omega) (by omega) (by omega)).trans (((fz17 158 14 (by omega)).trans ((w_up_slot (by decide)).trans (l14)))))))) (fun r37 => ?_)
                  refine wa_iload (n := 4) rfl ?_
                  refine wb_iast 51 rfl (wy_pr rfl) wt_51 (n := (S 48 (-1))) (((fz34 51 (-1) (by omega)).trans (((ff20 51 (-1) (by omega) (by unfold wG; omega) (by omega) (by omega) (by omega)).trans (((fz17 51 (-1) (by omega)).trans ((w_up_slot (by decide)).trans ((hl.2.2.1 3 (by decide)))))))))) (by omega) (by omega) ⟨(by omega), (by omega)⟩ ?_
                  refine wa_return rfl ?_
                  have fE : ∀ (j : Nat) (x : Int), j < 4000000 → j ≠ wG → ¬ lahM 162 209 210 226 fo j x → (w_up Sq34 51 fo fd) j x = S j x := fun j x j0 j1 hj => ((w_up_no (lah_m (j2 := 51) (x2 := fo) hj (Or.inl ⟨by omega, by omega, rfl⟩))).trans (((fz34 j x (lah_d hj)).trans ((((ff20 j x j0 j1 (lah_f hj).1 (lah_f hj).2.1 (lah_f hj).2.2).trans ((((fz17 j x (lah_d hj)).trans ((w_up_no (lah_m (j2 := 49) (x2 := fo) hj (Or.inl ⟨by omega, by omega, rfl⟩)))))))))))))
                  have hcE := cCh_ag hcq20 (Z := (w_up Sq34 51 fo fd)) (fun j x hj => ((w_up_no (by omega)).trans (fz34 j x (by omega))))
                  have hwh : (if (FA T cs ms os k am 1 (wnW [115, 101, 116] W)) = [] then fd else rv) = fd := by first | exact if_pos (hF0.mpr (by omega)) | exact if_neg (fun z => by have := hF0.mp z; omega)
                  have hen : (if (FA T cs ms os k am 1 (wnW [115, 101, 116] W)) = [] then hoN l k (if (FA T cs ms os k am 1 (wnW [115, 101, 116] W)) = [] then fd else rv) 0 0 at0 else hoN l k (if (FA T cs ms os k am 1 (wnW [115, 101, 116] W)) = [] then fd else rv) 1 (esV tl) at0) = hoN l k fd 0 0 at0 := by rw [hwh]; exact if_pos (hF0.mpr (by omega))
                  rw [hen, hwh]
                  refine ⟨rfl, fun _ => ⟨?_, ((w_up_slot (by first | decide | omega)).trans (((fz34 226 16 (by omega)).trans (((ff20 226 16 (by omega) (by unfold wG; omega) (by omega) (by omega) (by omega)).trans (((fz17 226 16 (by omega)).trans (w_up_slot (by first | decide | omega)))))))))⟩, fun z => absurd z (by omega), hcE, fE, (gI_up gz34 (by omega) (by omega) (by omega)), (rmR_up (rmR_tr (rmR_tr (rmR_tr (rmR_up hR (by omega) (by first | decide | omega)) rz17) rr20) rz34) (by omega) (by first | decide | omega))⟩
                  refine ⟨⟨(((w_up_slot (by first | decide | omega)).trans (((fz34 48 fo (by omega)).trans (((ff20 48 fo (by omega) (by unfold wG; omega) (by omega) (by omega) (by omega)).trans (((fz17 48 fo (by omega)).trans (w_up_slot (by first | decide | omega))))))))) : (w_up Sq34 51 fo fd) 48 fo = (S 48 fo)).trans b1, (((w_up_slot (by first | decide | omega)).trans (((fz34 49 fo (by omega)).trans (((ff20 49 fo (by omega) (by unfold wG; omega) (by omega) (by omega) (by omega)).trans (((fz17 49 fo (by omega)).trans (w_up_same _ _ _ _)))))))) : (w_up Sq34 51 fo fd) 49 fo = k), (((w_up_slot (by first | decide | omega)).trans (((fz34 50 fo (by omega)).trans (((ff20 50 fo (by omega) (by unfold wG; omega) (by omega) (by omega) (by omega)).trans (((fz17 50 fo (by omega)).trans (w_up_slot (by first | decide | omega))))))))) : (w_up Sq34 51 fo fd) 50 fo = (S 50 fo)).trans b3, ((w_up_same _ _ _ _) : (w_up Sq34 51 fo fd) 51 fo = fd), (((w_up_slot (by first | decide | omega)).trans (((fz34 52 fo (by omega)).trans (((ff20 52 fo (by omega) (by unfold wG; omega) (by omega) (by omega) (by omega)).trans (((fz17 52 fo (by omega)).trans (w_up_slot (by first | decide | omega))))))))) : (w_up Sq34 51 fo fd) 52 fo = (S 52 fo)).trans b5⟩, ((((w_up_slot (by first | decide | omega)).trans (((fz34 53 fo (by omega)).trans (((ff20 53 fo (by omega) (by unfold wG; omega) (by omega) (by omega) (by omega)).trans (((fz17 53 fo (by omega)).trans (w_up_slot (by first | decide | omega))))))))) : (w_up Sq34 51 fo fd) 53 fo = (S 53 fo)).trans b6).trans (if_neg (fun z => by have z1 := z.1; simp only [hoN] at z1; omega)).symm, ((((w_up_slot (by first | decide | omega)).trans (((fz34 54 fo (by omega)).trans (((ff20 54 fo (by omega) (by unfold wG; omega) (by omega) (by omega) (by omega)).trans (((fz17 54 fo (by omega)).trans (w_up_slot (by first | decide | omega))))))))) : (w_up Sq34 51 fo fd) 54 fo = (S 54 fo)).trans b7).trans (if_neg (fun z => by have z1 := z.1; simp only [hoN] at z1; omega)).symm, ?_, ?_⟩
                  · exact ((((w_up_slot (by first | decide | omega)).trans (((fz34 55 fo (by omega)).trans (((ff20 55 fo (by omega) (by unfold wG; omega) (by omega) (by omega) (by omega)).trans (((fz17 55 fo (by omega)).trans (w_up_slot (by first | decide | omega))))))))) : (w_up Sq34 51 fo fd) 55 fo = (S 55 fo)).trans b8).trans (if_neg (fun z => by rcases z.2 with y | y | y; exact absurd y (by first | decide | omega); exact absurd y (by first | decide | omega); exact absurd y.2 (by simp only [hoN]; decide))).symm
                  · exact ((((w_up_slot (by first | decide | omega)).trans (((fz34 56 fo (by omega)).trans (((ff20 56 fo (by omega) (by unfold wG; omega) (by omega) (by omega) (by omega)).trans (((fz17 56 fo (by omega)).trans (w_up_slot (by first | decide | omega))))))))) : (w_up Sq34 51 fo fd) 56 fo = (S 56 fo)).trans b9).trans (if_neg (fun z => by rcases z.2 with y | y | y; exact absurd y (by first | decide | omega); exact absurd y (by first | decide | omega); exact absurd y.2 (by simp only [hoN]; decide))).symm
                · skip
                  refine wa_aload_n (n := 0) rfl ?_
                  refine wb_gf5 158 rfl (wy_pr rfl) wt_158 wf_5_4 (v := 226) (((fz34 158 4 (by omega)).trans (((ff20 158 4 (by omega) (by unfold wG; omega) (by omega) (by omega) (by omega)).trans (((fz17 158 4 (by omega)).trans ((w_up_slot (by decide)).trans (l4)))))))) (fun r38 => ?_)
                  refine wa_iload (n := 4) rfl ?_
                  refine wa_iconst ?_
                  refine wa_icmpne (w_rg0 (by omega) (by omega)) (w_rg0 (by omega) (by omega)) ⟨_, rfl⟩ (fun c39 => ?_) (fun c39 => ?_)
                  · skip
                    refine wa_iload (n := 4) rfl ?_
                    refine wa_ineg ?_
                    refine wa_fall ⟨_, rfl⟩ ?_
                    refine wb_pfi 226 rfl (wy_pr rfl) wt_226 wf_8_16 (n := 16) rfl ⟨(by omega), (by omega)⟩ ?_
                    refine wa_fall ⟨_, rfl⟩ ?_
                    refine wa_aload_n (n := 0) rfl ?_
                    refine wb_gf4 158 rfl (wy_pr rfl) wt_158 wf_5_3 (v := 47) wl_158_3 ?_
                    refine wa_iconst ?_
                    refine wb_aald5 47 3 rfl rfl (wy_pr rfl) wt_47 (by rw [show _ = _ from ((w_up_slot (by decide)).trans (((fz34 47 (-1) (by omega)).trans (((ff20 47 (-1) (by omega) (by unfold wG; omega) (by omega) (by omega) (by omega)).trans (((fz17 47 (-1) (by omega)).trans ((w_up_slot (by decide)).trans ((cl_47 hC))))))))))]; omega) wl_47_3 ?_
                    refine wa_aload_n (n := 0) rfl ?_
                    refine wb_gfi 158 rfl (wy_pr rfl) wt_158 wf_5_14 (v := fo) ((w_up_slot (by decide)).trans (((fz34 158 14 (by omega)).trans (((ff20 158 14 (by omega) (by unfold wG; omega) (by omega) (by omega) (by omega)).trans (((fz17 158 14 (by omega)).trans ((w_up_slot (by decide)).trans (l14))))))))) (fun r40 => ?_)
                    refine wa_iload (n := 4) rfl ?_
                    refine wb_iast 51 rfl (wy_pr rfl) wt_51 (n := (S 48 (-1))) ((w_up_slot (by decide)).trans (((fz34 51 (-1) (by omega)).trans (((ff20 51 (-1) (by omega) (by unfold wG; omega) (by omega) (by omega) (by omega)).trans (((fz17 51 (-1) (by omega)).trans ((w_up_slot (by decide)).trans ((hl.2.2.1 3 (by decide))))))))))) (by omega) (by omega) ⟨(by omega), (by omega)⟩ ?_
                    refine wa_return rfl ?_
                    have fE : ∀ (j : Nat) (x : Int), j < 4000000 → j ≠ wG → ¬ lahM 162 209 210 226 fo j x → (w_up (w_up Sq34 226 16 (-fd)) 51 fo fd) j x = S j x := fun j x j0 j1 hj => ((w_up_no (lah_m (j2 := 51) (x2 := fo) hj (Or.inl ⟨by omega, by omega, rfl⟩))).trans ((w_up_no (lah_m (j2 := 226) (x2 := 16) hj (Or.inr ⟨rfl, rfl⟩))).trans (((fz34 j x (lah_d hj)).trans ((((ff20 j x j0 j1 (lah_f hj).1 (lah_f hj).2.1 (lah_f hj).2.2).trans ((((fz17 j x (lah_d hj)).trans ((w_up_no (lah_m (j2 := 49) (x2 := fo) hj (Or.inl ⟨by omega, by omega, rfl⟩))))))))))))))
                    have hcE := cCh_ag hcq20 (Z := (w_up (w_up Sq34 226 16 (-fd)) 51 fo fd)) (fun j x hj => ((w_up_no (by omega)).trans ((w_up_no (by omega)).trans (fz34 j x (by omega)))))
                    have hwh : (if (FA T cs ms os k am 1 (wnW [115, 101, 116] W)) = [] then fd else rv) = fd := by first | exact if_pos (hF0.mpr (by omega)) | exact if_neg (fun z => by have := hF0.mp z; omega)
                    have hen : (if (FA T cs ms os k am 1 (wnW [115, 101, 116] W)) = [] then hoN l k (if (FA T cs ms os k am 1 (wnW [115, 101, 116] W)) = [] then fd else rv) 0 0 at0 else hoN l k (if (FA T cs ms os k am 1 (wnW [115, 101, 116] W)) = [] then fd else rv) 1 (esV tl) at0) = hoN l k fd 0 0 at0 := by rw [hwh]; exact if_pos (hF0.mpr (by omega))
                    rw [hen, hwh]
                    refine ⟨rfl, fun z => absurd z (by omega), fun _ => ?_, hcE, fE, (gI_up (gI_up gz34 (by omega) (by omega) (by omega)) (by omega) (by omega) (by omega)), (rmR_up (rmR_up (rmR_tr (rmR_tr (rmR_tr (rmR_up hR (by omega) (by first | decide | omega)) rz17) rr20) rz34) (by omega) (by first | decide | omega)) (by omega) (by first | decide | omega))⟩
                    refine (((w_up_slot (by first | decide | omega)).trans (w_up_same _ _ _ _)) : (w_up (w_up Sq34 226 16 (-fd)) 51 fo fd) 226 16 = (-fd)).trans ?_
                    first | omega | (rw [if_pos (by omega)]) | (rw [if_neg (by omega)])
                  · skip
                    refine wa_iconst ?_
                    refine wa_goto ⟨_, rfl⟩ ?_
                    refine wb_pfi 226 rfl (wy_pr rfl) wt_226 wf_8_16 (n := 16) rfl ⟨(by omega), (by omega)⟩ ?_
                    refine wa_fall ⟨_, rfl⟩ ?_
                    refine wa_aload_n (n := 0) rfl ?_
                    refine wb_gf4 158 rfl (wy_pr rfl) wt_158 wf_5_3 (v := 47) wl_158_3 ?_
                    refine wa_iconst ?_
                    refine wb_aald5 47 3 rfl rfl (wy_pr rfl) wt_47 (by rw [show _ = _ from ((w_up_slot (by decide)).trans (((fz34 47 (-1) (by omega)).trans (((ff20 47 (-1) (by omega) (by unfold wG; omega) (by omega) (by omega) (by omega)).trans (((fz17 47 (-1) (by omega)).trans ((w_up_slot (by decide)).trans ((cl_47 hC))))))))))]; omega) wl_47_3 ?_
                    refine wa_aload_n (n := 0) rfl ?_
                    refine wb_gfi 158 rfl (wy_pr rfl) wt_158 wf_5_14 (v := fo) ((w_up_slot (by decide)).trans (((fz34 158 14 (by omega)).trans (((ff20 158 14 (by omega) (by unfold wG; omega) (by omega) (by omega) (by omega)).trans (((fz17 158 14 (by omega)).trans ((w_up_slot (by decide)).trans (l14))))))))) (fun r41 => ?_)
                    refine wa_iload (n := 4) rfl ?_
                    refine wb_iast 51 rfl (wy_pr rfl) wt_51 (n := (S 48 (-1))) ((w_up_slot (by decide)).trans (((fz34 51 (-1) (by omega)).trans (((ff20 51 (-1) (by omega) (by unfold wG; omega) (by omega) (by omega) (by omega)).trans (((fz17 51 (-1) (by omega)).trans ((w_up_slot (by decide)).trans ((hl.2.2.1 3 (by decide))))))))))) (by omega) (by omega) ⟨(by omega), (by omega)⟩ ?_
                    refine wa_return rfl ?_
                    have fE : ∀ (j : Nat) (x : Int), j < 4000000 → j ≠ wG → ¬ lahM 162 209 210 226 fo j x → (w_up (w_up Sq34 226 16 4) 51 fo fd) j x = S j x := fun j x j0 j1 hj => ((w_up_no (lah_m (j2 := 51) (x2 := fo) hj (Or.inl ⟨by omega, by omega, rfl⟩))).trans ((w_up_no (lah_m (j2 := 226) (x2 := 16) hj (Or.inr ⟨rfl, rfl⟩))).trans (((fz34 j x (lah_d hj)).trans ((((ff20 j x j0 j1 (lah_f hj).1 (lah_f hj).2.1 (lah_f hj).2.2).trans ((((fz17 j x (lah_d hj)).trans ((w_up_no (lah_m (j2 := 49) (x2 := fo) hj (Or.inl ⟨by omega, by omega, rfl⟩))))))))))))))
                    have hcE := cCh_ag hcq20 (Z := (w_up (w_up Sq34 226 16 4) 51 fo fd)) (fun j x hj => ((w_up_no (by omega)).trans ((w_up_no (by omega)).trans (fz34 j x (by omega)))))
                    have hwh : (if (FA T cs ms os k am 1 (wnW [115, 101, 116] W)) = [] then fd else rv) = fd := by first | exact if_pos (hF0.mpr (by omega)) | exact if_neg (fun z => by have := hF0.mp z; omega)
                    have hen : (if (FA T cs ms os k am 1 (wnW [115, 101, 116] W)) = [] then hoN l k (if (FA T cs ms os k am 1 (wnW [115, 101, 116] W)) = [] then fd else rv) 0 0 at0 else hoN l k (if (FA T cs ms os k am 1 (wnW [115, 101, 116] W)) = [] then fd else rv) 1 (esV tl) at0) = hoN l k fd 0 0 at0 := by rw [hwh]; exact if_pos (hF0.mpr (by omega))
                    rw [hen, hwh]
                    refine ⟨rfl, fun z => absurd z (by omega), fun _ => ?_, hcE, fE, (gI_up (gI_up gz34 (by omega) (by omega) (by omega)) (by omega) (by omega) (by omega)), (rmR_up (rmR_up (rmR_tr (rmR_tr (rmR_tr (rmR_up hR (by omega) (by first | decide | omega)) rz17) rr20) rz34) (by omega) (by first | decide | omega)) (by omega) (by first | decide | omega))⟩
                    refine (((w_up_slot (by first | decide | omega)).trans (w_up_same _ _ _ _)) : (w_up (w_up Sq34 226 16 4) 51 fo fd) 226 16 = 4).trans ?_
                    first | omega | (rw [if_pos (by omega)]) | (rw [if_neg (by omega)])
        · skip
          refine wa_aload_n (n := 0) rfl ?_
          refine wb_gf4 158 rfl (wy_pr rfl) wt_158 wf_5_3 (v := 47) wl_158_3 ?_
          refine wa_bipush (w_rg2 (by omega) (by omega)) ?_
          refine wb_aald5 47 7 rfl rfl (wy_pr rfl) wt_47 (by rw [show _ = _ from (((ff20 47 (-1) (by omega) (by unfold wG; omega) (by omega) (by omega) (by omega)).trans (((fz17 47 (-1) (by omega)).trans ((w_up_slot (by decide)).trans ((cl_47 hC)))))))]; omega) wl_47_7 ?_
          refine wa_aload_n (n := 0) rfl ?_
          refine wb_gfi 158 rfl (wy_pr rfl) wt_158 wf_5_14 (v := fo) (((ff20 158 14 (by omega) (by unfold wG; omega) (by omega) (by omega) (by omega)).trans (((fz17 158 14 (by omega)).trans ((w_up_slot (by decide)).trans (l14)))))) (fun r42 => ?_)
          refine wa_aload_n (n := 0) rfl ?_
          refine wb_gfl 158 rfl (wy_pr rfl) wt_158 wf_5_13 (v := (esV tl)) (((ff20 158 13 (by omega) (by unfold wG; omega) (by omega) (by omega) (by omega)).trans (((fz17 158 13 (by omega)).trans ((w_up_slot (by decide)).trans (l13)))))) (fun r43 => ?_)
          refine wa_l2i ?_
          refine wb_iast 55 rfl (wy_pr rfl) wt_55 (n := (S 48 (-1))) (((ff20 55 (-1) (by omega) (by unfold wG; omega) (by omega) (by omega) (by omega)).trans (((fz17 55 (-1) (by omega)).trans ((w_up_slot (by decide)).trans ((hl.2.2.1 7 (by decide)))))))) (by omega) (by omega) ⟨(by omega), (by omega)⟩ ?_
          refine wa_aload_n (n := 0) rfl ?_
          refine wb_gf4 158 rfl (wy_pr rfl) wt_158 wf_5_3 (v := 47) wl_158_3 ?_
          refine wa_bipush (w_rg2 (by omega) (by omega)) ?_
          refine wb_aald5 47 8 rfl rfl (wy_pr rfl) wt_47 (by rw [show _ = _ from ((w_up_slot (by decide)).trans (((ff20 47 (-1) (by omega) (by unfold wG; omega) (by omega) (by omega) (by omega)).trans (((fz17 47 (-1) (by omega)).trans ((w_up_slot (by decide)).trans ((cl_47 hC))))))))]; omega) wl_47_8 ?_
          refine wa_aload_n (n := 0) rfl ?_
          refine wb_gfi 158 rfl (wy_pr rfl) wt_158 wf_5_14 (v := fo) ((w_up_slot (by decide)).trans (((ff20 158 14 (by omega) (by unfold wG; omega) (by omega) (by omega) (by omega)).trans (((fz17 158 14 (by omega)).trans ((w_up_slot (by decide)).trans (l14))))))) (fun r44 => ?_)
          refine wa_aload_n (n := 0) rfl ?_
          refine wb_gfl 158 rfl (wy_pr rfl) wt_158 wf_5_13 (v := (esV tl)) ((w_up_slot (by decide)).trans (((ff20 158 13 (by omega) (by unfold wG; omega) (by omega) (by omega) (by omega)).trans (((fz17 158 13 (by omega)).trans ((w_up_slot (by decide)).trans (l13))))))) (fun r45 => ?_)
          refine wa_bipush (w_rg2 (by omega) (by omega)) ?_
          refine wa_lushr ?_
          refine wa_l2i ?_
          refine wb_iast 56 rfl (wy_pr rfl) wt_56 (n := (S 48 (-1))) ((w_up_slot (by decide)).trans (((ff20 56 (-1) (by omega) (by unfold wG; omega) (by omega) (by omega) (by omega)).trans (((fz17 56 (-1) (by omega)).trans ((w_up_slot (by decide)).trans ((hl.2.2.1 8 (by decide))))))))) (by omega) (by omega) ⟨(by omega), (by omega)⟩ ?_
          refine wa_fall ⟨_, rfl⟩ ?_
          refine wa_iload (n := 4) rfl ?_
          refine wa_iconst ?_
          refine wa_icmpne (w_rg0 (by omega) (by omega)) (w_rg0 (by omega) (by omega)) ⟨_, rfl⟩ (fun c46 => ?_) (fun c46 => ?_)
          · skip
            refine wa_iload (n := 4) rfl ?_
            refine wa_ifge (w_rg0 (by omega) (by omega)) ⟨_, rfl⟩ (fun c47 => ?_) (fun c47 => ?_)
            · skip
              refine wa_aload_n (n := 0) rfl ?_
              refine wb_gf4 158 rfl (wy_pr rfl) wt_158 wf_5_3 (v := 47) wl_158_3 ?_
              refine wa_iconst ?_
              refine wb_aald5 47 3 rfl rfl (wy_pr rfl) wt_47 (by rw [show _ = _ from ((w_up_slot (by decide)).trans ((w_up_slot (by decide)).trans (((ff20 47 (-1) (by omega) (by unfold wG; omega) (by omega) (by omega) (by omega)).trans (((fz17 47 (-1) (by omega)).trans ((w_up_slot (by decide)).trans ((cl_47 hC)))))))))]; omega) wl_47_3 ?_
              refine wa_aload_n (n := 0) rfl ?_
              refine wb_gfi 158 rfl (wy_pr rfl) wt_158 wf_5_14 (v := fo) ((w_up_slot (by decide)).trans ((w_up_slot (by decide)).trans (((ff20 158 14 (by omega) (by unfold wG; omega) (by omega) (by omega) (by omega)).trans (((fz17 158 14 (by omega)).trans ((w_up_slot (by decide)).trans (l14)))))))) (fun r48 => ?_)
              refine wa_iload (n := 4) rfl ?_
              refine wb_iast 51 rfl (wy_pr rfl) wt_51 (n := (S 48 (-1))) ((w_up_slot (by decide)).trans ((w_up_slot (by decide)).trans (((ff20 51 (-1) (by omega) (by unfold wG; omega) (by omega) (by omega) (by omega)).trans (((fz17 51 (-1) (by omega)).trans ((w_up_slot (by decide)).trans ((hl.2.2.1 3 (by decide)))))))))) (by omega) (by omega) ⟨(by omega), (by omega)⟩ ?_
              refine wa_return rfl ?_
              have fE : ∀ (j : Nat) (x : Int), j < 4000000 → j ≠ wG → ¬ lahM 162 209 210 226 fo j x → (w_up (w_up (w_up Sq20 55 fo (wb_l2i (esV tl))) 56 fo (wb_l2i (wb_lushr (esV tl) 32))) 51 fo rv) j x = S j x := fun j x j0 j1 hj => ((w_up_no (lah_m (j2 := 51) (x2 := fo) hj (Or.inl ⟨by omega, by omega, rfl⟩))).trans ((w_up_no (lah_m (j2 := 56) (x2 := fo) hj (Or.inl ⟨by omega, by omega, rfl⟩))).trans ((w_up_no (lah_m (j2 := 55) (x2 := fo) hj (Or.inl ⟨by omega, by omega, rfl⟩))).trans (((ff20 j x j0 j1 (lah_f hj).1 (lah_f hj).2.1 (lah_f hj).2.2).trans ((((fz17 j x (lah_d hj)).trans ((w_up_no (lah_m (j2 := 49) (x2 := fo) hj (Or.inl ⟨by omega, by omega, rfl⟩))))))))))))
              have hcE := cCh_ag hcq20 (Z := (w_up (w_up (w_up Sq20 55 fo (wb_l2i (esV tl))) 56 fo (wb_l2i (wb_lushr (esV tl) 32))) 51 fo rv)) (fun j x hj => ((w_up_no (by omega)).trans ((w_up_no (by omega)).trans (w_up_no (by omega)))))
              have hwh : (if (FA T cs ms os k am 1 (wnW [115, 101, 116] W)) = [] then fd else rv) = rv := by first | exact if_pos (hF0.mpr (by omega)) | exact if_neg (fun z => by have := hF0.mp z; omega)
              have hen : (if (FA T cs ms os k am 1 (wnW [115, 101, 116] W)) = [] then hoN l k (if (FA T cs ms os k am 1 (wnW [115, 101, 116] W)) = [] then fd else rv) 0 0 at0 else hoN l k (if (FA T cs ms os k am 1 (wnW [115, 101, 116] W)) = [] then fd else rv) 1 (esV tl) at0) = hoN l k rv 1 (esV tl) at0 := by rw [hwh]; exact if_neg (fun z => by have := hF0.mp z; omega)
              rw [hen, hwh]
              refine ⟨rfl, fun _ => ⟨?_, ((w_up_slot (by first | decide | omega)).trans ((w_up_slot (by first | decide | omega)).trans ((w_up_slot (by first | decide | omega)).trans (((ff20 226 16 (by omega) (by unfold wG; omega) (by omega) (by omega) (by omega)).trans (((fz17 226 16 (by omega)).trans (w_up_slot (by first | decide | omega)))))))))⟩, fun z => absurd z (by omega), hcE, fE, (gI_up (gI_up (gI_up gg20 (by omega) (by omega) (by omega)) (by omega) (by omega) (by omega)) (by omega) (by omega) (by omega)), (rmR_up (rmR_up (rmR_up (rmR_tr (rmR_tr (rmR_up hR (by omega) (by first | decide | omega)) rz17) rr20) (by omega) (by first | decide | omega)) (by omega) (by first | decide | omega)) (by omega) (by first | decide | omega))⟩
              refine ⟨⟨(((w_up_slot (by first | decide | omega)).trans ((w_up_slot (by first | decide | omega)).trans ((w_up_slot (by first | decide | omega)).trans (((ff20 48 fo (by omega) (by unfold wG; omega) (by omega) (by omega) (by omega)).trans (((fz17 48 fo (by omega)).trans (w_up_slot (by first | decide | omega))))))))) : (w_up (w_up (w_up Sq20 55 fo (wb_l2i (esV tl))) 56 fo (wb_l2i (wb_lushr (esV tl) 32))) 51 fo rv) 48 fo = (S 48 fo)).trans b1, (((w_up_slot (by first | decide | omega)).trans ((w_up_slot (by first | decide | omega)).trans ((w_up_slot (by first | decide | omega)).trans (((ff20 49 fo (by omega) (by unfold wG; omega) (by omega) (by omega) (by omega)).trans (((fz17 49 fo (by omega)).trans (w_up_same _ _ _ _)))))))) : (w_up (w_up (w_up Sq20 55 fo (wb_l2i (esV tl))) 56 fo (wb_l2i (wb_lushr (esV tl) 32))) 51 fo rv) 49 fo = k), (((w_up_slot (by first | decide | omega)).trans ((w_up_slot (by first | decide | omega)).trans ((w_up_slot (by first | decide | omega)).trans (((ff20 50 fo (by omega) (by unfold wG; omega) (by omega) (by omega) (by omega)).trans (((fz17 50 fo (by omega)).trans (w_up_slot (by first | decide | omega))))))))) : (w_up (w_up (w_up Sq20 55 fo (wb_l2i (esV tl))) 56 fo (wb_l2i (wb_lushr (esV tl) 32))) 51 fo rv) 50 fo = (S 50 fo)).trans b3, ((w_up_same _ _ _ _) : (w_up (w_up (w_up Sq20 55 fo (wb_l2i (esV tl))) 56 fo (wb_l2i (wb_lushr (esV tl) 32))) 51 fo rv) 51 fo = rv), (((w_up_slot (by first | decide | omega)).trans ((w_up_slot (by first | decide | omega)).trans ((w_up_slot (by first | decide | omega)).trans (((ff20 52 fo (by omega) (by unfold wG; omega) (by omega) (by omega) (by omega)).trans (((fz17 52 fo (by omega)).trans (w_up_slot (by first | decide | omega))))))))) : (w_up (w_up (w_up Sq20 55 fo (wb_l2i (esV tl))) 56 fo (wb_l2i (wb_lushr (esV tl) 32))) 51 fo rv) 52 fo = (S 52 fo)).trans b5⟩, ((((w_up_slot (by first | decide | omega)).trans ((w_up_slot (by first | decide | omega)).trans ((w_up_slot (by first | decide | omega)).trans (((ff20 53 fo (by omega) (by unfold wG; omega) (by omega) (by omega) (by omega)).trans (((fz17 53 fo (by omega)).trans (w_up_slot (by first | decide | omega))))))))) : (w_up (w_up (w_up Sq20 55 fo (wb_l2i (esV tl))) 56 fo (wb_l2i (wb_lushr (esV tl) 32))) 51 fo rv) 53 fo = (S 53 fo)).trans b6).trans (if_neg (fun z => by have z1 := z.1; simp only [hoN] at z1; omega)).symm, ((((w_up_slot (by first | decide | omega)).trans ((w_up_slot (by first | decide | omega)).trans ((w_up_slot (by first | decide | omega)).trans (((ff20 54 fo (by omega) (by unfold wG; omega) (by omega) (by omega) (by omega)).trans (((fz17 54 fo (by omega)).trans (w_up_slot (by first | decide | omega))))))))) : (w_up (w_up (w_up Sq20 55 fo (wb_l2i (esV tl))) 56 fo (wb_l2i (wb_lushr (esV tl) 32))) 51 fo rv) 54 fo = (S 54 fo)).trans b7).trans (if_neg (fun z => by have z1 := z.1; simp only [hoN] at z1; omega)).symm, ?_, ?_⟩
              · exact (((w_up_slot (by first | decide | omega)).trans ((w_up_slot (by first | decide | omega)).trans (w_up_same _ _ _ _))) : (w_up (w_up (w_up Sq20 55 fo (wb_l2i (esV tl))) 56 fo (wb_l2i (wb_lushr (esV tl) 32))) 51 fo rv) 55 fo = (wb_l2i (esV tl))).trans (if_pos ⟨hll, by exact Or.inr (Or.inr ⟨rfl, rfl⟩)⟩).symm
              · exact (((w_up_slot (by first | decide | omega)).trans (w_up_same _ _ _ _)) : (w_up (w_up (w_up Sq20 55 fo (wb_l2i (esV tl))) 56 fo (wb_l2i (wb_lushr (esV tl) 32))) 51 fo rv) 56 fo = (wb_l2i (wb_lushr (esV tl) 32))).trans (if_pos ⟨hll, by exact Or.inr (Or.inr ⟨rfl, rfl⟩)⟩).symm
            · skip
              exact absurd c47 (by omega)
          · skip
            exact absurd c46 (by omega)
  · skip
    exact absurd c14 (by omega)
set_option maxHeartbeats 4000000 in
theorem lam_162_226 {k am l nm wk nms fo at0 wo mo : Int} {W tl : List Int} {CH : List aQ} (hC : w_CL S) (hK : KC 176 186 182 203 204 163 162 T cs ms os S) (hw : wHo cs ms os) (hX : w_X xs) (hI : gI S) (hN : hLn 162 163 nm wk W S) (h72 : S 72 1 = 162) (hc : cCh 162 210 209 163 T cs ms os CH wo mo S) (hWh : wd_at S 163 64) (hl : cSl S) (l4 : S 158 4 = 226) (l7 : S 158 7 = 5) (l12 : S 158 12 = (tl.length : Int)) (l13 : S 158 13 = esV tl) (htl : tl.length ≤ 8) (hes : esOk tl) (hty : ∀ c ∈ tl, c < 9 + (cs.length : Int)) (hwo : wo < 10000000) (l14 : S 158 14 = fo) (hfo : 0 ≤ fo ∧ fo < S 48 (-1)) (hbl : blE l fo S) (hll : l = 1 ∨ l = 2) (hk : 0 ≤ k ∧ k < (cs.length : Int)) (ham : am = 0 ∨ am = 1) : wJ (pe_GA xs) wY0 (mS [209, 210, 211, 212, 213]) (d + 6) t_XL_lookAtHost ((pe_at t_XL_lookAtHost.bl 0).getD (0, [])).2 [(0, (2, 158)), (1, (0, k)), (2, (0, am))] [] S (lhQ 162 209 210 163 226 T cs ms os (chN CH wo mo (k, am, 0, (wnW ([] : List Int) W), tl) (FA T cs ms os k am 0 (wnW ([] : List Int) W))).1 (chN CH wo mo (k, am, 0, (wnW ([] : List Int) W), tl) (FA T cs ms os k am 0 (wnW ([] : List Int) W))).2 mo 5 nms fo (rvA T cs ms os (k, am, 0, (wnW ([] : List Int) W), tl)) (hoN l k (rvA T cs ms os (k, am, 0, (wnW ([] : List Int) W), tl)) (tl.length : Int) (esV tl) at0) S) := by
  have hR := rmR_rfl S
  have h48 := hl.2.2.2
  have hn := KC_n hK
  have hn2 := hn.2.2
  have h400 := hw.1
  obtain ⟨⟨b1, b2, b3, b4, b5⟩, b6, b7, b8, b9⟩ := hbl
  have hear : 0 ≤ esV tl ∧ esV tl < 72057594037927936 := by have z := esV_rg tl hes; have z2 := p7_le (n := tl.length) htl; omega
  have hlo := wb_l2i_rg (esV tl)
  have hhi := wb_l2i_rg (wb_lushr (esV tl) 32)
  obtain ⟨rv, hrv⟩ : ∃ r : Int, r = (rvA T cs ms os (k, am, 0, (wnW ([] : List Int) W), tl)) := ⟨_, rfl⟩
  have hrr := rvA_rg (T := T) (q := (k, am, 0, (wnW ([] : List Int) W), tl)) hw hk
  rw [← hrv] at hrr ⊢
  refine wa_aload_n (n := 0) rfl ?_
  refine wb_gf4 158 rfl (wy_pr rfl) wt_158 wf_5_0 (v := 72) wl_158_0 ?_
  refine wb_gf5 72 rfl (wy_pr rfl) wt_72 wf_2_1 (v := 162) (h72) (fun r11 => ?_)
  refine wa_astore_n (n := 3) rfl ?_
  refine wa_aload_n (n := 0) rfl ?_
  refine wb_gf4 158 rfl (wy_pr rfl) wt_158 wf_5_3 (v := 47) wl_158_3 ?_
  refine wa_iconst ?_
  refine wb_aald5 47 1 rfl rfl (wy_pr rfl) wt_47 (by rw [show _ = _ from ((cl_47 hC))]; omega) wl_47_1 ?_
  refine wa_aload_n (n := 0) rfl ?_
  refine wb_gfi 158 rfl (wy_pr rfl) wt_158 wf_5_14 (v := fo) (l14) (fun r12 => ?_)
  refine wa_iload_n (n := 1) rfl ?_
  refine wb_iast 49 rfl (wy_pr rfl) wt_49 (n := (S 48 (-1))) ((hl.2.2.1 1 (by decide))) (by omega) (by omega) ⟨(by omega), (by omega)⟩ ?_
  refine wa_aload_n (n := 0) rfl ?_
  refine wb_gfi 158 rfl (wy_pr rfl) wt_158 wf_5_7 (v := 5) ((w_up_slot (by decide)).trans (l7)) (fun r13 => ?_)
  refine wa_ifne (w_rg0 (by omega) (by omega)) ⟨_, rfl⟩ (fun c14 => ?_) (fun c14 => ?_)
  · skip
    refine wa_aload_n (n := 0) rfl ?_
    refine wb_gfi 158 rfl (wy_pr rfl) wt_158 wf_5_7 (v := 5) ((w_up_slot (by decide)).trans (l7)) (fun r15 => ?_)
    refine wa_iconst ?_
    refine wa_icmpne (w_rg0 (by omega) (by omega)) (w_rg0 (by omega) (by omega)) ⟨_, rfl⟩ (fun c16 => ?_) (fun c16 => ?_)
    · skip
      refine wa_aload_n (n := 0) rfl ?_
      refine wb_gfi 158 rfl (wy_pr rfl) wt_158 wf_5_7 (v := 5) ((w_up_slot (by decide)).trans (l7)) (fun r17 => ?_)
      refine wa_iconst ?_
      refine wa_icmpne (w_rg0 (by omega) (by omega)) (w_rg0 (by omega) (by omega)) ⟨_, rfl⟩ (fun c18 => ?_) (fun c18 => ?_)
      · skip
        exact absurd c18 (by omega)
      · skip
        refine wa_aload_n (n := 3) rfl ?_
        refine wa_iload_n (n := 1) rfl ?_
        refine wa_iload_n (n := 2) rfl ?_
        refine wa_aload_n (n := 0) rfl ?_
        refine wa_ks ?_
        have f19 : ∀ (j : Nat) (x : Int), j < 4000000 → j ≠ wG → ¬ lahC 162 209 210 fo j x → (w_up S 49 fo k) j x = S j x := fun j x j0 j1 hj => (w_up_no (lah_n (j2 := 49) (x2 := fo) hj (⟨by omega, by omega, rfl⟩)))
        have hc19 : cCh 162 210 209 163 T cs ms os CH wo mo (w_up S 49 fo k) := cCh_ag hc (fun j x hj => (w_up_no (by omega)))
        have hC19 : w_CL (w_up S 49 fo k) := lhC_162 hC hc19 hfo.1 f19
        have hN19 : hLn 162 163 nm wk W (w_up S 49 fo k) := hLn_ag hN (fun j x hj => f19 j x (by omega) (by unfold wG; omega) (by unfold lahC lahA; omega))
        have hK19 : KC 176 186 182 203 204 163 162 T cs ms os (w_up S 49 fo k) := KC_ag hK (f19 162 2 (by omega) (by unfold wG; omega) (by unfold lahC lahA; omega)) (f19 162 4 (by omega) (by unfold wG; omega) (by unfold lahC lahA; omega)) (fun j hj => funext (fun x => f19 j x (by omega) (by unfold wG; omega) (by unfold lahC lahA; omega)))
        have hW19 : wd_at (w_up S 49 fo k) 163 64 := wda_a9 hWh (fun j x j0 j1 => f19 j x (by omega) (by unfold wG; omega) (by unfold lahC lahA; omega))
        refine wa_cv 158 rfl (wy_pr rfl) wt_158 (M2 := fun _ => False) rfl at_XL_wordBehind ⟨_, rfl⟩ rfl rfl ⟨(Or.inr ⟨wy_pr rfl, fun q => q⟩), (Or.inr ⟨wy_pr rfl, fun q => q⟩), trivial, trivial, trivial⟩ ⟨trivial, trivial, (Or.inr ⟨wy_pr rfl, fun q => q⟩), trivial⟩ (fun _ _ q => False.elim q) (wb53_162 (S := (w_up S 49 fo k)) hX hC19 (gI_up hI (by omega) (by omega) (by omega)) hN19.1.1 hN19.1.2 hN19.2.1 hN19.2.2.1.1 hN19.2.2.1.2 hN19.2.2.2.1.1 hN19.2.2.2.1.2.1 hN19.2.2.2.1.2.2 hN19.2.2.2.2.1.1 hN19.2.2.2.2.1.2 hN19.2.2.2.2.2.1) (fun oq19 Sq19 hp20 q19 => ?_)
        rcases q19 with ⟨fz19, gz19, rz19, wd, rfl, hv19⟩
        show wJ _ _ _ _ _ _ _ _ _ _
        have hvr19 := hwW_rg hv19
        have h7_19 : (w_up S 49 fo k) 163 7 ≤ 1024 := hN19.2.2.2.2.2.2
        refine wa_iconst ?_
        refine wa_aload_n (n := 0) rfl ?_
        refine wb_gfl 158 rfl (wy_pr rfl) wt_158 wf_5_13 (v := (esV tl)) (((fz19 158 13 (by omega)).trans ((w_up_slot (by decide)).trans (l13)))) (fun r21 => ?_)
        refine wa_aload_n (n := 0) rfl ?_
        refine wb_gfi 158 rfl (wy_pr rfl) wt_158 wf_5_12 (v := (tl.length : Int)) (((fz19 158 12 (by omega)).trans ((w_up_slot (by decide)).trans (l12)))) (fun r22 => ?_)
        have f23 : ∀ (j : Nat) (x : Int), j < 4000000 → j ≠ wG → ¬ lahC 162 209 210 fo j x → Sq19 j x = S j x := fun j x j0 j1 hj => (((fz19 j x (lah_c hj)).trans ((w_up_no (lah_n (j2 := 49) (x2 := fo) hj (⟨by omega, by omega, rfl⟩))))))
        have hc23 : cCh 162 210 209 163 T cs ms os CH wo mo Sq19 := cCh_ag hc (fun j x hj => ((fz19 j x (by omega)).trans (w_up_no (by omega))))
        have hC23 : w_CL Sq19 := lhC_162 hC hc23 hfo.1 f23
        have hN23 : hLn 162 163 nm wk W Sq19 := hLn_ag hN (fun j x hj => f23 j x (by omega) (by unfold wG; omega) (by unfold lahC lahA; omega))
        have hK23 : KC 176 186 182 203 204 163 162 T cs ms os Sq19 := KC_ag hK (f23 162 2 (by omega) (by unfold wG; omega) (by unfold lahC lahA; omega)) (f23 162 4 (by omega) (by unfold wG; omega) (by unfold lahC lahA; omega)) (fun j hj => funext (fun x => f23 j x (by omega) (by unfold wG; omega) (by unfold lahC lahA; omega)))
        have hW23 : wd_at Sq19 163 64 := wda_a9 hWh (fun j x j0 j1 => f23 j x (by omega) (by unfold wG; omega) (by unfold lahC lahA; omega))
        have hqk23 : qOk 163 cs Sq19 (k, am, 0, (wnW ([] : List Int) W), tl) wd := ⟨hk, ⟨by show (0 : Int) ≤ am; omega, by show am ≤ (2 : Int); omega⟩, Or.inl rfl, ⟨htl, hes⟩, Or.inr ⟨by show am ≠ 2; omega, hwW_ag hv19 (fun j x j0 j1 => fz19 j x (by omega))⟩⟩
        have hwM23 : wdM 186 T ms Sq19 (if am = 2 then 2 else 1) wd (wnW ([] : List Int) W) := by rw [if_neg (by omega)]; exact wdM_w hW23 hK23 (by rcases hqk23.2.2.2.2 with z | z; exact absurd z.1 (by show ¬ am = 2; omega); exact z.2) (by first | decide | omega)
        have hwr23 := qOk_rg hqk23 hc23.2.2.2.2.2.2
        have hch23 : ∀ K : List aKp, kpR 162 210 K Sq19 → wJ (pe_GA xs) wY0 (mS [209, 210, 211, 212, 213]) (d + 5) t_XO_choose ((pe_at t_XO_choose.bl 0).getD (0, [])).2 [(0, (2, 162)), (1, (0, k)), (2, (0, am)), (3, (0, wd)), (4, (0, 0)), (5, (1, esV tl)), (7, (0, (tl.length : Int)))] [] Sq19 (chQ 162 209 210 cs ms K (qKy (k, am, 0, (wnW ([] : List Int) W), tl) wd) wd tl (FA T cs ms os k am 0 (wnW ([] : List Int) W)) Sq19) := fun K hkp => cho_162 (pc := if (0 : Int) = 1 then 1 else -1) hC23 hK23 hw gz19 hc23.2.2.2.2.2.1 hkp (by rw [hc23.2.2.1]; exact hc23.2.2.2.1) (by rw [hc23.2.1]; exact hc23.2.2.2.2.1) hk ⟨by omega, by omega⟩ hwM23 ⟨by omega, by omega⟩ (Or.inl ⟨rfl, if_neg (by first | decide | omega)⟩) htl hes hty rfl rfl
        obtain ⟨⟨K0, hK0, -⟩, -⟩ := id hc23
        have hcz23 : wJ (pe_GA xs) wY0 (mS [209, 210, 211, 212, 213]) (d + 5) t_XO_choose ((pe_at t_XO_choose.bl 0).getD (0, [])).2 [(0, (2, 162)), (1, (0, k)), (2, (0, am)), (3, (0, wd)), (4, (0, 0)), (5, (1, esV tl)), (7, (0, (tl.length : Int)))] [] Sq19 (fun o Z => o = .inl (some (0, rv)) ∧ cCh 162 210 209 163 T cs ms os (chN CH wo mo (k, am, 0, (wnW ([] : List Int) W), tl) (FA T cs ms os k am 0 (wnW ([] : List Int) W))).1 (chN CH wo mo (k, am, 0, (wnW ([] : List Int) W), tl) (FA T cs ms os k am 0 (wnW ([] : List Int) W))).2 mo Z ∧ chF 162 209 210 Sq19 Z ∧ gI Z ∧ rmR Sq19 Z) := by
          refine wJ_mono (chA_w (fun K hkp => hch23 K hkp) hc23) (fun o Z hz => ?_)
          rw [hrv]
          exact chA_e (q := (k, am, 0, (wnW ([] : List Int) W), tl)) ⟨by decide, by decide, by decide, by decide⟩ hW23 hK23 hc23 hw hqk23 hz gz19 hwo
        refine wa_cv 162 rfl (wy_pr rfl) wt_162 (M2 := mS [209, 210, 211, 212, 213]) rfl at_XO_choose ⟨_, rfl⟩ rfl rfl ⟨(Or.inr ⟨wy_pr rfl, mS_no rfl⟩), (Or.inr ⟨wy_pr rfl, mS_no rfl⟩), trivial, trivial, trivial⟩ trivial (fun _ _ q => q) (hcz23) (fun oq23 Sq23 hp24 q23 => ?_)
        rcases q23 with ⟨rfl, hcq23, ff23, gg23, rr23⟩
        show wJ _ _ _ _ _ _ _ _ _ _
        refine wa_istore (n := 4) rfl ?_
        refine wa_goto ⟨_, rfl⟩ ?_
        refine wa_aload_n (n := 0) rfl ?_
        refine wb_gfi 158 rfl (wy_pr rfl) wt_158 wf_5_7 (v := 5) (((ff23 158 7 (by omega) (by unfold wG; omega) (by omega) (by omega) (by omega)).trans (((fz19 158 7 (by omega)).trans ((w_up_slot (by decide)).trans (l7)))))) (fun r25 => ?_)
        refine wa_ifeq (w_rg0 (by omega) (by omega)) ⟨_, rfl⟩ (fun c26 => ?_) (fun c26 => ?_)
        · skip
          exact absurd c26 (by omega)
        · skip
          refine wa_iload (n := 4) rfl ?_
          refine wa_iflt (w_rg0 (by omega) (by omega)) ⟨_, rfl⟩ (fun c27 => ?_) (fun c27 => ?_)
          · skip
            refine wa_iload (n := 4) rfl ?_
            refine wa_iconst ?_
            refine wa_icmpne (w_rg0 (by omega) (by omega)) (w_rg0 (by omega) (by omega)) ⟨_, rfl⟩ (fun c28 => ?_) (fun c28 => ?_)
            · skip
              refine wa_iload (n := 4) rfl ?_
              refine wa_ifge (w_rg0 (by omega) (by omega)) ⟨_, rfl⟩ (fun c29 => ?_) (fun c29 => ?_)
              · skip
                exact absurd c29 (by omega)
              · skip
                refine wa_aload_n (n := 0) rfl ?_
                refine wb_gf5 158 rfl (wy_pr rfl) wt_158 wf_5_4 (v := 226) (((ff23 158 4 (by omega) (by unfold wG; omega) (by omega) (by omega) (by omega)).trans (((fz19 158 4 (by omega)).trans ((w_up_slot (by decide)).trans (l4)))))) (fun r30 => ?_)
                refine wa_iload (n := 4) rfl ?_
                refine wa_iconst ?_
                refine wa_icmpne (w_rg0 (by omega) (by omega)) (w_rg0 (by omega) (by omega)) ⟨_, rfl⟩ (fun c31 => ?_) (fun c31 => ?_)
                · skip
                  refine wa_iload (n := 4) rfl ?_
                  refine wa_ineg ?_
                  refine wa_fall ⟨_, rfl⟩ ?_
                  refine wb_pfi 226 rfl (wy_pr rfl) wt_226 wf_8_16 (n := 16) rfl ⟨(by omega), (by omega)⟩ ?_
                  refine wa_fall ⟨_, rfl⟩ ?_
                  refine wa_aload_n (n := 0) rfl ?_
                  refine wb_gf4 158 rfl (wy_pr rfl) wt_158 wf_5_3 (v := 47) wl_158_3 ?_
                  refine wa_iconst ?_
                  refine wb_aald5 47 3 rfl rfl (wy_pr rfl) wt_47 (by rw [show _ = _ from ((w_up_slot (by decide)).trans (((ff23 47 (-1) (by omega) (by unfold wG; omega) (by omega) (by omega) (by omega)).trans (((fz19 47 (-1) (by omega)).trans ((w_up_slot (by decide)).trans ((cl_47 hC))))))))]; omega) wl_47_3 ?_
                  refine wa_aload_n (n := 0) rfl ?_
                  refine wb_gfi 158 rfl (wy_pr rfl) wt_158 wf_5_14 (v := fo) ((w_up_slot (by decide)).trans (((ff23 158 14 (by omega) (by unfold wG; omega) (by omega) (by omega) (by omega)).trans (((fz19 158 14 (by omega)).trans ((w_up_slot (by decide)).trans (l14))))))) (fun r32 => ?_)
                  refine wa_iload (n := 4) rfl ?_
                  refine wb_iast 51 rfl (wy_pr rfl) wt_51 (n := (S 48 (-1))) ((w_up_slot (by decide)).trans (((ff23 51 (-1) (by omega) (by unfold wG; omega) (by omega) (by omega) (by omega)).trans (((fz19 51 (-1) (by omega)).trans ((w_up_slot (by decide)).trans ((hl.2.2.1 3 (by decide))))))))) (by omega) (by omega) ⟨(by omega), (by omega)⟩ ?_
                  refine wa_return rfl ?_
                  have fE : ∀ (j : Nat) (x : Int), j < 4000000 → j ≠ wG → ¬ lahM 162 209 210 226 fo j x → (w_up (w_up Sq23 226 16 (-rv)) 51 fo rv) j x = S j x := fun j x j0 j1 hj => ((w_up_no (lah_m (j2 := 51) (x2 := fo) hj (Or.inl ⟨by omega, by omega, rfl⟩))).trans ((w_up_no (lah_m (j2 := 226) (x2 := 16) hj (Or.inr ⟨rfl, rfl⟩))).trans (((ff23 j x j0 j1 (lah_f hj).1 (lah_f hj).2.1 (lah_f hj).2.2).trans ((((fz19 j x (lah_d hj)).trans ((w_up_no (lah_m (j2 := 49) (x2 := fo) hj (Or.inl ⟨by omega, by omega, rfl⟩)))))))))))
                  have hcE := cCh_ag hcq23 (Z := (w_up (w_up Sq23 226 16 (-rv)) 51 fo rv)) (fun j x hj => ((w_up_no (by omega)).trans (w_up_no (by omega))))
                  refine ⟨rfl, fun z => absurd z (by omega), fun _ => ?_, hcE, fE, (gI_up (gI_up gg23 (by omega) (by omega) (by omega)) (by omega) (by omega) (by omega)), (rmR_up (rmR_up (rmR_tr (rmR_tr (rmR_up hR (by omega) (by first | decide | omega)) rz19) rr23) (by omega) (by first | decide | omega)) (by omega) (by first | decide | omega))⟩
                  refine (((w_up_slot (by first | decide | omega)).trans (w_up_same _ _ _ _)) : (w_up (w_up Sq23 226 16 (-rv)) 51 fo rv) 226 16 = (-rv)).trans ?_
                  first | omega | (rw [if_pos (by omega)]) | (rw [if_neg (by omega)])
                · skip
                  exact absurd c31 (by omega)
            · skip
              refine wa_aload_n (n := 0) rfl ?_
              refine wb_gfi 158 rfl (wy_pr rfl) wt_158 wf_5_7 (v := 5) (((ff23 158 7 (by omega) (by unfold wG; omega) (by omega) (by omega) (by omega)).trans (((fz19 158 7 (by omega)).trans ((w_up_slot (by decide)).trans (l7)))))) (fun r33 => ?_)
              refine wa_ifeq (w_rg0 (by omega) (by omega)) ⟨_, rfl⟩ (fun c34 => ?_) (fun c34 => ?_)
              · skip
                exact absurd c34 (by omega)
              · skip
                refine wa_aload_n (n := 0) rfl ?_
                refine wb_gfi 158 rfl (wy_pr rfl) wt_158 wf_5_7 (v := 5) (((ff23 158 7 (by omega) (by unfold wG; omega) (by omega) (by omega) (by omega)).trans (((fz19 158 7 (by omega)).trans ((w_up_slot (by decide)).trans (l7)))))) (fun r35 => ?_)
                refine wa_iconst ?_
                refine wa_icmpne (w_rg0 (by omega) (by omega)) (w_rg0 (by omega) (by omega)) ⟨_, rfl⟩ (fun c36 => ?_) (fun c36 => ?_)
                · skip
                  refine wa_iload (n := 4) rfl ?_
                  refine wa_ifge (w_rg0 (by omega) (by omega)) ⟨_, rfl⟩ (fun c37 => ?_) (fun c37 => ?_)
                  · skip
                    exact absurd c37 (by omega)
                  · skip
                    refine wa_aload_n (n := 0) rfl ?_
                    refine wb_gf5 158 rfl (wy_pr rfl) wt_158 wf_5_4 (v := 226) (((ff23 158 4 (by omega) (by unfold wG; omega) (by omega) (by omega) (by omega)).trans (((fz19 158 4 (by omega)).trans ((w_up_slot (by decide)).trans (l4)))))) (fun r38 => ?_)
                    refine wa_iload (n := 4) rfl ?_
                    refine wa_iconst ?_
                    refine wa_icmpne (w_rg0 (by omega) (by omega)) (w_rg0 (by omega) (by omega)) ⟨_, rfl⟩ (fun c39 => ?_) (fun c39 => ?_)
                    · skip
                      exact absurd c39 (by omega)
                    · skip
                      refine wa_iconst ?_
                      refine wa_goto ⟨_, rfl⟩ ?_
                      refine wb_pfi 226 rfl (wy_pr rfl) wt_226 wf_8_16 (n := 16) rfl ⟨(by omega), (by omega)⟩ ?_
                      refine wa_fall ⟨_, rfl⟩ ?_
                      refine wa_aload_n (n := 0) rfl ?_
                      refine wb_gf4 158 rfl (wy_pr rfl) wt_158 wf_5_3 (v := 47) wl_158_3 ?_
                      refine wa_iconst ?_
                      refine wb_aald5 47 3 rfl rfl (wy_pr rfl) wt_47 (by rw [show _ = _ from ((w_up_slot (by decide)).trans (((ff23 47 (-1) (by omega) (by unfold wG; omega) (by omega) (by omega) (by omega)).trans (((fz19 47 (-1) (by omega)).trans ((w_up_slot (by decide)).trans ((cl_47 hC))))))))]; omega) wl_47_3 ?_
                      refine wa_aload_n (n := 0) rfl ?_
                      refine wb_gfi 158 rfl (wy_pr rfl) wt_158 wf_5_14 (v := fo) ((w_up_slot (by decide)).trans (((ff23 158 14 (by omega) (by unfold wG; omega) (by omega) (by omega) (by omega)).trans (((fz19 158 14 (by omega)).trans ((w_up_slot (by decide)).trans (l14))))))) (fun r40 => ?_)
                      refine wa_iload (n := 4) rfl ?_
                      refine wb_iast 51 rfl (wy_pr rfl) wt_51 (n := (S 48 (-1))) ((w_up_slot (by decide)).trans (((ff23 51 (-1) (by omega) (by unfold wG; omega) (by omega) (by omega) (by omega)).trans (((fz19 51 (-1) (by omega)).trans ((w_up_slot (by decide)).trans ((hl.2.2.1 3 (by decide))))))))) (by omega) (by omega) ⟨(by omega), (by omega)⟩ ?_
                      refine wa_return rfl ?_
                      have fE : ∀ (j : Nat) (x : Int), j < 4000000 → j ≠ wG → ¬ lahM 162 209 210 226 fo j x → (w_up (w_up Sq23 226 16 4) 51 fo rv) j x = S j x := fun j x j0 j1 hj => ((w_up_no (lah_m (j2 := 51) (x2 := fo) hj (Or.inl ⟨by omega, by omega, rfl⟩))).trans ((w_up_no (lah_m (j2 := 226) (x2 := 16) hj (Or.inr ⟨rfl, rfl⟩))).trans (((ff23 j x j0 j1 (lah_f hj).1 (lah_f hj).2.1 (lah_f hj).2.2).trans ((((fz19 j x (lah_d hj)).trans ((w_up_no (lah_m (j2 := 49) (x2 := fo) hj (Or.inl ⟨by omega, by omega, rfl⟩)))))))))))
                      have hcE := cCh_ag hcq23 (Z := (w_up (w_up Sq23 226 16 4) 51 fo rv)) (fun j x hj => ((w_up_no (by omega)).trans (w_up_no (by omega))))
                      refine ⟨rfl, fun z => absurd z (by omega), fun _ => ?_, hcE, fE, (gI_up (gI_up gg23 (by omega) (by omega) (by omega)) (by omega) (by omega) (by omega)), (rmR_up (rmR_up (rmR_tr (rmR_tr (rmR_up hR (by omega) (by first | decide | omega)) rz19) rr23) (by omega) (by first | decide | omega)) (by omega) (by first | decide | omega))⟩
                      refine (((w_up_slot (by first | decide | omega)).trans (w_up_same _ _ _ _)) : (w_up (w_up Sq23 226 16 4) 51 fo rv) 226 16 = 4).trans ?_
                      first | omega | (rw [if_pos (by omega)]) | (rw [if_neg (by omega)])
                · skip
                  exact absurd c36 (by omega)
          · skip
            refine wa_aload_n (n := 0) rfl ?_
            refine wb_gf4 158 rfl (wy_pr rfl) wt_158 wf_5_3 (v := 47) wl_158_3 ?_
            refine wa_bipush (w_rg2 (by omega) (by omega)) ?_
            refine wb_aald5 47 7 rfl rfl (wy_pr rfl) wt_47 (by rw [show _ = _ from (((ff23 47 (-1) (by omega) (by unfold wG; omega) (by omega) (by omega) (by omega)).trans (((fz19 47 (-1) (by omega)).trans ((w_up_slot (by decide)).trans ((cl_47 hC)))))))]; omega) wl_47_7 ?_
            refine wa_aload_n (n := 0) rfl ?_
            refine wb_gfi 158 rfl (wy_pr rfl) wt_158 wf_5_14 (v := fo) (((ff23 158 14 (by omega) (by unfold wG; omega) (by omega) (by omega) (by omega)).trans (((fz19 158 14 (by omega)).trans ((w_up_slot (by decide)).trans (l14)))))) (fun r41 => ?_)
            refine wa_aload_n (n := 0) rfl ?_
            refine wb_gfl 158 rfl (wy_pr rfl) wt_158 wf_5_13 (v := (esV tl)) (((ff23 158 13 (by omega) (by unfold wG; omega) (by omega) (by omega) (by omega)).trans (((fz19 158 13 (by omega)).trans ((w_up_slot (by decide)).trans (l13)))))) (fun r42 => ?_)
            refine wa_l2i ?_
            refine wb_iast 55 rfl (wy_pr rfl) wt_55 (n := (S 48 (-1))) (((ff23 55 (-1) (by omega) (by unfold wG; omega) (by omega) (by omega) (by omega)).trans (((fz19 55 (-1) (by omega)).trans ((w_up_slot (by decide)).trans ((hl.2.2.1 7 (by decide)))))))) (by omega) (by omega) ⟨(by omega), (by omega)⟩ ?_
            refine wa_aload_n (n := 0) rfl ?_
            refine wb_gf4 158 rfl (wy_pr rfl) wt_158 wf_5_3 (v := 47) wl_158_3 ?_
            refine wa_bipush (w_rg2 (by omega) (by omega)) ?_
            refine wb_aald5 47 8 rfl rfl (wy_pr rfl) wt_47 (by rw [show _ = _ from ((w_up_slot (by decide)).trans (((ff23 47 (-1) (by omega) (by unfold wG; omega) (by omega) (by omega) (by omega)).trans (((fz19 47 (-1) (by omega)).trans ((w_up_slot (by decide)).trans ((cl_47 hC))))))))]; omega) wl_47_8 ?_
            refine wa_aload_n (n := 0) rfl ?_
            refine wb_gfi 158 rfl (wy_pr rfl) wt_158 wf_5_14 (v := fo) ((w_up_slot (by decide)).trans (((ff23 158 14 (by omega) (by unfold wG; omega) (by omega) (by omega) (by omega)).trans (((fz19 158 14 (by omega)).trans ((w_up_slot (by decide)).trans (l14))))))) (fun r43 => ?_)
            refine wa_aload_n (n := 0) rfl ?_
            refine wb_gfl 158 rfl (wy_pr rfl) wt_158 wf_5_13 (v := (esV tl)) ((w_up_slot (by decide)).trans (((ff23 158 13 (by omega) (by unfold wG; omega) (by omega) (by omega) (by omega)).trans (((fz19 158 13 (by omega)).trans ((w_up_slot (by decide)).trans (l13))))))) (fun r44 => ?_)
            refine wa_bipush (w_rg2 (by omega) (by omega)) ?_
            refine wa_lushr ?_
            refine wa_l2i ?_
            refine wb_iast 56 rfl (wy_pr rfl) wt_56 (n := (S 48 (-1))) ((w_up_slot (by decide)).trans (((ff23 56 (-1) (by omega) (by unfold wG; omega) (by omega) (by omega) (by omega)).trans (((fz19 56 (-1) (by omega)).trans ((w_up_slot (by decide)).trans ((hl.2.2.1 8 (by decide))))))))) (by omega) (by omega) ⟨(by omega), (by omega)⟩ ?_
            refine wa_fall ⟨_, rfl⟩ ?_
            refine wa_iload (n := 4) rfl ?_
            refine wa_iconst ?_
            refine wa_icmpne (w_rg0 (by omega) (by omega)) (w_rg0 (by omega) (by omega)) ⟨_, rfl⟩ (fun c45 => ?_) (fun c45 => ?_)
            · skip
              refine wa_iload (n := 4) rfl ?_
              refine wa_ifge (w_rg0 (by omega) (by omega)) ⟨_, rfl⟩ (fun c46 => ?_) (fun c46 => ?_)
              · skip
                refine wa_aload_n (n := 0) rfl ?_
                refine wb_gf4 158 rfl (wy_pr rfl) wt_158 wf_5_3 (v := 47) wl_158_3 ?_
                refine wa_iconst ?_
                refine wb_aald5 47 3 rfl rfl (wy_pr rfl) wt_47 (by rw [show _ = _ from ((w_up_slot (by decide)).trans ((w_up_slot (by decide)).trans (((ff23 47 (-1) (by omega) (by unfold wG; omega) (by omega) (by omega) (by omega)).trans (((fz19 47 (-1) (by omega)).trans ((w_up_slot (by decide)).trans ((cl_47 hC)))))))))]; omega) wl_47_3 ?_
                refine wa_aload_n (n := 0) rfl ?_
                refine wb_gfi 158 rfl (wy_pr rfl) wt_158 wf_5_14 (v := fo) ((w_up_slot (by decide)).trans ((w_up_slot (by decide)).trans (((ff23 158 14 (by omega) (by unfold wG; omega) (by omega) (by omega) (by omega)).trans (((fz19 158 14 (by omega)).trans ((w_up_slot (by decide)).trans (l14)))))))) (fun r47 => ?_)
                refine wa_iload (n := 4) rfl ?_
                refine wb_iast 51 rfl (wy_pr rfl) wt_51 (n := (S 48 (-1))) ((w_up_slot (by decide)).trans ((w_up_slot (by decide)).trans (((ff23 51 (-1) (by omega) (by unfold wG; omega) (by omega) (by omega) (by omega)).trans (((fz19 51 (-1) (by omega)).trans ((w_up_slot (by decide)).trans ((hl.2.2.1 3 (by decide)))))))))) (by omega) (by omega) ⟨(by omega), (by omega)⟩ ?_
                refine wa_return rfl ?_
                have fE : ∀ (j : Nat) (x : Int), j < 4000000 → j ≠ wG → ¬ lahM 162 209 210 226 fo j x → (w_up (w_up (w_up Sq23 55 fo (wb_l2i (esV tl))) 56 fo (wb_l2i (wb_lushr (esV tl) 32))) 51 fo rv) j x = S j x := fun j x j0 j1 hj => ((w_up_no (lah_m (j2 := 51) (x2 := fo) hj (Or.inl ⟨by omega, by omega, rfl⟩))).trans ((w_up_no (lah_m (j2 := 56) (x2 := fo) hj (Or.inl ⟨by omega, by omega, rfl⟩))).trans ((w_up_no (lah_m (j2 := 55) (x2 := fo) hj (Or.inl ⟨by omega, by omega, rfl⟩))).trans (((ff23 j x j0 j1 (lah_f hj).1 (lah_f hj).2.1 (lah_f hj).2.2).trans ((((fz19 j x (lah_d hj)).trans ((w_up_no (lah_m (j2 := 49) (x2 := fo) hj (Or.inl ⟨by omega, by omega, rfl⟩))))))))))))
                have hcE := cCh_ag hcq23 (Z := (w_up (w_up (w_up Sq23 55 fo (wb_l2i (esV tl))) 56 fo (wb_l2i (wb_lushr (esV tl) 32))) 51 fo rv)) (fun j x hj => ((w_up_no (by omega)).trans ((w_up_no (by omega)).trans (w_up_no (by omega)))))
                refine ⟨rfl, fun _ => ⟨?_, ((w_up_slot (by first | decide | omega)).trans ((w_up_slot (by first | decide | omega)).trans ((w_up_slot (by first | decide | omega)).trans (((ff23 226 16 (by omega) (by unfold wG; omega) (by omega) (by omega) (by omega)).trans (((fz19 226 16 (by omega)).trans (w_up_slot (by first | decide | omega)))))))))⟩, fun z => absurd z (by omega), hcE, fE, (gI_up (gI_up (gI_up gg23 (by omega) (by omega) (by omega)) (by omega) (by omega) (by omega)) (by omega) (by omega) (by omega)), (rmR_up (rmR_up (rmR_up (rmR_tr (rmR_tr (rmR_up hR (by omega) (by first | decide | omega)) rz19) rr23) (by omega) (by first | decide | omega)) (by omega) (by first | decide | omega)) (by omega) (by first | decide | omega))⟩
                refine ⟨⟨(((w_up_slot (by first | decide | omega)).trans ((w_up_slot (by first | decide | omega)).trans ((w_up_slot (by first | decide | omega)).trans (((ff23 48 fo (by omega) (by unfold wG; omega) (by omega) (by omega) (by omega)).trans (((fz19 48 fo (by omega)).trans (w_up_slot (by first | decide | omega))))))))) : (w_up (w_up (w_up Sq23 55 fo (wb_l2i (esV tl))) 56 fo (wb_l2i (wb_lushr (esV tl) 32))) 51 fo rv) 48 fo = (S 48 fo)).trans b1, (((w_up_slot (by first | decide | omega)).trans ((w_up_slot (by first | decide | omega)).trans ((w_up_slot (by first | decide | omega)).trans (((ff23 49 fo (by omega) (by unfold wG; omega) (by omega) (by omega) (by omega)).trans (((fz19 49 fo (by omega)).trans (w_up_same _ _ _ _)))))))) : (w_up (w_up (w_up Sq23 55 fo (wb_l2i (esV tl))) 56 fo (wb_l2i (wb_lushr (esV tl) 32))) 51 fo rv) 49 fo = k), (((w_up_slot (by first | decide | omega)).trans ((w_up_slot (by first | decide | omega)).trans ((w_up_slot (by first | decide | omega)).trans (((ff23 50 fo (by omega) (by unfold wG; omega) (by omega) (by omega) (by omega)).trans (((fz19 50 fo (by omega)).trans (w_up_slot (by first | decide | omega))))))))) : (w_up (w_up (w_up Sq23 55 fo (wb_l2i (esV tl))) 56 fo (wb_l2i (wb_lushr (esV tl) 32))) 51 fo rv) 50 fo = (S 50 fo)).trans b3, ((w_up_same _ _ _ _) : (w_up (w_up (w_up Sq23 55 fo (wb_l2i (esV tl))) 56 fo (wb_l2i (wb_lushr (esV tl) 32))) 51 fo rv) 51 fo = rv), (((w_up_slot (by first | decide | omega)).trans ((w_up_slot (by first | decide | omega)).trans ((w_up_slot (by first | decide | omega)).trans (((ff23 52 fo (by omega) (by unfold wG; omega) (by omega) (by omega) (by omega)).trans (((fz19 52 fo (by omega)).trans (w_up_slot (by first | decide | omega))))))))) : (w_up (w_up (w_up Sq23 55 fo (wb_l2i (esV tl))) 56 fo (wb_l2i (wb_lushr (esV tl) 32))) 51 fo rv) 52 fo = (S 52 fo)).trans b5⟩, ((((w_up_slot (by first | decide | omega)).trans ((w_up_slot (by first | decide | omega)).trans ((w_up_slot (by first | decide | omega)).trans (((ff23 53 fo (by omega) (by unfold wG; omega) (by omega) (by omega) (by omega)).trans (((fz19 53 fo (by omega)).trans (w_up_slot (by first | decide | omega))))))))) : (w_up (w_up (w_up Sq23 55 fo (wb_l2i (esV tl))) 56 fo (wb_l2i (wb_lushr (esV tl) 32))) 51 fo rv) 53 fo = (S 53 fo)).trans b6).trans (if_neg (fun z => by have z1 := z.1; simp only [hoN] at z1; omega)).symm, ((((w_up_slot (by first | decide | omega)).trans ((w_up_slot (by first | decide | omega)).trans ((w_up_slot (by first | decide | omega)).trans (((ff23 54 fo (by omega) (by unfold wG; omega) (by omega) (by omega) (by omega)).trans (((fz19 54 fo (by omega)).trans (w_up_slot (by first | decide | omega))))))))) : (w_up (w_up (w_up Sq23 55 fo (wb_l2i (esV tl))) 56 fo (wb_l2i (wb_lushr (esV tl) 32))) 51 fo rv) 54 fo = (S 54 fo)).trans b7).trans (if_neg (fun z => by have z1 := z.1; simp only [hoN] at z1; omega)).symm, ?_, ?_⟩
                · exact (((w_up_slot (by first | decide | omega)).trans ((w_up_slot (by first | decide | omega)).trans (w_up_same _ _ _ _))) : (w_up (w_up (w_up Sq23 55 fo (wb_l2i (esV tl))) 56 fo (wb_l2i (wb_lushr (esV tl) 32))) 51 fo rv) 55 fo = (wb_l2i (esV tl))).trans (if_pos ⟨hll, by exact Or.inl rfl⟩).symm
                · exact (((w_up_slot (by first | decide | omega)).trans (w_up_same _ _ _ _)) : (w_up (w_up (w_up Sq23 55 fo (wb_l2i (esV tl))) 56 fo (wb_l2i (wb_lushr (esV tl) 32))) 51 fo rv) 56 fo = (wb_l2i (wb_lushr (esV tl) 32))).trans (if_pos ⟨hll, by exact Or.inl rfl⟩).symm
              · skip
                exact absurd c46 (by omega)
            · skip
              exact absurd c45 (by omega)
    · skip
      exact absurd c16 (by omega)
  · skip
    exact absurd c14 (by omega)
set_option maxHeartbeats 4000000 in
theorem lan_162_226 {k am l nm wk nms fo at0 wo mo : Int} {W tl : List Int} {CH : List aQ} (hC : w_CL S) (hK : KC 176 186 182 203 204 163 162 T cs ms os S) (hw : wHo cs ms os) (hX : w_X xs) (hI : gI S) (h72 : S 72 1 = 162) (hc : cCh 162 210 209 163 T cs ms os CH wo mo S) (hWh : wd_at S 163 64) (hl : cSl S) (l4 : S 158 4 = 226) (l7 : S 158 7 = 6) (l12 : S 158 12 = (tl.length : Int)) (l13 : S 158 13 = esV tl) (htl : tl.length ≤ 8) (hes : esOk tl) (hty : ∀ c ∈ tl, c < 9 + (cs.length : Int)) (hwo : wo < 10000000) (l14 : S 158 14 = fo) (hfo : 0 ≤ fo ∧ fo < S 48 (-1)) (hbl : blE l fo S) (hll : l = 1 ∨ l = 2) (hk : 0 ≤ k ∧ k < (cs.length : Int)) (ham : am = 1) : wJ (pe_GA xs) wY0 (mS [209, 210, 211, 212, 213]) (d + 6) t_XL_lookAtHost ((pe_at t_XL_lookAtHost.bl 0).getD (0, [])).2 [(0, (2, 158)), (1, (0, k)), (2, (0, am))] [] S (lhQ 162 209 210 163 226 T cs ms os (chN CH wo mo (k, 2, 0, [], tl) (FA T cs ms os k 2 0 [])).1 (chN CH wo mo (k, 2, 0, [], tl) (FA T cs ms os k 2 0 [])).2 mo 6 nms fo (rvA T cs ms os (k, 2, 0, [], tl)) (hoN l k (rvA T cs ms os (k, 2, 0, [], tl)) (tl.length : Int) (esV tl) at0) S) := by
  have hR := rmR_rfl S
  have h48 := hl.2.2.2
  have hn := KC_n hK
  have hn2 := hn.2.2
  have h400 := hw.1
  obtain ⟨⟨b1, b2, b3, b4, b5⟩, b6, b7, b8, b9⟩ := hbl
  have hear : 0 ≤ esV tl ∧ esV tl < 72057594037927936 := by have z := esV_rg tl hes; have z2 := p7_le (n := tl.length) htl; omega
  have hlo := wb_l2i_rg (esV tl)
  have hhi := wb_l2i_rg (wb_lushr (esV tl) 32)
  obtain ⟨rv, hrv⟩ : ∃ r : Int, r = (rvA T cs ms os (k, 2, 0, [], tl)) := ⟨_, rfl⟩
  have hrr := rvA_rg (T := T) (q := (k, 2, 0, [], tl)) hw hk
  rw [← hrv] at hrr ⊢
  refine wa_aload_n (n := 0) rfl ?_
  refine wb_gf4 158 rfl (wy_pr rfl) wt_158 wf_5_0 (v := 72) wl_158_0 ?_
  refine wb_gf5 72 rfl (wy_pr rfl) wt_72 wf_2_1 (v := 162) (h72) (fun r11 => ?_)
  refine wa_astore_n (n := 3) rfl ?_
  refine wa_aload_n (n := 0) rfl ?_
  refine wb_gf4 158 rfl (wy_pr rfl) wt_158 wf_5_3 (v := 47) wl_158_3 ?_
  refine wa_iconst ?_
  refine wb_aald5 47 1 rfl rfl (wy_pr rfl) wt_47 (by rw [show _ = _ from ((cl_47 hC))]; omega) wl_47_1 ?_
  refine wa_aload_n (n := 0) rfl ?_
  refine wb_gfi 158 rfl (wy_pr rfl) wt_158 wf_5_14 (v := fo) (l14) (fun r12 => ?_)
  refine wa_iload_n (n := 1) rfl ?_
  refine wb_iast 49 rfl (wy_pr rfl) wt_49 (n := (S 48 (-1))) ((hl.2.2.1 1 (by decide))) (by omega) (by omega) ⟨(by omega), (by omega)⟩ ?_
  refine wa_aload_n (n := 0) rfl ?_
  refine wb_gfi 158 rfl (wy_pr rfl) wt_158 wf_5_7 (v := 6) ((w_up_slot (by decide)).trans (l7)) (fun r13 => ?_)
  refine wa_ifne (w_rg0 (by omega) (by omega)) ⟨_, rfl⟩ (fun c14 => ?_) (fun c14 => ?_)
  · skip
    refine wa_aload_n (n := 0) rfl ?_
    refine wb_gfi 158 rfl (wy_pr rfl) wt_158 wf_5_7 (v := 6) ((w_up_slot (by decide)).trans (l7)) (fun r15 => ?_)
    refine wa_iconst ?_
    refine wa_icmpne (w_rg0 (by omega) (by omega)) (w_rg0 (by omega) (by omega)) ⟨_, rfl⟩ (fun c16 => ?_) (fun c16 => ?_)
    · skip
      refine wa_aload_n (n := 0) rfl ?_
      refine wb_gfi 158 rfl (wy_pr rfl) wt_158 wf_5_7 (v := 6) ((w_up_slot (by decide)).trans (l7)) (fun r17 => ?_)
      refine wa_iconst ?_
      refine wa_icmpne (w_rg0 (by omega) (by omega)) (w_rg0 (by omega) (by omega)) ⟨_, rfl⟩ (fun c18 => ?_) (fun c18 => ?_)
      · skip
        refine wa_aload_n (n := 0) rfl ?_
        refine wb_gfi 158 rfl (wy_pr rfl) wt_158 wf_5_7 (v := 6) ((w_up_slot (by decide)).trans (l7)) (fun r19 => ?_)
        refine wa_bipush (w_rg2 (by omega) (by omega)) ?_
        refine wa_icmpne (w_rg0 (by omega) (by omega)) (w_rg0 (by omega) (by omega)) ⟨_, rfl⟩ (fun c20 => ?_) (fun c20 => ?_)
        · skip
          exact absurd c20 (by omega)
        · skip
          refine wa_iload_n (n := 2) rfl ?_
          refine wa_iconst ?_
          refine wa_icmpne (w_rg0 (by omega) (by omega)) (w_rg0 (by omega) (by omega)) ⟨_, rfl⟩ (fun c21 => ?_) (fun c21 => ?_)
          · skip
            exact absurd c21 (by omega)
          · skip
            refine wa_aload_n (n := 3) rfl ?_
            refine wa_iload_n (n := 1) rfl ?_
            refine wa_iconst ?_
            refine wa_bipush (w_rg2 (by omega) (by omega)) ?_
            refine wa_iconst ?_
            refine wa_aload_n (n := 0) rfl ?_
            refine wb_gfl 158 rfl (wy_pr rfl) wt_158 wf_5_13 (v := (esV tl)) ((w_up_slot (by decide)).trans (l13)) (fun r22 => ?_)
            refine wa_aload_n (n := 0) rfl ?_
            refine wb_gfi 158 rfl (wy_pr rfl) wt_158 wf_5_12 (v := (tl.length : Int)) ((w_up_slot (by decide)).trans (l12)) (fun r23 => ?_)
            have f24 : ∀ (j : Nat) (x : Int), j < 4000000 → j ≠ wG → ¬ lahC 162 209 210 fo j x → (w_up S 49 fo k) j x = S j x := fun j x j0 j1 hj => (w_up_no (lah_n (j2 := 49) (x2 := fo) hj (⟨by omega, by omega, rfl⟩)))
            have hc24 : cCh 162 210 209 163 T cs ms os CH wo mo (w_up S 49 fo k) := cCh_ag hc (fun j x hj => (w_up_no (by omega)))
            have hC24 : w_CL (w_up S 49 fo k) := lhC_162 hC hc24 hfo.1 f24
            have hK24 : KC 176 186 182 203 204 163 162 T cs ms os (w_up S 49 fo k) := KC_ag hK (f24 162 2 (by omega) (by unfold wG; omega) (by unfold lahC lahA; omega)) (f24 162 4 (by omega) (by unfold wG; omega) (by unfold lahC lahA; omega)) (fun j hj => funext (fun x => f24 j x (by omega) (by unfold wG; omega) (by unfold lahC lahA; omega)))
            have hW24 : wd_at (w_up S 49 fo k) 163 64 := wda_a9 hWh (fun j x j0 j1 => f24 j x (by omega) (by unfold wG; omega) (by unfold lahC lahA; omega))
            have hqk24 : qOk 163 cs (w_up S 49 fo k) (k, 2, 0, [], tl) 12 := ⟨hk, ⟨by show (0 : Int) ≤ 2; decide, by show (2 : Int) ≤ 2; decide⟩, Or.inl rfl, ⟨htl, hes⟩, Or.inl ⟨rfl, rfl, rfl⟩⟩
            have hwM24 : wdM 186 T ms (w_up S 49 fo k) (if (2 : Int) = 2 then 2 else 1) 12 [] := wdM_n hK24
            have hwr24 := qOk_rg hqk24 hc24.2.2.2.2.2.2
            have hch24 : ∀ K : List aKp, kpR 162 210 K (w_up S 49 fo k) → wJ (pe_GA xs) wY0 (mS [209, 210, 211, 212, 213]) (d + 5) t_XO_choose ((pe_at t_XO_choose.bl 0).getD (0, [])).2 [(0, (2, 162)), (1, (0, k)), (2, (0, 2)), (3, (0, 12)), (4, (0, 0)), (5, (1, esV tl)), (7, (0, (tl.length : Int)))] [] (w_up S 49 fo k) (chQ 162 209 210 cs ms K (qKy (k, 2, 0, [], tl) 12) 12 tl (FA T cs ms os k 2 0 []) (w_up S 49 fo k)) := fun K hkp => cho_162 (pc := if (0 : Int) = 1 then 1 else -1) hC24 hK24 hw (gI_up hI (by omega) (by omega) (by omega)) hc24.2.2.2.2.2.1 hkp (by rw [hc24.2.2.1]; exact hc24.2.2.2.1) (by rw [hc24.2.1]; exact hc24.2.2.2.2.1) hk ⟨by omega, by omega⟩ hwM24 ⟨by omega, by omega⟩ (Or.inl ⟨rfl, if_neg (by first | decide | omega)⟩) htl hes hty rfl rfl
            obtain ⟨⟨K0, hK0, -⟩, -⟩ := id hc24
            have hcz24 : wJ (pe_GA xs) wY0 (mS [209, 210, 211, 212, 213]) (d + 5) t_XO_choose ((pe_at t_XO_choose.bl 0).getD (0, [])).2 [(0, (2, 162)), (1, (0, k)), (2, (0, 2)), (3, (0, 12)), (4, (0, 0)), (5, (1, esV tl)), (7, (0, (tl.length : Int)))] [] (w_up S 49 fo k) (fun o Z => o = .inl (some (0, rv)) ∧ cCh 162 210 209 163 T cs ms os (chN CH wo mo (k, 2, 0, [], tl) (FA T cs ms os k 2 0 [])).1 (chN CH wo mo (k, 2, 0, [], tl) (FA T cs ms os k 2 0 [])).2 mo Z ∧ chF 162 209 210 (w_up S 49 fo k) Z ∧ gI Z ∧ rmR (w_up S 49 fo k) Z) := by
              refine wJ_mono (chA_w (fun K hkp => hch24 K hkp) hc24) (fun o Z hz => ?_)
              rw [hrv]
              exact chA_e (q := (k, 2, 0, [], tl)) ⟨by decide, by decide, by decide, by decide⟩ hW24 hK24 hc24 hw hqk24 hz (gI_up hI (by omega) (by omega) (by omega)) hwo
            refine wa_cv 162 rfl (wy_pr rfl) wt_162 (M2 := mS [209, 210, 211, 212, 213]) rfl at_XO_choose ⟨_, rfl⟩ rfl rfl ⟨(Or.inr ⟨wy_pr rfl, mS_no rfl⟩), (Or.inr ⟨wy_pr rfl, mS_no rfl⟩), trivial, trivial, trivial⟩ trivial (fun _ _ q => q) (hcz24) (fun oq24 Sq24 hp25 q24 => ?_)
            rcases q24 with ⟨rfl, hcq24, ff24, gg24, rr24⟩
            show wJ _ _ _ _ _ _ _ _ _ _
            refine wa_istore (n := 4) rfl ?_
            refine wa_goto ⟨_, rfl⟩ ?_
            refine wa_aload_n (n := 0) rfl ?_
            refine wb_gfi 158 rfl (wy_pr rfl) wt_158 wf_5_7 (v := 6) (((ff24 158 7 (by omega) (by unfold wG; omega) (by omega) (by omega) (by omega)).trans ((w_up_slot (by decide)).trans (l7)))) (fun r26 => ?_)
            refine wa_ifeq (w_rg0 (by omega) (by omega)) ⟨_, rfl⟩ (fun c27 => ?_) (fun c27 => ?_)
            · skip
              exact absurd c27 (by omega)
            · skip
              refine wa_iload (n := 4) rfl ?_
              refine wa_iflt (w_rg0 (by omega) (by omega)) ⟨_, rfl⟩ (fun c28 => ?_) (fun c28 => ?_)
              · skip
                refine wa_iload (n := 4) rfl ?_
                refine wa_iconst ?_
                refine wa_icmpne (w_rg0 (by omega) (by omega)) (w_rg0 (by omega) (by omega)) ⟨_, rfl⟩ (fun c29 => ?_) (fun c29 => ?_)
                · skip
                  refine wa_iload (n := 4) rfl ?_
                  refine wa_ifge (w_rg0 (by omega) (by omega)) ⟨_, rfl⟩ (fun c30 => ?_) (fun c30 => ?_)
                  · skip
                    exact absurd c30 (by omega)
                  · skip
                    refine wa_aload_n (n := 0) rfl ?_
                    refine wb_gf5 158 rfl (wy_pr rfl) wt_158 wf_5_4 (v := 226) (((ff24 158 4 (by omega) (by unfold wG; omega) (by omega) (by omega) (by omega)).trans ((w_up_slot (by decide)).trans (l4)))) (fun r31 => ?_)
                    refine wa_iload (n := 4) rfl ?_
                    refine wa_iconst ?_
                    refine wa_icmpne (w_rg0 (by omega) (by omega)) (w_rg0 (by omega) (by omega)) ⟨_, rfl⟩ (fun c32 => ?_) (fun c32 => ?_)
                    · skip
                      refine wa_iload (n := 4) rfl ?_
                      refine wa_ineg ?_
                      refine wa_fall ⟨_, rfl⟩ ?_
                      refine wb_pfi 226 rfl (wy_pr rfl) wt_226 wf_8_16 (n := 16) rfl ⟨(by omega), (by omega)⟩ ?_
                      refine wa_fall ⟨_, rfl⟩ ?_
                      refine wa_aload_n (n := 0) rfl ?_
                      refine wb_gf4 158 rfl (wy_pr rfl) wt_158 wf_5_3 (v := 47) wl_158_3 ?_
                      refine wa_iconst ?_
                      refine wb_aald5 47 3 rfl rfl (wy_pr rfl) wt_47 (by rw [show _ = _ from ((w_up_slot (by decide)).trans (((ff24 47 (-1) (by omega) (by unfold wG; omega) (by omega) (by omega) (by omega)).trans ((w_up_slot (by decide)).trans ((cl_47 hC))))))]; omega) wl_47_3 ?_
                      refine wa_aload_n (n := 0) rfl ?_
                      refine wb_gfi 158 rfl (wy_pr rfl) wt_158 wf_5_14 (v := fo) ((w_up_slot (by decide)).trans (((ff24 158 14 (by omega) (by unfold wG; omega) (by omega) (by omega) (by omega)).trans ((w_up_slot (by decide)).trans (l14))))) (fun r33 => ?_)
                      refine wa_iload (n := 4) rfl ?_
                      refine wb_iast 51 rfl (wy_pr rfl) wt_51 (n := (S 48 (-1))) ((w_up_slot (by decide)).trans (((ff24 51 (-1) (by omega) (by unfold wG; omega) (by omega) (by omega) (by omega)).trans ((w_up_slot (by decide)).trans ((hl.2.2.1 3 (by decide))))))) (by omega) (by omega) ⟨(by omega), (by omega)⟩ ?_
                      refine wa_return rfl ?_
                      have fE : ∀ (j : Nat) (x : Int), j < 4000000 → j ≠ wG → ¬ lahM 162 209 210 226 fo j x → (w_up (w_up Sq24 226 16 (-rv)) 51 fo rv) j x = S j x := fun j x j0 j1 hj => ((w_up_no (lah_m (j2 := 51) (x2 := fo) hj (Or.inl ⟨by omega, by omega, rfl⟩))).trans ((w_up_no (lah_m (j2 := 226) (x2 := 16) hj (Or.inr ⟨rfl, rfl⟩))).trans (((ff24 j x j0 j1 (lah_f hj).1 (lah_f hj).2.1 (lah_f hj).2.2).trans ((w_up_no (lah_m (j2 := 49) (x2 := fo) hj (Or.inl ⟨by omega, by omega, rfl⟩))))))))
                      have hcE := cCh_ag hcq24 (Z := (w_up (w_up Sq24 226 16 (-rv)) 51 fo rv)) (fun j x hj => ((w_up_no (by omega)).trans (w_up_no (by omega))))
                      refine ⟨rfl, fun z => absurd z (by omega), fun _ => ?_, hcE, fE, (gI_up (gI_up gg24 (by omega) (by omega) (by omega)) (by omega) (by omega) (by omega)), (rmR_up (rmR_up (rmR_tr (rmR_up hR (by omega) (by first | decide | omega)) rr24) (by omega) (by first | decide | omega)) (by omega) (by first | decide | omega))⟩
                      refine (((w_up_slot (by first | decide | omega)).trans (w_up_same _ _ _ _)) : (w_up (w_up Sq24 226 16 (-rv)) 51 fo rv) 226 16 = (-rv)).trans ?_
                      first | omega | (rw [if_pos (by omega)]) | (rw [if_neg (by omega)])
                    · skip
                      exact absurd c32 (by omega)
                · skip
                  refine wa_aload_n (n := 0) rfl ?_
                  refine wb_gfi 158 rfl (wy_pr rfl) wt_158 wf_5_7 (v := 6) (((ff24 158 7 (by omega) (by unfold wG; omega) (by omega) (by omega) (by omega)).trans ((w_up_slot (by decide)).trans (l7)))) (fun r34 => ?_)
                  refine wa_ifeq (w_rg0 (by omega) (by omega)) ⟨_, rfl⟩ (fun c35 => ?_) (fun c35 => ?_)
                  · skip
                    exact absurd c35 (by omega)
                  · skip
                    refine wa_aload_n (n := 0) rfl ?_
                    refine wb_gfi 158 rfl (wy_pr rfl) wt_158 wf_5_7 (v := 6) (((ff24 158 7 (by omega) (by unfold wG; omega) (by omega) (by omega) (by omega)).trans ((w_up_slot (by decide)).trans (l7)))) (fun r36 => ?_)
                    refine wa_iconst ?_
                    refine wa_icmpne (w_rg0 (by omega) (by omega)) (w_rg0 (by omega) (by omega)) ⟨_, rfl⟩ (fun c37 => ?_) (fun c37 => ?_)
                    · skip
                      refine wa_iload (n := 4) rfl ?_
                      refine wa_ifge (w_rg0 (by omega) (by omega)) ⟨_, rfl⟩ (fun c38 => ?_) (fun c38 => ?_)
                      · skip
                        exact absurd c38 (by omega)
                      · skip
                        refine wa_aload_n (n := 0) rfl ?_
                        refine wb_gf5 158 rfl (wy_pr rfl) wt_158 wf_5_4 (v := 226) (((ff24 158 4 (by omega) (by unfold wG; omega) (by omega) (by omega) (by omega)).trans ((w_up_slot (by decide)).trans (l4)))) (fun r39 => ?_)
                        refine wa_iload (n := 4) rfl ?_
                        refine wa_iconst ?_
                        refine wa_icmpne (w_rg0 (by omega) (by omega)) (w_rg0 (by omega) (by omega)) ⟨_, rfl⟩ (fun c40 => ?_) (fun c40 => ?_)
                        · skip
                          exact absurd c40 (by omega)
                        · skip
                          refine wa_iconst ?_
                          refine wa_goto ⟨_, rfl⟩ ?_
                          refine wb_pfi 226 rfl (wy_pr rfl) wt_226 wf_8_16 (n := 16) rfl ⟨(by omega), (by omega)⟩ ?_
                          refine wa_fall ⟨_, rfl⟩ ?_
                          refine wa_aload_n (n := 0) rfl ?_
                          refine wb_gf4 158 rfl (wy_pr rfl) wt_158 wf_5_3 (v := 47) wl_158_3 ?_
                          refine wa_iconst ?_
                          refine wb_aald5 47 3 rfl rfl (wy_pr rfl) wt_47 (by rw [show _ = _ from ((w_up_slot (by decide)).trans (((ff24 47 (-1) (by omega) (by unfold wG; omega) (by omega) (by omega) (by omega)).trans ((w_up_slot (by decide)).trans ((cl_47 hC))))))]; omega) wl_47_3 ?_
                          refine wa_aload_n (n := 0) rfl ?_
                          refine wb_gfi 158 rfl (wy_pr rfl) wt_158 wf_5_14 (v := fo) ((w_up_slot (by decide)).trans (((ff24 158 14 (by omega) (by unfold wG; omega) (by omega) (by omega) (by omega)).trans ((w_up_slot (by decide)).trans (l14))))) (fun r41 => ?_)
                          refine wa_iload (n := 4) rfl ?_
                          refine wb_iast 51 rfl (wy_pr rfl) wt_51 (n := (S 48 (-1))) ((w_up_slot (by decide)).trans (((ff24 51 (-1) (by omega) (by unfold wG; omega) (by omega) (by omega) (by omega)).trans ((w_up_slot (by decide)).trans ((hl.2.2.1 3 (by decide))))))) (by omega) (by omega) ⟨(by omega), (by omega)⟩ ?_
                          refine wa_return rfl ?_
                          have fE : ∀ (j : Nat) (x : Int), j < 4000000 → j ≠ wG → ¬ lahM 162 209 210 226 fo j x → (w_up (w_up Sq24 226 16 4) 51 fo rv) j x = S j x := fun j x j0 j1 hj => ((w_up_no (lah_m (j2 := 51) (x2 := fo) hj (Or.inl ⟨by omega, by omega, rfl⟩))).trans ((w_up_no (lah_m (j2 := 226) (x2 := 16) hj (Or.inr ⟨rfl, rfl⟩))).trans (((ff24 j x j0 j1 (lah_f hj).1 (lah_f hj).2.1 (lah_f hj).2.2).trans ((w_up_no (lah_m (j2 := 49) (x2 := fo) hj (Or.inl ⟨by omega, by omega, rfl⟩))))))))
                          have hcE := cCh_ag hcq24 (Z := (w_up (w_up Sq24 226 16 4) 51 fo rv)) (fun j x hj => ((w_up_no (by omega)).trans (w_up_no (by omega))))
                          refine ⟨rfl, fun z => absurd z (by omega), fun _ => ?_, hcE, fE, (gI_up (gI_up gg24 (by omega) (by omega) (by omega)) (by omega) (by omega) (by omega)), (rmR_up (rmR_up (rmR_tr (rmR_up hR (by omega) (by first | decide | omega)) rr24) (by omega) (by first | decide | omega)) (by omega) (by first | decide | omega))⟩
                          refine (((w_up_slot (by first | decide | omega)).trans (w_up_same _ _ _ _)) : (w_up (w_up Sq24 226 16 4) 51 fo rv) 226 16 = 4).trans ?_
                          first | omega | (rw [if_pos (by omega)]) | (rw [if_neg (by omega)])
                    · skip
                      exact absurd c37 (by omega)
              · skip
                refine wa_aload_n (n := 0) rfl ?_
                refine wb_gf4 158 rfl (wy_pr rfl) wt_158 wf_5_3 (v := 47) wl_158_3 ?_
                refine wa_bipush (w_rg2 (by omega) (by omega)) ?_
                refine wb_aald5 47 7 rfl rfl (wy_pr rfl) wt_47 (by rw [show _ = _ from (((ff24 47 (-1) (by omega) (by unfold wG; omega) (by omega) (by omega) (by omega)).trans ((w_up_slot (by decide)).trans ((cl_47 hC)))))]; omega) wl_47_7 ?_
                refine wa_aload_n (n := 0) rfl ?_
                refine wb_gfi 158 rfl (wy_pr rfl) wt_158 wf_5_14 (v := fo) (((ff24 158 14 (by omega) (by unfold wG; omega) (by omega) (by omega) (by omega)).trans ((w_up_slot (by decide)).trans (l14)))) (fun r42 => ?_)
                refine wa_aload_n (n := 0) rfl ?_
                refine wb_gfl 158 rfl (wy_pr rfl) wt_158 wf_5_13 (v := (esV tl)) (((ff24 158 13 (by omega) (by unfold wG; omega) (by omega) (by omega) (by omega)).trans ((w_up_slot (by decide)).trans (l13)))) (fun r43 => ?_)
                refine wa_l2i ?_
                refine wb_iast 55 rfl (wy_pr rfl) wt_55 (n := (S 48 (-1))) (((ff24 55 (-1) (by omega) (by unfold wG; omega) (by omega) (by omega) (by omega)).trans ((w_up_slot (by decide)).trans ((hl.2.2.1 7 (by decide)))))) (by omega) (by omega) ⟨(by omega), (by omega)⟩ ?_
                refine wa_aload_n (n := 0) rfl ?_
                refine wb_gf4 158 rfl (wy_pr rfl) wt_158 wf_5_3 (v := 47) wl_158_3 ?_
                refine wa_bipush (w_rg2 (by omega) (by omega)) ?_
                refine wb_aald5 47 8 rfl rfl (wy_pr rfl) wt_47 (by rw [show _ = _ from ((w_up_slot (by decide)).trans (((ff24 47 (-1) (by omega) (by unfold wG; omega) (by omega) (by omega) (by omega)).trans ((w_up_slot (by decide)).trans ((cl_47 hC))))))]; omega) wl_47_8 ?_
                refine wa_aload_n (n := 0) rfl ?_
                refine wb_gfi 158 rfl (wy_pr rfl) wt_158 wf_5_14 (v := fo) ((w_up_slot (by decide)).trans (((ff24 158 14 (by omega) (by unfold wG; omega) (by omega) (by omega) (by omega)).trans ((w_up_slot (by decide)).trans (l14))))) (fun r44 => ?_)
                refine wa_aload_n (n := 0) rfl ?_
                refine wb_gfl 158 rfl (wy_pr rfl) wt_158 wf_5_13 (v := (esV tl)) ((w_up_slot (by decide)).trans (((ff24 158 13 (by omega) (by unfold wG; omega) (by omega) (by omega) (by omega)).trans ((w_up_slot (by decide)).trans (l13))))) (fun r45 => ?_)
                refine wa_bipush (w_rg2 (by omega) (by omega)) ?_
                refine wa_lushr ?_
                refine wa_l2i ?_
                refine wb_iast 56 rfl (wy_pr rfl) wt_56 (n := (S 48 (-1))) ((w_up_slot (by decide)).trans (((ff24 56 (-1) (by omega) (by unfold wG; omega) (by omega) (by omega) (by omega)).trans ((w_up_slot (by decide)).trans ((hl.2.2.1 8 (by decide))))))) (by omega) (by omega) ⟨(by omega), (by omega)⟩ ?_
                refine wa_fall ⟨_, rfl⟩ ?_
                refine wa_iload (n := 4) rfl ?_
                refine wa_iconst ?_
                refine wa_icmpne (w_rg0 (by omega) (by omega)) (w_rg0 (by omega) (by omega)) ⟨_, rfl⟩ (fun c46 => ?_) (fun c46 => ?_)
                · skip
                  refine wa_iload (n := 4) rfl ?_
                  refine wa_ifge (w_rg0 (by omega) (by omega)) ⟨_, rfl⟩ (fun c47 => ?_) (fun c47 => ?_)
                  · skip
                    refine wa_aload_n (n := 0) rfl ?_
                    refine wb_gf4 158 rfl (wy_pr rfl) wt_158 wf_5_3 (v := 47) wl_158_3 ?_
                    refine wa_iconst ?_
                    refine wb_aald5 47 3 rfl rfl (wy_pr rfl) wt_47 (by rw [show _ = _ from ((w_up_slot (by decide)).trans ((w_up_slot (by decide)).trans (((ff24 47 (-1) (by omega) (by unfold wG; omega) (by omega) (by omega) (by omega)).trans ((w_up_slot (by decide)).trans ((cl_47 hC)))))))]; omega) wl_47_3 ?_
                    refine wa_aload_n (n := 0) rfl ?_
                    refine wb_gfi 158 rfl (wy_pr rfl) wt_158 wf_5_14 (v := fo) ((w_up_slot (by decide)).trans ((w_up_slot (by decide)).trans (((ff24 158 14 (by omega) (by unfold wG; omega) (by omega) (by omega) (by omega)).trans ((w_up_slot (by decide)).trans (l14)))))) (fun r48 => ?_)
                    refine wa_iload (n := 4) rfl ?_
                    refine wb_iast 51 rfl (wy_pr rfl) wt_51 (n := (S 48 (-1))) ((w_up_slot (by decide)).trans ((w_up_slot (by decide)).trans (((ff24 51 (-1) (by omega) (by unfold wG; omega) (by omega) (by omega) (by omega)).trans ((w_up_slot (by decide)).trans ((hl.2.2.1 3 (by decide)))))))) (by omega) (by omega) ⟨(by omega), (by omega)⟩ ?_
                    refine wa_return rfl ?_
                    have fE : ∀ (j : Nat) (x : Int), j < 4000000 → j ≠ wG → ¬ lahM 162 209 210 226 fo j x → (w_up (w_up (w_up Sq24 55 fo (wb_l2i (esV tl))) 56 fo (wb_l2i (wb_lushr (esV tl) 32))) 51 fo rv) j x = S j x := fun j x j0 j1 hj => ((w_up_no (lah_m (j2 := 51) (x2 := fo) hj (Or.inl ⟨by omega, by omega, rfl⟩))).trans ((w_up_no (lah_m (j2 := 56) (x2 := fo) hj (Or.inl ⟨by omega, by omega, rfl⟩))).trans ((w_up_no (lah_m (j2 := 55) (x2 := fo) hj (Or.inl ⟨by omega, by omega, rfl⟩))).trans (((ff24 j x j0 j1 (lah_f hj).1 (lah_f hj).2.1 (lah_f hj).2.2).trans ((w_up_no (lah_m (j2 := 49) (x2 := fo) hj (Or.inl ⟨by omega, by omega, rfl⟩)))))))))
                    have hcE := cCh_ag hcq24 (Z := (w_up (w_up (w_up Sq24 55 fo (wb_l2i (esV tl))) 56 fo (wb_l2i (wb_lushr (esV tl) 32))) 51 fo rv)) (fun j x hj => ((w_up_no (by omega)).trans ((w_up_no (by omega)).trans (w_up_no (by omega)))))
                    refine ⟨rfl, fun _ => ⟨?_, ((w_up_slot (by first | decide | omega)).trans ((w_up_slot (by first | decide | omega)).trans ((w_up_slot (by first | decide | omega)).trans (((ff24 226 16 (by omega) (by unfold wG; omega) (by omega) (by omega) (by omega)).trans (w_up_slot (by first | decide | omega)))))))⟩, fun z => absurd z (by omega), hcE, fE, (gI_up (gI_up (gI_up gg24 (by omega) (by omega) (by omega)) (by omega) (by omega) (by omega)) (by omega) (by omega) (by omega)), (rmR_up (rmR_up (rmR_up (rmR_tr (rmR_up hR (by omega) (by first | decide | omega)) rr24) (by omega) (by first | decide | omega)) (by omega) (by first | decide | omega)) (by omega) (by first | decide | omega))⟩
                    refine ⟨⟨(((w_up_slot (by first | decide | omega)).trans ((w_up_slot (by first | decide | omega)).trans ((w_up_slot (by first | decide | omega)).trans (((ff24 48 fo (by omega) (by unfold wG; omega) (by omega) (by omega) (by omega)).trans (w_up_slot (by first | decide | omega))))))) : (w_up (w_up (w_up Sq24 55 fo (wb_l2i (esV tl))) 56 fo (wb_l2i (wb_lushr (esV tl) 32))) 51 fo rv) 48 fo = (S 48 fo)).trans b1, (((w_up_slot (by first | decide | omega)).trans ((w_up_slot (by first | decide | omega)).trans ((w_up_slot (by first | decide | omega)).trans (((ff24 49 fo (by omega) (by unfold wG; omega) (by omega) (by omega) (by omega)).trans (w_up_same _ _ _ _)))))) : (w_up (w_up (w_up Sq24 55 fo (wb_l2i (esV tl))) 56 fo (wb_l2i (wb_lushr (esV tl) 32))) 51 fo rv) 49 fo = k), (((w_up_slot (by first | decide | omega)).trans ((w_up_slot (by first | decide | omega)).trans ((w_up_slot (by first | decide | omega)).trans (((ff24 50 fo (by omega) (by unfold wG; omega) (by omega) (by omega) (by omega)).trans (w_up_slot (by first | decide | omega))))))) : (w_up (w_up (w_up Sq24 55 fo (wb_l2i (esV tl))) 56 fo (wb_l2i (wb_lushr (esV tl) 32))) 51 fo rv) 50 fo = (S 50 fo)).trans b3, ((w_up_same _ _ _ _) : (w_up (w_up (w_up Sq24 55 fo (wb_l2i (esV tl))) 56 fo (wb_l2i (wb_lushr (esV tl) 32))) 51 fo rv) 51 fo = rv), (((w_up_slot (by first | decide | omega)).trans ((w_up_slot (by first | decide | omega)).trans ((w_up_slot (by first | decide | omega)).trans (((ff24 52 fo (by omega) (by unfold wG; omega) (by omega) (by omega) (by omega)).trans (w_up_slot (by first | decide | omega))))))) : (w_up (w_up (w_up Sq24 55 fo (wb_l2i (esV tl))) 56 fo (wb_l2i (wb_lushr (esV tl) 32))) 51 fo rv) 52 fo = (S 52 fo)).trans b5⟩, ((((w_up_slot (by first | decide | omega)).trans ((w_up_slot (by first | decide | omega)).trans ((w_up_slot (by first | decide | omega)).trans (((ff24 53 fo (by omega) (by unfold wG; omega) (by omega) (by omega) (by omega)).trans (w_up_slot (by first | decide | omega))))))) : (w_up (w_up (w_up Sq24 55 fo (wb_l2i (esV tl))) 56 fo (wb_l2i (wb_lushr (esV tl) 32))) 51 fo rv) 53 fo = (S 53 fo)).trans b6).trans (if_neg (fun z => by have z1 := z.1; simp only [hoN] at z1; omega)).symm, ((((w_up_slot (by first | decide | omega)).trans ((w_up_slot (by first | decide | omega)).trans ((w_up_slot (by first | decide | omega)).trans (((ff24 54 fo (by omega) (by unfold wG; omega) (by omega) (by omega) (by omega)).trans (w_up_slot (by first | decide | omega))))))) : (w_up (w_up (w_up Sq24 55 fo (wb_l2i (esV tl))) 56 fo (wb_l2i (wb_lushr (esV tl) 32))) 51 fo rv) 54 fo = (S 54 fo)).trans b7).trans (if_neg (fun z => by have z1 := z.1; simp only [hoN] at z1; omega)).symm, ?_, ?_⟩
                    · exact (((w_up_slot (by first | decide | omega)).trans ((w_up_slot (by first | decide | omega)).trans (w_up_same _ _ _ _))) : (w_up (w_up (w_up Sq24 55 fo (wb_l2i (esV tl))) 56 fo (wb_l2i (wb_lushr (esV tl) 32))) 51 fo rv) 55 fo = (wb_l2i (esV tl))).trans (if_pos ⟨hll, by exact Or.inr (Or.inl rfl)⟩).symm
                    · exact (((w_up_slot (by first | decide | omega)).trans (w_up_same _ _ _ _)) : (w_up (w_up (w_up Sq24 55 fo (wb_l2i (esV tl))) 56 fo (wb_l2i (wb_lushr (esV tl) 32))) 51 fo rv) 56 fo = (wb_l2i (wb_lushr (esV tl) 32))).trans (if_pos ⟨hll, by exact Or.inr (Or.inl rfl)⟩).symm
                  · skip
                    exact absurd c47 (by omega)
                · skip
                  exact absurd c46 (by omega)
      · skip
        exact absurd c18 (by omega)
    · skip
      exact absurd c16 (by omega)
  · skip
    exact absurd c14 (by omega)
theorem lax_162_226 {k am kd fo : Int} (h72 : S 72 1 = 162) (hl : cSl S) (l4 : S 158 4 = 226) (l7 : S 158 7 = kd) (l14 : S 158 14 = fo) (hfo : 0 ≤ fo ∧ fo < S 48 (-1)) (hC : w_CL S) (hk : 0 ≤ k ∧ k < 60) (hkd : 2 ≤ kd ∧ kd ≤ 6 ∧ kd ≠ 5 ∧ (kd = 6 → am = 0)) (ham : am = 0 ∨ am = 1) : wJ (pe_GA xs) wY0 M (d + 6) t_XL_lookAtHost ((pe_at t_XL_lookAtHost.bl 0).getD (0, [])).2 [(0, (2, 158)), (1, (0, k)), (2, (0, am))] [] S (fun o Z => o = .inl none ∧ w_up (w_up S 49 fo k) 226 16 5 = Z) := by
  have h48 := hl.2.2.2
  refine wa_aload_n (n := 0) rfl ?_
  refine wb_gf4 158 rfl (wy_pr rfl) wt_158 wf_5_0 (v := 72) wl_158_0 ?_
  refine wb_gf5 72 rfl (wy_pr rfl) wt_72 wf_2_1 (v := 162) (h72) (fun r1 => ?_)
  refine wa_astore_n (n := 3) rfl ?_
  refine wa_aload_n (n := 0) rfl ?_
  refine wb_gf4 158 rfl (wy_pr rfl) wt_158 wf_5_3 (v := 47) wl_158_3 ?_
  refine wa_iconst ?_
  refine wb_aald5 47 1 rfl rfl (wy_pr rfl) wt_47 (by rw [show _ = _ from ((cl_47 hC))]; omega) wl_47_1 ?_
  refine wa_aload_n (n := 0) rfl ?_
  refine wb_gfi 158 rfl (wy_pr rfl) wt_158 wf_5_14 (v := fo) (l14) (fun r2 => ?_)
  refine wa_iload_n (n := 1) rfl ?_
  refine wb_iast 49 rfl (wy_pr rfl) wt_49 (n := (S 48 (-1))) ((hl.2.2.1 1 (by decide))) (by omega) (by omega) ⟨(by omega), (by omega)⟩ ?_
  refine wa_aload_n (n := 0) rfl ?_
  refine wb_gfi 158 rfl (wy_pr rfl) wt_158 wf_5_7 (v := kd) ((w_up_slot (by decide)).trans (l7)) (fun r3 => ?_)
  refine wa_ifne (w_rg0 (by omega) (by omega)) ⟨_, rfl⟩ (fun c4 => ?_) (fun c4 => ?_)
  · skip
    refine wa_aload_n (n := 0) rfl ?_
    refine wb_gfi 158 rfl (wy_pr rfl) wt_158 wf_5_7 (v := kd) ((w_up_slot (by decide)).trans (l7)) (fun r5 => ?_)
    refine wa_iconst ?_
    refine wa_icmpne (w_rg0 (by omega) (by omega)) (w_rg0 (by omega) (by omega)) ⟨_, rfl⟩ (fun c6 => ?_) (fun c6 => ?_)
    · skip
      refine wa_aload_n (n := 0) rfl ?_
      refine wb_gfi 158 rfl (wy_pr rfl) wt_158 wf_5_7 (v := kd) ((w_up_slot (by decide)).trans (l7)) (fun r7 => ?_)
      refine wa_iconst ?_
      refine wa_icmpne (w_rg0 (by omega) (by omega)) (w_rg0 (by omega) (by omega)) ⟨_, rfl⟩ (fun c8 => ?_) (fun c8 => ?_)
      · skip
        refine wa_aload_n (n := 0) rfl ?_
        refine wb_gfi 158 rfl (wy_pr rfl) wt_158 wf_5_7 (v := kd) ((w_up_slot (by decide)).trans (l7)) (fun r9 => ?_)
        refine wa_bipush (w_rg2 (by omega) (by omega)) ?_
        refine wa_icmpne (w_rg0 (by omega) (by omega)) (w_rg0 (by omega) (by omega)) ⟨_, rfl⟩ (fun c10 => ?_) (fun c10 => ?_)
        · skip
          refine wa_aload_n (n := 0) rfl ?_
          refine wb_gf5 158 rfl (wy_pr rfl) wt_158 wf_5_4 (v := 226) ((w_up_slot (by decide)).trans (l4)) (fun r11 => ?_)
          refine wa_iconst ?_
          refine wb_pfi 226 rfl (wy_pr rfl) wt_226 wf_8_16 (n := 16) rfl ⟨(by omega), (by omega)⟩ ?_
          refine wa_return rfl ?_
          exact ⟨rfl, rfl⟩
        · skip
          refine wa_iload_n (n := 2) rfl ?_
          refine wa_iconst ?_
          refine wa_icmpne (w_rg0 (by omega) (by omega)) (w_rg0 (by omega) (by omega)) ⟨_, rfl⟩ (fun c12 => ?_) (fun c12 => ?_)
          · skip
            refine wa_aload_n (n := 0) rfl ?_
            refine wb_gf5 158 rfl (wy_pr rfl) wt_158 wf_5_4 (v := 226) ((w_up_slot (by decide)).trans (l4)) (fun r13 => ?_)
            refine wa_iconst ?_
            refine wb_pfi 226 rfl (wy_pr rfl) wt_226 wf_8_16 (n := 16) rfl ⟨(by omega), (by omega)⟩ ?_
            refine wa_return rfl ?_
            exact ⟨rfl, rfl⟩
          · skip
            exfalso; omega
      · skip
        exact absurd c8 (by omega)
    · skip
      exact absurd c6 (by omega)
  · skip
    exact absurd c4 (by omega)
end Wha
