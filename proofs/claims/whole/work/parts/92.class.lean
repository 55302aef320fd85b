/-! PART 92: the reference's readsClass, whole. -/
section W92
variable {xs : List (Nat × List Int32)} {M : Nat → Prop} {d : Nat} {S A B Z : wS} {Q : wO → wS → Prop} {p : Int} {b : Nat}
theorem wb_lconst {G : pe_G} {Y : wY} {mt : pe_Mt} {rest : List pe_I} {L : wL} {st : List wv} {n : Fin 2} {m : Int} (h : ((n.val : Nat) : Int) = m) (k : wJ G Y M d mt rest L ((1, m) :: st) S Q) : wJ G Y M d mt (.inl (.lconst n) :: rest) L st S Q := by
  subst h
  exact wa_lconst k
def rc_n_241 (A : wS) (c : Int) (ms : List hMR) (itf p1 : Int) : (Int × Int) ⊕ (Int × hCR × List hMR) := if zq A p1 237 6 = 1 then (if ch_of (zq A p1) 241 < 0 ∧ lx_oo (zq A p1) tx_21 = false then (if c < 60 then rc_body A (w_up (w_up (w_up (w_up (w_up (w_up (w_up (w_up A 243 c itf) 250 c p1) 251 c (zq A p1 237 8)) 244 c (-1)) 245 c 0) 247 c (wb_lshl 1 c)) 248 c (A 241 11)) 249 c 0) 241 c ms itf p1 else .inl (5, p1)) else .inl (2, p1)) else .inl (1, p1)
def rc_of_241 (A : wS) (c : Int) (ms : List hMR) (p : Int) : (Int × Int) ⊕ (Int × hCR × List hMR) := if lx_w (zq A p) tx_19 = true then rc_n_241 A c ms 1 (lx_ne (zq A p) p) else if lx_w (zq A p) tx_17 = true then rc_n_241 A c ms 0 (lx_ne (zq A p) p) else .inl (1, p)
theorem rc_true_241 {c p : Int} {ms : List hMR} {R : (Int × Int) ⊕ (Int × hCR × List hMR)} (hX : w_X xs) (hA15 : A 237 15 = 241) (hAc : A 241 1 = c) (hcc : 0 ≤ c ∧ c ≤ 60) (hAn : ho_nm A 241) (hA11 : A 241 11 = (ms.length : Int)) (hms : hr_all 241 A ms) (hm4 : ms.length ≤ 400) (hE : lx_E A A p) (h19 : lx_w (zq A p) tx_19 = true) (he : rc_of_241 A c ms p = R) : wJ (pe_GA xs) wY0 M (d + 8) t_M_readsClass ((pe_at t_M_readsClass.bl 0).getD (0, [])).2 [(0, (2, 237))] [] A (fun o S2 => (∃ (p2 : Int) (cr : hCR) (ms2 : List hMR), R = .inr (p2, cr, ms2) ∧ o = .inl none ∧ rc_ag 241 c (ms.length : Int) A S2 ∧ lx_E S2 A p2 ∧ S2 241 1 = c + 1 ∧ hc_at 241 c S2 cr ∧ S2 241 11 = (ms2.length : Int) ∧ hr_all 241 S2 ms2 ∧ ms.length ≤ ms2.length ∧ ms2.length ≤ 400) ∨ (∃ e q : Int, R = .inl (e, q) ∧ o = .inr 238 ∧ rc_ag 241 c (ms.length : Int) A S2 ∧ S2 238 5 = e ∧ S2 238 6 = q)) := by
  have hL : lx_ag A A := lx_ag_rf
  have hlo := wb_lshl_rg 1 c
  unfold rc_of_241 at he
  rw [if_pos h19] at he
  refine wa_aload_n (n := 0) rfl ?_
  refine wa_aload_n (n := 0) rfl ?_
  refine wa_ks ?_
  refine wa_cv 237 rfl (wy_pr rfl) wt_237 (M2 := fun _ => False) rfl at_M_isWord ⟨_, rfl⟩ rfl rfl ⟨(Or.inr ⟨wy_pr rfl, fun q => q⟩), trivial⟩ ⟨(Or.inr ⟨wy_pr rfl, fun q => q⟩), trivial⟩ (fun _ _ q => False.elim q) (isWord_ok (S := A) hE.1.1 (wx_17 hX) (by decide) (lx_I_hp hE.1)) (fun oq2 Sq2 hp3 q2 => ?_)
  rcases q2 with ⟨rfl, ⟨rfl, gw1⟩ | ⟨rfl, gw1⟩⟩
  · skip
    show wJ _ _ _ _ _ _ _ _ _ _
    rw [lx_E_w hE] at gw1
    have g17 := gw1
    refine wa_ifne (w_rg0 (by omega) (by omega)) ⟨_, rfl⟩ (fun c4 => ?_) (fun c4 => ?_)
    · skip
      refine wa_iconst ?_
      refine wa_goto ⟨_, rfl⟩ ?_
      refine wa_iconst ?_
      refine wa_cv 237 rfl (wy_pr rfl) wt_237 (M2 := fun _ => False) rfl at_M_must ⟨_, rfl⟩ rfl rfl ⟨(Or.inr ⟨wy_pr rfl, fun q => q⟩), trivial⟩ trivial (fun _ _ q => False.elim q) (must_ok (S := A) (g := 1) (n := 1) (Or.inr rfl) ⟨by omega, by omega⟩) (fun oq6 Sq6 hp7 q6 => ?_)
      rcases q6 with ⟨_, rfl, rfl⟩ | ⟨m5, _, _⟩
      · skip
        show wJ _ _ _ _ _ _ _ _ _ _
        refine wa_aload_n (n := 0) rfl ?_
        refine wa_ks ?_
        refine wa_cv 237 rfl (wy_pr rfl) wt_237 (M2 := fun _ => False) rfl at_M_isWord ⟨_, rfl⟩ rfl rfl ⟨(Or.inr ⟨wy_pr rfl, fun q => q⟩), trivial⟩ trivial (fun _ _ q => False.elim q) (isWord_ok (S := A) hE.1.1 (wx_19 hX) (by decide) (lx_I_hp hE.1)) (fun oq9 Sq9 hp10 q9 => ?_)
        rcases q9 with ⟨rfl, ⟨rfl, gw8⟩ | ⟨rfl, gw8⟩⟩
        · skip
          show wJ _ _ _ _ _ _ _ _ _ _
          rw [lx_E_w hE] at gw8
          refine wa_istore_n (n := 1) rfl ?_
          refine wa_aload_n (n := 0) rfl ?_
          refine wa_cv 237 rfl (wy_pr rfl) wt_237 (M2 := fun _ => False) rfl at_M_next ⟨_, rfl⟩ rfl rfl ⟨trivial, (Or.inr ⟨wy_pr rfl, fun q => q⟩), trivial⟩ trivial (fun _ _ q => False.elim q) (nx_I (S := A) hE.1 (by have e6 : A 237 6 = (zq A p 237 6) := ((lx_E_6 hE)); first | omega | (have := lx_w1 h19; omega) | (have := lx_w1 g17; omega))) (fun oq11 Sq11 hp12 q11 => ?_)
          rcases q11 with ⟨rfl, a1, a2⟩
          show wJ _ _ _ _ _ _ _ _ _ _
          rw [lx_E_ne hE] at a2
          have hE13 : lx_E Sq11 A (lx_ne (zq A p) p) := lx_E_ag hE a1 a2
          have hL13 : lx_ag A Sq11 := lx_ag_tr hL a1
          refine wa_aload_n (n := 0) rfl ?_
          refine wa_aload_n (n := 0) rfl ?_
          refine wb_gfi 237 rfl (wy_pr rfl) wt_237 wf_15_6 (v := (zq A (lx_ne (zq A p) p) 237 6)) ((lx_E_6 hE13)) (fun r14 => ?_)
          refine wa_iconst ?_
          refine wa_icmpne (w_rg0 (by omega) (by omega)) (w_rg0 (by omega) (by omega)) ⟨_, rfl⟩ (fun c15 => ?_) (fun c15 => ?_)
          · skip
            refine wa_iconst ?_
            refine wa_fall ⟨_, rfl⟩ ?_
            refine wa_iconst ?_
            refine wa_cv 237 rfl (wy_pr rfl) wt_237 (M2 := fun _ => False) rfl at_M_must ⟨_, rfl⟩ rfl rfl ⟨trivial, (Or.inr ⟨wy_pr rfl, fun q => q⟩), trivial⟩ trivial (fun _ _ q => False.elim q) (must_ok (S := Sq11) (g := 0) (n := 1) (Or.inl rfl) ⟨by omega, by omega⟩) (fun oq17 Sq17 hp18 q17 => ?_)
            rcases q17 with ⟨m16, _, _⟩ | ⟨_, rfl, rfl⟩
            · skip
              exact absurd m16 (by decide)
            · skip
              refine ⟨rfl, ?_⟩
              first | (rw [if_pos g17] at he) | skip
              unfold rc_n_241 at he
              first | (rw [if_neg (by omega)] at he) | (rw [if_pos (by omega), if_neg (by first | (intro z; omega) | (rw [goo]; exact fun z => absurd z.2 (by decide)))] at he) | (rw [if_pos (by omega), if_pos ⟨by omega, goo⟩, if_neg (by omega)] at he)
              exact Or.inr ⟨_, _, he.symm, rfl, rc_ag_hl (rc_ag_lx rc_ag_rf hL13), rfl, by first | rfl | exact (show Sq11 237 7 = (lx_ne (zq A p) p) from ((lx_E_7 hE13)))⟩
          · skip
            refine wa_iconst ?_
            refine wa_goto ⟨_, rfl⟩ ?_
            refine wa_iconst ?_
            refine wa_cv 237 rfl (wy_pr rfl) wt_237 (M2 := fun _ => False) rfl at_M_must ⟨_, rfl⟩ rfl rfl ⟨trivial, (Or.inr ⟨wy_pr rfl, fun q => q⟩), trivial⟩ trivial (fun _ _ q => False.elim q) (must_ok (S := Sq11) (g := 1) (n := 1) (Or.inr rfl) ⟨by omega, by omega⟩) (fun oq20 Sq20 hp21 q20 => ?_)
            rcases q20 with ⟨_, rfl, rfl⟩ | ⟨m19, _, _⟩
            · skip
              show wJ _ _ _ _ _ _ _ _ _ _
              have hb6 : zq A (lx_ne (zq A p) p) 237 6 = 1 := by omega
              have hbp := hE13.1.2.2.1
              have hbn := hE13.1.2.1
              rw [hE13.2.2.1] at hbp hbn
              have hbe := lx_en_le (T := A 239) (h := A 237 5) hbp.2
              have hb8 : zq A (lx_ne (zq A p) p) 237 8 ≤ A 237 4 := hbe.2.1 (by rw [← zq_6, hb6]; decide)
              have hb9 : (lx_ne (zq A p) p) ≤ zq A (lx_ne (zq A p) p) 237 8 := hbe.1
              refine wa_aload_n (n := 0) rfl ?_
              refine wa_aload_n (n := 0) rfl ?_
              refine wa_cv 237 rfl (wy_pr rfl) wt_237 (M2 := fun _ => False) rfl at_M_classHere ⟨_, rfl⟩ rfl rfl ⟨trivial, (Or.inr ⟨wy_pr rfl, fun q => q⟩), trivial⟩ ⟨(Or.inr ⟨wy_pr rfl, fun q => q⟩), trivial⟩ (fun _ _ q => False.elim q) (classHere_241 (S := Sq11) hE13.1.1 (((hL13 237 15 (by omega) (by omega)).trans hA15)) (ho_nm_of hAn ((hL13 241 1 (by omega) (by omega)).trans rfl) (funext fun i => (hL13 250 i (by omega) (by omega)).trans rfl) (funext fun i => (hL13 251 i (by omega) (by omega)).trans rfl)) (lx_I_hp hE13.1)) (fun oq22 Sq22 hp23 q22 => ?_)
              rcases q22 with ⟨rfl, rfl⟩
              show wJ _ _ _ _ _ _ _ _ _ _
              rw [lx_E_ch (b := 241) hE13 (by decide) ((hL13 241 1 (by omega) (by omega)).trans rfl) (funext fun i => (hL13 250 i (by omega) (by omega)).trans rfl) (funext fun i => (hL13 251 i (by omega) (by omega)).trans rfl)]
              have hch := ch_of_rg (zq A (lx_ne (zq A p) p)) 241 (show A 241 1 ≤ 60 from hAn.1.2)
              refine wa_ifge (w_rg0 (by omega) (by omega)) ⟨_, rfl⟩ (fun c24 => ?_) (fun c24 => ?_)
              · skip
                refine wa_iconst ?_
                refine wa_fall ⟨_, rfl⟩ ?_
                refine wa_iconst ?_
                refine wa_cv 237 rfl (wy_pr rfl) wt_237 (M2 := fun _ => False) rfl at_M_must ⟨_, rfl⟩ rfl rfl ⟨trivial, (Or.inr ⟨wy_pr rfl, fun q => q⟩), trivial⟩ trivial (fun _ _ q => False.elim q) (must_ok (S := Sq11) (g := 0) (n := 2) (Or.inl rfl) ⟨by omega, by omega⟩) (fun oq26 Sq26 hp27 q26 => ?_)
                rcases q26 with ⟨m25, _, _⟩ | ⟨_, rfl, rfl⟩
                · skip
                  exact absurd m25 (by decide)
                · skip
                  refine ⟨rfl, ?_⟩
                  first | (rw [if_pos g17] at he) | skip
                  unfold rc_n_241 at he
                  first | (rw [if_neg (by omega)] at he) | (rw [if_pos (by omega), if_neg (by first | (intro z; omega) | (rw [goo]; exact fun z => absurd z.2 (by decide)))] at he) | (rw [if_pos (by omega), if_pos ⟨by omega, goo⟩, if_neg (by omega)] at he)
                  exact Or.inr ⟨_, _, he.symm, rfl, rc_ag_hl (rc_ag_lx rc_ag_rf hL13), rfl, by first | rfl | exact (show Sq11 237 7 = (lx_ne (zq A p) p) from ((lx_E_7 hE13)))⟩
              · skip
                refine wa_aload_n (n := 0) rfl ?_
                refine wa_ks ?_
                refine wa_cv 237 rfl (wy_pr rfl) wt_237 (M2 := fun _ => False) rfl at_M_isOneOf ⟨_, rfl⟩ rfl rfl ⟨trivial, (Or.inr ⟨wy_pr rfl, fun q => q⟩), trivial⟩ ⟨(Or.inr ⟨wy_pr rfl, fun q => q⟩), trivial⟩ (fun _ _ q => False.elim q) (isOneOf_ok (S := Sq11) hE13.1.1 (wx_21 hX) (by decide) (by decide) (lx_I_hp hE13.1) (by decide)) (fun oq29 Sq29 hp30 q29 => ?_)
                rcases q29 with ⟨rfl, ⟨rfl, go28⟩ | ⟨rfl, go28⟩⟩
                · skip
                  show wJ _ _ _ _ _ _ _ _ _ _
                  rw [lx_E_oo hE13] at go28
                  have goo := go28
                  refine wa_ifne (w_rg0 (by omega) (by omega)) ⟨_, rfl⟩ (fun c31 => ?_) (fun c31 => ?_)
                  · skip
                    refine wa_iconst ?_
                    refine wa_fall ⟨_, rfl⟩ ?_
                    refine wa_iconst ?_
                    refine wa_cv 237 rfl (wy_pr rfl) wt_237 (M2 := fun _ => False) rfl at_M_must ⟨_, rfl⟩ rfl rfl ⟨trivial, (Or.inr ⟨wy_pr rfl, fun q => q⟩), trivial⟩ trivial (fun _ _ q => False.elim q) (must_ok (S := Sq11) (g := 0) (n := 2) (Or.inl rfl) ⟨by omega, by omega⟩) (fun oq33 Sq33 hp34 q33 => ?_)
                    rcases q33 with ⟨m32, _, _⟩ | ⟨_, rfl, rfl⟩
                    · skip
                      exact absurd m32 (by decide)
                    · skip
                      refine ⟨rfl, ?_⟩
                      first | (rw [if_pos g17] at he) | skip
                      unfold rc_n_241 at he
                      first | (rw [if_neg (by omega)] at he) | (rw [if_pos (by omega), if_neg (by first | (intro z; omega) | (rw [goo]; exact fun z => absurd z.2 (by decide)))] at he) | (rw [if_pos (by omega), if_pos ⟨by omega, goo⟩, if_neg (by omega)] at he)
                      exact Or.inr ⟨_, _, he.symm, rfl, rc_ag_hl (rc_ag_lx rc_ag_rf hL13), rfl, by first | rfl | exact (show Sq11 237 7 = (lx_ne (zq A p) p) from ((lx_E_7 hE13)))⟩
                  · skip
                    exact absurd c31 (by omega)
                · skip
                  show wJ _ _ _ _ _ _ _ _ _ _
                  rw [lx_E_oo hE13] at go28
                  have goo := go28
                  refine wa_ifne (w_rg0 (by omega) (by omega)) ⟨_, rfl⟩ (fun c35 => ?_) (fun c35 => ?_)
                  · skip
                    exact absurd c35 (by omega)
                  · skip
                    refine wa_iconst ?_
                    refine wa_goto ⟨_, rfl⟩ ?_
                    refine wa_iconst ?_
                    refine wa_cv 237 rfl (wy_pr rfl) wt_237 (M2 := fun _ => False) rfl at_M_must ⟨_, rfl⟩ rfl rfl ⟨trivial, (Or.inr ⟨wy_pr rfl, fun q => q⟩), trivial⟩ trivial (fun _ _ q => False.elim q) (must_ok (S := Sq11) (g := 1) (n := 2) (Or.inr rfl) ⟨by omega, by omega⟩) (fun oq37 Sq37 hp38 q37 => ?_)
                    rcases q37 with ⟨_, rfl, rfl⟩ | ⟨m36, _, _⟩
                    · skip
                      show wJ _ _ _ _ _ _ _ _ _ _
                      refine wa_aload_n (n := 0) rfl ?_
                      refine wa_aload_n (n := 0) rfl ?_
                      refine wb_gf5 237 rfl (wy_pr rfl) wt_237 wf_15_15 (v := 241) (((hL13 237 15 (by omega) (by omega)).trans hA15)) (fun r39 => ?_)
                      refine wb_gfi 241 rfl (wy_pr rfl) wt_241 wf_12_1 (v := c) (((hL13 241 1 (by omega) (by omega)).trans hAc)) (fun r40 => ?_)
                      refine wa_bipush (w_rg2 (by omega) (by omega)) ?_
                      refine wa_icmpge (w_rg0 (by omega) (by omega)) (w_rg0 (by omega) (by omega)) ⟨_, rfl⟩ (fun c41 => ?_) (fun c41 => ?_)
                      · skip
                        refine wa_iconst ?_
                        refine wa_fall ⟨_, rfl⟩ ?_
                        refine wa_iconst ?_
                        refine wa_cv 237 rfl (wy_pr rfl) wt_237 (M2 := fun _ => False) rfl at_M_must ⟨_, rfl⟩ rfl rfl ⟨trivial, (Or.inr ⟨wy_pr rfl, fun q => q⟩), trivial⟩ trivial (fun _ _ q => False.elim q) (must_ok (S := Sq11) (g := 0) (n := 5) (Or.inl rfl) ⟨by omega, by omega⟩) (fun oq43 Sq43 hp44 q43 => ?_)
                        rcases q43 with ⟨m42, _, _⟩ | ⟨_, rfl, rfl⟩
                        · skip
                          exact absurd m42 (by decide)
                        · skip
                          refine ⟨rfl, ?_⟩
                          first | (rw [if_pos g17] at he) | skip
                          unfold rc_n_241 at he
                          first | (rw [if_neg (by omega)] at he) | (rw [if_pos (by omega), if_neg (by first | (intro z; omega) | (rw [goo]; exact fun z => absurd z.2 (by decide)))] at he) | (rw [if_pos (by omega), if_pos ⟨by omega, goo⟩, if_neg (by omega)] at he)
                          exact Or.inr ⟨_, _, he.symm, rfl, rc_ag_hl (rc_ag_lx rc_ag_rf hL13), rfl, by first | rfl | exact (show Sq11 237 7 = (lx_ne (zq A p) p) from ((lx_E_7 hE13)))⟩
                      · skip
                        refine wa_iconst ?_
                        refine wa_goto ⟨_, rfl⟩ ?_
                        refine wa_iconst ?_
                        refine wa_cv 237 rfl (wy_pr rfl) wt_237 (M2 := fun _ => False) rfl at_M_must ⟨_, rfl⟩ rfl rfl ⟨trivial, (Or.inr ⟨wy_pr rfl, fun q => q⟩), trivial⟩ trivial (fun _ _ q => False.elim q) (must_ok (S := Sq11) (g := 1) (n := 5) (Or.inr rfl) ⟨by omega, by omega⟩) (fun oq46 Sq46 hp47 q46 => ?_)
                        rcases q46 with ⟨_, rfl, rfl⟩ | ⟨m45, _, _⟩
                        · skip
                          show wJ _ _ _ _ _ _ _ _ _ _
                          refine wa_aload_n (n := 0) rfl ?_
                          refine wb_gf5 237 rfl (wy_pr rfl) wt_237 wf_15_15 (v := 241) (((hL13 237 15 (by omega) (by omega)).trans hA15)) (fun r48 => ?_)
                          refine wb_gfi 241 rfl (wy_pr rfl) wt_241 wf_12_1 (v := c) (((hL13 241 1 (by omega) (by omega)).trans hAc)) (fun r49 => ?_)
                          refine wa_istore_n (n := 2) rfl ?_
                          refine wa_aload_n (n := 0) rfl ?_
                          refine wb_gf5 237 rfl (wy_pr rfl) wt_237 wf_15_15 (v := 241) (((hL13 237 15 (by omega) (by omega)).trans hA15)) (fun r50 => ?_)
                          refine wb_gf4 241 rfl (wy_pr rfl) wt_241 wf_12_2 (v := 243) wl_241_2 ?_
                          refine wa_iload_n (n := 2) rfl ?_
                          refine wa_iload_n (n := 1) rfl ?_
                          refine wb_zast 243 rfl (wy_pr rfl) wt_243 (n := 60) ((ml_243 hE13.1.1)) (by omega) (by omega) ⟨(by omega), (by omega)⟩ ?_
                          refine wa_aload_n (n := 0) rfl ?_
                          refine wb_gf5 237 rfl (wy_pr rfl) wt_237 wf_15_15 (v := 241) ((w_up_slot (by decide)).trans (((hL13 237 15 (by omega) (by omega)).trans hA15))) (fun r51 => ?_)
                          refine wb_gf4 241 rfl (wy_pr rfl) wt_241 wf_12_9 (v := 250) wl_241_9 ?_
                          refine wa_iload_n (n := 2) rfl ?_
                          refine wa_aload_n (n := 0) rfl ?_
                          refine wb_gfi 237 rfl (wy_pr rfl) wt_237 wf_15_7 (v := (lx_ne (zq A p) p)) ((w_up_slot (by decide)).trans ((lx_E_7 hE13))) (fun r52 => ?_)
                          refine wb_iast 250 rfl (wy_pr rfl) wt_250 (n := 60) ((w_up_slot (by decide)).trans ((ml_250 hE13.1.1))) (by omega) (by omega) ⟨(by omega), (by omega)⟩ ?_
                          refine wa_aload_n (n := 0) rfl ?_
                          refine wb_gf5 237 rfl (wy_pr rfl) wt_237 wf_15_15 (v := 241) ((w_up_slot (by decide)).trans ((w_up_slot (by decide)).trans (((hL13 237 15 (by omega) (by omega)).trans hA15)))) (fun r53 => ?_)
                          refine wb_gf4 241 rfl (wy_pr rfl) wt_241 wf_12_10 (v := 251) wl_241_10 ?_
                          refine wa_iload_n (n := 2) rfl ?_
                          refine wa_aload_n (n := 0) rfl ?_
                          refine wb_gfi 237 rfl (wy_pr rfl) wt_237 wf_15_8 (v := (zq A (lx_ne (zq A p) p) 237 8)) ((w_up_slot (by decide)).trans ((w_up_slot (by decide)).trans ((lx_E_8 hE13)))) (fun r54 => ?_)
                          refine wb_iast 251 rfl (wy_pr rfl) wt_251 (n := 60) ((w_up_slot (by decide)).trans ((w_up_slot (by decide)).trans ((ml_251 hE13.1.1)))) (by omega) (by omega) ⟨(by omega), (by omega)⟩ ?_
                          refine wa_aload_n (n := 0) rfl ?_
                          refine wb_gf5 237 rfl (wy_pr rfl) wt_237 wf_15_15 (v := 241) ((w_up_slot (by decide)).trans ((w_up_slot (by decide)).trans ((w_up_slot (by decide)).trans (((hL13 237 15 (by omega) (by omega)).trans hA15))))) (fun r55 => ?_)
                          refine wb_gf4 241 rfl (wy_pr rfl) wt_241 wf_12_3 (v := 244) wl_241_3 ?_
                          refine wa_iload_n (n := 2) rfl ?_
                          refine wa_iconst ?_
                          refine wb_iast 244 rfl (wy_pr rfl) wt_244 (n := 60) ((w_up_slot (by decide)).trans ((w_up_slot (by decide)).trans ((w_up_slot (by decide)).trans ((ml_244 hE13.1.1))))) (by omega) (by omega) ⟨(by omega), (by omega)⟩ ?_
                          refine wa_aload_n (n := 0) rfl ?_
                          refine wb_gf5 237 rfl (wy_pr rfl) wt_237 wf_15_15 (v := 241) ((w_up_slot (by decide)).trans ((w_up_slot (by decide)).trans ((w_up_slot (by decide)).trans ((w_up_slot (by decide)).trans (((hL13 237 15 (by omega) (by omega)).trans hA15)))))) (fun r56 => ?_)
                          refine wb_gf4 241 rfl (wy_pr rfl) wt_241 wf_12_4 (v := 245) wl_241_4 ?_
                          refine wa_iload_n (n := 2) rfl ?_
                          refine wa_iconst ?_
                          refine wb_iast 245 rfl (wy_pr rfl) wt_245 (n := 60) ((w_up_slot (by decide)).trans ((w_up_slot (by decide)).trans ((w_up_slot (by decide)).trans ((w_up_slot (by decide)).trans ((ml_245 hE13.1.1)))))) (by omega) (by omega) ⟨(by omega), (by omega)⟩ ?_
                          refine wa_aload_n (n := 0) rfl ?_
                          refine wb_gf5 237 rfl (wy_pr rfl) wt_237 wf_15_15 (v := 241) ((w_up_slot (by decide)).trans ((w_up_slot (by decide)).trans ((w_up_slot (by decide)).trans ((w_up_slot (by decide)).trans ((w_up_slot (by decide)).trans (((hL13 237 15 (by omega) (by omega)).trans hA15))))))) (fun r57 => ?_)
                          refine wa_fall ⟨_, rfl⟩ ?_
                          refine wb_gf4 241 rfl (wy_pr rfl) wt_241 wf_12_6 (v := 247) wl_241_6 ?_
                          refine wa_iload_n (n := 2) rfl ?_
                          refine wb_lconst (m := 1) rfl ?_
                          refine wa_iload_n (n := 2) rfl ?_
                          refine wa_lshl ?_
                          refine wb_last 247 rfl (wy_pr rfl) wt_247 (n := 60) ((w_up_slot (by decide)).trans ((w_up_slot (by decide)).trans ((w_up_slot (by decide)).trans ((w_up_slot (by decide)).trans ((w_up_slot (by decide)).trans ((ml_247 hE13.1.1))))))) (by omega) (by omega) ⟨(by omega), (by omega)⟩ ?_
                          refine wa_aload_n (n := 0) rfl ?_
                          refine wb_gf5 237 rfl (wy_pr rfl) wt_237 wf_15_15 (v := 241) ((w_up_slot (by decide)).trans ((w_up_slot (by decide)).trans ((w_up_slot (by decide)).trans ((w_up_slot (by decide)).trans ((w_up_slot (by decide)).trans ((w_up_slot (by decide)).trans (((hL13 237 15 (by omega) (by omega)).trans hA15)))))))) (fun r58 => ?_)
                          refine wb_gf4 241 rfl (wy_pr rfl) wt_241 wf_12_7 (v := 248) wl_241_7 ?_
                          refine wa_iload_n (n := 2) rfl ?_
                          refine wa_aload_n (n := 0) rfl ?_
                          refine wb_gf5 237 rfl (wy_pr rfl) wt_237 wf_15_15 (v := 241) ((w_up_slot (by decide)).trans ((w_up_slot (by decide)).trans ((w_up_slot (by decide)).trans ((w_up_slot (by decide)).trans ((w_up_slot (by decide)).trans ((w_up_slot (by decide)).trans (((hL13 237 15 (by omega) (by omega)).trans hA15)))))))) (fun r59 => ?_)
                          refine wb_gfi 241 rfl (wy_pr rfl) wt_241 wf_12_11 (v := (A 241 11)) ((w_up_slot (by decide)).trans ((w_up_slot (by decide)).trans ((w_up_slot (by decide)).trans ((w_up_slot (by decide)).trans ((w_up_slot (by decide)).trans ((w_up_slot (by decide)).trans (((hL13 241 11 (by omega) (by omega)).trans rfl)))))))) (fun r60 => ?_)
                          refine wb_iast 248 rfl (wy_pr rfl) wt_248 (n := 60) ((w_up_slot (by decide)).trans ((w_up_slot (by decide)).trans ((w_up_slot (by decide)).trans ((w_up_slot (by decide)).trans ((w_up_slot (by decide)).trans ((w_up_slot (by decide)).trans ((ml_248 hE13.1.1)))))))) (by omega) (by omega) ⟨(by omega), (by omega)⟩ ?_
                          refine wa_aload_n (n := 0) rfl ?_
                          refine wb_gf5 237 rfl (wy_pr rfl) wt_237 wf_15_15 (v := 241) ((w_up_slot (by decide)).trans ((w_up_slot (by decide)).trans ((w_up_slot (by decide)).trans ((w_up_slot (by decide)).trans ((w_up_slot (by decide)).trans ((w_up_slot (by decide)).trans ((w_up_slot (by decide)).trans (((hL13 237 15 (by omega) (by omega)).trans hA15))))))))) (fun r61 => ?_)
                          refine wb_gf4 241 rfl (wy_pr rfl) wt_241 wf_12_8 (v := 249) wl_241_8 ?_
                          refine wa_iload_n (n := 2) rfl ?_
                          refine wa_iconst ?_
                          refine wb_iast 249 rfl (wy_pr rfl) wt_249 (n := 60) ((w_up_slot (by decide)).trans ((w_up_slot (by decide)).trans ((w_up_slot (by decide)).trans ((w_up_slot (by decide)).trans ((w_up_slot (by decide)).trans ((w_up_slot (by decide)).trans ((w_up_slot (by decide)).trans ((ml_249 hE13.1.1))))))))) (by omega) (by omega) ⟨(by omega), (by omega)⟩ ?_
                          refine wa_aload_n (n := 0) rfl ?_
                          refine wa_cv 237 rfl (wy_pr rfl) wt_237 (M2 := fun _ => False) rfl at_M_next ⟨_, rfl⟩ rfl rfl ⟨trivial, trivial, (Or.inr ⟨wy_pr rfl, fun q => q⟩), trivial⟩ trivial (fun _ _ q => False.elim q) (nx_I (S := (w_up (w_up (w_up (w_up (w_up (w_up (w_up (w_up Sq11 243 c 1) 250 c (lx_ne (zq A p) p)) 251 c (zq A (lx_ne (zq A p) p) 237 8)) 244 c (-1)) 245 c 0) 247 c (wb_lshl 1 c)) 248 c (A 241 11)) 249 c 0)) (lx_E_up (lx_E_up (lx_E_up (lx_E_up (lx_E_up (lx_E_up (lx_E_up (lx_E_up hE13 (by decide) (by omega)) (by decide) (by omega)) (by decide) (by omega)) (by decide) (by omega)) (by decide) (by omega)) (by decide) (by omega)) (by decide) (by omega)) (by decide) (by omega)).1 (by have e6 : (w_up (w_up (w_up (w_up (w_up (w_up (w_up (w_up Sq11 243 c 1) 250 c (lx_ne (zq A p) p)) 251 c (zq A (lx_ne (zq A p) p) 237 8)) 244 c (-1)) 245 c 0) 247 c (wb_lshl 1 c)) 248 c (A 241 11)) 249 c 0) 237 6 = (zq A (lx_ne (zq A p) p) 237 6) := ((w_up_slot (by decide)).trans ((w_up_slot (by decide)).trans ((w_up_slot (by decide)).trans ((w_up_slot (by decide)).trans ((w_up_slot (by decide)).trans ((w_up_slot (by decide)).trans ((w_up_slot (by decide)).trans ((w_up_slot (by decide)).trans ((lx_E_6 hE13)))))))))); first | omega | (have := lx_w1 h19; omega) | (have := lx_w1 g17; omega))) (fun oq62 Sq62 hp63 q62 => ?_)
                          rcases q62 with ⟨rfl, a1, a2⟩
                          show wJ _ _ _ _ _ _ _ _ _ _
                          rw [lx_E_ne (lx_E_up (lx_E_up (lx_E_up (lx_E_up (lx_E_up (lx_E_up (lx_E_up (lx_E_up hE13 (by decide) (by omega)) (by decide) (by omega)) (by decide) (by omega)) (by decide) (by omega)) (by decide) (by omega)) (by decide) (by omega)) (by decide) (by omega)) (by decide) (by omega))] at a2
                          have hE64 : lx_E Sq62 A (lx_ne (zq A (lx_ne (zq A p) p)) (lx_ne (zq A p) p)) := lx_E_ag (lx_E_up (lx_E_up (lx_E_up (lx_E_up (lx_E_up (lx_E_up (lx_E_up (lx_E_up hE13 (by decide) (by omega)) (by decide) (by omega)) (by decide) (by omega)) (by decide) (by omega)) (by decide) (by omega)) (by decide) (by omega)) (by decide) (by omega)) (by decide) (by omega)) a1 a2
                          have hL64 : lx_ag (w_up (w_up (w_up (w_up (w_up (w_up (w_up (w_up A 243 c 1) 250 c (lx_ne (zq A p) p)) 251 c (zq A (lx_ne (zq A p) p) 237 8)) 244 c (-1)) 245 c 0) 247 c (wb_lshl 1 c)) 248 c (A 241 11)) 249 c 0) Sq62 := lx_ag_tr (lx_ag_cg (lx_ag_cg (lx_ag_cg (lx_ag_cg (lx_ag_cg (lx_ag_cg (lx_ag_cg (lx_ag_cg hL13)))))))) a1
                          refine wa_aload_n (n := 0) rfl ?_
                          refine wa_bipush (w_rg2 (by omega) (by omega)) ?_
                          refine wa_cv 237 rfl (wy_pr rfl) wt_237 (M2 := fun _ => False) rfl at_M_accepts ⟨_, rfl⟩ rfl rfl ⟨trivial, trivial, (Or.inr ⟨wy_pr rfl, fun q => q⟩), trivial⟩ trivial (fun _ _ q => False.elim q) (accepts_ok (S := Sq62) hE64.1 ⟨by omega, by omega⟩) (fun oq65 Sq65 hp66 q65 => ?_)
                          rcases q65 with ⟨rfl, gac, a1, a2⟩ | ⟨rfl, gac, rfl⟩
                          · skip
                            rw [lx_E_is hE64] at gac
                            show wJ _ _ _ _ _ _ _ _ _ _
                            rw [lx_E_ne hE64] at a2
                            have hE67 : lx_E Sq65 A (lx_ne (zq A (lx_ne (zq A (lx_ne (zq A p) p)) (lx_ne (zq A p) p))) (lx_ne (zq A (lx_ne (zq A p) p)) (lx_ne (zq A p) p))) := lx_E_ag hE64 a1 a2
                            have hL67 : lx_ag (w_up (w_up (w_up (w_up (w_up (w_up (w_up (w_up A 243 c 1) 250 c (lx_ne (zq A p) p)) 251 c (zq A (lx_ne (zq A p) p) 237 8)) 244 c (-1)) 245 c 0) 247 c (wb_lshl 1 c)) 248 c (A 241 11)) 249 c 0) Sq65 := lx_ag_tr hL64 a1
                            refine wa_ifeq (w_rg0 (by omega) (by omega)) ⟨_, rfl⟩ (fun c68 => ?_) (fun c68 => ?_)
                            · skip
                              exact absurd c68 (by omega)
                            · skip
                              first | (rw [if_pos g17] at he) | skip
                              unfold rc_n_241 at he
                              rw [if_pos (by omega), if_pos ⟨by omega, goo⟩, if_pos (by omega)] at he
                              unfold rc_body at he
                              rw [if_pos gac] at he
                              exact wJ_S (cl_10_241 (B := (w_up (w_up (w_up (w_up (w_up (w_up (w_up (w_up A 243 c 1) 250 c (lx_ne (zq A p) p)) 251 c (zq A (lx_ne (zq A p) p) 237 8)) 244 c (-1)) 245 c 0) 247 c (wb_lshl 1 c)) 248 c (A 241 11)) 249 c 0)) (r := su_a (w_up (w_up (w_up (w_up (w_up (w_up (w_up (w_up A 243 c 1) 250 c (lx_ne (zq A p) p)) 251 c (zq A (lx_ne (zq A p) p) 237 8)) 244 c (-1)) 245 c 0) 247 c (wb_lshl 1 c)) 248 c (A 241 11)) 249 c 0) 241 c (lx_ne (zq A (lx_ne (zq A (lx_ne (zq A p) p)) (lx_ne (zq A p) p))) (lx_ne (zq A (lx_ne (zq A p) p)) (lx_ne (zq A p) p)))) hA15 (ho_nm_up (ho_nm_up (ho_nm_up (ho_nm_up (ho_nm_up (ho_nm_up (ho_nm_up (ho_nm_up hAn hAc (by decide)) hAc (by decide)) hAc (by decide)) hAc (by decide)) hAc (by decide)) hAc (by decide)) hAc (by decide)) hAc (by decide)) ⟨by omega, by omega⟩ hAc (fun Z2 q a al l hr2 g1 g2 g3 g4 => cl_12_241 (B1 := (w_up (w_up (w_up (w_up (w_up (w_up (w_up (w_up A 243 c 1) 250 c (lx_ne (zq A p) p)) 251 c (zq A (lx_ne (zq A p) p) 237 8)) 244 c (-1)) 245 c 0) 247 c (wb_lshl 1 c)) 248 c (A 241 11)) 249 c 0)) hX hA15 hAc hcc hAn hA11 hms hm4 (by omega) (rc_ag_up (rc_ag_up (rc_ag_up (rc_ag_up (rc_ag_up (rc_ag_up (rc_ag_up (rc_ag_up rc_ag_rf (by omega)) (by omega)) (by omega)) (by omega)) (by omega)) (by omega)) (by omega)) (by omega)) hA15 (ho_nm_up (ho_nm_up (ho_nm_up (ho_nm_up (ho_nm_up (ho_nm_up (ho_nm_up (ho_nm_up hAn hAc (by decide)) hAc (by decide)) hAc (by decide)) hAc (by decide)) hAc (by decide)) hAc (by decide)) hAc (by decide)) hAc (by decide)) (by have y9 : (w_up (w_up (w_up (w_up (w_up (w_up (w_up (w_up A 243 c 1) 250 c (lx_ne (zq A p) p)) 251 c (zq A (lx_ne (zq A p) p) 237 8)) 244 c (-1)) 245 c 0) 247 c (wb_lshl 1 c)) 248 c (A 241 11)) 249 c 0) 250 c = (lx_ne (zq A p) p) := ((w_up_slot (by decide)).trans ((w_up_slot (by decide)).trans ((w_up_slot (by decide)).trans ((w_up_slot (by decide)).trans ((w_up_slot (by decide)).trans ((w_up_slot (by decide)).trans (w_up_same _ _ _ _))))))); have y10 : (w_up (w_up (w_up (w_up (w_up (w_up (w_up (w_up A 243 c 1) 250 c (lx_ne (zq A p) p)) 251 c (zq A (lx_ne (zq A p) p) 237 8)) 244 c (-1)) 245 c 0) 247 c (wb_lshl 1 c)) 248 c (A 241 11)) 249 c 0) 251 c = zq A (lx_ne (zq A p) p) 237 8 := ((w_up_slot (by decide)).trans ((w_up_slot (by decide)).trans ((w_up_slot (by decide)).trans ((w_up_slot (by decide)).trans ((w_up_slot (by decide)).trans (w_up_same _ _ _ _)))))); omega) hAc ((w_up_slot (by decide)).trans ((w_up_slot (by decide)).trans ((w_up_slot (by decide)).trans ((w_up_slot (by decide)).trans ((w_up_slot (by decide)).trans ((w_up_slot (by decide)).trans ((w_up_slot (by decide)).trans (w_up_same _ _ _ _)))))))) ((w_up_slot (by decide)).trans ((w_up_slot (by decide)).trans ((w_up_slot (by decide)).trans ((w_up_slot (by decide)).trans ((w_up_slot (by decide)).trans ((w_up_slot (by decide)).trans (w_up_same _ _ _ _))))))) ((w_up_slot (by decide)).trans ((w_up_slot (by decide)).trans ((w_up_slot (by decide)).trans ((w_up_slot (by decide)).trans ((w_up_slot (by decide)).trans (w_up_same _ _ _ _)))))) (((w_up_slot (by decide)).trans (w_up_same _ _ _ _)).trans hA11) (w_up_same _ _ _ _) hA11 ⟨rfl, rfl, rfl⟩ (show hr_all 241 (w_up (w_up (w_up (w_up (w_up (w_up (w_up (w_up A 243 c 1) 250 c (lx_ne (zq A p) p)) 251 c (zq A (lx_ne (zq A p) p) 237 8)) 244 c (-1)) 245 c 0) 247 c (wb_lshl 1 c)) 248 c (A 241 11)) 249 c 0) ms from hms) g1 ⟨g2.1, g2.2.1, g2.2.2.1, g2.2.2.2⟩ g3 (by rw [hr2] at he; exact he)) (fun Z2 e q hr2 g1 g2 g3 => Or.inr ⟨e, q, by rw [hr2] at he; exact he.symm, rfl, rc_ag_su (rc_ag_up (rc_ag_up (rc_ag_up (rc_ag_up (rc_ag_up (rc_ag_up (rc_ag_up (rc_ag_up rc_ag_rf (by omega)) (by omega)) (by omega)) (by omega)) (by omega)) (by omega)) (by omega)) (by omega)) g1, g2, g3⟩) rfl (su_ag_lx su_ag_rf hL67) ⟨hE67.1, hE67.2.1, hE67.2.2.1, hE67.2.2.2⟩ ⟨(hL67 245 c (by omega) (by omega)).trans ((w_up_slot (by decide)).trans ((w_up_slot (by decide)).trans ((w_up_slot (by decide)).trans (w_up_same _ _ _ _)))), hL67 244 c (by omega) (by omega), hL67 247 c (by omega) (by omega), fun i hi => absurd hi (Nat.not_lt_zero i)⟩) ⟨rfl, rfl, trivial⟩
                          · skip
                            show wJ _ _ _ _ _ _ _ _ _ _
                            rw [lx_E_is hE64] at gac
                            refine wa_ifeq (w_rg0 (by omega) (by omega)) ⟨_, rfl⟩ (fun c70 => ?_) (fun c70 => ?_)
                            · skip
                              first | (rw [if_pos g17] at he) | skip
                              unfold rc_n_241 at he
                              rw [if_pos (by omega), if_pos ⟨by omega, goo⟩, if_pos (by omega)] at he
                              unfold rc_body at he
                              rw [if_neg (by rw [gac]; decide)] at he
                              dsimp only at he
                              exact wJ_S (cl_12_241 (B1 := (w_up (w_up (w_up (w_up (w_up (w_up (w_up (w_up A 243 c 1) 250 c (lx_ne (zq A p) p)) 251 c (zq A (lx_ne (zq A p) p) 237 8)) 244 c (-1)) 245 c 0) 247 c (wb_lshl 1 c)) 248 c (A 241 11)) 249 c 0)) (l := []) hX hA15 hAc hcc hAn hA11 hms hm4 (by omega) (rc_ag_up (rc_ag_up (rc_ag_up (rc_ag_up (rc_ag_up (rc_ag_up (rc_ag_up (rc_ag_up rc_ag_rf (by omega)) (by omega)) (by omega)) (by omega)) (by omega)) (by omega)) (by omega)) (by omega)) hA15 (ho_nm_up (ho_nm_up (ho_nm_up (ho_nm_up (ho_nm_up (ho_nm_up (ho_nm_up (ho_nm_up hAn hAc (by decide)) hAc (by decide)) hAc (by decide)) hAc (by decide)) hAc (by decide)) hAc (by decide)) hAc (by decide)) hAc (by decide)) (by have y9 : (w_up (w_up (w_up (w_up (w_up (w_up (w_up (w_up A 243 c 1) 250 c (lx_ne (zq A p) p)) 251 c (zq A (lx_ne (zq A p) p) 237 8)) 244 c (-1)) 245 c 0) 247 c (wb_lshl 1 c)) 248 c (A 241 11)) 249 c 0) 250 c = (lx_ne (zq A p) p) := ((w_up_slot (by decide)).trans ((w_up_slot (by decide)).trans ((w_up_slot (by decide)).trans ((w_up_slot (by decide)).trans ((w_up_slot (by decide)).trans ((w_up_slot (by decide)).trans (w_up_same _ _ _ _))))))); have y10 : (w_up (w_up (w_up (w_up (w_up (w_up (w_up (w_up A 243 c 1) 250 c (lx_ne (zq A p) p)) 251 c (zq A (lx_ne (zq A p) p) 237 8)) 244 c (-1)) 245 c 0) 247 c (wb_lshl 1 c)) 248 c (A 241 11)) 249 c 0) 251 c = zq A (lx_ne (zq A p) p) 237 8 := ((w_up_slot (by decide)).trans ((w_up_slot (by decide)).trans ((w_up_slot (by decide)).trans ((w_up_slot (by decide)).trans ((w_up_slot (by decide)).trans (w_up_same _ _ _ _)))))); omega) hAc ((w_up_slot (by decide)).trans ((w_up_slot (by decide)).trans ((w_up_slot (by decide)).trans ((w_up_slot (by decide)).trans ((w_up_slot (by decide)).trans ((w_up_slot (by decide)).trans ((w_up_slot (by decide)).trans (w_up_same _ _ _ _)))))))) ((w_up_slot (by decide)).trans ((w_up_slot (by decide)).trans ((w_up_slot (by decide)).trans ((w_up_slot (by decide)).trans ((w_up_slot (by decide)).trans ((w_up_slot (by decide)).trans (w_up_same _ _ _ _))))))) ((w_up_slot (by decide)).trans ((w_up_slot (by decide)).trans ((w_up_slot (by decide)).trans ((w_up_slot (by decide)).trans ((w_up_slot (by decide)).trans (w_up_same _ _ _ _)))))) (((w_up_slot (by decide)).trans (w_up_same _ _ _ _)).trans hA11) (w_up_same _ _ _ _) hA11 ⟨rfl, rfl, rfl⟩ (show hr_all 241 (w_up (w_up (w_up (w_up (w_up (w_up (w_up (w_up A 243 c 1) 250 c (lx_ne (zq A p) p)) 251 c (zq A (lx_ne (zq A p) p) 237 8)) 244 c (-1)) 245 c 0) 247 c (wb_lshl 1 c)) 248 c (A 241 11)) 249 c 0) ms from hms) (su_ag_lx su_ag_rf hL64) hE64 ⟨((hL64 245 c (by omega) (by omega)).trans ((w_up_slot (by decide)).trans ((w_up_slot (by decide)).trans ((w_up_slot (by decide)).trans (w_up_same _ _ _ _))))), ((hL64 244 c (by omega) (by omega)).trans ((w_up_slot (by decide)).trans ((w_up_slot (by decide)).trans ((w_up_slot (by decide)).trans ((w_up_slot (by decide)).trans (w_up_same _ _ _ _)))))), ((hL64 247 c (by omega) (by omega)).trans ((w_up_slot (by decide)).trans ((w_up_slot (by decide)).trans (w_up_same _ _ _ _)))), fun i hi => absurd hi (Nat.not_lt_zero i)⟩ he) ⟨rfl, rfl, trivial⟩
                            · skip
                              exact absurd c70 (by omega)
                        · skip
                          exact absurd m45 (by decide)
                    · skip
                      exact absurd m36 (by decide)
            · skip
              exact absurd m19 (by decide)
        · skip
          rw [lx_E_w hE] at gw8
          exact absurd (gw8.symm.trans h19) (by decide)
      · skip
        exact absurd m5 (by decide)
    · skip
      exact absurd c4 (by omega)
  · skip
    show wJ _ _ _ _ _ _ _ _ _ _
    rw [lx_E_w hE] at gw1
    have g17 := gw1
    refine wa_ifne (w_rg0 (by omega) (by omega)) ⟨_, rfl⟩ (fun c73 => ?_) (fun c73 => ?_)
    · skip
      exact absurd c73 (by omega)
    · skip
      refine wa_aload_n (n := 0) rfl ?_
      refine wa_ks ?_
      refine wa_cv 237 rfl (wy_pr rfl) wt_237 (M2 := fun _ => False) rfl at_M_isWord ⟨_, rfl⟩ rfl rfl ⟨(Or.inr ⟨wy_pr rfl, fun q => q⟩), trivial⟩ ⟨(Or.inr ⟨wy_pr rfl, fun q => q⟩), trivial⟩ (fun _ _ q => False.elim q) (isWord_ok (S := A) hE.1.1 (wx_19 hX) (by decide) (lx_I_hp hE.1)) (fun oq75 Sq75 hp76 q75 => ?_)
      rcases q75 with ⟨rfl, ⟨rfl, gw74⟩ | ⟨rfl, gw74⟩⟩
      · skip
        show wJ _ _ _ _ _ _ _ _ _ _
        rw [lx_E_w hE] at gw74
        refine wa_ifeq (w_rg0 (by omega) (by omega)) ⟨_, rfl⟩ (fun c77 => ?_) (fun c77 => ?_)
        · skip
          exact absurd c77 (by omega)
        · skip
          refine wa_fall ⟨_, rfl⟩ ?_
          refine wa_iconst ?_
          refine wa_goto ⟨_, rfl⟩ ?_
          refine wa_iconst ?_
          refine wa_cv 237 rfl (wy_pr rfl) wt_237 (M2 := fun _ => False) rfl at_M_must ⟨_, rfl⟩ rfl rfl ⟨(Or.inr ⟨wy_pr rfl, fun q => q⟩), trivial⟩ trivial (fun _ _ q => False.elim q) (must_ok (S := A) (g := 1) (n := 1) (Or.inr rfl) ⟨by omega, by omega⟩) (fun oq79 Sq79 hp80 q79 => ?_)
          rcases q79 with ⟨_, rfl, rfl⟩ | ⟨m78, _, _⟩
          · skip
            show wJ _ _ _ _ _ _ _ _ _ _
            refine wa_aload_n (n := 0) rfl ?_
            refine wa_ks ?_
            refine wa_cv 237 rfl (wy_pr rfl) wt_237 (M2 := fun _ => False) rfl at_M_isWord ⟨_, rfl⟩ rfl rfl ⟨(Or.inr ⟨wy_pr rfl, fun q => q⟩), trivial⟩ trivial (fun _ _ q => False.elim q) (isWord_ok (S := A) hE.1.1 (wx_19 hX) (by decide) (lx_I_hp hE.1)) (fun oq82 Sq82 hp83 q82 => ?_)
            rcases q82 with ⟨rfl, ⟨rfl, gw81⟩ | ⟨rfl, gw81⟩⟩
            · skip
              show wJ _ _ _ _ _ _ _ _ _ _
              rw [lx_E_w hE] at gw81
              refine wa_istore_n (n := 1) rfl ?_
              refine wa_aload_n (n := 0) rfl ?_
              refine wa_cv 237 rfl (wy_pr rfl) wt_237 (M2 := fun _ => False) rfl at_M_next ⟨_, rfl⟩ rfl rfl ⟨trivial, (Or.inr ⟨wy_pr rfl, fun q => q⟩), trivial⟩ trivial (fun _ _ q => False.elim q) (nx_I (S := A) hE.1 (by have e6 : A 237 6 = (zq A p 237 6) := ((lx_E_6 hE)); first | omega | (have := lx_w1 h19; omega) | (have := lx_w1 g17; omega))) (fun oq84 Sq84 hp85 q84 => ?_)
              rcases q84 with ⟨rfl, a1, a2⟩
              show wJ _ _ _ _ _ _ _ _ _ _
              rw [lx_E_ne hE] at a2
              have hE86 : lx_E Sq84 A (lx_ne (zq A p) p) := lx_E_ag hE a1 a2
              have hL86 : lx_ag A Sq84 := lx_ag_tr hL a1
              refine wa_aload_n (n := 0) rfl ?_
              refine wa_aload_n (n := 0) rfl ?_
              refine wb_gfi 237 rfl (wy_pr rfl) wt_237 wf_15_6 (v := (zq A (lx_ne (zq A p) p) 237 6)) ((lx_E_6 hE86)) (fun r87 => ?_)
              refine wa_iconst ?_
              refine wa_icmpne (w_rg0 (by omega) (by omega)) (w_rg0 (by omega) (by omega)) ⟨_, rfl⟩ (fun c88 => ?_) (fun c88 => ?_)
              · skip
                refine wa_iconst ?_
                refine wa_fall ⟨_, rfl⟩ ?_
                refine wa_iconst ?_
                refine wa_cv 237 rfl (wy_pr rfl) wt_237 (M2 := fun _ => False) rfl at_M_must ⟨_, rfl⟩ rfl rfl ⟨trivial, (Or.inr ⟨wy_pr rfl, fun q => q⟩), trivial⟩ trivial (fun _ _ q => False.elim q) (must_ok (S := Sq84) (g := 0) (n := 1) (Or.inl rfl) ⟨by omega, by omega⟩) (fun oq90 Sq90 hp91 q90 => ?_)
                rcases q90 with ⟨m89, _, _⟩ | ⟨_, rfl, rfl⟩
                · skip
                  exact absurd m89 (by decide)
                · skip
                  refine ⟨rfl, ?_⟩
                  first | (rw [if_pos g17] at he) | skip
                  unfold rc_n_241 at he
                  first | (rw [if_neg (by omega)] at he) | (rw [if_pos (by omega), if_neg (by first | (intro z; omega) | (rw [goo]; exact fun z => absurd z.2 (by decide)))] at he) | (rw [if_pos (by omega), if_pos ⟨by omega, goo⟩, if_neg (by omega)] at he)
                  exact Or.inr ⟨_, _, he.symm, rfl, rc_ag_hl (rc_ag_lx rc_ag_rf hL86), rfl, by first | rfl | exact (show Sq84 237 7 = (lx_ne (zq A p) p) from ((lx_E_7 hE86)))⟩
              · skip
                refine wa_iconst ?_
                refine wa_goto ⟨_, rfl⟩ ?_
                refine wa_iconst ?_
                refine wa_cv 237 rfl (wy_pr rfl) wt_237 (M2 := fun _ => False) rfl at_M_must ⟨_, rfl⟩ rfl rfl ⟨trivial, (Or.inr ⟨wy_pr rfl, fun q => q⟩), trivial⟩ trivial (fun _ _ q => False.elim q) (must_ok (S := Sq84) (g := 1) (n := 1) (Or.inr rfl) ⟨by omega, by omega⟩) (fun oq93 Sq93 hp94 q93 => ?_)
                rcases q93 with ⟨_, rfl, rfl⟩ | ⟨m92, _, _⟩
                · skip
                  show wJ _ _ _ _ _ _ _ _ _ _
                  have hb6 : zq A (lx_ne (zq A p) p) 237 6 = 1 := by omega
                  have hbp := hE86.1.2.2.1
                  have hbn := hE86.1.2.1
                  rw [hE86.2.2.1] at hbp hbn
                  have hbe := lx_en_le (T := A 239) (h := A 237 5) hbp.2
                  have hb8 : zq A (lx_ne (zq A p) p) 237 8 ≤ A 237 4 := hbe.2.1 (by rw [← zq_6, hb6]; decide)
                  have hb9 : (lx_ne (zq A p) p) ≤ zq A (lx_ne (zq A p) p) 237 8 := hbe.1
                  refine wa_aload_n (n := 0) rfl ?_
                  refine wa_aload_n (n := 0) rfl ?_
                  refine wa_cv 237 rfl (wy_pr rfl) wt_237 (M2 := fun _ => False) rfl at_M_classHere ⟨_, rfl⟩ rfl rfl ⟨trivial, (Or.inr ⟨wy_pr rfl, fun q => q⟩), trivial⟩ ⟨(Or.inr ⟨wy_pr rfl, fun q => q⟩), trivial⟩ (fun _ _ q => False.elim q) (classHere_241 (S := Sq84) hE86.1.1 (((hL86 237 15 (by omega) (by omega)).trans hA15)) (ho_nm_of hAn ((hL86 241 1 (by omega) (by omega)).trans rfl) (funext fun i => (hL86 250 i (by omega) (by omega)).trans rfl) (funext fun i => (hL86 251 i (by omega) (by omega)).trans rfl)) (lx_I_hp hE86.1)) (fun oq95 Sq95 hp96 q95 => ?_)
                  rcases q95 with ⟨rfl, rfl⟩
                  show wJ _ _ _ _ _ _ _ _ _ _
                  rw [lx_E_ch (b := 241) hE86 (by decide) ((hL86 241 1 (by omega) (by omega)).trans rfl) (funext fun i => (hL86 250 i (by omega) (by omega)).trans rfl) (funext fun i => (hL86 251 i (by omega) (by omega)).trans rfl)]
                  have hch := ch_of_rg (zq A (lx_ne (zq A p) p)) 241 (show A 241 1 ≤ 60 from hAn.1.2)
                  refine wa_ifge (w_rg0 (by omega) (by omega)) ⟨_, rfl⟩ (fun c97 => ?_) (fun c97 => ?_)
                  · skip
                    refine wa_iconst ?_
                    refine wa_fall ⟨_, rfl⟩ ?_
                    refine wa_iconst ?_
                    refine wa_cv 237 rfl (wy_pr rfl) wt_237 (M2 := fun _ => False) rfl at_M_must ⟨_, rfl⟩ rfl rfl ⟨trivial, (Or.inr ⟨wy_pr rfl, fun q => q⟩), trivial⟩ trivial (fun _ _ q => False.elim q) (must_ok (S := Sq84) (g := 0) (n := 2) (Or.inl rfl) ⟨by omega, by omega⟩) (fun oq99 Sq99 hp100 q99 => ?_)
                    rcases q99 with ⟨m98, _, _⟩ | ⟨_, rfl, rfl⟩
                    · skip
                      exact absurd m98 (by decide)
                    · skip
                      refine ⟨rfl, ?_⟩
                      first | (rw [if_pos g17] at he) | skip
                      unfold rc_n_241 at he
                      first | (rw [if_neg (by omega)] at he) | (rw [if_pos (by omega), if_neg (by first | (intro z; omega) | (rw [goo]; exact fun z => absurd z.2 (by decide)))] at he) | (rw [if_pos (by omega), if_pos ⟨by omega, goo⟩, if_neg (by omega)] at he)
                      exact Or.inr ⟨_, _, he.symm, rfl, rc_ag_hl (rc_ag_lx rc_ag_rf hL86), rfl, by first | rfl | exact (show Sq84 237 7 = (lx_ne (zq A p) p) from ((lx_E_7 hE86)))⟩
                  · skip
                    refine wa_aload_n (n := 0) rfl ?_
                    refine wa_ks ?_
                    refine wa_cv 237 rfl (wy_pr rfl) wt_237 (M2 := fun _ => False) rfl at_M_isOneOf ⟨_, rfl⟩ rfl rfl ⟨trivial, (Or.inr ⟨wy_pr rfl, fun q => q⟩), trivial⟩ ⟨(Or.inr ⟨wy_pr rfl, fun q => q⟩), trivial⟩ (fun _ _ q => False.elim q) (isOneOf_ok (S := Sq84) hE86.1.1 (wx_21 hX) (by decide) (by decide) (lx_I_hp hE86.1) (by decide)) (fun oq102 Sq102 hp103 q102 => ?_)
                    rcases q102 with ⟨rfl, ⟨rfl, go101⟩ | ⟨rfl, go101⟩⟩
                    · skip
                      show wJ _ _ _ _ _ _ _ _ _ _
                      rw [lx_E_oo hE86] at go101
                      have goo := go101
                      refine wa_ifne (w_rg0 (by omega) (by omega)) ⟨_, rfl⟩ (fun c104 => ?_) (fun c104 => ?_)
                      · skip
                        refine wa_iconst ?_
                        refine wa_fall ⟨_, rfl⟩ ?_
                        refine wa_iconst ?_
                        refine wa_cv 237 rfl (wy_pr rfl) wt_237 (M2 := fun _ => False) rfl at_M_must ⟨_, rfl⟩ rfl rfl ⟨trivial, (Or.inr ⟨wy_pr rfl, fun q => q⟩), trivial⟩ trivial (fun _ _ q => False.elim q) (must_ok (S := Sq84) (g := 0) (n := 2) (Or.inl rfl) ⟨by omega, by omega⟩) (fun oq106 Sq106 hp107 q106 => ?_)
                        rcases q106 with ⟨m105, _, _⟩ | ⟨_, rfl, rfl⟩
                        · skip
                          exact absurd m105 (by decide)
                        · skip
                          refine ⟨rfl, ?_⟩
                          first | (rw [if_pos g17] at he) | skip
                          unfold rc_n_241 at he
                          first | (rw [if_neg (by omega)] at he) | (rw [if_pos (by omega), if_neg (by first | (intro z; omega) | (rw [goo]; exact fun z => absurd z.2 (by decide)))] at he) | (rw [if_pos (by omega), if_pos ⟨by omega, goo⟩, if_neg (by omega)] at he)
                          exact Or.inr ⟨_, _, he.symm, rfl, rc_ag_hl (rc_ag_lx rc_ag_rf hL86), rfl, by first | rfl | exact (show Sq84 237 7 = (lx_ne (zq A p) p) from ((lx_E_7 hE86)))⟩
                      · skip
                        exact absurd c104 (by omega)
                    · skip
                      show wJ _ _ _ _ _ _ _ _ _ _
                      rw [lx_E_oo hE86] at go101
                      have goo := go101
                      refine wa_ifne (w_rg0 (by omega) (by omega)) ⟨_, rfl⟩ (fun c108 => ?_) (fun c108 => ?_)
                      · skip
                        exact absurd c108 (by omega)
                      · skip
                        refine wa_iconst ?_
                        refine wa_goto ⟨_, rfl⟩ ?_
                        refine wa_iconst ?_
                        refine wa_cv 237 rfl (wy_pr rfl) wt_237 (M2 := fun _ => False) rfl at_M_must ⟨_, rfl⟩ rfl rfl ⟨trivial, (Or.inr ⟨wy_pr rfl, fun q => q⟩), trivial⟩ trivial (fun _ _ q => False.elim q) (must_ok (S := Sq84) (g := 1) (n := 2) (Or.inr rfl) ⟨by omega, by omega⟩) (fun oq110 Sq110 hp111 q110 => ?_)
                        rcases q110 with ⟨_, rfl, rfl⟩ | ⟨m109, _, _⟩
                        · skip
                          show wJ _ _ _ _ _ _ _ _ _ _
                          refine wa_aload_n (n := 0) rfl ?_
                          refine wa_aload_n (n := 0) rfl ?_
                          refine wb_gf5 237 rfl (wy_pr rfl) wt_237 wf_15_15 (v := 241) (((hL86 237 15 (by omega) (by omega)).trans hA15)) (fun r112 => ?_)
                          refine wb_gfi 241 rfl (wy_pr rfl) wt_241 wf_12_1 (v := c) (((hL86 241 1 (by omega) (by omega)).trans hAc)) (fun r113 => ?_)
                          refine wa_bipush (w_rg2 (by omega) (by omega)) ?_
                          refine wa_icmpge (w_rg0 (by omega) (by omega)) (w_rg0 (by omega) (by omega)) ⟨_, rfl⟩ (fun c114 => ?_) (fun c114 => ?_)
                          · skip
                            refine wa_iconst ?_
                            refine wa_fall ⟨_, rfl⟩ ?_
                            refine wa_iconst ?_
                            refine wa_cv 237 rfl (wy_pr rfl) wt_237 (M2 := fun _ => False) rfl at_M_must ⟨_, rfl⟩ rfl rfl ⟨trivial, (Or.inr ⟨wy_pr rfl, fun q => q⟩), trivial⟩ trivial (fun _ _ q => False.elim q) (must_ok (S := Sq84) (g := 0) (n := 5) (Or.inl rfl) ⟨by omega, by omega⟩) (fun oq116 Sq116 hp117 q116 => ?_)
                            rcases q116 with ⟨m115, _, _⟩ | ⟨_, rfl, rfl⟩
                            · skip
                              exact absurd m115 (by decide)
                            · skip
                              refine ⟨rfl, ?_⟩
                              first | (rw [if_pos g17] at he) | skip
                              unfold rc_n_241 at he
                              first | (rw [if_neg (by omega)] at he) | (rw [if_pos (by omega), if_neg (by first | (intro z; omega) | (rw [goo]; exact fun z => absurd z.2 (by decide)))] at he) | (rw [if_pos (by omega), if_pos ⟨by omega, goo⟩, if_neg (by omega)] at he)
                              exact Or.inr ⟨_, _, he.symm, rfl, rc_ag_hl (rc_ag_lx rc_ag_rf hL86), rfl, by first | rfl | exact (show Sq84 237 7 = (lx_ne (zq A p) p) from ((lx_E_7 hE86)))⟩
                          · skip
                            refine wa_iconst ?_
                            refine wa_goto ⟨_, rfl⟩ ?_
                            refine wa_iconst ?_
                            refine wa_cv 237 rfl (wy_pr rfl) wt_237 (M2 := fun _ => False) rfl at_M_must ⟨_, rfl⟩ rfl rfl ⟨trivial, (Or.inr ⟨wy_pr rfl, fun q => q⟩), trivial⟩ trivial (fun _ _ q => False.elim q) (must_ok (S := Sq84) (g := 1) (n := 5) (Or.inr rfl) ⟨by omega, by omega⟩) (fun oq119 Sq119 hp120 q119 => ?_)
                            rcases q119 with ⟨_, rfl, rfl⟩ | ⟨m118, _, _⟩
                            · skip
                              show wJ _ _ _ _ _ _ _ _ _ _
                              refine wa_aload_n (n := 0) rfl ?_
                              refine wb_gf5 237 rfl (wy_pr rfl) wt_237 wf_15_15 (v := 241) (((hL86 237 15 (by omega) (by omega)).trans hA15)) (fun r121 => ?_)
                              refine wb_gfi 241 rfl (wy_pr rfl) wt_241 wf_12_1 (v := c) (((hL86 241 1 (by omega) (by omega)).trans hAc)) (fun r122 => ?_)
                              refine wa_istore_n (n := 2) rfl ?_
                              refine wa_aload_n (n := 0) rfl ?_
                              refine wb_gf5 237 rfl (wy_pr rfl) wt_237 wf_15_15 (v := 241) (((hL86 237 15 (by omega) (by omega)).trans hA15)) (fun r123 => ?_)
                              refine wb_gf4 241 rfl (wy_pr rfl) wt_241 wf_12_2 (v := 243) wl_241_2 ?_
                              refine wa_iload_n (n := 2) rfl ?_
                              refine wa_iload_n (n := 1) rfl ?_
                              refine wb_zast 243 rfl (wy_pr rfl) wt_243 (n := 60) ((ml_243 hE86.1.1)) (by omega) (by omega) ⟨(by omega), (by omega)⟩ ?_
                              refine wa_aload_n (n := 0) rfl ?_
                              refine wb_gf5 237 rfl (wy_pr rfl) wt_237 wf_15_15 (v := 241) ((w_up_slot (by decide)).trans (((hL86 237 15 (by omega) (by omega)).trans hA15))) (fun r124 => ?_)
                              refine wb_gf4 241 rfl (wy_pr rfl) wt_241 wf_12_9 (v := 250) wl_241_9 ?_
                              refine wa_iload_n (n := 2) rfl ?_
                              refine wa_aload_n (n := 0) rfl ?_
                              refine wb_gfi 237 rfl (wy_pr rfl) wt_237 wf_15_7 (v := (lx_ne (zq A p) p)) ((w_up_slot (by decide)).trans ((lx_E_7 hE86))) (fun r125 => ?_)
                              refine wb_iast 250 rfl (wy_pr rfl) wt_250 (n := 60) ((w_up_slot (by decide)).trans ((ml_250 hE86.1.1))) (by omega) (by omega) ⟨(by omega), (by omega)⟩ ?_
                              refine wa_aload_n (n := 0) rfl ?_
                              refine wb_gf5 237 rfl (wy_pr rfl) wt_237 wf_15_15 (v := 241) ((w_up_slot (by decide)).trans ((w_up_slot (by decide)).trans (((hL86 237 15 (by omega) (by omega)).trans hA15)))) (fun r126 => ?_)
                              refine wb_gf4 241 rfl (wy_pr rfl) wt_241 wf_12_10 (v := 251) wl_241_10 ?_
                              refine wa_iload_n (n := 2) rfl ?_
                              refine wa_aload_n (n := 0) rfl ?_
                              refine wb_gfi 237 rfl (wy_pr rfl) wt_237 wf_15_8 (v := (zq A (lx_ne (zq A p) p) 237 8)) ((w_up_slot (by decide)).trans ((w_up_slot (by decide)).trans ((lx_E_8 hE86)))) (fun r127 => ?_)
                              refine wb_iast 251 rfl (wy_pr rfl) wt_251 (n := 60) ((w_up_slot (by decide)).trans ((w_up_slot (by decide)).trans ((ml_251 hE86.1.1)))) (by omega) (by omega) ⟨(by omega), (by omega)⟩ ?_
                              refine wa_aload_n (n := 0) rfl ?_
                              refine wb_gf5 237 rfl (wy_pr rfl) wt_237 wf_15_15 (v := 241) ((w_up_slot (by decide)).trans ((w_up_slot (by decide)).trans ((w_up_slot (by decide)).trans (((hL86 237 15 (by omega) (by omega)).trans hA15))))) (fun r128 => ?_)
                              refine wb_gf4 241 rfl (wy_pr rfl) wt_241 wf_12_3 (v := 244) wl_241_3 ?_
                              refine wa_iload_n (n := 2) rfl ?_
                              refine wa_iconst ?_
                              refine wb_iast 244 rfl (wy_pr rfl) wt_244 (n := 60) ((w_up_slot (by decide)).trans ((w_up_slot (by decide)).trans ((w_up_slot (by decide)).trans ((ml_244 hE86.1.1))))) (by omega) (by omega) ⟨(by omega), (by omega)⟩ ?_
                              refine wa_aload_n (n := 0) rfl ?_
                              refine wb_gf5 237 rfl (wy_pr rfl) wt_237 wf_15_15 (v := 241) ((w_up_slot (by decide)).trans ((w_up_slot (by decide)).trans ((w_up_slot (by decide)).trans ((w_up_slot (by decide)).trans (((hL86 237 15 (by omega) (by omega)).trans hA15)))))) (fun r129 => ?_)
                              refine wb_gf4 241 rfl (wy_pr rfl) wt_241 wf_12_4 (v := 245) wl_241_4 ?_
                              refine wa_iload_n (n := 2) rfl ?_
                              refine wa_iconst ?_
                              refine wb_iast 245 rfl (wy_pr rfl) wt_245 (n := 60) ((w_up_slot (by decide)).trans ((w_up_slot (by decide)).trans ((w_up_slot (by decide)).trans ((w_up_slot (by decide)).trans ((ml_245 hE86.1.1)))))) (by omega) (by omega) ⟨(by omega), (by omega)⟩ ?_
                              refine wa_aload_n (n := 0) rfl ?_
                              refine wb_gf5 237 rfl (wy_pr rfl) wt_237 wf_15_15 (v := 241) ((w_up_slot (by decide)).trans ((w_up_slot (by decide)).trans ((w_up_slot (by decide)).trans ((w_up_slot (by decide)).trans ((w_up_slot (by decide)).trans (((hL86 237 15 (by omega) (by omega)).trans hA15))))))) (fun r130 => ?_)
                              refine wa_fall ⟨_, rfl⟩ ?_
                              refine wb_gf4 241 rfl (wy_pr rfl) wt_241 wf_12_6 (v := 247) wl_241_6 ?_
                              refine wa_iload_n (n := 2) rfl ?_
                              refine wb_lconst (m := 1) rfl ?_
                              refine wa_iload_n (n := 2) rfl ?_
                              refine wa_lshl ?_
                              refine wb_last 247 rfl (wy_pr rfl) wt_247 (n := 60) ((w_up_slot (by decide)).trans ((w_up_slot (by decide)).trans ((w_up_slot (by decide)).trans ((w_up_slot (by decide)).trans ((w_up_slot (by decide)).trans ((ml_247 hE86.1.1))))))) (by omega) (by omega) ⟨(by omega), (by omega)⟩ ?_
                              refine wa_aload_n (n := 0) rfl ?_
                              refine wb_gf5 237 rfl (wy_pr rfl) wt_237 wf_15_15 (v := 241) ((w_up_slot (by decide)).trans ((w_up_slot (by decide)).trans ((w_up_slot (by decide)).trans ((w_up_slot (by decide)).trans ((w_up_slot (by decide)).trans ((w_up_slot (by decide)).trans (((hL86 237 15 (by omega) (by omega)).trans hA15)))))))) (fun r131 => ?_)
                              refine wb_gf4 241 rfl (wy_pr rfl) wt_241 wf_12_7 (v := 248) wl_241_7 ?_
                              refine wa_iload_n (n := 2) rfl ?_
                              refine wa_aload_n (n := 0) rfl ?_
                              refine wb_gf5 237 rfl (wy_pr rfl) wt_237 wf_15_15 (v := 241) ((w_up_slot (by decide)).trans ((w_up_slot (by decide)).trans ((w_up_slot (by decide)).trans ((w_up_slot (by decide)).trans ((w_up_slot (by decide)).trans ((w_up_slot (by decide)).trans (((hL86 237 15 (by omega) (by omega)).trans hA15)))))))) (fun r132 => ?_)
                              refine wb_gfi 241 rfl (wy_pr rfl) wt_241 wf_12_11 (v := (A 241 11)) ((w_up_slot (by decide)).trans ((w_up_slot (by decide)).trans ((w_up_slot (by decide)).trans ((w_up_slot (by decide)).trans ((w_up_slot (by decide)).trans ((w_up_slot (by decide)).trans (((hL86 241 11 (by omega) (by omega)).trans rfl)))))))) (fun r133 => ?_)
                              refine wb_iast 248 rfl (wy_pr rfl) wt_248 (n := 60) ((w_up_slot (by decide)).trans ((w_up_slot (by decide)).trans ((w_up_slot (by decide)).trans ((w_up_slot (by decide)).trans ((w_up_slot (by decide)).trans ((w_up_slot (by decide)).trans ((ml_248 hE86.1.1)))))))) (by omega) (by omega) ⟨(by omega), (by omega)⟩ ?_
                              refine wa_aload_n (n := 0) rfl ?_
                              refine wb_gf5 237 rfl (wy_pr rfl) wt_237 wf_15_15 (v := 241) ((w_up_slot (by decide)).trans ((w_up_slot (by decide)).trans ((w_up_slot (by decide)).trans ((w_up_slot (by decide)).trans ((w_up_slot (by decide)).trans ((w_up_slot (by decide)).trans ((w_up_slot (by decide)).trans (((hL86 237 15 (by omega) (by omega)).trans hA15))))))))) (fun r134 => ?_)
                              refine wb_gf4 241 rfl (wy_pr rfl) wt_241 wf_12_8 (v := 249) wl_241_8 ?_
                              refine wa_iload_n (n := 2) rfl ?_
                              refine wa_iconst ?_
                              refine wb_iast 249 rfl (wy_pr rfl) wt_249 (n := 60) ((w_up_slot (by decide)).trans ((w_up_slot (by decide)).trans ((w_up_slot (by decide)).trans ((w_up_slot (by decide)).trans ((w_up_slot (by decide)).trans ((w_up_slot (by decide)).trans ((w_up_slot (by decide)).trans ((ml_249 hE86.1.1))))))))) (by omega) (by omega) ⟨(by omega), (by omega)⟩ ?_
                              refine wa_aload_n (n := 0) rfl ?_
                              refine wa_cv 237 rfl (wy_pr rfl) wt_237 (M2 := fun _ => False) rfl at_M_next ⟨_, rfl⟩ rfl rfl ⟨trivial, trivial, (Or.inr ⟨wy_pr rfl, fun q => q⟩), trivial⟩ trivial (fun _ _ q => False.elim q) (nx_I (S := (w_up (w_up (w_up (w_up (w_up (w_up (w_up (w_up Sq84 243 c 1) 250 c (lx_ne (zq A p) p)) 251 c (zq A (lx_ne (zq A p) p) 237 8)) 244 c (-1)) 245 c 0) 247 c (wb_lshl 1 c)) 248 c (A 241 11)) 249 c 0)) (lx_E_up (lx_E_up (lx_E_up (lx_E_up (lx_E_up (lx_E_up (lx_E_up (lx_E_up hE86 (by decide) (by omega)) (by decide) (by omega)) (by decide) (by omega)) (by decide) (by omega)) (by decide) (by omega)) (by decide) (by omega)) (by decide) (by omega)) (by decide) (by omega)).1 (by have e6 : (w_up (w_up (w_up (w_up (w_up (w_up (w_up (w_up Sq84 243 c 1) 250 c (lx_ne (zq A p) p)) 251 c (zq A (lx_ne (zq A p) p) 237 8)) 244 c (-1)) 245 c 0) 247 c (wb_lshl 1 c)) 248 c (A 241 11)) 249 c 0) 237 6 = (zq A (lx_ne (zq A p) p) 237 6) := ((w_up_slot (by decide)).trans ((w_up_slot (by decide)).trans ((w_up_slot (by decide)).trans ((w_up_slot (by decide)).trans ((w_up_slot (by decide)).trans ((w_up_slot (by decide)).trans ((w_up_slot (by decide)).trans ((w_up_slot (by decide)).trans ((lx_E_6 hE86)))))))))); first | omega | (have := lx_w1 h19; omega) | (have := lx_w1 g17; omega))) (fun oq135 Sq135 hp136 q135 => ?_)
                              rcases q135 with ⟨rfl, a1, a2⟩
                              show wJ _ _ _ _ _ _ _ _ _ _
                              rw [lx_E_ne (lx_E_up (lx_E_up (lx_E_up (lx_E_up (lx_E_up (lx_E_up (lx_E_up (lx_E_up hE86 (by decide) (by omega)) (by decide) (by omega)) (by decide) (by omega)) (by decide) (by omega)) (by decide) (by omega)) (by decide) (by omega)) (by decide) (by omega)) (by decide) (by omega))] at a2
                              have hE137 : lx_E Sq135 A (lx_ne (zq A (lx_ne (zq A p) p)) (lx_ne (zq A p) p)) := lx_E_ag (lx_E_up (lx_E_up (lx_E_up (lx_E_up (lx_E_up (lx_E_up (lx_E_up (lx_E_up hE86 (by decide) (by omega)) (by decide) (by omega)) (by decide) (by omega)) (by decide) (by omega)) (by decide) (by omega)) (by decide) (by omega)) (by decide) (by omega)) (by decide) (by omega)) a1 a2
                              have hL137 : lx_ag (w_up (w_up (w_up (w_up (w_up (w_up (w_up (w_up A 243 c 1) 250 c (lx_ne (zq A p) p)) 251 c (zq A (lx_ne (zq A p) p) 237 8)) 244 c (-1)) 245 c 0) 247 c (wb_lshl 1 c)) 248 c (A 241 11)) 249 c 0) Sq135 := lx_ag_tr (lx_ag_cg (lx_ag_cg (lx_ag_cg (lx_ag_cg (lx_ag_cg (lx_ag_cg (lx_ag_cg (lx_ag_cg hL86)))))))) a1
                              refine wa_aload_n (n := 0) rfl ?_
                              refine wa_bipush (w_rg2 (by omega) (by omega)) ?_
                              refine wa_cv 237 rfl (wy_pr rfl) wt_237 (M2 := fun _ => False) rfl at_M_accepts ⟨_, rfl⟩ rfl rfl ⟨trivial, trivial, (Or.inr ⟨wy_pr rfl, fun q => q⟩), trivial⟩ trivial (fun _ _ q => False.elim q) (accepts_ok (S := Sq135) hE137.1 ⟨by omega, by omega⟩) (fun oq138 Sq138 hp139 q138 => ?_)
                              rcases q138 with ⟨rfl, gac, a1, a2⟩ | ⟨rfl, gac, rfl⟩
                              · skip
                                rw [lx_E_is hE137] at gac
                                show wJ _ _ _ _ _ _ _ _ _ _
                                rw [lx_E_ne hE137] at a2
                                have hE140 : lx_E Sq138 A (lx_ne (zq A (lx_ne (zq A (lx_ne (zq A p) p)) (lx_ne (zq A p) p))) (lx_ne (zq A (lx_ne (zq A p) p)) (lx_ne (zq A p) p))) := lx_E_ag hE137 a1 a2
                                have hL140 : lx_ag (w_up (w_up (w_up (w_up (w_up (w_up (w_up (w_up A 243 c 1) 250 c (lx_ne (zq A p) p)) 251 c (zq A (lx_ne (zq A p) p) 237 8)) 244 c (-1)) 245 c 0) 247 c (wb_lshl 1 c)) 248 c (A 241 11)) 249 c 0) Sq138 := lx_ag_tr hL137 a1
                                refine wa_ifeq (w_rg0 (by omega) (by omega)) ⟨_, rfl⟩ (fun c141 => ?_) (fun c141 => ?_)
                                · skip
                                  exact absurd c141 (by omega)
                                · skip
                                  first | (rw [if_pos g17] at he) | skip
                                  unfold rc_n_241 at he
                                  rw [if_pos (by omega), if_pos ⟨by omega, goo⟩, if_pos (by omega)] at he
                                  unfold rc_body at he
                                  rw [if_pos gac] at he
                                  exact wJ_S (cl_10_241 (B := (w_up (w_up (w_up (w_up (w_up (w_up (w_up (w_up A 243 c 1) 250 c (lx_ne (zq A p) p)) 251 c (zq A (lx_ne (zq A p) p) 237 8)) 244 c (-1)) 245 c 0) 247 c (wb_lshl 1 c)) 248 c (A 241 11)) 249 c 0)) (r := su_a (w_up (w_up (w_up (w_up (w_up (w_up (w_up (w_up A 243 c 1) 250 c (lx_ne (zq A p) p)) 251 c (zq A (lx_ne (zq A p) p) 237 8)) 244 c (-1)) 245 c 0) 247 c (wb_lshl 1 c)) 248 c (A 241 11)) 249 c 0) 241 c (lx_ne (zq A (lx_ne (zq A (lx_ne (zq A p) p)) (lx_ne (zq A p) p))) (lx_ne (zq A (lx_ne (zq A p) p)) (lx_ne (zq A p) p)))) hA15 (ho_nm_up (ho_nm_up (ho_nm_up (ho_nm_up (ho_nm_up (ho_nm_up (ho_nm_up (ho_nm_up hAn hAc (by decide)) hAc (by decide)) hAc (by decide)) hAc (by decide)) hAc (by decide)) hAc (by decide)) hAc (by decide)) hAc (by decide)) ⟨by omega, by omega⟩ hAc (fun Z2 q a al l hr2 g1 g2 g3 g4 => cl_12_241 (B1 := (w_up (w_up (w_up (w_up (w_up (w_up (w_up (w_up A 243 c 1) 250 c (lx_ne (zq A p) p)) 251 c (zq A (lx_ne (zq A p) p) 237 8)) 244 c (-1)) 245 c 0) 247 c (wb_lshl 1 c)) 248 c (A 241 11)) 249 c 0)) hX hA15 hAc hcc hAn hA11 hms hm4 (by omega) (rc_ag_up (rc_ag_up (rc_ag_up (rc_ag_up (rc_ag_up (rc_ag_up (rc_ag_up (rc_ag_up rc_ag_rf (by omega)) (by omega)) (by omega)) (by omega)) (by omega)) (by omega)) (by omega)) (by omega)) hA15 (ho_nm_up (ho_nm_up (ho_nm_up (ho_nm_up (ho_nm_up (ho_nm_up (ho_nm_up (ho_nm_up hAn hAc (by decide)) hAc (by decide)) hAc (by decide)) hAc (by decide)) hAc (by decide)) hAc (by decide)) hAc (by decide)) hAc (by decide)) (by have y9 : (w_up (w_up (w_up (w_up (w_up (w_up (w_up (w_up A 243 c 1) 250 c (lx_ne (zq A p) p)) 251 c (zq A (lx_ne (zq A p) p) 237 8)) 244 c (-1)) 245 c 0) 247 c (wb_lshl 1 c)) 248 c (A 241 11)) 249 c 0) 250 c = (lx_ne (zq A p) p) := ((w_up_slot (by decide)).trans ((w_up_slot (by decide)).trans ((w_up_slot (by decide)).trans ((w_up_slot (by decide)).trans ((w_up_slot (by decide)).trans ((w_up_slot (by decide)).trans (w_up_same _ _ _ _))))))); have y10 : (w_up (w_up (w_up (w_up (w_up (w_up (w_up (w_up A 243 c 1) 250 c (lx_ne (zq A p) p)) 251 c (zq A (lx_ne (zq A p) p) 237 8)) 244 c (-1)) 245 c 0) 247 c (wb_lshl 1 c)) 248 c (A 241 11)) 249 c 0) 251 c = zq A (lx_ne (zq A p) p) 237 8 := ((w_up_slot (by decide)).trans ((w_up_slot (by decide)).trans ((w_up_slot (by decide)).trans ((w_up_slot (by decide)).trans ((w_up_slot (by decide)).trans (w_up_same _ _ _ _)))))); omega) hAc ((w_up_slot (by decide)).trans ((w_up_slot (by decide)).trans ((w_up_slot (by decide)).trans ((w_up_slot (by decide)).trans ((w_up_slot (by decide)).trans ((w_up_slot (by decide)).trans ((w_up_slot (by decide)).trans (w_up_same _ _ _ _)))))))) ((w_up_slot (by decide)).trans ((w_up_slot (by decide)).trans ((w_up_slot (by decide)).trans ((w_up_slot (by decide)).trans ((w_up_slot (by decide)).trans ((w_up_slot (by decide)).trans (w_up_same _ _ _ _))))))) ((w_up_slot (by decide)).trans ((w_up_slot (by decide)).trans ((w_up_slot (by decide)).trans ((w_up_slot (by decide)).trans ((w_up_slot (by decide)).trans (w_up_same _ _ _ _)))))) (((w_up_slot (by decide)).trans (w_up_same _ _ _ _)).trans hA11) (w_up_same _ _ _ _) hA11 ⟨rfl, rfl, rfl⟩ (show hr_all 241 (w_up (w_up (w_up (w_up (w_up (w_up (w_up (w_up A 243 c 1) 250 c (lx_ne (zq A p) p)) 251 c (zq A (lx_ne (zq A p) p) 237 8)) 244 c (-1)) 245 c 0) 247 c (wb_lshl 1 c)) 248 c (A 241 11)) 249 c 0) ms from hms) g1 ⟨g2.1, g2.2.1, g2.2.2.1, g2.2.2.2⟩ g3 (by rw [hr2] at he; exact he)) (fun Z2 e q hr2 g1 g2 g3 => Or.inr ⟨e, q, by rw [hr2] at he; exact he.symm, rfl, rc_ag_su (rc_ag_up (rc_ag_up (rc_ag_up (rc_ag_up (rc_ag_up (rc_ag_up (rc_ag_up (rc_ag_up rc_ag_rf (by omega)) (by omega)) (by omega)) (by omega)) (by omega)) (by omega)) (by omega)) (by omega)) g1, g2, g3⟩) rfl (su_ag_lx su_ag_rf hL140) ⟨hE140.1, hE140.2.1, hE140.2.2.1, hE140.2.2.2⟩ ⟨(hL140 245 c (by omega) (by omega)).trans ((w_up_slot (by decide)).trans ((w_up_slot (by decide)).trans ((w_up_slot (by decide)).trans (w_up_same _ _ _ _)))), hL140 244 c (by omega) (by omega), hL140 247 c (by omega) (by omega), fun i hi => absurd hi (Nat.not_lt_zero i)⟩) ⟨rfl, rfl, trivial⟩
                              · skip
                                show wJ _ _ _ _ _ _ _ _ _ _
                                rw [lx_E_is hE137] at gac
                                refine wa_ifeq (w_rg0 (by omega) (by omega)) ⟨_, rfl⟩ (fun c143 => ?_) (fun c143 => ?_)
                                · skip
                                  first | (rw [if_pos g17] at he) | skip
                                  unfold rc_n_241 at he
                                  rw [if_pos (by omega), if_pos ⟨by omega, goo⟩, if_pos (by omega)] at he
                                  unfold rc_body at he
                                  rw [if_neg (by rw [gac]; decide)] at he
                                  dsimp only at he
                                  exact wJ_S (cl_12_241 (B1 := (w_up (w_up (w_up (w_up (w_up (w_up (w_up (w_up A 243 c 1) 250 c (lx_ne (zq A p) p)) 251 c (zq A (lx_ne (zq A p) p) 237 8)) 244 c (-1)) 245 c 0) 247 c (wb_lshl 1 c)) 248 c (A 241 11)) 249 c 0)) (l := []) hX hA15 hAc hcc hAn hA11 hms hm4 (by omega) (rc_ag_up (rc_ag_up (rc_ag_up (rc_ag_up (rc_ag_up (rc_ag_up (rc_ag_up (rc_ag_up rc_ag_rf (by omega)) (by omega)) (by omega)) (by omega)) (by omega)) (by omega)) (by omega)) (by omega)) hA15 (ho_nm_up (ho_nm_up (ho_nm_up (ho_nm_up (ho_nm_up (ho_nm_up (ho_nm_up (ho_nm_up hAn hAc (by decide)) hAc (by decide)) hAc (by decide)) hAc (by decide)) hAc (by decide)) hAc (by decide)) hAc (by decide)) hAc (by decide)) (by have y9 : (w_up (w_up (w_up (w_up (w_up (w_up (w_up (w_up A 243 c 1) 250 c (lx_ne (zq A p) p)) 251 c (zq A (lx_ne (zq A p) p) 237 8)) 244 c (-1)) 245 c 0) 247 c (wb_lshl 1 c)) 248 c (A 241 11)) 249 c 0) 250 c = (lx_ne (zq A p) p) := ((w_up_slot (by decide)).trans ((w_up_slot (by decide)).trans ((w_up_slot (by decide)).trans ((w_up_slot (by decide)).trans ((w_up_slot (by decide)).trans ((w_up_slot (by decide)).trans (w_up_same _ _ _ _))))))); have y10 : (w_up (w_up (w_up (w_up (w_up (w_up (w_up (w_up A 243 c 1) 250 c (lx_ne (zq A p) p)) 251 c (zq A (lx_ne (zq A p) p) 237 8)) 244 c (-1)) 245 c 0) 247 c (wb_lshl 1 c)) 248 c (A 241 11)) 249 c 0) 251 c = zq A (lx_ne (zq A p) p) 237 8 := ((w_up_slot (by decide)).trans ((w_up_slot (by decide)).trans ((w_up_slot (by decide)).trans ((w_up_slot (by decide)).trans ((w_up_slot (by decide)).trans (w_up_same _ _ _ _)))))); omega) hAc ((w_up_slot (by decide)).trans ((w_up_slot (by decide)).trans ((w_up_slot (by decide)).trans ((w_up_slot (by decide)).trans ((w_up_slot (by decide)).trans ((w_up_slot (by decide)).trans ((w_up_slot (by decide)).trans (w_up_same _ _ _ _)))))))) ((w_up_slot (by decide)).trans ((w_up_slot (by decide)).trans ((w_up_slot (by decide)).trans ((w_up_slot (by decide)).trans ((w_up_slot (by decide)).trans ((w_up_slot (by decide)).trans (w_up_same _ _ _ _))))))) ((w_up_slot (by decide)).trans ((w_up_slot (by decide)).trans ((w_up_slot (by decide)).trans ((w_up_slot (by decide)).trans ((w_up_slot (by decide)).trans (w_up_same _ _ _ _)))))) (((w_up_slot (by decide)).trans (w_up_same _ _ _ _)).trans hA11) (w_up_same _ _ _ _) hA11 ⟨rfl, rfl, rfl⟩ (show hr_all 241 (w_up (w_up (w_up (w_up (w_up (w_up (w_up (w_up A 243 c 1) 250 c (lx_ne (zq A p) p)) 251 c (zq A (lx_ne (zq A p) p) 237 8)) 244 c (-1)) 245 c 0) 247 c (wb_lshl 1 c)) 248 c (A 241 11)) 249 c 0) ms from hms) (su_ag_lx su_ag_rf hL137) hE137 ⟨((hL137 245 c (by omega) (by omega)).trans ((w_up_slot (by decide)).trans ((w_up_slot (by decide)).trans ((w_up_slot (by decide)).trans (w_up_same _ _ _ _))))), ((hL137 244 c (by omega) (by omega)).trans ((w_up_slot (by decide)).trans ((w_up_slot (by decide)).trans ((w_up_slot (by decide)).trans ((w_up_slot (by decide)).trans (w_up_same _ _ _ _)))))), ((hL137 247 c (by omega) (by omega)).trans ((w_up_slot (by decide)).trans ((w_up_slot (by decide)).trans (w_up_same _ _ _ _)))), fun i hi => absurd hi (Nat.not_lt_zero i)⟩ he) ⟨rfl, rfl, trivial⟩
                                · skip
                                  exact absurd c143 (by omega)
                            · skip
                              exact absurd m118 (by decide)
                        · skip
                          exact absurd m109 (by decide)
                · skip
                  exact absurd m92 (by decide)
            · skip
              rw [lx_E_w hE] at gw81
              exact absurd (gw81.symm.trans h19) (by decide)
          · skip
            exact absurd m78 (by decide)
      · skip
        rw [lx_E_w hE] at gw74
        exact absurd (gw74.symm.trans h19) (by decide)
theorem rc_false_241 {c p : Int} {ms : List hMR} {R : (Int × Int) ⊕ (Int × hCR × List hMR)} (hX : w_X xs) (hA15 : A 237 15 = 241) (hAc : A 241 1 = c) (hcc : 0 ≤ c ∧ c ≤ 60) (hAn : ho_nm A 241) (hA11 : A 241 11 = (ms.length : Int)) (hms : hr_all 241 A ms) (hm4 : ms.length ≤ 400) (hE : lx_E A A p) (h19 : lx_w (zq A p) tx_19 = false) (he : rc_of_241 A c ms p = R) : wJ (pe_GA xs) wY0 M (d + 8) t_M_readsClass ((pe_at t_M_readsClass.bl 0).getD (0, [])).2 [(0, (2, 237))] [] A (fun o S2 => (∃ (p2 : Int) (cr : hCR) (ms2 : List hMR), R = .inr (p2, cr, ms2) ∧ o = .inl none ∧ rc_ag 241 c (ms.length : Int) A S2 ∧ lx_E S2 A p2 ∧ S2 241 1 = c + 1 ∧ hc_at 241 c S2 cr ∧ S2 241 11 = (ms2.length : Int) ∧ hr_all 241 S2 ms2 ∧ ms.length ≤ ms2.length ∧ ms2.length ≤ 400) ∨ (∃ e q : Int, R = .inl (e, q) ∧ o = .inr 238 ∧ rc_ag 241 c (ms.length : Int) A S2 ∧ S2 238 5 = e ∧ S2 238 6 = q)) := by
  have hL : lx_ag A A := lx_ag_rf
  have hlo := wb_lshl_rg 1 c
  unfold rc_of_241 at he
  rw [if_neg (by rw [h19]; decide)] at he
  refine wa_aload_n (n := 0) rfl ?_
  refine wa_aload_n (n := 0) rfl ?_
  refine wa_ks ?_
  refine wa_cv 237 rfl (wy_pr rfl) wt_237 (M2 := fun _ => False) rfl at_M_isWord ⟨_, rfl⟩ rfl rfl ⟨(Or.inr ⟨wy_pr rfl, fun q => q⟩), trivial⟩ ⟨(Or.inr ⟨wy_pr rfl, fun q => q⟩), trivial⟩ (fun _ _ q => False.elim q) (isWord_ok (S := A) hE.1.1 (wx_17 hX) (by decide) (lx_I_hp hE.1)) (fun oq2 Sq2 hp3 q2 => ?_)
  rcases q2 with ⟨rfl, ⟨rfl, gw1⟩ | ⟨rfl, gw1⟩⟩
  · skip
    show wJ _ _ _ _ _ _ _ _ _ _
    rw [lx_E_w hE] at gw1
    have g17 := gw1
    refine wa_ifne (w_rg0 (by omega) (by omega)) ⟨_, rfl⟩ (fun c4 => ?_) (fun c4 => ?_)
    · skip
      refine wa_iconst ?_
      refine wa_goto ⟨_, rfl⟩ ?_
      refine wa_iconst ?_
      refine wa_cv 237 rfl (wy_pr rfl) wt_237 (M2 := fun _ => False) rfl at_M_must ⟨_, rfl⟩ rfl rfl ⟨(Or.inr ⟨wy_pr rfl, fun q => q⟩), trivial⟩ trivial (fun _ _ q => False.elim q) (must_ok (S := A) (g := 1) (n := 1) (Or.inr rfl) ⟨by omega, by omega⟩) (fun oq6 Sq6 hp7 q6 => ?_)
      rcases q6 with ⟨_, rfl, rfl⟩ | ⟨m5, _, _⟩
      · skip
        show wJ _ _ _ _ _ _ _ _ _ _
        refine wa_aload_n (n := 0) rfl ?_
        refine wa_ks ?_
        refine wa_cv 237 rfl (wy_pr rfl) wt_237 (M2 := fun _ => False) rfl at_M_isWord ⟨_, rfl⟩ rfl rfl ⟨(Or.inr ⟨wy_pr rfl, fun q => q⟩), trivial⟩ trivial (fun _ _ q => False.elim q) (isWord_ok (S := A) hE.1.1 (wx_19 hX) (by decide) (lx_I_hp hE.1)) (fun oq9 Sq9 hp10 q9 => ?_)
        rcases q9 with ⟨rfl, ⟨rfl, gw8⟩ | ⟨rfl, gw8⟩⟩
        · skip
          rw [lx_E_w hE] at gw8
          exact absurd (gw8.symm.trans h19) (by decide)
        · skip
          show wJ _ _ _ _ _ _ _ _ _ _
          rw [lx_E_w hE] at gw8
          refine wa_istore_n (n := 1) rfl ?_
          refine wa_aload_n (n := 0) rfl ?_
          refine wa_cv 237 rfl (wy_pr rfl) wt_237 (M2 := fun _ => False) rfl at_M_next ⟨_, rfl⟩ rfl rfl ⟨trivial, (Or.inr ⟨wy_pr rfl, fun q => q⟩), trivial⟩ trivial (fun _ _ q => False.elim q) (nx_I (S := A) hE.1 (by have e6 : A 237 6 = (zq A p 237 6) := ((lx_E_6 hE)); first | omega | (have := lx_w1 h19; omega) | (have := lx_w1 g17; omega))) (fun oq11 Sq11 hp12 q11 => ?_)
          rcases q11 with ⟨rfl, a1, a2⟩
          show wJ _ _ _ _ _ _ _ _ _ _
          rw [lx_E_ne hE] at a2
          have hE13 : lx_E Sq11 A (lx_ne (zq A p) p) := lx_E_ag hE a1 a2
          have hL13 : lx_ag A Sq11 := lx_ag_tr hL a1
          refine wa_aload_n (n := 0) rfl ?_
          refine wa_aload_n (n := 0) rfl ?_
          refine wb_gfi 237 rfl (wy_pr rfl) wt_237 wf_15_6 (v := (zq A (lx_ne (zq A p) p) 237 6)) ((lx_E_6 hE13)) (fun r14 => ?_)
          refine wa_iconst ?_
          refine wa_icmpne (w_rg0 (by omega) (by omega)) (w_rg0 (by omega) (by omega)) ⟨_, rfl⟩ (fun c15 => ?_) (fun c15 => ?_)
          · skip
            refine wa_iconst ?_
            refine wa_fall ⟨_, rfl⟩ ?_
            refine wa_iconst ?_
            refine wa_cv 237 rfl (wy_pr rfl) wt_237 (M2 := fun _ => False) rfl at_M_must ⟨_, rfl⟩ rfl rfl ⟨trivial, (Or.inr ⟨wy_pr rfl, fun q => q⟩), trivial⟩ trivial (fun _ _ q => False.elim q) (must_ok (S := Sq11) (g := 0) (n := 1) (Or.inl rfl) ⟨by omega, by omega⟩) (fun oq17 Sq17 hp18 q17 => ?_)
            rcases q17 with ⟨m16, _, _⟩ | ⟨_, rfl, rfl⟩
            · skip
              exact absurd m16 (by decide)
            · skip
              refine ⟨rfl, ?_⟩
              first | (rw [if_pos g17] at he) | skip
              unfold rc_n_241 at he
              first | (rw [if_neg (by omega)] at he) | (rw [if_pos (by omega), if_neg (by first | (intro z; omega) | (rw [goo]; exact fun z => absurd z.2 (by decide)))] at he) | (rw [if_pos (by omega), if_pos ⟨by omega, goo⟩, if_neg (by omega)] at he)
              exact Or.inr ⟨_, _, he.symm, rfl, rc_ag_hl (rc_ag_lx rc_ag_rf hL13), rfl, by first | rfl | exact (show Sq11 237 7 = (lx_ne (zq A p) p) from ((lx_E_7 hE13)))⟩
          · skip
            refine wa_iconst ?_
            refine wa_goto ⟨_, rfl⟩ ?_
            refine wa_iconst ?_
            refine wa_cv 237 rfl (wy_pr rfl) wt_237 (M2 := fun _ => False) rfl at_M_must ⟨_, rfl⟩ rfl rfl ⟨trivial, (Or.inr ⟨wy_pr rfl, fun q => q⟩), trivial⟩ trivial (fun _ _ q => False.elim q) (must_ok (S := Sq11) (g := 1) (n := 1) (Or.inr rfl) ⟨by omega, by omega⟩) (fun oq20 Sq20 hp21 q20 => ?_)
            rcases q20 with ⟨_, rfl, rfl⟩ | ⟨m19, _, _⟩
            · skip
              show wJ _ _ _ _ _ _ _ _ _ _
              have hb6 : zq A (lx_ne (zq A p) p) 237 6 = 1 := by omega
              have hbp := hE13.1.2.2.1
              have hbn := hE13.1.2.1
              rw [hE13.2.2.1] at hbp hbn
              have hbe := lx_en_le (T := A 239) (h := A 237 5) hbp.2
              have hb8 : zq A (lx_ne (zq A p) p) 237 8 ≤ A 237 4 := hbe.2.1 (by rw [← zq_6, hb6]; decide)
              have hb9 : (lx_ne (zq A p) p) ≤ zq A (lx_ne (zq A p) p) 237 8 := hbe.1
              refine wa_aload_n (n := 0) rfl ?_
              refine wa_aload_n (n := 0) rfl ?_
              refine wa_cv 237 rfl (wy_pr rfl) wt_237 (M2 := fun _ => False) rfl at_M_classHere ⟨_, rfl⟩ rfl rfl ⟨trivial, (Or.inr ⟨wy_pr rfl, fun q => q⟩), trivial⟩ ⟨(Or.inr ⟨wy_pr rfl, fun q => q⟩), trivial⟩ (fun _ _ q => False.elim q) (classHere_241 (S := Sq11) hE13.1.1 (((hL13 237 15 (by omega) (by omega)).trans hA15)) (ho_nm_of hAn ((hL13 241 1 (by omega) (by omega)).trans rfl) (funext fun i => (hL13 250 i (by omega) (by omega)).trans rfl) (funext fun i => (hL13 251 i (by omega) (by omega)).trans rfl)) (lx_I_hp hE13.1)) (fun oq22 Sq22 hp23 q22 => ?_)
              rcases q22 with ⟨rfl, rfl⟩
              show wJ _ _ _ _ _ _ _ _ _ _
              rw [lx_E_ch (b := 241) hE13 (by decide) ((hL13 241 1 (by omega) (by omega)).trans rfl) (funext fun i => (hL13 250 i (by omega) (by omega)).trans rfl) (funext fun i => (hL13 251 i (by omega) (by omega)).trans rfl)]
              have hch := ch_of_rg (zq A (lx_ne (zq A p) p)) 241 (show A 241 1 ≤ 60 from hAn.1.2)
              refine wa_ifge (w_rg0 (by omega) (by omega)) ⟨_, rfl⟩ (fun c24 => ?_) (fun c24 => ?_)
              · skip
                refine wa_iconst ?_
                refine wa_fall ⟨_, rfl⟩ ?_
                refine wa_iconst ?_
                refine wa_cv 237 rfl (wy_pr rfl) wt_237 (M2 := fun _ => False) rfl at_M_must ⟨_, rfl⟩ rfl rfl ⟨trivial, (Or.inr ⟨wy_pr rfl, fun q => q⟩), trivial⟩ trivial (fun _ _ q => False.elim q) (must_ok (S := Sq11) (g := 0) (n := 2) (Or.inl rfl) ⟨by omega, by omega⟩) (fun oq26 Sq26 hp27 q26 => ?_)
                rcases q26 with ⟨m25, _, _⟩ | ⟨_, rfl, rfl⟩
                · skip
                  exact absurd m25 (by decide)
                · skip
                  refine ⟨rfl, ?_⟩
                  first | (rw [if_pos g17] at he) | skip
                  unfold rc_n_241 at he
                  first | (rw [if_neg (by omega)] at he) | (rw [if_pos (by omega), if_neg (by first | (intro z; omega) | (rw [goo]; exact fun z => absurd z.2 (by decide)))] at he) | (rw [if_pos (by omega), if_pos ⟨by omega, goo⟩, if_neg (by omega)] at he)
                  exact Or.inr ⟨_, _, he.symm, rfl, rc_ag_hl (rc_ag_lx rc_ag_rf hL13), rfl, by first | rfl | exact (show Sq11 237 7 = (lx_ne (zq A p) p) from ((lx_E_7 hE13)))⟩
              · skip
                refine wa_aload_n (n := 0) rfl ?_
                refine wa_ks ?_
                refine wa_cv 237 rfl (wy_pr rfl) wt_237 (M2 := fun _ => False) rfl at_M_isOneOf ⟨_, rfl⟩ rfl rfl ⟨trivial, (Or.inr ⟨wy_pr rfl, fun q => q⟩), trivial⟩ ⟨(Or.inr ⟨wy_pr rfl, fun q => q⟩), trivial⟩ (fun _ _ q => False.elim q) (isOneOf_ok (S := Sq11) hE13.1.1 (wx_21 hX) (by decide) (by decide) (lx_I_hp hE13.1) (by decide)) (fun oq29 Sq29 hp30 q29 => ?_)
                rcases q29 with ⟨rfl, ⟨rfl, go28⟩ | ⟨rfl, go28⟩⟩
                · skip
                  show wJ _ _ _ _ _ _ _ _ _ _
                  rw [lx_E_oo hE13] at go28
                  have goo := go28
                  refine wa_ifne (w_rg0 (by omega) (by omega)) ⟨_, rfl⟩ (fun c31 => ?_) (fun c31 => ?_)
                  · skip
                    refine wa_iconst ?_
                    refine wa_fall ⟨_, rfl⟩ ?_
                    refine wa_iconst ?_
                    refine wa_cv 237 rfl (wy_pr rfl) wt_237 (M2 := fun _ => False) rfl at_M_must ⟨_, rfl⟩ rfl rfl ⟨trivial, (Or.inr ⟨wy_pr rfl, fun q => q⟩), trivial⟩ trivial (fun _ _ q => False.elim q) (must_ok (S := Sq11) (g := 0) (n := 2) (Or.inl rfl) ⟨by omega, by omega⟩) (fun oq33 Sq33 hp34 q33 => ?_)
                    rcases q33 with ⟨m32, _, _⟩ | ⟨_, rfl, rfl⟩
                    · skip
                      exact absurd m32 (by decide)
                    · skip
                      refine ⟨rfl, ?_⟩
                      first | (rw [if_pos g17] at he) | skip
                      unfold rc_n_241 at he
                      first | (rw [if_neg (by omega)] at he) | (rw [if_pos (by omega), if_neg (by first | (intro z; omega) | (rw [goo]; exact fun z => absurd z.2 (by decide)))] at he) | (rw [if_pos (by omega), if_pos ⟨by omega, goo⟩, if_neg (by omega)] at he)
                      exact Or.inr ⟨_, _, he.symm, rfl, rc_ag_hl (rc_ag_lx rc_ag_rf hL13), rfl, by first | rfl | exact (show Sq11 237 7 = (lx_ne (zq A p) p) from ((lx_E_7 hE13)))⟩
                  · skip
                    exact absurd c31 (by omega)
                · skip
                  show wJ _ _ _ _ _ _ _ _ _ _
                  rw [lx_E_oo hE13] at go28
                  have goo := go28
                  refine wa_ifne (w_rg0 (by omega) (by omega)) ⟨_, rfl⟩ (fun c35 => ?_) (fun c35 => ?_)
                  · skip
                    exact absurd c35 (by omega)
                  · skip
                    refine wa_iconst ?_
                    refine wa_goto ⟨_, rfl⟩ ?_
                    refine wa_iconst ?_
                    refine wa_cv 237 rfl (wy_pr rfl) wt_237 (M2 := fun _ => False) rfl at_M_must ⟨_, rfl⟩ rfl rfl ⟨trivial, (Or.inr ⟨wy_pr rfl, fun q => q⟩), trivial⟩ trivial (fun _ _ q => False.elim q) (must_ok (S := Sq11) (g := 1) (n := 2) (Or.inr rfl) ⟨by omega, by omega⟩) (fun oq37 Sq37 hp38 q37 => ?_)
                    rcases q37 with ⟨_, rfl, rfl⟩ | ⟨m36, _, _⟩
                    · skip
                      show wJ _ _ _ _ _ _ _ _ _ _
                      refine wa_aload_n (n := 0) rfl ?_
                      refine wa_aload_n (n := 0) rfl ?_
                      refine wb_gf5 237 rfl (wy_pr rfl) wt_237 wf_15_15 (v := 241) (((hL13 237 15 (by omega) (by omega)).trans hA15)) (fun r39 => ?_)
                      refine wb_gfi 241 rfl (wy_pr rfl) wt_241 wf_12_1 (v := c) (((hL13 241 1 (by omega) (by omega)).trans hAc)) (fun r40 => ?_)
                      refine wa_bipush (w_rg2 (by omega) (by omega)) ?_
                      refine wa_icmpge (w_rg0 (by omega) (by omega)) (w_rg0 (by omega) (by omega)) ⟨_, rfl⟩ (fun c41 => ?_) (fun c41 => ?_)
                      · skip
                        refine wa_iconst ?_
                        refine wa_fall ⟨_, rfl⟩ ?_
                        refine wa_iconst ?_
                        refine wa_cv 237 rfl (wy_pr rfl) wt_237 (M2 := fun _ => False) rfl at_M_must ⟨_, rfl⟩ rfl rfl ⟨trivial, (Or.inr ⟨wy_pr rfl, fun q => q⟩), trivial⟩ trivial (fun _ _ q => False.elim q) (must_ok (S := Sq11) (g := 0) (n := 5) (Or.inl rfl) ⟨by omega, by omega⟩) (fun oq43 Sq43 hp44 q43 => ?_)
                        rcases q43 with ⟨m42, _, _⟩ | ⟨_, rfl, rfl⟩
                        · skip
                          exact absurd m42 (by decide)
                        · skip
                          refine ⟨rfl, ?_⟩
                          first | (rw [if_pos g17] at he) | skip
                          unfold rc_n_241 at he
                          first | (rw [if_neg (by omega)] at he) | (rw [if_pos (by omega), if_neg (by first | (intro z; omega) | (rw [goo]; exact fun z => absurd z.2 (by decide)))] at he) | (rw [if_pos (by omega), if_pos ⟨by omega, goo⟩, if_neg (by omega)] at he)
                          exact Or.inr ⟨_, _, he.symm, rfl, rc_ag_hl (rc_ag_lx rc_ag_rf hL13), rfl, by first | rfl | exact (show Sq11 237 7 = (lx_ne (zq A p) p) from ((lx_E_7 hE13)))⟩
                      · skip
                        refine wa_iconst ?_
                        refine wa_goto ⟨_, rfl⟩ ?_
                        refine wa_iconst ?_
                        refine wa_cv 237 rfl (wy_pr rfl) wt_237 (M2 := fun _ => False) rfl at_M_must ⟨_, rfl⟩ rfl rfl ⟨trivial, (Or.inr ⟨wy_pr rfl, fun q => q⟩), trivial⟩ trivial (fun _ _ q => False.elim q) (must_ok (S := Sq11) (g := 1) (n := 5) (Or.inr rfl) ⟨by omega, by omega⟩) (fun oq46 Sq46 hp47 q46 => ?_)
                        rcases q46 with ⟨_, rfl, rfl⟩ | ⟨m45, _, _⟩
                        · skip
                          show wJ _ _ _ _ _ _ _ _ _ _
                          refine wa_aload_n (n := 0) rfl ?_
                          refine wb_gf5 237 rfl (wy_pr rfl) wt_237 wf_15_15 (v := 241) (((hL13 237 15 (by omega) (by omega)).trans hA15)) (fun r48 => ?_)
                          refine wb_gfi 241 rfl (wy_pr rfl) wt_241 wf_12_1 (v := c) (((hL13 241 1 (by omega) (by omega)).trans hAc)) (fun r49 => ?_)
                          refine wa_istore_n (n := 2) rfl ?_
                          refine wa_aload_n (n := 0) rfl ?_
                          refine wb_gf5 237 rfl (wy_pr rfl) wt_237 wf_15_15 (v := 241) (((hL13 237 15 (by omega) (by omega)).trans hA15)) (fun r50 => ?_)
                          refine wb_gf4 241 rfl (wy_pr rfl) wt_241 wf_12_2 (v := 243) wl_241_2 ?_
                          refine wa_iload_n (n := 2) rfl ?_
                          refine wa_iload_n (n := 1) rfl ?_
                          refine wb_zast 243 rfl (wy_pr rfl) wt_243 (n := 60) ((ml_243 hE13.1.1)) (by omega) (by omega) ⟨(by omega), (by omega)⟩ ?_
                          refine wa_aload_n (n := 0) rfl ?_
                          refine wb_gf5 237 rfl (wy_pr rfl) wt_237 wf_15_15 (v := 241) ((w_up_slot (by decide)).trans (((hL13 237 15 (by omega) (by omega)).trans hA15))) (fun r51 => ?_)
                          refine wb_gf4 241 rfl (wy_pr rfl) wt_241 wf_12_9 (v := 250) wl_241_9 ?_
                          refine wa_iload_n (n := 2) rfl ?_
                          refine wa_aload_n (n := 0) rfl ?_
                          refine wb_gfi 237 rfl (wy_pr rfl) wt_237 wf_15_7 (v := (lx_ne (zq A p) p)) ((w_up_slot (by decide)).trans ((lx_E_7 hE13))) (fun r52 => ?_)
                          refine wb_iast 250 rfl (wy_pr rfl) wt_250 (n := 60) ((w_up_slot (by decide)).trans ((ml_250 hE13.1.1))) (by omega) (by omega) ⟨(by omega), (by omega)⟩ ?_
                          refine wa_aload_n (n := 0) rfl ?_
                          refine wb_gf5 237 rfl (wy_pr rfl) wt_237 wf_15_15 (v := 241) ((w_up_slot (by decide)).trans ((w_up_slot (by decide)).trans (((hL13 237 15 (by omega) (by omega)).trans hA15)))) (fun r53 => ?_)
                          refine wb_gf4 241 rfl (wy_pr rfl) wt_241 wf_12_10 (v := 251) wl_241_10 ?_
                          refine wa_iload_n (n := 2) rfl ?_
                          refine wa_aload_n (n := 0) rfl ?_
                          refine wb_gfi 237 rfl (wy_pr rfl) wt_237 wf_15_8 (v := (zq A (lx_ne (zq A p) p) 237 8)) ((w_up_slot (by decide)).trans ((w_up_slot (by decide)).trans ((lx_E_8 hE13)))) (fun r54 => ?_)
                          refine wb_iast 251 rfl (wy_pr rfl) wt_251 (n := 60) ((w_up_slot (by decide)).trans ((w_up_slot (by decide)).trans ((ml_251 hE13.1.1)))) (by omega) (by omega) ⟨(by omega), (by omega)⟩ ?_
                          refine wa_aload_n (n := 0) rfl ?_
                          refine wb_gf5 237 rfl (wy_pr rfl) wt_237 wf_15_15 (v := 241) ((w_up_slot (by decide)).trans ((w_up_slot (by decide)).trans ((w_up_slot (by decide)).trans (((hL13 237 15 (by omega) (by omega)).trans hA15))))) (fun r55 => ?_)
                          refine wb_gf4 241 rfl (wy_pr rfl) wt_241 wf_12_3 (v := 244) wl_241_3 ?_
                          refine wa_iload_n (n := 2) rfl ?_
                          refine wa_iconst ?_
                          refine wb_iast 244 rfl (wy_pr rfl) wt_244 (n := 60) ((w_up_slot (by decide)).trans ((w_up_slot (by decide)).trans ((w_up_slot (by decide)).trans ((ml_244 hE13.1.1))))) (by omega) (by omega) ⟨(by omega), (by omega)⟩ ?_
                          refine wa_aload_n (n := 0) rfl ?_
                          refine wb_gf5 237 rfl (wy_pr rfl) wt_237 wf_15_15 (v := 241) ((w_up_slot (by decide)).trans ((w_up_slot (by decide)).trans ((w_up_slot (by decide)).trans ((w_up_slot (by decide)).trans (((hL13 237 15 (by omega) (by omega)).trans hA15)))))) (fun r56 => ?_)
                          refine wb_gf4 241 rfl (wy_pr rfl) wt_241 wf_12_4 (v := 245) wl_241_4 ?_
                          refine wa_iload_n (n := 2) rfl ?_
                          refine wa_iconst ?_
                          refine wb_iast 245 rfl (wy_pr rfl) wt_245 (n := 60) ((w_up_slot (by decide)).trans ((w_up_slot (by decide)).trans ((w_up_slot (by decide)).trans ((w_up_slot (by decide)).trans ((ml_245 hE13.1.1)))))) (by omega) (by omega) ⟨(by omega), (by omega)⟩ ?_
                          refine wa_aload_n (n := 0) rfl ?_
                          refine wb_gf5 237 rfl (wy_pr rfl) wt_237 wf_15_15 (v := 241) ((w_up_slot (by decide)).trans ((w_up_slot (by decide)).trans ((w_up_slot (by decide)).trans ((w_up_slot (by decide)).trans ((w_up_slot (by decide)).trans (((hL13 237 15 (by omega) (by omega)).trans hA15))))))) (fun r57 => ?_)
                          refine wa_fall ⟨_, rfl⟩ ?_
                          refine wb_gf4 241 rfl (wy_pr rfl) wt_241 wf_12_6 (v := 247) wl_241_6 ?_
                          refine wa_iload_n (n := 2) rfl ?_
                          refine wb_lconst (m := 1) rfl ?_
                          refine wa_iload_n (n := 2) rfl ?_
                          refine wa_lshl ?_
                          refine wb_last 247 rfl (wy_pr rfl) wt_247 (n := 60) ((w_up_slot (by decide)).trans ((w_up_slot (by decide)).trans ((w_up_slot (by decide)).trans ((w_up_slot (by decide)).trans ((w_up_slot (by decide)).trans ((ml_247 hE13.1.1))))))) (by omega) (by omega) ⟨(by omega), (by omega)⟩ ?_
                          refine wa_aload_n (n := 0) rfl ?_
                          refine wb_gf5 237 rfl (wy_pr rfl) wt_237 wf_15_15 (v := 241) ((w_up_slot (by decide)).trans ((w_up_slot (by decide)).trans ((w_up_slot (by decide)).trans ((w_up_slot (by decide)).trans ((w_up_slot (by decide)).trans ((w_up_slot (by decide)).trans (((hL13 237 15 (by omega) (by omega)).trans hA15)))))))) (fun r58 => ?_)
                          refine wb_gf4 241 rfl (wy_pr rfl) wt_241 wf_12_7 (v := 248) wl_241_7 ?_
                          refine wa_iload_n (n := 2) rfl ?_
                          refine wa_aload_n (n := 0) rfl ?_
                          refine wb_gf5 237 rfl (wy_pr rfl) wt_237 wf_15_15 (v := 241) ((w_up_slot (by decide)).trans ((w_up_slot (by decide)).trans ((w_up_slot (by decide)).trans ((w_up_slot (by decide)).trans ((w_up_slot (by decide)).trans ((w_up_slot (by decide)).trans (((hL13 237 15 (by omega) (by omega)).trans hA15)))))))) (fun r59 => ?_)
                          refine wb_gfi 241 rfl (wy_pr rfl) wt_241 wf_12_11 (v := (A 241 11)) ((w_up_slot (by decide)).trans ((w_up_slot (by decide)).trans ((w_up_slot (by decide)).trans ((w_up_slot (by decide)).trans ((w_up_slot (by decide)).trans ((w_up_slot (by decide)).trans (((hL13 241 11 (by omega) (by omega)).trans rfl)))))))) (fun r60 => ?_)
                          refine wb_iast 248 rfl (wy_pr rfl) wt_248 (n := 60) ((w_up_slot (by decide)).trans ((w_up_slot (by decide)).trans ((w_up_slot (by decide)).trans ((w_up_slot (by decide)).trans ((w_up_slot (by decide)).trans ((w_up_slot (by decide)).trans ((ml_248 hE13.1.1)))))))) (by omega) (by omega) ⟨(by omega), (by omega)⟩ ?_
                          refine wa_aload_n (n := 0) rfl ?_
                          refine wb_gf5 237 rfl (wy_pr rfl) wt_237 wf_15_15 (v := 241) ((w_up_slot (by decide)).trans ((w_up_slot (by decide)).trans ((w_up_slot (by decide)).trans ((w_up_slot (by decide)).trans ((w_up_slot (by decide)).trans ((w_up_slot (by decide)).trans ((w_up_slot (by decide)).trans (((hL13 237 15 (by omega) (by omega)).trans hA15))))))))) (fun r61 => ?_)
                          refine wb_gf4 241 rfl (wy_pr rfl) wt_241 wf_12_8 (v := 249) wl_241_8 ?_
                          refine wa_iload_n (n := 2) rfl ?_
                          refine wa_iconst ?_
                          refine wb_iast 249 rfl (wy_pr rfl) wt_249 (n := 60) ((w_up_slot (by decide)).trans ((w_up_slot (by decide)).trans ((w_up_slot (by decide)).trans ((w_up_slot (by decide)).trans ((w_up_slot (by decide)).trans ((w_up_slot (by decide)).trans ((w_up_slot (by decide)).trans ((ml_249 hE13.1.1))))))))) (by omega) (by omega) ⟨(by omega), (by omega)⟩ ?_
                          refine wa_aload_n (n := 0) rfl ?_
                          refine wa_cv 237 rfl (wy_pr rfl) wt_237 (M2 := fun _ => False) rfl at_M_next ⟨_, rfl⟩ rfl rfl ⟨trivial, trivial, (Or.inr ⟨wy_pr rfl, fun q => q⟩), trivial⟩ trivial (fun _ _ q => False.elim q) (nx_I (S := (w_up (w_up (w_up (w_up (w_up (w_up (w_up (w_up Sq11 243 c 0) 250 c (lx_ne (zq A p) p)) 251 c (zq A (lx_ne (zq A p) p) 237 8)) 244 c (-1)) 245 c 0) 247 c (wb_lshl 1 c)) 248 c (A 241 11)) 249 c 0)) (lx_E_up (lx_E_up (lx_E_up (lx_E_up (lx_E_up (lx_E_up (lx_E_up (lx_E_up hE13 (by decide) (by omega)) (by decide) (by omega)) (by decide) (by omega)) (by decide) (by omega)) (by decide) (by omega)) (by decide) (by omega)) (by decide) (by omega)) (by decide) (by omega)).1 (by have e6 : (w_up (w_up (w_up (w_up (w_up (w_up (w_up (w_up Sq11 243 c 0) 250 c (lx_ne (zq A p) p)) 251 c (zq A (lx_ne (zq A p) p) 237 8)) 244 c (-1)) 245 c 0) 247 c (wb_lshl 1 c)) 248 c (A 241 11)) 249 c 0) 237 6 = (zq A (lx_ne (zq A p) p) 237 6) := ((w_up_slot (by decide)).trans ((w_up_slot (by decide)).trans ((w_up_slot (by decide)).trans ((w_up_slot (by decide)).trans ((w_up_slot (by decide)).trans ((w_up_slot (by decide)).trans ((w_up_slot (by decide)).trans ((w_up_slot (by decide)).trans ((lx_E_6 hE13)))))))))); first | omega | (have := lx_w1 h19; omega) | (have := lx_w1 g17; omega))) (fun oq62 Sq62 hp63 q62 => ?_)
                          rcases q62 with ⟨rfl, a1, a2⟩
                          show wJ _ _ _ _ _ _ _ _ _ _
                          rw [lx_E_ne (lx_E_up (lx_E_up (lx_E_up (lx_E_up (lx_E_up (lx_E_up (lx_E_up (lx_E_up hE13 (by decide) (by omega)) (by decide) (by omega)) (by decide) (by omega)) (by decide) (by omega)) (by decide) (by omega)) (by decide) (by omega)) (by decide) (by omega)) (by decide) (by omega))] at a2
                          have hE64 : lx_E Sq62 A (lx_ne (zq A (lx_ne (zq A p) p)) (lx_ne (zq A p) p)) := lx_E_ag (lx_E_up (lx_E_up (lx_E_up (lx_E_up (lx_E_up (lx_E_up (lx_E_up (lx_E_up hE13 (by decide) (by omega)) (by decide) (by omega)) (by decide) (by omega)) (by decide) (by omega)) (by decide) (by omega)) (by decide) (by omega)) (by decide) (by omega)) (by decide) (by omega)) a1 a2
                          have hL64 : lx_ag (w_up (w_up (w_up (w_up (w_up (w_up (w_up (w_up A 243 c 0) 250 c (lx_ne (zq A p) p)) 251 c (zq A (lx_ne (zq A p) p) 237 8)) 244 c (-1)) 245 c 0) 247 c (wb_lshl 1 c)) 248 c (A 241 11)) 249 c 0) Sq62 := lx_ag_tr (lx_ag_cg (lx_ag_cg (lx_ag_cg (lx_ag_cg (lx_ag_cg (lx_ag_cg (lx_ag_cg (lx_ag_cg hL13)))))))) a1
                          refine wa_aload_n (n := 0) rfl ?_
                          refine wa_bipush (w_rg2 (by omega) (by omega)) ?_
                          refine wa_cv 237 rfl (wy_pr rfl) wt_237 (M2 := fun _ => False) rfl at_M_accepts ⟨_, rfl⟩ rfl rfl ⟨trivial, trivial, (Or.inr ⟨wy_pr rfl, fun q => q⟩), trivial⟩ trivial (fun _ _ q => False.elim q) (accepts_ok (S := Sq62) hE64.1 ⟨by omega, by omega⟩) (fun oq65 Sq65 hp66 q65 => ?_)
                          rcases q65 with ⟨rfl, gac, a1, a2⟩ | ⟨rfl, gac, rfl⟩
                          · skip
                            rw [lx_E_is hE64] at gac
                            show wJ _ _ _ _ _ _ _ _ _ _
                            rw [lx_E_ne hE64] at a2
                            have hE67 : lx_E Sq65 A (lx_ne (zq A (lx_ne (zq A (lx_ne (zq A p) p)) (lx_ne (zq A p) p))) (lx_ne (zq A (lx_ne (zq A p) p)) (lx_ne (zq A p) p))) := lx_E_ag hE64 a1 a2
                            have hL67 : lx_ag (w_up (w_up (w_up (w_up (w_up (w_up (w_up (w_up A 243 c 0) 250 c (lx_ne (zq A p) p)) 251 c (zq A (lx_ne (zq A p) p) 237 8)) 244 c (-1)) 245 c 0) 247 c (wb_lshl 1 c)) 248 c (A 241 11)) 249 c 0) Sq65 := lx_ag_tr hL64 a1
                            refine wa_ifeq (w_rg0 (by omega) (by omega)) ⟨_, rfl⟩ (fun c68 => ?_) (fun c68 => ?_)
                            · skip
                              exact absurd c68 (by omega)
                            · skip
                              first | (rw [if_pos g17] at he) | skip
                              unfold rc_n_241 at he
                              rw [if_pos (by omega), if_pos ⟨by omega, goo⟩, if_pos (by omega)] at he
                              unfold rc_body at he
                              rw [if_pos gac] at he
                              exact wJ_S (cl_10_241 (B := (w_up (w_up (w_up (w_up (w_up (w_up (w_up (w_up A 243 c 0) 250 c (lx_ne (zq A p) p)) 251 c (zq A (lx_ne (zq A p) p) 237 8)) 244 c (-1)) 245 c 0) 247 c (wb_lshl 1 c)) 248 c (A 241 11)) 249 c 0)) (r := su_a (w_up (w_up (w_up (w_up (w_up (w_up (w_up (w_up A 243 c 0) 250 c (lx_ne (zq A p) p)) 251 c (zq A (lx_ne (zq A p) p) 237 8)) 244 c (-1)) 245 c 0) 247 c (wb_lshl 1 c)) 248 c (A 241 11)) 249 c 0) 241 c (lx_ne (zq A (lx_ne (zq A (lx_ne (zq A p) p)) (lx_ne (zq A p) p))) (lx_ne (zq A (lx_ne (zq A p) p)) (lx_ne (zq A p) p)))) hA15 (ho_nm_up (ho_nm_up (ho_nm_up (ho_nm_up (ho_nm_up (ho_nm_up (ho_nm_up (ho_nm_up hAn hAc (by decide)) hAc (by decide)) hAc (by decide)) hAc (by decide)) hAc (by decide)) hAc (by decide)) hAc (by decide)) hAc (by decide)) ⟨by omega, by omega⟩ hAc (fun Z2 q a al l hr2 g1 g2 g3 g4 => cl_12_241 (B1 := (w_up (w_up (w_up (w_up (w_up (w_up (w_up (w_up A 243 c 0) 250 c (lx_ne (zq A p) p)) 251 c (zq A (lx_ne (zq A p) p) 237 8)) 244 c (-1)) 245 c 0) 247 c (wb_lshl 1 c)) 248 c (A 241 11)) 249 c 0)) hX hA15 hAc hcc hAn hA11 hms hm4 (by omega) (rc_ag_up (rc_ag_up (rc_ag_up (rc_ag_up (rc_ag_up (rc_ag_up (rc_ag_up (rc_ag_up rc_ag_rf (by omega)) (by omega)) (by omega)) (by omega)) (by omega)) (by omega)) (by omega)) (by omega)) hA15 (ho_nm_up (ho_nm_up (ho_nm_up (ho_nm_up (ho_nm_up (ho_nm_up (ho_nm_up (ho_nm_up hAn hAc (by decide)) hAc (by decide)) hAc (by decide)) hAc (by decide)) hAc (by decide)) hAc (by decide)) hAc (by decide)) hAc (by decide)) (by have y9 : (w_up (w_up (w_up (w_up (w_up (w_up (w_up (w_up A 243 c 0) 250 c (lx_ne (zq A p) p)) 251 c (zq A (lx_ne (zq A p) p) 237 8)) 244 c (-1)) 245 c 0) 247 c (wb_lshl 1 c)) 248 c (A 241 11)) 249 c 0) 250 c = (lx_ne (zq A p) p) := ((w_up_slot (by decide)).trans ((w_up_slot (by decide)).trans ((w_up_slot (by decide)).trans ((w_up_slot (by decide)).trans ((w_up_slot (by decide)).trans ((w_up_slot (by decide)).trans (w_up_same _ _ _ _))))))); have y10 : (w_up (w_up (w_up (w_up (w_up (w_up (w_up (w_up A 243 c 0) 250 c (lx_ne (zq A p) p)) 251 c (zq A (lx_ne (zq A p) p) 237 8)) 244 c (-1)) 245 c 0) 247 c (wb_lshl 1 c)) 248 c (A 241 11)) 249 c 0) 251 c = zq A (lx_ne (zq A p) p) 237 8 := ((w_up_slot (by decide)).trans ((w_up_slot (by decide)).trans ((w_up_slot (by decide)).trans ((w_up_slot (by decide)).trans ((w_up_slot (by decide)).trans (w_up_same _ _ _ _)))))); omega) hAc ((w_up_slot (by decide)).trans ((w_up_slot (by decide)).trans ((w_up_slot (by decide)).trans ((w_up_slot (by decide)).trans ((w_up_slot (by decide)).trans ((w_up_slot (by decide)).trans ((w_up_slot (by decide)).trans (w_up_same _ _ _ _)))))))) ((w_up_slot (by decide)).trans ((w_up_slot (by decide)).trans ((w_up_slot (by decide)).trans ((w_up_slot (by decide)).trans ((w_up_slot (by decide)).trans ((w_up_slot (by decide)).trans (w_up_same _ _ _ _))))))) ((w_up_slot (by decide)).trans ((w_up_slot (by decide)).trans ((w_up_slot (by decide)).trans ((w_up_slot (by decide)).trans ((w_up_slot (by decide)).trans (w_up_same _ _ _ _)))))) (((w_up_slot (by decide)).trans (w_up_same _ _ _ _)).trans hA11) (w_up_same _ _ _ _) hA11 ⟨rfl, rfl, rfl⟩ (show hr_all 241 (w_up (w_up (w_up (w_up (w_up (w_up (w_up (w_up A 243 c 0) 250 c (lx_ne (zq A p) p)) 251 c (zq A (lx_ne (zq A p) p) 237 8)) 244 c (-1)) 245 c 0) 247 c (wb_lshl 1 c)) 248 c (A 241 11)) 249 c 0) ms from hms) g1 ⟨g2.1, g2.2.1, g2.2.2.1, g2.2.2.2⟩ g3 (by rw [hr2] at he; exact he)) (fun Z2 e q hr2 g1 g2 g3 => Or.inr ⟨e, q, by rw [hr2] at he; exact he.symm, rfl, rc_ag_su (rc_ag_up (rc_ag_up (rc_ag_up (rc_ag_up (rc_ag_up (rc_ag_up (rc_ag_up (rc_ag_up rc_ag_rf (by omega)) (by omega)) (by omega)) (by omega)) (by omega)) (by omega)) (by omega)) (by omega)) g1, g2, g3⟩) rfl (su_ag_lx su_ag_rf hL67) ⟨hE67.1, hE67.2.1, hE67.2.2.1, hE67.2.2.2⟩ ⟨(hL67 245 c (by omega) (by omega)).trans ((w_up_slot (by decide)).trans ((w_up_slot (by decide)).trans ((w_up_slot (by decide)).trans (w_up_same _ _ _ _)))), hL67 244 c (by omega) (by omega), hL67 247 c (by omega) (by omega), fun i hi => absurd hi (Nat.not_lt_zero i)⟩) ⟨rfl, rfl, trivial⟩
                          · skip
                            show wJ _ _ _ _ _ _ _ _ _ _
                            rw [lx_E_is hE64] at gac
                            refine wa_ifeq (w_rg0 (by omega) (by omega)) ⟨_, rfl⟩ (fun c70 => ?_) (fun c70 => ?_)
                            · skip
                              first | (rw [if_pos g17] at he) | skip
                              unfold rc_n_241 at he
                              rw [if_pos (by omega), if_pos ⟨by omega, goo⟩, if_pos (by omega)] at he
                              unfold rc_body at he
                              rw [if_neg (by rw [gac]; decide)] at he
                              dsimp only at he
                              exact wJ_S (cl_12_241 (B1 := (w_up (w_up (w_up (w_up (w_up (w_up (w_up (w_up A 243 c 0) 250 c (lx_ne (zq A p) p)) 251 c (zq A (lx_ne (zq A p) p) 237 8)) 244 c (-1)) 245 c 0) 247 c (wb_lshl 1 c)) 248 c (A 241 11)) 249 c 0)) (l := []) hX hA15 hAc hcc hAn hA11 hms hm4 (by omega) (rc_ag_up (rc_ag_up (rc_ag_up (rc_ag_up (rc_ag_up (rc_ag_up (rc_ag_up (rc_ag_up rc_ag_rf (by omega)) (by omega)) (by omega)) (by omega)) (by omega)) (by omega)) (by omega)) (by omega)) hA15 (ho_nm_up (ho_nm_up (ho_nm_up (ho_nm_up (ho_nm_up (ho_nm_up (ho_nm_up (ho_nm_up hAn hAc (by decide)) hAc (by decide)) hAc (by decide)) hAc (by decide)) hAc (by decide)) hAc (by decide)) hAc (by decide)) hAc (by decide)) (by have y9 : (w_up (w_up (w_up (w_up (w_up (w_up (w_up (w_up A 243 c 0) 250 c (lx_ne (zq A p) p)) 251 c (zq A (lx_ne (zq A p) p) 237 8)) 244 c (-1)) 245 c 0) 247 c (wb_lshl 1 c)) 248 c (A 241 11)) 249 c 0) 250 c = (lx_ne (zq A p) p) := ((w_up_slot (by decide)).trans ((w_up_slot (by decide)).trans ((w_up_slot (by decide)).trans ((w_up_slot (by decide)).trans ((w_up_slot (by decide)).trans ((w_up_slot (by decide)).trans (w_up_same _ _ _ _))))))); have y10 : (w_up (w_up (w_up (w_up (w_up (w_up (w_up (w_up A 243 c 0) 250 c (lx_ne (zq A p) p)) 251 c (zq A (lx_ne (zq A p) p) 237 8)) 244 c (-1)) 245 c 0) 247 c (wb_lshl 1 c)) 248 c (A 241 11)) 249 c 0) 251 c = zq A (lx_ne (zq A p) p) 237 8 := ((w_up_slot (by decide)).trans ((w_up_slot (by decide)).trans ((w_up_slot (by decide)).trans ((w_up_slot (by decide)).trans ((w_up_slot (by decide)).trans (w_up_same _ _ _ _)))))); omega) hAc ((w_up_slot (by decide)).trans ((w_up_slot (by decide)).trans ((w_up_slot (by decide)).trans ((w_up_slot (by decide)).trans ((w_up_slot (by decide)).trans ((w_up_slot (by decide)).trans ((w_up_slot (by decide)).trans (w_up_same _ _ _ _)))))))) ((w_up_slot (by decide)).trans ((w_up_slot (by decide)).trans ((w_up_slot (by decide)).trans ((w_up_slot (by decide)).trans ((w_up_slot (by decide)).trans ((w_up_slot (by decide)).trans (w_up_same _ _ _ _))))))) ((w_up_slot (by decide)).trans ((w_up_slot (by decide)).trans ((w_up_slot (by decide)).trans ((w_up_slot (by decide)).trans ((w_up_slot (by decide)).trans (w_up_same _ _ _ _)))))) (((w_up_slot (by decide)).trans (w_up_same _ _ _ _)).trans hA11) (w_up_same _ _ _ _) hA11 ⟨rfl, rfl, rfl⟩ (show hr_all 241 (w_up (w_up (w_up (w_up (w_up (w_up (w_up (w_up A 243 c 0) 250 c (lx_ne (zq A p) p)) 251 c (zq A (lx_ne (zq A p) p) 237 8)) 244 c (-1)) 245 c 0) 247 c (wb_lshl 1 c)) 248 c (A 241 11)) 249 c 0) ms from hms) (su_ag_lx su_ag_rf hL64) hE64 ⟨((hL64 245 c (by omega) (by omega)).trans ((w_up_slot (by decide)).trans ((w_up_slot (by decide)).trans ((w_up_slot (by decide)).trans (w_up_same _ _ _ _))))), ((hL64 244 c (by omega) (by omega)).trans ((w_up_slot (by decide)).trans ((w_up_slot (by decide)).trans ((w_up_slot (by decide)).trans ((w_up_slot (by decide)).trans (w_up_same _ _ _ _)))))), ((hL64 247 c (by omega) (by omega)).trans ((w_up_slot (by decide)).trans ((w_up_slot (by decide)).trans (w_up_same _ _ _ _)))), fun i hi => absurd hi (Nat.not_lt_zero i)⟩ he) ⟨rfl, rfl, trivial⟩
                            · skip
                              exact absurd c70 (by omega)
                        · skip
                          exact absurd m45 (by decide)
                    · skip
                      exact absurd m36 (by decide)
            · skip
              exact absurd m19 (by decide)
      · skip
        exact absurd m5 (by decide)
    · skip
      exact absurd c4 (by omega)
  · skip
    show wJ _ _ _ _ _ _ _ _ _ _
    rw [lx_E_w hE] at gw1
    have g17 := gw1
    refine wa_ifne (w_rg0 (by omega) (by omega)) ⟨_, rfl⟩ (fun c73 => ?_) (fun c73 => ?_)
    · skip
      exact absurd c73 (by omega)
    · skip
      refine wa_aload_n (n := 0) rfl ?_
      refine wa_ks ?_
      refine wa_cv 237 rfl (wy_pr rfl) wt_237 (M2 := fun _ => False) rfl at_M_isWord ⟨_, rfl⟩ rfl rfl ⟨(Or.inr ⟨wy_pr rfl, fun q => q⟩), trivial⟩ ⟨(Or.inr ⟨wy_pr rfl, fun q => q⟩), trivial⟩ (fun _ _ q => False.elim q) (isWord_ok (S := A) hE.1.1 (wx_19 hX) (by decide) (lx_I_hp hE.1)) (fun oq75 Sq75 hp76 q75 => ?_)
      rcases q75 with ⟨rfl, ⟨rfl, gw74⟩ | ⟨rfl, gw74⟩⟩
      · skip
        rw [lx_E_w hE] at gw74
        exact absurd (gw74.symm.trans h19) (by decide)
      · skip
        show wJ _ _ _ _ _ _ _ _ _ _
        rw [lx_E_w hE] at gw74
        refine wa_ifeq (w_rg0 (by omega) (by omega)) ⟨_, rfl⟩ (fun c77 => ?_) (fun c77 => ?_)
        · skip
          refine wa_iconst ?_
          refine wa_fall ⟨_, rfl⟩ ?_
          refine wa_iconst ?_
          refine wa_cv 237 rfl (wy_pr rfl) wt_237 (M2 := fun _ => False) rfl at_M_must ⟨_, rfl⟩ rfl rfl ⟨(Or.inr ⟨wy_pr rfl, fun q => q⟩), trivial⟩ trivial (fun _ _ q => False.elim q) (must_ok (S := A) (g := 0) (n := 1) (Or.inl rfl) ⟨by omega, by omega⟩) (fun oq79 Sq79 hp80 q79 => ?_)
          rcases q79 with ⟨m78, _, _⟩ | ⟨_, rfl, rfl⟩
          · skip
            exact absurd m78 (by decide)
          · skip
            refine ⟨rfl, ?_⟩
            rw [if_neg (by rw [g17]; decide)] at he
            exact Or.inr ⟨_, _, he.symm, rfl, rc_ag_hl (rc_ag_lx rc_ag_rf hL), rfl, by first | rfl | exact (show A 237 7 = p from ((lx_E_7 hE)))⟩
        · skip
          exact absurd c77 (by omega)
theorem readsClass_241 {c p : Int} {ms : List hMR} {R : (Int × Int) ⊕ (Int × hCR × List hMR)} (hX : w_X xs) (hA15 : A 237 15 = 241) (hAc : A 241 1 = c) (hcc : 0 ≤ c ∧ c ≤ 60) (hAn : ho_nm A 241) (hA11 : A 241 11 = (ms.length : Int)) (hms : hr_all 241 A ms) (hm4 : ms.length ≤ 400) (hE : lx_E A A p) (he : rc_of_241 A c ms p = R) : wJ (pe_GA xs) wY0 M (d + 8) t_M_readsClass ((pe_at t_M_readsClass.bl 0).getD (0, [])).2 [(0, (2, 237))] [] A (fun o S2 => (∃ (p2 : Int) (cr : hCR) (ms2 : List hMR), R = .inr (p2, cr, ms2) ∧ o = .inl none ∧ rc_ag 241 c (ms.length : Int) A S2 ∧ lx_E S2 A p2 ∧ S2 241 1 = c + 1 ∧ hc_at 241 c S2 cr ∧ S2 241 11 = (ms2.length : Int) ∧ hr_all 241 S2 ms2 ∧ ms.length ≤ ms2.length ∧ ms2.length ≤ 400) ∨ (∃ e q : Int, R = .inl (e, q) ∧ o = .inr 238 ∧ rc_ag 241 c (ms.length : Int) A S2 ∧ S2 238 5 = e ∧ S2 238 6 = q)) := by
  cases h19 : lx_w (zq A p) tx_19 with
  | true => exact rc_true_241 hX hA15 hAc hcc hAn hA11 hms hm4 hE h19 he
  | false => exact rc_false_241 hX hA15 hAc hcc hAn hA11 hms hm4 hE h19 he
def rc_n_261 (A : wS) (c : Int) (ms : List hMR) (itf p1 : Int) : (Int × Int) ⊕ (Int × hCR × List hMR) := if zq A p1 237 6 = 1 then (if ch_of (zq A p1) 261 < 0 ∧ lx_oo (zq A p1) tx_21 = false then (if c < 60 then rc_body A (w_up (w_up (w_up (w_up (w_up (w_up (w_up (w_up A 263 c itf) 270 c p1) 271 c (zq A p1 237 8)) 264 c (-1)) 265 c 0) 267 c (wb_lshl 1 c)) 268 c (A 261 11)) 269 c 0) 261 c ms itf p1 else .inl (5, p1)) else .inl (2, p1)) else .inl (1, p1)
def rc_of_261 (A : wS) (c : Int) (ms : List hMR) (p : Int) : (Int × Int) ⊕ (Int × hCR × List hMR) := if lx_w (zq A p) tx_19 = true then rc_n_261 A c ms 1 (lx_ne (zq A p) p) else if lx_w (zq A p) tx_17 = true then rc_n_261 A c ms 0 (lx_ne (zq A p) p) else .inl (1, p)
theorem rc_true_261 {c p : Int} {ms : List hMR} {R : (Int × Int) ⊕ (Int × hCR × List hMR)} (hX : w_X xs) (hA15 : A 237 15 = 261) (hAc : A 261 1 = c) (hcc : 0 ≤ c ∧ c ≤ 60) (hAn : ho_nm A 261) (hA11 : A 261 11 = (ms.length : Int)) (hms : hr_all 261 A ms) (hm4 : ms.length ≤ 400) (hE : lx_E A A p) (h19 : lx_w (zq A p) tx_19 = true) (he : rc_of_261 A c ms p = R) : wJ (pe_GA xs) wY0 M (d + 8) t_M_readsClass ((pe_at t_M_readsClass.bl 0).getD (0, [])).2 [(0, (2, 237))] [] A (fun o S2 => (∃ (p2 : Int) (cr : hCR) (ms2 : List hMR), R = .inr (p2, cr, ms2) ∧ o = .inl none ∧ rc_ag 261 c (ms.length : Int) A S2 ∧ lx_E S2 A p2 ∧ S2 261 1 = c + 1 ∧ hc_at 261 c S2 cr ∧ S2 261 11 = (ms2.length : Int) ∧ hr_all 261 S2 ms2 ∧ ms.length ≤ ms2.length ∧ ms2.length ≤ 400) ∨ (∃ e q : Int, R = .inl (e, q) ∧ o = .inr 238 ∧ rc_ag 261 c (ms.length : Int) A S2 ∧ S2 238 5 = e ∧ S2 238 6 = q)) := by
  have hL : lx_ag A A := lx_ag_rf
  have hlo := wb_lshl_rg 1 c
  unfold rc_of_261 at he
  rw [if_pos h19] at he
  refine wa_aload_n (n := 0) rfl ?_
  refine wa_aload_n (n := 0) rfl ?_
  refine wa_ks ?_
  refine wa_cv 237 rfl (wy_pr rfl) wt_237 (M2 := fun _ => False) rfl at_M_isWord ⟨_, rfl⟩ rfl rfl ⟨(Or.inr ⟨wy_pr rfl, fun q => q⟩), trivial⟩ ⟨(Or.inr ⟨wy_pr rfl, fun q => q⟩), trivial⟩ (fun _ _ q => False.elim q) (isWord_ok (S := A) hE.1.1 (wx_17 hX) (by decide) (lx_I_hp hE.1)) (fun oq2 Sq2 hp3 q2 => ?_)
  rcases q2 with ⟨rfl, ⟨rfl, gw1⟩ | ⟨rfl, gw1⟩⟩
  · skip
    show wJ _ _ _ _ _ _ _ _ _ _
    rw [lx_E_w hE] at gw1
    have g17 := gw1
    refine wa_ifne (w_rg0 (by omega) (by omega)) ⟨_, rfl⟩ (fun c4 => ?_) (fun c4 => ?_)
    · skip
      refine wa_iconst ?_
      refine wa_goto ⟨_, rfl⟩ ?_
      refine wa_iconst ?_
      refine wa_cv 237 rfl (wy_pr rfl) wt_237 (M2 := fun _ => False) rfl at_M_must ⟨_, rfl⟩ rfl rfl ⟨(Or.inr ⟨wy_pr rfl, fun q => q⟩), trivial⟩ trivial (fun _ _ q => False.elim q) (must_ok (S := A) (g := 1) (n := 1) (Or.inr rfl) ⟨by omega, by omega⟩) (fun oq6 Sq6 hp7 q6 => ?_)
      rcases q6 with ⟨_, rfl, rfl⟩ | ⟨m5, _, _⟩
      · skip
        show wJ _ _ _ _ _ _ _ _ _ _
        refine wa_aload_n (n := 0) rfl ?_
        refine wa_ks ?_
        refine wa_cv 237 rfl (wy_pr rfl) wt_237 (M2 := fun _ => False) rfl at_M_isWord ⟨_, rfl⟩ rfl rfl ⟨(Or.inr ⟨wy_pr rfl, fun q => q⟩), trivial⟩ trivial (fun _ _ q => False.elim q) (isWord_ok (S := A) hE.1.1 (wx_19 hX) (by decide) (lx_I_hp hE.1)) (fun oq9 Sq9 hp10 q9 => ?_)
        rcases q9 with ⟨rfl, ⟨rfl, gw8⟩ | ⟨rfl, gw8⟩⟩
        · skip
          show wJ _ _ _ _ _ _ _ _ _ _
          rw [lx_E_w hE] at gw8
          refine wa_istore_n (n := 1) rfl ?_
          refine wa_aload_n (n := 0) rfl ?_
          refine wa_cv 237 rfl (wy_pr rfl) wt_237 (M2 := fun _ => False) rfl at_M_next ⟨_, rfl⟩ rfl rfl ⟨trivial, (Or.inr ⟨wy_pr rfl, fun q => q⟩), trivial⟩ trivial (fun _ _ q => False.elim q) (nx_I (S := A) hE.1 (by have e6 : A 237 6 = (zq A p 237 6) := ((lx_E_6 hE)); first | omega | (have := lx_w1 h19; omega) | (have := lx_w1 g17; omega))) (fun oq11 Sq11 hp12 q11 => ?_)
          rcases q11 with ⟨rfl, a1, a2⟩
          show wJ _ _ _ _ _ _ _ _ _ _
          rw [lx_E_ne hE] at a2
          have hE13 : lx_E Sq11 A (lx_ne (zq A p) p) := lx_E_ag hE a1 a2
          have hL13 : lx_ag A Sq11 := lx_ag_tr hL a1
          refine wa_aload_n (n := 0) rfl ?_
          refine wa_aload_n (n := 0) rfl ?_
          refine wb_gfi 237 rfl (wy_pr rfl) wt_237 wf_15_6 (v := (zq A (lx_ne (zq A p) p) 237 6)) ((lx_E_6 hE13)) (fun r14 => ?_)
          refine wa_iconst ?_
          refine wa_icmpne (w_rg0 (by omega) (by omega)) (w_rg0 (by omega) (by omega)) ⟨_, rfl⟩ (fun c15 => ?_) (fun c15 => ?_)
          · skip
            refine wa_iconst ?_
            refine wa_fall ⟨_, rfl⟩ ?_
            refine wa_iconst ?_
            refine wa_cv 237 rfl (wy_pr rfl) wt_237 (M2 := fun _ => False) rfl at_M_must ⟨_, rfl⟩ rfl rfl ⟨trivial, (Or.inr ⟨wy_pr rfl, fun q => q⟩), trivial⟩ trivial (fun _ _ q => False.elim q) (must_ok (S := Sq11) (g := 0) (n := 1) (Or.inl rfl) ⟨by omega, by omega⟩) (fun oq17 Sq17 hp18 q17 => ?_)
            rcases q17 with ⟨m16, _, _⟩ | ⟨_, rfl, rfl⟩
            · skip
              exact absurd m16 (by decide)
            · skip
              refine ⟨rfl, ?_⟩
              first | (rw [if_pos g17] at he) | skip
              unfold rc_n_261 at he
              first | (rw [if_neg (by omega)] at he) | (rw [if_pos (by omega), if_neg (by first | (intro z; omega) | (rw [goo]; exact fun z => absurd z.2 (by decide)))] at he) | (rw [if_pos (by omega), if_pos ⟨by omega, goo⟩, if_neg (by omega)] at he)
              exact Or.inr ⟨_, _, he.symm, rfl, rc_ag_hl (rc_ag_lx rc_ag_rf hL13), rfl, by first | rfl | exact (show Sq11 237 7 = (lx_ne (zq A p) p) from ((lx_E_7 hE13)))⟩
          · skip
            refine wa_iconst ?_
            refine wa_goto ⟨_, rfl⟩ ?_
            refine wa_iconst ?_
            refine wa_cv 237 rfl (wy_pr rfl) wt_237 (M2 := fun _ => False) rfl at_M_must ⟨_, rfl⟩ rfl rfl ⟨trivial, (Or.inr ⟨wy_pr rfl, fun q => q⟩), trivial⟩ trivial (fun _ _ q => False.elim q) (must_ok (S := Sq11) (g := 1) (n := 1) (Or.inr rfl) ⟨by omega, by omega⟩) (fun oq20 Sq20 hp21 q20 => ?_)
            rcases q20 with ⟨_, rfl, rfl⟩ | ⟨m19, _, _⟩
            · skip
              show wJ _ _ _ _ _ _ _ _ _ _
              have hb6 : zq A (lx_ne (zq A p) p) 237 6 = 1 := by omega
              have hbp := hE13.1.2.2.1
              have hbn := hE13.1.2.1
              rw [hE13.2.2.1] at hbp hbn
              have hbe := lx_en_le (T := A 239) (h := A 237 5) hbp.2
              have hb8 : zq A (lx_ne (zq A p) p) 237 8 ≤ A 237 4 := hbe.2.1 (by rw [← zq_6, hb6]; decide)
              have hb9 : (lx_ne (zq A p) p) ≤ zq A (lx_ne (zq A p) p) 237 8 := hbe.1
              refine wa_aload_n (n := 0) rfl ?_
              refine wa_aload_n (n := 0) rfl ?_
              refine wa_cv 237 rfl (wy_pr rfl) wt_237 (M2 := fun _ => False) rfl at_M_classHere ⟨_, rfl⟩ rfl rfl ⟨trivial, (Or.inr ⟨wy_pr rfl, fun q => q⟩), trivial⟩ ⟨(Or.inr ⟨wy_pr rfl, fun q => q⟩), trivial⟩ (fun _ _ q => False.elim q) (classHere_261 (S := Sq11) hE13.1.1 (((hL13 237 15 (by omega) (by omega)).trans hA15)) (ho_nm_of hAn ((hL13 261 1 (by omega) (by omega)).trans rfl) (funext fun i => (hL13 270 i (by omega) (by omega)).trans rfl) (funext fun i => (hL13 271 i (by omega) (by omega)).trans rfl)) (lx_I_hp hE13.1)) (fun oq22 Sq22 hp23 q22 => ?_)
              rcases q22 with ⟨rfl, rfl⟩
              show wJ _ _ _ _ _ _ _ _ _ _
              rw [lx_E_ch (b := 261) hE13 (by decide) ((hL13 261 1 (by omega) (by omega)).trans rfl) (funext fun i => (hL13 270 i (by omega) (by omega)).trans rfl) (funext fun i => (hL13 271 i (by omega) (by omega)).trans rfl)]
              have hch := ch_of_rg (zq A (lx_ne (zq A p) p)) 261 (show A 261 1 ≤ 60 from hAn.1.2)
              refine wa_ifge (w_rg0 (by omega) (by omega)) ⟨_, rfl⟩ (fun c24 => ?_) (fun c24 => ?_)
              · skip
                refine wa_iconst ?_
                refine wa_fall ⟨_, rfl⟩ ?_
                refine wa_iconst ?_
                refine wa_cv 237 rfl (wy_pr rfl) wt_237 (M2 := fun _ => False) rfl at_M_must ⟨_, rfl⟩ rfl rfl ⟨trivial, (Or.inr ⟨wy_pr rfl, fun q => q⟩), trivial⟩ trivial (fun _ _ q => False.elim q) (must_ok (S := Sq11) (g := 0) (n := 2) (Or.inl rfl) ⟨by omega, by omega⟩) (fun oq26 Sq26 hp27 q26 => ?_)
                rcases q26 with ⟨m25, _, _⟩ | ⟨_, rfl, rfl⟩
                · skip
                  exact absurd m25 (by decide)
                · skip
                  refine ⟨rfl, ?_⟩
                  first | (rw [if_pos g17] at he) | skip
                  unfold rc_n_261 at he
                  first | (rw [if_neg (by omega)] at he) | (rw [if_pos (by omega), if_neg (by first | (intro z; omega) | (rw [goo]; exact fun z => absurd z.2 (by decide)))] at he) | (rw [if_pos (by omega), if_pos ⟨by omega, goo⟩, if_neg (by omega)] at he)
                  exact Or.inr ⟨_, _, he.symm, rfl, rc_ag_hl (rc_ag_lx rc_ag_rf hL13), rfl, by first | rfl | exact (show Sq11 237 7 = (lx_ne (zq A p) p) from ((lx_E_7 hE13)))⟩
              · skip
                refine wa_aload_n (n := 0) rfl ?_
                refine wa_ks ?_
                refine wa_cv 237 rfl (wy_pr rfl) wt_237 (M2 := fun _ => False) rfl at_M_isOneOf ⟨_, rfl⟩ rfl rfl ⟨trivial, (Or.inr ⟨wy_pr rfl, fun q => q⟩), trivial⟩ ⟨(Or.inr ⟨wy_pr rfl, fun q => q⟩), trivial⟩ (fun _ _ q => False.elim q) (isOneOf_ok (S := Sq11) hE13.1.1 (wx_21 hX) (by decide) (by decide) (lx_I_hp hE13.1) (by decide)) (fun oq29 Sq29 hp30 q29 => ?_)
                rcases q29 with ⟨rfl, ⟨rfl, go28⟩ | ⟨rfl, go28⟩⟩
                · skip
                  show wJ _ _ _ _ _ _ _ _ _ _
                  rw [lx_E_oo hE13] at go28
                  have goo := go28
                  refine wa_ifne (w_rg0 (by omega) (by omega)) ⟨_, rfl⟩ (fun c31 => ?_) (fun c31 => ?_)
                  · skip
                    refine wa_iconst ?_
                    refine wa_fall ⟨_, rfl⟩ ?_
                    refine wa_iconst ?_
                    refine wa_cv 237 rfl (wy_pr rfl) wt_237 (M2 := fun _ => False) rfl at_M_must ⟨_, rfl⟩ rfl rfl ⟨trivial, (Or.inr ⟨wy_pr rfl, fun q => q⟩), trivial⟩ trivial (fun _ _ q => False.elim q) (must_ok (S := Sq11) (g := 0) (n := 2) (Or.inl rfl) ⟨by omega, by omega⟩) (fun oq33 Sq33 hp34 q33 => ?_)
                    rcases q33 with ⟨m32, _, _⟩ | ⟨_, rfl, rfl⟩
                    · skip
                      exact absurd m32 (by decide)
                    · skip
                      refine ⟨rfl, ?_⟩
                      first | (rw [if_pos g17] at he) | skip
                      unfold rc_n_261 at he
                      first | (rw [if_neg (by omega)] at he) | (rw [if_pos (by omega), if_neg (by first | (intro z; omega) | (rw [goo]; exact fun z => absurd z.2 (by decide)))] at he) | (rw [if_pos (by omega), if_pos ⟨by omega, goo⟩, if_neg (by omega)] at he)
                      exact Or.inr ⟨_, _, he.symm, rfl, rc_ag_hl (rc_ag_lx rc_ag_rf hL13), rfl, by first | rfl | exact (show Sq11 237 7 = (lx_ne (zq A p) p) from ((lx_E_7 hE13)))⟩
                  · skip
                    exact absurd c31 (by omega)
                · skip
                  show wJ _ _ _ _ _ _ _ _ _ _
                  rw [lx_E_oo hE13] at go28
                  have goo := go28
                  refine wa_ifne (w_rg0 (by omega) (by omega)) ⟨_, rfl⟩ (fun c35 => ?_) (fun c35 => ?_)
                  · skip
                    exact absurd c35 (by omega)
                  · skip
                    refine wa_iconst ?_
                    refine wa_goto ⟨_, rfl⟩ ?_
                    refine wa_iconst ?_
                    refine wa_cv 237 rfl (wy_pr rfl) wt_237 (M2 := fun _ => False) rfl at_M_must ⟨_, rfl⟩ rfl rfl ⟨trivial, (Or.inr ⟨wy_pr rfl, fun q => q⟩), trivial⟩ trivial (fun _ _ q => False.elim q) (must_ok (S := Sq11) (g := 1) (n := 2) (Or.inr rfl) ⟨by omega, by omega⟩) (fun oq37 Sq37 hp38 q37 => ?_)
                    rcases q37 with ⟨_, rfl, rfl⟩ | ⟨m36, _, _⟩
                    · skip
                      show wJ _ _ _ _ _ _ _ _ _ _
                      refine wa_aload_n (n := 0) rfl ?_
                      refine wa_aload_n (n := 0) rfl ?_
                      refine wb_gf5 237 rfl (wy_pr rfl) wt_237 wf_15_15 (v := 261) (((hL13 237 15 (by omega) (by omega)).trans hA15)) (fun r39 => ?_)
                      refine wb_gfi 261 rfl (wy_pr rfl) wt_261 wf_12_1 (v := c) (((hL13 261 1 (by omega) (by omega)).trans hAc)) (fun r40 => ?_)
                      refine wa_bipush (w_rg2 (by omega) (by omega)) ?_
                      refine wa_icmpge (w_rg0 (by omega) (by omega)) (w_rg0 (by omega) (by omega)) ⟨_, rfl⟩ (fun c41 => ?_) (fun c41 => ?_)
                      · skip
                        refine wa_iconst ?_
                        refine wa_fall ⟨_, rfl⟩ ?_
                        refine wa_iconst ?_
                        refine wa_cv 237 rfl (wy_pr rfl) wt_237 (M2 := fun _ => False) rfl at_M_must ⟨_, rfl⟩ rfl rfl ⟨trivial, (Or.inr ⟨wy_pr rfl, fun q => q⟩), trivial⟩ trivial (fun _ _ q => False.elim q) (must_ok (S := Sq11) (g := 0) (n := 5) (Or.inl rfl) ⟨by omega, by omega⟩) (fun oq43 Sq43 hp44 q43 => ?_)
                        rcases q43 with ⟨m42, _, _⟩ | ⟨_, rfl, rfl⟩
                        · skip
                          exact absurd m42 (by decide)
                        · skip
                          refine ⟨rfl, ?_⟩
                          first | (rw [if_pos g17] at he) | skip
                          unfold rc_n_261 at he
                          first | (rw [if_neg (by omega)] at he) | (rw [if_pos (by omega), if_neg (by first | (intro z; omega) | (rw [goo]; exact fun z => absurd z.2 (by decide)))] at he) | (rw [if_pos (by omega), if_pos ⟨by omega, goo⟩, if_neg (by omega)] at he)
                          exact Or.inr ⟨_, _, he.symm, rfl, rc_ag_hl (rc_ag_lx rc_ag_rf hL13), rfl, by first | rfl | exact (show Sq11 237 7 = (lx_ne (zq A p) p) from ((lx_E_7 hE13)))⟩
                      · skip
                        refine wa_iconst ?_
                        refine wa_goto ⟨_, rfl⟩ ?_
                        refine wa_iconst ?_
                        refine wa_cv 237 rfl (wy_pr rfl) wt_237 (M2 := fun _ => False) rfl at_M_must ⟨_, rfl⟩ rfl rfl ⟨trivial, (Or.inr ⟨wy_pr rfl, fun q => q⟩), trivial⟩ trivial (fun _ _ q => False.elim q) (must_ok (S := Sq11) (g := 1) (n := 5) (Or.inr rfl) ⟨by omega, by omega⟩) (fun oq46 Sq46 hp47 q46 => ?_)
                        rcases q46 with ⟨_, rfl, rfl⟩ | ⟨m45, _, _⟩
                        · skip
                          show wJ _ _ _ _ _ _ _ _ _ _
                          refine wa_aload_n (n := 0) rfl ?_
                          refine wb_gf5 237 rfl (wy_pr rfl) wt_237 wf_15_15 (v := 261) (((hL13 237 15 (by omega) (by omega)).trans hA15)) (fun r48 => ?_)
                          refine wb_gfi 261 rfl (wy_pr rfl) wt_261 wf_12_1 (v := c) (((hL13 261 1 (by omega) (by omega)).trans hAc)) (fun r49 => ?_)
                          refine wa_istore_n (n := 2) rfl ?_
                          refine wa_aload_n (n := 0) rfl ?_
                          refine wb_gf5 237 rfl (wy_pr rfl) wt_237 wf_15_15 (v := 261) (((hL13 237 15 (by omega) (by omega)).trans hA15)) (fun r50 => ?_)
                          refine wb_gf4 261 rfl (wy_pr rfl) wt_261 wf_12_2 (v := 263) wl_261_2 ?_
                          refine wa_iload_n (n := 2) rfl ?_
                          refine wa_iload_n (n := 1) rfl ?_
                          refine wb_zast 263 rfl (wy_pr rfl) wt_263 (n := 60) ((ml_263 hE13.1.1)) (by omega) (by omega) ⟨(by omega), (by omega)⟩ ?_
                          refine wa_aload_n (n := 0) rfl ?_
                          refine wb_gf5 237 rfl (wy_pr rfl) wt_237 wf_15_15 (v := 261) ((w_up_slot (by decide)).trans (((hL13 237 15 (by omega) (by omega)).trans hA15))) (fun r51 => ?_)
                          refine wb_gf4 261 rfl (wy_pr rfl) wt_261 wf_12_9 (v := 270) wl_261_9 ?_
                          refine wa_iload_n (n := 2) rfl ?_
                          refine wa_aload_n (n := 0) rfl ?_
                          refine wb_gfi 237 rfl (wy_pr rfl) wt_237 wf_15_7 (v := (lx_ne (zq A p) p)) ((w_up_slot (by decide)).trans ((lx_E_7 hE13))) (fun r52 => ?_)
                          refine wb_iast 270 rfl (wy_pr rfl) wt_270 (n := 60) ((w_up_slot (by decide)).trans ((ml_270 hE13.1.1))) (by omega) (by omega) ⟨(by omega), (by omega)⟩ ?_
                          refine wa_aload_n (n := 0) rfl ?_
                          refine wb_gf5 237 rfl (wy_pr rfl) wt_237 wf_15_15 (v := 261) ((w_up_slot (by decide)).trans ((w_up_slot (by decide)).trans (((hL13 237 15 (by omega) (by omega)).trans hA15)))) (fun r53 => ?_)
                          refine wb_gf4 261 rfl (wy_pr rfl) wt_261 wf_12_10 (v := 271) wl_261_10 ?_
                          refine wa_iload_n (n := 2) rfl ?_
                          refine wa_aload_n (n := 0) rfl ?_
                          refine wb_gfi 237 rfl (wy_pr rfl) wt_237 wf_15_8 (v := (zq A (lx_ne (zq A p) p) 237 8)) ((w_up_slot (by decide)).trans ((w_up_slot (by decide)).trans ((lx_E_8 hE13)))) (fun r54 => ?_)
                          refine wb_iast 271 rfl (wy_pr rfl) wt_271 (n := 60) ((w_up_slot (by decide)).trans ((w_up_slot (by decide)).trans ((ml_271 hE13.1.1)))) (by omega) (by omega) ⟨(by omega), (by omega)⟩ ?_
                          refine wa_aload_n (n := 0) rfl ?_
                          refine wb_gf5 237 rfl (wy_pr rfl) wt_237 wf_15_15 (v := 261) ((w_up_slot (by decide)).trans ((w_up_slot (by decide)).trans ((w_up_slot (by decide)).trans (((hL13 237 15 (by omega) (by omega)).trans hA15))))) (fun r55 => ?_)
                          refine wb_gf4 261 rfl (wy_pr rfl) wt_261 wf_12_3 (v := 264) wl_261_3 ?_
                          refine wa_iload_n (n := 2) rfl ?_
                          refine wa_iconst ?_
                          refine wb_iast 264 rfl (wy_pr rfl) wt_264 (n := 60) ((w_up_slot (by decide)).trans ((w_up_slot (by decide)).trans ((w_up_slot (by decide)).trans ((ml_264 hE13.1.1))))) (by omega) (by omega) ⟨(by omega), (by omega)⟩ ?_
                          refine wa_aload_n (n := 0) rfl ?_
                          refine wb_gf5 237 rfl (wy_pr rfl) wt_237 wf_15_15 (v := 261) ((w_up_slot (by decide)).trans ((w_up_slot (by decide)).trans ((w_up_slot (by decide)).trans ((w_up_slot (by decide)).trans (((hL13 237 15 (by omega) (by omega)).trans hA15)))))) (fun r56 => ?_)
                          refine wb_gf4 261 rfl (wy_pr rfl) wt_261 wf_12_4 (v := 265) wl_261_4 ?_
                          refine wa_iload_n (n := 2) rfl ?_
                          refine wa_iconst ?_
                          refine wb_iast 265 rfl (wy_pr rfl) wt_265 (n := 60) ((w_up_slot (by decide)).trans ((w_up_slot (by decide)).trans ((w_up_slot (by decide)).trans ((w_up_slot (by decide)).trans ((ml_265 hE13.1.1)))))) (by omega) (by omega) ⟨(by omega), (by omega)⟩ ?_
                          refine wa_aload_n (n := 0) rfl ?_
                          refine wb_gf5 237 rfl (wy_pr rfl) wt_237 wf_15_15 (v := 261) ((w_up_slot (by decide)).trans ((w_up_slot (by decide)).trans ((w_up_slot (by decide)).trans ((w_up_slot (by decide)).trans ((w_up_slot (by decide)).trans (((hL13 237 15 (by omega) (by omega)).trans hA15))))))) (fun r57 => ?_)
                          refine wa_fall ⟨_, rfl⟩ ?_
                          refine wb_gf4 261 rfl (wy_pr rfl) wt_261 wf_12_6 (v := 267) wl_261_6 ?_
                          refine wa_iload_n (n := 2) rfl ?_
                          refine wb_lconst (m := 1) rfl ?_
                          refine wa_iload_n (n := 2) rfl ?_
                          refine wa_lshl ?_
                          refine wb_last 267 rfl (wy_pr rfl) wt_267 (n := 60) ((w_up_slot (by decide)).trans ((w_up_slot (by decide)).trans ((w_up_slot (by decide)).trans ((w_up_slot (by decide)).trans ((w_up_slot (by decide)).trans ((ml_267 hE13.1.1))))))) (by omega) (by omega) ⟨(by omega), (by omega)⟩ ?_
                          refine wa_aload_n (n := 0) rfl ?_
                          refine wb_gf5 237 rfl (wy_pr rfl) wt_237 wf_15_15 (v := 261) ((w_up_slot (by decide)).trans ((w_up_slot (by decide)).trans ((w_up_slot (by decide)).trans ((w_up_slot (by decide)).trans ((w_up_slot (by decide)).trans ((w_up_slot (by decide)).trans (((hL13 237 15 (by omega) (by omega)).trans hA15)))))))) (fun r58 => ?_)
                          refine wb_gf4 261 rfl (wy_pr rfl) wt_261 wf_12_7 (v := 268) wl_261_7 ?_
                          refine wa_iload_n (n := 2) rfl ?_
                          refine wa_aload_n (n := 0) rfl ?_
                          refine wb_gf5 237 rfl (wy_pr rfl) wt_237 wf_15_15 (v := 261) ((w_up_slot (by decide)).trans ((w_up_slot (by decide)).trans ((w_up_slot (by decide)).trans ((w_up_slot (by decide)).trans ((w_up_slot (by decide)).trans ((w_up_slot (by decide)).trans (((hL13 237 15 (by omega) (by omega)).trans hA15)))))))) (fun r59 => ?_)
                          refine wb_gfi 261 rfl (wy_pr rfl) wt_261 wf_12_11 (v := (A 261 11)) ((w_up_slot (by decide)).trans ((w_up_slot (by decide)).trans ((w_up_slot (by decide)).trans ((w_up_slot (by decide)).trans ((w_up_slot (by decide)).trans ((w_up_slot (by decide)).trans (((hL13 261 11 (by omega) (by omega)).trans rfl)))))))) (fun r60 => ?_)
                          refine wb_iast 268 rfl (wy_pr rfl) wt_268 (n := 60) ((w_up_slot (by decide)).trans ((w_up_slot (by decide)).trans ((w_up_slot (by decide)).trans ((w_up_slot (by decide)).trans ((w_up_slot (by decide)).trans ((w_up_slot (by decide)).trans ((ml_268 hE13.1.1)))))))) (by omega) (by omega) ⟨(by omega), (by omega)⟩ ?_
                          refine wa_aload_n (n := 0) rfl ?_
                          refine wb_gf5 237 rfl (wy_pr rfl) wt_237 wf_15_15 (v := 261) ((w_up_slot (by decide)).trans ((w_up_slot (by decide)).trans ((w_up_slot (by decide)).trans ((w_up_slot (by decide)).trans ((w_up_slot (by decide)).trans ((w_up_slot (by decide)).trans ((w_up_slot (by decide)).trans (((hL13 237 15 (by omega) (by omega)).trans hA15))))))))) (fun r61 => ?_)
                          refine wb_gf4 261 rfl (wy_pr rfl) wt_261 wf_12_8 (v := 269) wl_261_8 ?_
                          refine wa_iload_n (n := 2) rfl ?_
                          refine wa_iconst ?_
                          refine wb_iast 269 rfl (wy_pr rfl) wt_269 (n := 60) ((w_up_slot (by decide)).trans ((w_up_slot (by decide)).trans ((w_up_slot (by decide)).trans ((w_up_slot (by decide)).trans ((w_up_slot (by decide)).trans ((w_up_slot (by decide)).trans ((w_up_slot (by decide)).trans ((ml_269 hE13.1.1))))))))) (by omega) (by omega) ⟨(by omega), (by omega)⟩ ?_
                          refine wa_aload_n (n := 0) rfl ?_
                          refine wa_cv 237 rfl (wy_pr rfl) wt_237 (M2 := fun _ => False) rfl at_M_next ⟨_, rfl⟩ rfl rfl ⟨trivial, trivial, (Or.inr ⟨wy_pr rfl, fun q => q⟩), trivial⟩ trivial (fun _ _ q => False.elim q) (nx_I (S := (w_up (w_up (w_up (w_up (w_up (w_up (w_up (w_up Sq11 263 c 1) 270 c (lx_ne (zq A p) p)) 271 c (zq A (lx_ne (zq A p) p) 237 8)) 264 c (-1)) 265 c 0) 267 c (wb_lshl 1 c)) 268 c (A 261 11)) 269 c 0)) (lx_E_up (lx_E_up (lx_E_up (lx_E_up (lx_E_up (lx_E_up (lx_E_up (lx_E_up hE13 (by decide) (by omega)) (by decide) (by omega)) (by decide) (by omega)) (by decide) (by omega)) (by decide) (by omega)) (by decide) (by omega)) (by decide) (by omega)) (by decide) (by omega)).1 (by have e6 : (w_up (w_up (w_up (w_up (w_up (w_up (w_up (w_up Sq11 263 c 1) 270 c (lx_ne (zq A p) p)) 271 c (zq A (lx_ne (zq A p) p) 237 8)) 264 c (-1)) 265 c 0) 267 c (wb_lshl 1 c)) 268 c (A 261 11)) 269 c 0) 237 6 = (zq A (lx_ne (zq A p) p) 237 6) := ((w_up_slot (by decide)).trans ((w_up_slot (by decide)).trans ((w_up_slot (by decide)).trans ((w_up_slot (by decide)).trans ((w_up_slot (by decide)).trans ((w_up_slot (by decide)).trans ((w_up_slot (by decide)).trans ((w_up_slot (by decide)).trans ((lx_E_6 hE13)))))))))); first | omega | (have := lx_w1 h19; omega) | (have := lx_w1 g17; omega))) (fun oq62 Sq62 hp63 q62 => ?_)
                          rcases q62 with ⟨rfl, a1, a2⟩
                          show wJ _ _ _ _ _ _ _ _ _ _
                          rw [lx_E_ne (lx_E_up (lx_E_up (lx_E_up (lx_E_up (lx_E_up (lx_E_up (lx_E_up (lx_E_up hE13 (by decide) (by omega)) (by decide) (by omega)) (by decide) (by omega)) (by decide) (by omega)) (by decide) (by omega)) (by decide) (by omega)) (by decide) (by omega)) (by decide) (by omega))] at a2
                          have hE64 : lx_E Sq62 A (lx_ne (zq A (lx_ne (zq A p) p)) (lx_ne (zq A p) p)) := lx_E_ag (lx_E_up (lx_E_up (lx_E_up (lx_E_up (lx_E_up (lx_E_up (lx_E_up (lx_E_up hE13 (by decide) (by omega)) (by decide) (by omega)) (by decide) (by omega)) (by decide) (by omega)) (by decide) (by omega)) (by decide) (by omega)) (by decide) (by omega)) (by decide) (by omega)) a1 a2
                          have hL64 : lx_ag (w_up (w_up (w_up (w_up (w_up (w_up (w_up (w_up A 263 c 1) 270 c (lx_ne (zq A p) p)) 271 c (zq A (lx_ne (zq A p) p) 237 8)) 264 c (-1)) 265 c 0) 267 c (wb_lshl 1 c)) 268 c (A 261 11)) 269 c 0) Sq62 := lx_ag_tr (lx_ag_cg (lx_ag_cg (lx_ag_cg (lx_ag_cg (lx_ag_cg (lx_ag_cg (lx_ag_cg (lx_ag_cg hL13)))))))) a1
                          refine wa_aload_n (n := 0) rfl ?_
                          refine wa_bipush (w_rg2 (by omega) (by omega)) ?_
                          refine wa_cv 237 rfl (wy_pr rfl) wt_237 (M2 := fun _ => False) rfl at_M_accepts ⟨_, rfl⟩ rfl rfl ⟨trivial, trivial, (Or.inr ⟨wy_pr rfl, fun q => q⟩), trivial⟩ trivial (fun _ _ q => False.elim q) (accepts_ok (S := Sq62) hE64.1 ⟨by omega, by omega⟩) (fun oq65 Sq65 hp66 q65 => ?_)
                          rcases q65 with ⟨rfl, gac, a1, a2⟩ | ⟨rfl, gac, rfl⟩
                          · skip
                            rw [lx_E_is hE64] at gac
                            show wJ _ _ _ _ _ _ _ _ _ _
                            rw [lx_E_ne hE64] at a2
                            have hE67 : lx_E Sq65 A (lx_ne (zq A (lx_ne (zq A (lx_ne (zq A p) p)) (lx_ne (zq A p) p))) (lx_ne (zq A (lx_ne (zq A p) p)) (lx_ne (zq A p) p))) := lx_E_ag hE64 a1 a2
                            have hL67 : lx_ag (w_up (w_up (w_up (w_up (w_up (w_up (w_up (w_up A 263 c 1) 270 c (lx_ne (zq A p) p)) 271 c (zq A (lx_ne (zq A p) p) 237 8)) 264 c (-1)) 265 c 0) 267 c (wb_lshl 1 c)) 268 c (A 261 11)) 269 c 0) Sq65 := lx_ag_tr hL64 a1
                            refine wa_ifeq (w_rg0 (by omega) (by omega)) ⟨_, rfl⟩ (fun c68 => ?_) (fun c68 => ?_)
                            · skip
                              exact absurd c68 (by omega)
                            · skip
                              first | (rw [if_pos g17] at he) | skip
                              unfold rc_n_261 at he
                              rw [if_pos (by omega), if_pos ⟨by omega, goo⟩, if_pos (by omega)] at he
                              unfold rc_body at he
                              rw [if_pos gac] at he
                              exact wJ_S (cl_10_261 (B := (w_up (w_up (w_up (w_up (w_up (w_up (w_up (w_up A 263 c 1) 270 c (lx_ne (zq A p) p)) 271 c (zq A (lx_ne (zq A p) p) 237 8)) 264 c (-1)) 265 c 0) 267 c (wb_lshl 1 c)) 268 c (A 261 11)) 269 c 0)) (r := su_a (w_up (w_up (w_up (w_up (w_up (w_up (w_up (w_up A 263 c 1) 270 c (lx_ne (zq A p) p)) 271 c (zq A (lx_ne (zq A p) p) 237 8)) 264 c (-1)) 265 c 0) 267 c (wb_lshl 1 c)) 268 c (A 261 11)) 269 c 0) 261 c (lx_ne (zq A (lx_ne (zq A (lx_ne (zq A p) p)) (lx_ne (zq A p) p))) (lx_ne (zq A (lx_ne (zq A p) p)) (lx_ne (zq A p) p)))) hA15 (ho_nm_up (ho_nm_up (ho_nm_up (ho_nm_up (ho_nm_up (ho_nm_up (ho_nm_up (ho_nm_up hAn hAc (by decide)) hAc (by decide)) hAc (by decide)) hAc (by decide)) hAc (by decide)) hAc (by decide)) hAc (by decide)) hAc (by decide)) ⟨by omega, by omega⟩ hAc (fun Z2 q a al l hr2 g1 g2 g3 g4 => cl_12_261 (B1 := (w_up (w_up (w_up (w_up (w_up (w_up (w_up (w_up A 263 c 1) 270 c (lx_ne (zq A p) p)) 271 c (zq A (lx_ne (zq A p) p) 237 8)) 264 c (-1)) 265 c 0) 267 c (wb_lshl 1 c)) 268 c (A 261 11)) 269 c 0)) hX hA15 hAc hcc hAn hA11 hms hm4 (by omega) (rc_ag_up (rc_ag_up (rc_ag_up (rc_ag_up (rc_ag_up (rc_ag_up (rc_ag_up (rc_ag_up rc_ag_rf (by omega)) (by omega)) (by omega)) (by omega)) (by omega)) (by omega)) (by omega)) (by omega)) hA15 (ho_nm_up (ho_nm_up (ho_nm_up (ho_nm_up (ho_nm_up (ho_nm_up (ho_nm_up (ho_nm_up hAn hAc (by decide)) hAc (by decide)) hAc (by decide)) hAc (by decide)) hAc (by decide)) hAc (by decide)) hAc (by decide)) hAc (by decide)) (by have y9 : (w_up (w_up (w_up (w_up (w_up (w_up (w_up (w_up A 263 c 1) 270 c (lx_ne (zq A p) p)) 271 c (zq A (lx_ne (zq A p) p) 237 8)) 264 c (-1)) 265 c 0) 267 c (wb_lshl 1 c)) 268 c (A 261 11)) 269 c 0) 270 c = (lx_ne (zq A p) p) := ((w_up_slot (by decide)).trans ((w_up_slot (by decide)).trans ((w_up_slot (by decide)).trans ((w_up_slot (by decide)).trans ((w_up_slot (by decide)).trans ((w_up_slot (by decide)).trans (w_up_same _ _ _ _))))))); have y10 : (w_up (w_up (w_up (w_up (w_up (w_up (w_up (w_up A 263 c 1) 270 c (lx_ne (zq A p) p)) 271 c (zq A (lx_ne (zq A p) p) 237 8)) 264 c (-1)) 265 c 0) 267 c (wb_lshl 1 c)) 268 c (A 261 11)) 269 c 0) 271 c = zq A (lx_ne (zq A p) p) 237 8 := ((w_up_slot (by decide)).trans ((w_up_slot (by decide)).trans ((w_up_slot (by decide)).trans ((w_up_slot (by decide)).trans ((w_up_slot (by decide)).trans (w_up_same _ _ _ _)))))); omega) hAc ((w_up_slot (by decide)).trans ((w_up_slot (by decide)).trans ((w_up_slot (by decide)).trans ((w_up_slot (by decide)).trans ((w_up_slot (by decide)).trans ((w_up_slot (by decide)).trans ((w_up_slot (by decide)).trans (w_up_same _ _ _ _)))))))) ((w_up_slot (by decide)).trans ((w_up_slot (by decide)).trans ((w_up_slot (by decide)).trans ((w_up_slot (by decide)).trans ((w_up_slot (by decide)).trans ((w_up_slot (by decide)).trans (w_up_same _ _ _ _))))))) ((w_up_slot (by decide)).trans ((w_up_slot (by decide)).trans ((w_up_slot (by decide)).trans ((w_up_slot (by decide)).trans ((w_up_slot (by decide)).trans (w_up_same _ _ _ _)))))) (((w_up_slot (by decide)).trans (w_up_same _ _ _ _)).trans hA11) (w_up_same _ _ _ _) hA11 ⟨rfl, rfl, rfl⟩ (show hr_all 261 (w_up (w_up (w_up (w_up (w_up (w_up (w_up (w_up A 263 c 1) 270 c (lx_ne (zq A p) p)) 271 c (zq A (lx_ne (zq A p) p) 237 8)) 264 c (-1)) 265 c 0) 267 c (wb_lshl 1 c)) 268 c (A 261 11)) 269 c 0) ms from hms) g1 ⟨g2.1, g2.2.1, g2.2.2.1, g2.2.2.2⟩ g3 (by rw [hr2] at he; exact he)) (fun Z2 e q hr2 g1 g2 g3 => Or.inr ⟨e, q, by rw [hr2] at he; exact he.symm, rfl, rc_ag_su (rc_ag_up (rc_ag_up (rc_ag_up (rc_ag_up (rc_ag_up (rc_ag_up (rc_ag_up (rc_ag_up rc_ag_rf (by omega)) (by omega)) (by omega)) (by omega)) (by omega)) (by omega)) (by omega)) (by omega)) g1, g2, g3⟩) rfl (su_ag_lx su_ag_rf hL67) ⟨hE67.1, hE67.2.1, hE67.2.2.1, hE67.2.2.2⟩ ⟨(hL67 265 c (by omega) (by omega)).trans ((w_up_slot (by decide)).trans ((w_up_slot (by decide)).trans ((w_up_slot (by decide)).trans (w_up_same _ _ _ _)))), hL67 264 c (by omega) (by omega), hL67 267 c (by omega) (by omega), fun i hi => absurd hi (Nat.not_lt_zero i)⟩) ⟨rfl, rfl, trivial⟩
                          · skip
                            show wJ _ _ _ _ _ _ _ _ _ _
                            rw [lx_E_is hE64] at gac
                            refine wa_ifeq (w_rg0 (by omega) (by omega)) ⟨_, rfl⟩ (fun c70 => ?_) (fun c70 => ?_)
                            · skip
                              first | (rw [if_pos g17] at he) | skip
                              unfold rc_n_261 at he
                              rw [if_pos (by omega), if_pos ⟨by omega, goo⟩, if_pos (by omega)] at he
                              unfold rc_body at he
                              rw [if_neg (by rw [gac]; decide)] at he
                              dsimp only at he
                              exact wJ_S (cl_12_261 (B1 := (w_up (w_up (w_up (w_up (w_up (w_up (w_up (w_up A 263 c 1) 270 c (lx_ne (zq A p) p)) 271 c (zq A (lx_ne (zq A p) p) 237 8)) 264 c (-1)) 265 c 0) 267 c (wb_lshl 1 c)) 268 c (A 261 11)) 269 c 0)) (l := []) hX hA15 hAc hcc hAn hA11 hms hm4 (by omega) (rc_ag_up (rc_ag_up (rc_ag_up (rc_ag_up (rc_ag_up (rc_ag_up (rc_ag_up (rc_ag_up rc_ag_rf (by omega)) (by omega)) (by omega)) (by omega)) (by omega)) (by omega)) (by omega)) (by omega)) hA15 (ho_nm_up (ho_nm_up (ho_nm_up (ho_nm_up (ho_nm_up (ho_nm_up (ho_nm_up (ho_nm_up hAn hAc (by decide)) hAc (by decide)) hAc (by decide)) hAc (by decide)) hAc (by decide)) hAc (by decide)) hAc (by decide)) hAc (by decide)) (by have y9 : (w_up (w_up (w_up (w_up (w_up (w_up (w_up (w_up A 263 c 1) 270 c (lx_ne (zq A p) p)) 271 c (zq A (lx_ne (zq A p) p) 237 8)) 264 c (-1)) 265 c 0) 267 c (wb_lshl 1 c)) 268 c (A 261 11)) 269 c 0) 270 c = (lx_ne (zq A p) p) := ((w_up_slot (by decide)).trans ((w_up_slot (by decide)).trans ((w_up_slot (by decide)).trans ((w_up_slot (by decide)).trans ((w_up_slot (by decide)).trans ((w_up_slot (by decide)).trans (w_up_same _ _ _ _))))))); have y10 : (w_up (w_up (w_up (w_up (w_up (w_up (w_up (w_up A 263 c 1) 270 c (lx_ne (zq A p) p)) 271 c (zq A (lx_ne (zq A p) p) 237 8)) 264 c (-1)) 265 c 0) 267 c (wb_lshl 1 c)) 268 c (A 261 11)) 269 c 0) 271 c = zq A (lx_ne (zq A p) p) 237 8 := ((w_up_slot (by decide)).trans ((w_up_slot (by decide)).trans ((w_up_slot (by decide)).trans ((w_up_slot (by decide)).trans ((w_up_slot (by decide)).trans (w_up_same _ _ _ _)))))); omega) hAc ((w_up_slot (by decide)).trans ((w_up_slot (by decide)).trans ((w_up_slot (by decide)).trans ((w_up_slot (by decide)).trans ((w_up_slot (by decide)).trans ((w_up_slot (by decide)).trans ((w_up_slot (by decide)).trans (w_up_same _ _ _ _)))))))) ((w_up_slot (by decide)).trans ((w_up_slot (by decide)).trans ((w_up_slot (by decide)).trans ((w_up_slot (by decide)).trans ((w_up_slot (by decide)).trans ((w_up_slot (by decide)).trans (w_up_same _ _ _ _))))))) ((w_up_slot (by decide)).trans ((w_up_slot (by decide)).trans ((w_up_slot (by decide)).trans ((w_up_slot (by decide)).trans ((w_up_slot (by decide)).trans (w_up_same _ _ _ _)))))) (((w_up_slot (by decide)).trans (w_up_same _ _ _ _)).trans hA11) (w_up_same _ _ _ _) hA11 ⟨rfl, rfl, rfl⟩ (show hr_all 261 (w_up (w_up (w_up (w_up (w_up (w_up (w_up (w_up A 263 c 1) 270 c (lx_ne (zq A p) p)) 271 c (zq A (lx_ne (zq A p) p) 237 8)) 264 c (-1)) 265 c 0) 267 c (wb_lshl 1 c)) 268 c (A 261 11)) 269 c 0) ms from hms) (su_ag_lx su_ag_rf hL64) hE64 ⟨((hL64 265 c (by omega) (by omega)).trans ((w_up_slot (by decide)).trans ((w_up_slot (by decide)).trans ((w_up_slot (by decide)).trans (w_up_same _ _ _ _))))), ((hL64 264 c (by omega) (by omega)).trans ((w_up_slot (by decide)).trans ((w_up_slot (by decide)).trans ((w_up_slot (by decide)).trans ((w_up_slot (by decide)).trans (w_up_same _ _ _ _)))))), ((hL64 267 c (by omega) (by omega)).trans ((w_up_slot (by decide)).trans ((w_up_slot (by decide)).trans (w_up_same _ _ _ _)))), fun i hi => absurd hi (Nat.not_lt_zero i)⟩ he) ⟨rfl, rfl, trivial⟩
                            · skip
                              exact absurd c70 (by omega)
                        · skip
                          exact absurd m45 (by decide)
                    · skip
                      exact absurd m36 (by decide)
            · skip
              exact absurd m19 (by decide)
        · skip
          rw [lx_E_w hE] at gw8
          exact absurd (gw8.symm.trans h19) (by decide)
      · skip
        exact absurd m5 (by decide)
    · skip
      exact absurd c4 (by omega)
  · skip
    show wJ _ _ _ _ _ _ _ _ _ _
    rw [lx_E_w hE] at gw1
    have g17 := gw1
    refine wa_ifne (w_rg0 (by omega) (by omega)) ⟨_, rfl⟩ (fun c73 => ?_) (fun c73 => ?_)
    · skip
      exact absurd c73 (by omega)
    · skip
      refine wa_aload_n (n := 0) rfl ?_
      refine wa_ks ?_
      refine wa_cv 237 rfl (wy_pr rfl) wt_237 (M2 := fun _ => False) rfl at_M_isWord ⟨_, rfl⟩ rfl rfl ⟨(Or.inr ⟨wy_pr rfl, fun q => q⟩), trivial⟩ ⟨(Or.inr ⟨wy_pr rfl, fun q => q⟩), trivial⟩ (fun _ _ q => False.elim q) (isWord_ok (S := A) hE.1.1 (wx_19 hX) (by decide) (lx_I_hp hE.1)) (fun oq75 Sq75 hp76 q75 => ?_)
      rcases q75 with ⟨rfl, ⟨rfl, gw74⟩ | ⟨rfl, gw74⟩⟩
      · skip
        show wJ _ _ _ _ _ _ _ _ _ _
        rw [lx_E_w hE] at gw74
        refine wa_ifeq (w_rg0 (by omega) (by omega)) ⟨_, rfl⟩ (fun c77 => ?_) (fun c77 => ?_)
        · skip
          exact absurd c77 (by omega)
        · skip
          refine wa_fall ⟨_, rfl⟩ ?_
          refine wa_iconst ?_
          refine wa_goto ⟨_, rfl⟩ ?_
          refine wa_iconst ?_
          refine wa_cv 237 rfl (wy_pr rfl) wt_237 (M2 := fun _ => False) rfl at_M_must ⟨_, rfl⟩ rfl rfl ⟨(Or.inr ⟨wy_pr rfl, fun q => q⟩), trivial⟩ trivial (fun _ _ q => False.elim q) (must_ok (S := A) (g := 1) (n := 1) (Or.inr rfl) ⟨by omega, by omega⟩) (fun oq79 Sq79 hp80 q79 => ?_)
          rcases q79 with ⟨_, rfl, rfl⟩ | ⟨m78, _, _⟩
          · skip
            show wJ _ _ _ _ _ _ _ _ _ _
            refine wa_aload_n (n := 0) rfl ?_
            refine wa_ks ?_
            refine wa_cv 237 rfl (wy_pr rfl) wt_237 (M2 := fun _ => False) rfl at_M_isWord ⟨_, rfl⟩ rfl rfl ⟨(Or.inr ⟨wy_pr rfl, fun q => q⟩), trivial⟩ trivial (fun _ _ q => False.elim q) (isWord_ok (S := A) hE.1.1 (wx_19 hX) (by decide) (lx_I_hp hE.1)) (fun oq82 Sq82 hp83 q82 => ?_)
            rcases q82 with ⟨rfl, ⟨rfl, gw81⟩ | ⟨rfl, gw81⟩⟩
            · skip
              show wJ _ _ _ _ _ _ _ _ _ _
              rw [lx_E_w hE] at gw81
              refine wa_istore_n (n := 1) rfl ?_
              refine wa_aload_n (n := 0) rfl ?_
              refine wa_cv 237 rfl (wy_pr rfl) wt_237 (M2 := fun _ => False) rfl at_M_next ⟨_, rfl⟩ rfl rfl ⟨trivial, (Or.inr ⟨wy_pr rfl, fun q => q⟩), trivial⟩ trivial (fun _ _ q => False.elim q) (nx_I (S := A) hE.1 (by have e6 : A 237 6 = (zq A p 237 6) := ((lx_E_6 hE)); first | omega | (have := lx_w1 h19; omega) | (have := lx_w1 g17; omega))) (fun oq84 Sq84 hp85 q84 => ?_)
              rcases q84 with ⟨rfl, a1, a2⟩
              show wJ _ _ _ _ _ _ _ _ _ _
              rw [lx_E_ne hE] at a2
              have hE86 : lx_E Sq84 A (lx_ne (zq A p) p) := lx_E_ag hE a1 a2
              have hL86 : lx_ag A Sq84 := lx_ag_tr hL a1
              refine wa_aload_n (n := 0) rfl ?_
              refine wa_aload_n (n := 0) rfl ?_
              refine wb_gfi 237 rfl (wy_pr rfl) wt_237 wf_15_6 (v := (zq A (lx_ne (zq A p) p) 237 6)) ((lx_E_6 hE86)) (fun r87 => ?_)
              refine wa_iconst ?_
              refine wa_icmpne (w_rg0 (by omega) (by omega)) (w_rg0 (by omega) (by omega)) ⟨_, rfl⟩ (fun c88 => ?_) (fun c88 => ?_)
              · skip
                refine wa_iconst ?_
                refine wa_fall ⟨_, rfl⟩ ?_
                refine wa_iconst ?_
                refine wa_cv 237 rfl (wy_pr rfl) wt_237 (M2 := fun _ => False) rfl at_M_must ⟨_, rfl⟩ rfl rfl ⟨trivial, (Or.inr ⟨wy_pr rfl, fun q => q⟩), trivial⟩ trivial (fun _ _ q => False.elim q) (must_ok (S := Sq84) (g := 0) (n := 1) (Or.inl rfl) ⟨by omega, by omega⟩) (fun oq90 Sq90 hp91 q90 => ?_)
                rcases q90 with ⟨m89, _, _⟩ | ⟨_, rfl, rfl⟩
                · skip
                  exact absurd m89 (by decide)
                · skip
                  refine ⟨rfl, ?_⟩
                  first | (rw [if_pos g17] at he) | skip
                  unfold rc_n_261 at he
                  first | (rw [if_neg (by omega)] at he) | (rw [if_pos (by omega), if_neg (by first | (intro z; omega) | (rw [goo]; exact fun z => absurd z.2 (by decide)))] at he) | (rw [if_pos (by omega), if_pos ⟨by omega, goo⟩, if_neg (by omega)] at he)
                  exact Or.inr ⟨_, _, he.symm, rfl, rc_ag_hl (rc_ag_lx rc_ag_rf hL86), rfl, by first | rfl | exact (show Sq84 237 7 = (lx_ne (zq A p) p) from ((lx_E_7 hE86)))⟩
              · skip
                refine wa_iconst ?_
                refine wa_goto ⟨_, rfl⟩ ?_
                refine wa_iconst ?_
                refine wa_cv 237 rfl (wy_pr rfl) wt_237 (M2 := fun _ => False) rfl at_M_must ⟨_, rfl⟩ rfl rfl ⟨trivial, (Or.inr ⟨wy_pr rfl, fun q => q⟩), trivial⟩ trivial (fun _ _ q => False.elim q) (must_ok (S := Sq84) (g := 1) (n := 1) (Or.inr rfl) ⟨by omega, by omega⟩) (fun oq93 Sq93 hp94 q93 => ?_)
                rcases q93 with ⟨_, rfl, rfl⟩ | ⟨m92, _, _⟩
                · skip
                  show wJ _ _ _ _ _ _ _ _ _ _
                  have hb6 : zq A (lx_ne (zq A p) p) 237 6 = 1 := by omega
                  have hbp := hE86.1.2.2.1
                  have hbn := hE86.1.2.1
                  rw [hE86.2.2.1] at hbp hbn
                  have hbe := lx_en_le (T := A 239) (h := A 237 5) hbp.2
                  have hb8 : zq A (lx_ne (zq A p) p) 237 8 ≤ A 237 4 := hbe.2.1 (by rw [← zq_6, hb6]; decide)
                  have hb9 : (lx_ne (zq A p) p) ≤ zq A (lx_ne (zq A p) p) 237 8 := hbe.1
                  refine wa_aload_n (n := 0) rfl ?_
                  refine wa_aload_n (n := 0) rfl ?_
                  refine wa_cv 237 rfl (wy_pr rfl) wt_237 (M2 := fun _ => False) rfl at_M_classHere ⟨_, rfl⟩ rfl rfl ⟨trivial, (Or.inr ⟨wy_pr rfl, fun q => q⟩), trivial⟩ ⟨(Or.inr ⟨wy_pr rfl, fun q => q⟩), trivial⟩ (fun _ _ q => False.elim q) (classHere_261 (S := Sq84) hE86.1.1 (((hL86 237 15 (by omega) (by omega)).trans hA15)) (ho_nm_of hAn ((hL86 261 1 (by omega) (by omega)).trans rfl) (funext fun i => (hL86 270 i (by omega) (by omega)).trans rfl) (funext fun i => (hL86 271 i (by omega) (by omega)).trans rfl)) (lx_I_hp hE86.1)) (fun oq95 Sq95 hp96 q95 => ?_)
                  rcases q95 with ⟨rfl, rfl⟩
                  show wJ _ _ _ _ _ _ _ _ _ _
                  rw [lx_E_ch (b := 261) hE86 (by decide) ((hL86 261 1 (by omega) (by omega)).trans rfl) (funext fun i => (hL86 270 i (by omega) (by omega)).trans rfl) (funext fun i => (hL86 271 i (by omega) (by omega)).trans rfl)]
                  have hch := ch_of_rg (zq A (lx_ne (zq A p) p)) 261 (show A 261 1 ≤ 60 from hAn.1.2)
                  refine wa_ifge (w_rg0 (by omega) (by omega)) ⟨_, rfl⟩ (fun c97 => ?_) (fun c97 => ?_)
                  · skip
                    refine wa_iconst ?_
                    refine wa_fall ⟨_, rfl⟩ ?_
                    refine wa_iconst ?_
                    refine wa_cv 237 rfl (wy_pr rfl) wt_237 (M2 := fun _ => False) rfl at_M_must ⟨_, rfl⟩ rfl rfl ⟨trivial, (Or.inr ⟨wy_pr rfl, fun q => q⟩), trivial⟩ trivial (fun _ _ q => False.elim q) (must_ok (S := Sq84) (g := 0) (n := 2) (Or.inl rfl) ⟨by omega, by omega⟩) (fun oq99 Sq99 hp100 q99 => ?_)
                    rcases q99 with ⟨m98, _, _⟩ | ⟨_, rfl, rfl⟩
                    · skip
                      exact absurd m98 (by decide)
                    · skip
                      refine ⟨rfl, ?_⟩
                      first | (rw [if_pos g17] at he) | skip
                      unfold rc_n_261 at he
                      first | (rw [if_neg (by omega)] at he) | (rw [if_pos (by omega), if_neg (by first | (intro z; omega) | (rw [goo]; exact fun z => absurd z.2 (by decide)))] at he) | (rw [if_pos (by omega), if_pos ⟨by omega, goo⟩, if_neg (by omega)] at he)
                      exact Or.inr ⟨_, _, he.symm, rfl, rc_ag_hl (rc_ag_lx rc_ag_rf hL86), rfl, by first | rfl | exact (show Sq84 237 7 = (lx_ne (zq A p) p) from ((lx_E_7 hE86)))⟩
                  · skip
                    refine wa_aload_n (n := 0) rfl ?_
                    refine wa_ks ?_
                    refine wa_cv 237 rfl (wy_pr rfl) wt_237 (M2 := fun _ => False) rfl at_M_isOneOf ⟨_, rfl⟩ rfl rfl ⟨trivial, (Or.inr ⟨wy_pr rfl, fun q => q⟩), trivial⟩ ⟨(Or.inr ⟨wy_pr rfl, fun q => q⟩), trivial⟩ (fun _ _ q => False.elim q) (isOneOf_ok (S := Sq84) hE86.1.1 (wx_21 hX) (by decide) (by decide) (lx_I_hp hE86.1) (by decide)) (fun oq102 Sq102 hp103 q102 => ?_)
                    rcases q102 with ⟨rfl, ⟨rfl, go101⟩ | ⟨rfl, go101⟩⟩
                    · skip
                      show wJ _ _ _ _ _ _ _ _ _ _
                      rw [lx_E_oo hE86] at go101
                      have goo := go101
                      refine wa_ifne (w_rg0 (by omega) (by omega)) ⟨_, rfl⟩ (fun c104 => ?_) (fun c104 => ?_)
                      · skip
                        refine wa_iconst ?_
                        refine wa_fall ⟨_, rfl⟩ ?_
                        refine wa_iconst ?_
                        refine wa_cv 237 rfl (wy_pr rfl) wt_237 (M2 := fun _ => False) rfl at_M_must ⟨_, rfl⟩ rfl rfl ⟨trivial, (Or.inr ⟨wy_pr rfl, fun q => q⟩), trivial⟩ trivial (fun _ _ q => False.elim q) (must_ok (S := Sq84) (g := 0) (n := 2) (Or.inl rfl) ⟨by omega, by omega⟩) (fun oq106 Sq106 hp107 q106 => ?_)
                        rcases q106 with ⟨m105, _, _⟩ | ⟨_, rfl, rfl⟩
                        · skip
                          exact absurd m105 (by decide)
                        · skip
                          refine ⟨rfl, ?_⟩
                          first | (rw [if_pos g17] at he) | skip
                          unfold rc_n_261 at he
                          first | (rw [if_neg (by omega)] at he) | (rw [if_pos (by omega), if_neg (by first | (intro z; omega) | (rw [goo]; exact fun z => absurd z.2 (by decide)))] at he) | (rw [if_pos (by omega), if_pos ⟨by omega, goo⟩, if_neg (by omega)] at he)
                          exact Or.inr ⟨_, _, he.symm, rfl, rc_ag_hl (rc_ag_lx rc_ag_rf hL86), rfl, by first | rfl | exact (show Sq84 237 7 = (lx_ne (zq A p) p) from ((lx_E_7 hE86)))⟩
                      · skip
                        exact absurd c104 (by omega)
                    · skip
                      show wJ _ _ _ _ _ _ _ _ _ _
                      rw [lx_E_oo hE86] at go101
                      have goo := go101
                      refine wa_ifne (w_rg0 (by omega) (by omega)) ⟨_, rfl⟩ (fun c108 => ?_) (fun c108 => ?_)
                      · skip
                        exact absurd c108 (by omega)
                      · skip
                        refine wa_iconst ?_
                        refine wa_goto ⟨_, rfl⟩ ?_
                        refine wa_iconst ?_
                        refine wa_cv 237 rfl (wy_pr rfl) wt_237 (M2 := fun _ => False) rfl at_M_must ⟨_, rfl⟩ rfl rfl ⟨trivial, (Or.inr ⟨wy_pr rfl, fun q => q⟩), trivial⟩ trivial (fun _ _ q => False.elim q) (must_ok (S := Sq84) (g := 1) (n := 2) (Or.inr rfl) ⟨by omega, by omega⟩) (fun oq110 Sq110 hp111 q110 => ?_)
                        rcases q110 with ⟨_, rfl, rfl⟩ | ⟨m109, _, _⟩
                        · skip
                          show wJ _ _ _ _ _ _ _ _ _ _
                          refine wa_aload_n (n := 0) rfl ?_
                          refine wa_aload_n (n := 0) rfl ?_
                          refine wb_gf5 237 rfl (wy_pr rfl) wt_237 wf_15_15 (v := 261) (((hL86 237 15 (by omega) (by omega)).trans hA15)) (fun r112 => ?_)
                          refine wb_gfi 261 rfl (wy_pr rfl) wt_261 wf_12_1 (v := c) (((hL86 261 1 (by omega) (by omega)).trans hAc)) (fun r113 => ?_)
                          refine wa_bipush (w_rg2 (by omega) (by omega)) ?_
                          refine wa_icmpge (w_rg0 (by omega) (by omega)) (w_rg0 (by omega) (by omega)) ⟨_, rfl⟩ (fun c114 => ?_) (fun c114 => ?_)
                          · skip
                            refine wa_iconst ?_
                            refine wa_fall ⟨_, rfl⟩ ?_
                            refine wa_iconst ?_
                            refine wa_cv 237 rfl (wy_pr rfl) wt_237 (M2 := fun _ => False) rfl at_M_must ⟨_, rfl⟩ rfl rfl ⟨trivial, (Or.inr ⟨wy_pr rfl, fun q => q⟩), trivial⟩ trivial (fun _ _ q => False.elim q) (must_ok (S := Sq84) (g := 0) (n := 5) (Or.inl rfl) ⟨by omega, by omega⟩) (fun oq116 Sq116 hp117 q116 => ?_)
                            rcases q116 with ⟨m115, _, _⟩ | ⟨_, rfl, rfl⟩
                            · skip
                              exact absurd m115 (by decide)
                            · skip
                              refine ⟨rfl, ?_⟩
                              first | (rw [if_pos g17] at he) | skip
                              unfold rc_n_261 at he
                              first | (rw [if_neg (by omega)] at he) | (rw [if_pos (by omega), if_neg (by first | (intro z; omega) | (rw [goo]; exact fun z => absurd z.2 (by decide)))] at he) | (rw [if_pos (by omega), if_pos ⟨by omega, goo⟩, if_neg (by omega)] at he)
                              exact Or.inr ⟨_, _, he.symm, rfl, rc_ag_hl (rc_ag_lx rc_ag_rf hL86), rfl, by first | rfl | exact (show Sq84 237 7 = (lx_ne (zq A p) p) from ((lx_E_7 hE86)))⟩
                          · skip
                            refine wa_iconst ?_
                            refine wa_goto ⟨_, rfl⟩ ?_
                            refine wa_iconst ?_
                            refine wa_cv 237 rfl (wy_pr rfl) wt_237 (M2 := fun _ => False) rfl at_M_must ⟨_, rfl⟩ rfl rfl ⟨trivial, (Or.inr ⟨wy_pr rfl, fun q => q⟩), trivial⟩ trivial (fun _ _ q => False.elim q) (must_ok (S := Sq84) (g := 1) (n := 5) (Or.inr rfl) ⟨by omega, by omega⟩) (fun oq119 Sq119 hp120 q119 => ?_)
                            rcases q119 with ⟨_, rfl, rfl⟩ | ⟨m118, _, _⟩
                            · skip
                              show wJ _ _ _ _ _ _ _ _ _ _
                              refine wa_aload_n (n := 0) rfl ?_
                              refine wb_gf5 237 rfl (wy_pr rfl) wt_237 wf_15_15 (v := 261) (((hL86 237 15 (by omega) (by omega)).trans hA15)) (fun r121 => ?_)
                              refine wb_gfi 261 rfl (wy_pr rfl) wt_261 wf_12_1 (v := c) (((hL86 261 1 (by omega) (by omega)).trans hAc)) (fun r122 => ?_)
                              refine wa_istore_n (n := 2) rfl ?_
                              refine wa_aload_n (n := 0) rfl ?_
                              refine wb_gf5 237 rfl (wy_pr rfl) wt_237 wf_15_15 (v := 261) (((hL86 237 15 (by omega) (by omega)).trans hA15)) (fun r123 => ?_)
                              refine wb_gf4 261 rfl (wy_pr rfl) wt_261 wf_12_2 (v := 263) wl_261_2 ?_
                              refine wa_iload_n (n := 2) rfl ?_
                              refine wa_iload_n (n := 1) rfl ?_
                              refine wb_zast 263 rfl (wy_pr rfl) wt_263 (n := 60) ((ml_263 hE86.1.1)) (by omega) (by omega) ⟨(by omega), (by omega)⟩ ?_
                              refine wa_aload_n (n := 0) rfl ?_
                              refine wb_gf5 237 rfl (wy_pr rfl) wt_237 wf_15_15 (v := 261) ((w_up_slot (by decide)).trans (((hL86 237 15 (by omega) (by omega)).trans hA15))) (fun r124 => ?_)
                              refine wb_gf4 261 rfl (wy_pr rfl) wt_261 wf_12_9 (v := 270) wl_261_9 ?_
                              refine wa_iload_n (n := 2) rfl ?_
                              refine wa_aload_n (n := 0) rfl ?_
                              refine wb_gfi 237 rfl (wy_pr rfl) wt_237 wf_15_7 (v := (lx_ne (zq A p) p)) ((w_up_slot (by decide)).trans ((lx_E_7 hE86))) (fun r125 => ?_)
                              refine wb_iast 270 rfl (wy_pr rfl) wt_270 (n := 60) ((w_up_slot (by decide)).trans ((ml_270 hE86.1.1))) (by omega) (by omega) ⟨(by omega), (by omega)⟩ ?_
                              refine wa_aload_n (n := 0) rfl ?_
                              refine wb_gf5 237 rfl (wy_pr rfl) wt_237 wf_15_15 (v := 261) ((w_up_slot (by decide)).trans ((w_up_slot (by decide)).trans (((hL86 237 15 (by omega) (by omega)).trans hA15)))) (fun r126 => ?_)
                              refine wb_gf4 261 rfl (wy_pr rfl) wt_261 wf_12_10 (v := 271) wl_261_10 ?_
                              refine wa_iload_n (n := 2) rfl ?_
                              refine wa_aload_n (n := 0) rfl ?_
                              refine wb_gfi 237 rfl (wy_pr rfl) wt_237 wf_15_8 (v := (zq A (lx_ne (zq A p) p) 237 8)) ((w_up_slot (by decide)).trans ((w_up_slot (by decide)).trans ((lx_E_8 hE86)))) (fun r127 => ?_)
                              refine wb_iast 271 rfl (wy_pr rfl) wt_271 (n := 60) ((w_up_slot (by decide)).trans ((w_up_slot (by decide)).trans ((ml_271 hE86.1.1)))) (by omega) (by omega) ⟨(by omega), (by omega)⟩ ?_
                              refine wa_aload_n (n := 0) rfl ?_
                              refine wb_gf5 237 rfl (wy_pr rfl) wt_237 wf_15_15 (v := 261) ((w_up_slot (by decide)).trans ((w_up_slot (by decide)).trans ((w_up_slot (by decide)).trans (((hL86 237 15 (by omega) (by omega)).trans hA15))))) (fun r128 => ?_)
                              refine wb_gf4 261 rfl (wy_pr rfl) wt_261 wf_12_3 (v := 264) wl_261_3 ?_
                              refine wa_iload_n (n := 2) rfl ?_
                              refine wa_iconst ?_
                              refine wb_iast 264 rfl (wy_pr rfl) wt_264 (n := 60) ((w_up_slot (by decide)).trans ((w_up_slot (by decide)).trans ((w_up_slot (by decide)).trans ((ml_264 hE86.1.1))))) (by omega) (by omega) ⟨(by omega), (by omega)⟩ ?_
                              refine wa_aload_n (n := 0) rfl ?_
                              refine wb_gf5 237 rfl (wy_pr rfl) wt_237 wf_15_15 (v := 261) ((w_up_slot (by decide)).trans ((w_up_slot (by decide)).trans ((w_up_slot (by decide)).trans ((w_up_slot (by decide)).trans (((hL86 237 15 (by omega) (by omega)).trans hA15)))))) (fun r129 => ?_)
                              refine wb_gf4 261 rfl (wy_pr rfl) wt_261 wf_12_4 (v := 265) wl_261_4 ?_
                              refine wa_iload_n (n := 2) rfl ?_
                              refine wa_iconst ?_
                              refine wb_iast 265 rfl (wy_pr rfl) wt_265 (n := 60) ((w_up_slot (by decide)).trans ((w_up_slot (by decide)).trans ((w_up_slot (by decide)).trans ((w_up_slot (by decide)).trans ((ml_265 hE86.1.1)))))) (by omega) (by omega) ⟨(by omega), (by omega)⟩ ?_
                              refine wa_aload_n (n := 0) rfl ?_
                              refine wb_gf5 237 rfl (wy_pr rfl) wt_237 wf_15_15 (v := 261) ((w_up_slot (by decide)).trans ((w_up_slot (by decide)).trans ((w_up_slot (by decide)).trans ((w_up_slot (by decide)).trans ((w_up_slot (by decide)).trans (((hL86 237 15 (by omega) (by omega)).trans hA15))))))) (fun r130 => ?_)
                              refine wa_fall ⟨_, rfl⟩ ?_
                              refine wb_gf4 261 rfl (wy_pr rfl) wt_261 wf_12_6 (v := 267) wl_261_6 ?_
                              refine wa_iload_n (n := 2) rfl ?_
                              refine wb_lconst (m := 1) rfl ?_
                              refine wa_iload_n (n := 2) rfl ?_
                              refine wa_lshl ?_
                              refine wb_last 267 rfl (wy_pr rfl) wt_267 (n := 60) ((w_up_slot (by decide)).trans ((w_up_slot (by decide)).trans ((w_up_slot (by decide)).trans ((w_up_slot (by decide)).trans ((w_up_slot (by decide)).trans ((ml_267 hE86.1.1))))))) (by omega) (by omega) ⟨(by omega), (by omega)⟩ ?_
                              refine wa_aload_n (n := 0) rfl ?_
                              refine wb_gf5 237 rfl (wy_pr rfl) wt_237 wf_15_15 (v := 261) ((w_up_slot (by decide)).trans ((w_up_slot (by decide)).trans ((w_up_slot (by decide)).trans ((w_up_slot (by decide)).trans ((w_up_slot (by decide)).trans ((w_up_slot (by decide)).trans (((hL86 237 15 (by omega) (by omega)).trans hA15)))))))) (fun r131 => ?_)
                              refine wb_gf4 261 rfl (wy_pr rfl) wt_261 wf_12_7 (v := 268) wl_261_7 ?_
                              refine wa_iload_n (n := 2) rfl ?_
                              refine wa_aload_n (n := 0) rfl ?_
                              refine wb_gf5 237 rfl (wy_pr rfl) wt_237 wf_15_15 (v := 261) ((w_up_slot (by decide)).trans ((w_up_slot (by decide)).trans ((w_up_slot (by decide)).trans ((w_up_slot (by decide)).trans ((w_up_slot (by decide)).trans ((w_up_slot (by decide)).trans (((hL86 237 15 (by omega) (by omega)).trans hA15)))))))) (fun r132 => ?_)
                              refine wb_gfi 261 rfl (wy_pr rfl) wt_261 wf_12_11 (v := (A 261 11)) ((w_up_slot (by decide)).trans ((w_up_slot (by decide)).trans ((w_up_slot (by decide)).trans ((w_up_slot (by decide)).trans ((w_up_slot (by decide)).trans ((w_up_slot (by decide)).trans (((hL86 261 11 (by omega) (by omega)).trans rfl)))))))) (fun r133 => ?_)
                              refine wb_iast 268 rfl (wy_pr rfl) wt_268 (n := 60) ((w_up_slot (by decide)).trans ((w_up_slot (by decide)).trans ((w_up_slot (by decide)).trans ((w_up_slot (by decide)).trans ((w_up_slot (by decide)).trans ((w_up_slot (by decide)).trans ((ml_268 hE86.1.1)))))))) (by omega) (by omega) ⟨(by omega), (by omega)⟩ ?_
                              refine wa_aload_n (n := 0) rfl ?_
                              refine wb_gf5 237 rfl (wy_pr rfl) wt_237 wf_15_15 (v := 261) ((w_up_slot (by decide)).trans ((w_up_slot (by decide)).trans ((w_up_slot (by decide)).trans ((w_up_slot (by decide)).trans ((w_up_slot (by decide)).trans ((w_up_slot (by decide)).trans ((w_up_slot (by decide)).trans (((hL86 237 15 (by omega) (by omega)).trans hA15))))))))) (fun r134 => ?_)
                              refine wb_gf4 261 rfl (wy_pr rfl) wt_261 wf_12_8 (v := 269) wl_261_8 ?_
                              refine wa_iload_n (n := 2) rfl ?_
                              refine wa_iconst ?_
                              refine wb_iast 269 rfl (wy_pr rfl) wt_269 (n := 60) ((w_up_slot (by decide)).trans ((w_up_slot (by decide)).trans ((w_up_slot (by decide)).trans ((w_up_slot (by decide)).trans ((w_up_slot (by decide)).trans ((w_up_slot (by decide)).trans ((w_up_slot (by decide)).trans ((ml_269 hE86.1.1))))))))) (by omega) (by omega) ⟨(by omega), (by omega)⟩ ?_
                              refine wa_aload_n (n := 0) rfl ?_
                              refine wa_cv 237 rfl (wy_pr rfl) wt_237 (M2 := fun _ => False) rfl at_M_next ⟨_, rfl⟩ rfl rfl ⟨trivial, trivial, (Or.inr ⟨wy_pr rfl, fun q => q⟩), trivial⟩ trivial (fun _ _ q => False.elim q) (nx_I (S := (w_up (w_up (w_up (w_up (w_up (w_up (w_up (w_up Sq84 263 c 1) 270 c (lx_ne (zq A p) p)) 271 c (zq A (lx_ne (zq A p) p) 237 8)) 264 c (-1)) 265 c 0) 267 c (wb_lshl 1 c)) 268 c (A 261 11)) 269 c 0)) (lx_E_up (lx_E_up (lx_E_up (lx_E_up (lx_E_up (lx_E_up (lx_E_up (lx_E_up hE86 (by decide) (by omega)) (by decide) (by omega)) (by decide) (by omega)) (by decide) (by omega)) (by decide) (by omega)) (by decide) (by omega)) (by decide) (by omega)) (by decide) (by omega)).1 (by have e6 : (w_up (w_up (w_up (w_up (w_up (w_up (w_up (w_up Sq84 263 c 1) 270 c (lx_ne (zq A p) p)) 271 c (zq A (lx_ne (zq A p) p) 237 8)) 264 c (-1)) 265 c 0) 267 c (wb_lshl 1 c)) 268 c (A 261 11)) 269 c 0) 237 6 = (zq A (lx_ne (zq A p) p) 237 6) := ((w_up_slot (by decide)).trans ((w_up_slot (by decide)).trans ((w_up_slot (by decide)).trans ((w_up_slot (by decide)).trans ((w_up_slot (by decide)).trans ((w_up_slot (by decide)).trans ((w_up_slot (by decide)).trans ((w_up_slot (by decide)).trans ((lx_E_6 hE86)))))))))); first | omega | (have := lx_w1 h19; omega) | (have := lx_w1 g17; omega))) (fun oq135 Sq135 hp136 q135 => ?_)
                              rcases q135 with ⟨rfl, a1, a2⟩
                              show wJ _ _ _ _ _ _ _ _ _ _
                              rw [lx_E_ne (lx_E_up (lx_E_up (lx_E_up (lx_E_up (lx_E_up (lx_E_up (lx_E_up (lx_E_up hE86 (by decide) (by omega)) (by decide) (by omega)) (by decide) (by omega)) (by decide) (by omega)) (by decide) (by omega)) (by decide) (by omega)) (by decide) (by omega)) (by decide) (by omega))] at a2
                              have hE137 : lx_E Sq135 A (lx_ne (zq A (lx_ne (zq A p) p)) (lx_ne (zq A p) p)) := lx_E_ag (lx_E_up (lx_E_up (lx_E_up (lx_E_up (lx_E_up (lx_E_up (lx_E_up (lx_E_up hE86 (by decide) (by omega)) (by decide) (by omega)) (by decide) (by omega)) (by decide) (by omega)) (by decide) (by omega)) (by decide) (by omega)) (by decide) (by omega)) (by decide) (by omega)) a1 a2
                              have hL137 : lx_ag (w_up (w_up (w_up (w_up (w_up (w_up (w_up (w_up A 263 c 1) 270 c (lx_ne (zq A p) p)) 271 c (zq A (lx_ne (zq A p) p) 237 8)) 264 c (-1)) 265 c 0) 267 c (wb_lshl 1 c)) 268 c (A 261 11)) 269 c 0) Sq135 := lx_ag_tr (lx_ag_cg (lx_ag_cg (lx_ag_cg (lx_ag_cg (lx_ag_cg (lx_ag_cg (lx_ag_cg (lx_ag_cg hL86)))))))) a1
                              refine wa_aload_n (n := 0) rfl ?_
                              refine wa_bipush (w_rg2 (by omega) (by omega)) ?_
                              refine wa_cv 237 rfl (wy_pr rfl) wt_237 (M2 := fun _ => False) rfl at_M_accepts ⟨_, rfl⟩ rfl rfl ⟨trivial, trivial, (Or.inr ⟨wy_pr rfl, fun q => q⟩), trivial⟩ trivial (fun _ _ q => False.elim q) (accepts_ok (S := Sq135) hE137.1 ⟨by omega, by omega⟩) (fun oq138 Sq138 hp139 q138 => ?_)
                              rcases q138 with ⟨rfl, gac, a1, a2⟩ | ⟨rfl, gac, rfl⟩
                              · skip
                                rw [lx_E_is hE137] at gac
                                show wJ _ _ _ _ _ _ _ _ _ _
                                rw [lx_E_ne hE137] at a2
                                have hE140 : lx_E Sq138 A (lx_ne (zq A (lx_ne (zq A (lx_ne (zq A p) p)) (lx_ne (zq A p) p))) (lx_ne (zq A (lx_ne (zq A p) p)) (lx_ne (zq A p) p))) := lx_E_ag hE137 a1 a2
                                have hL140 : lx_ag (w_up (w_up (w_up (w_up (w_up (w_up (w_up (w_up A 263 c 1) 270 c (lx_ne (zq A p) p)) 271 c (zq A (lx_ne (zq A p) p) 237 8)) 264 c (-1)) 265 c 0) 267 c (wb_lshl 1 c)) 268 c (A 261 11)) 269 c 0) Sq138 := lx_ag_tr hL137 a1
                                refine wa_ifeq (w_rg0 (by omega) (by omega)) ⟨_, rfl⟩ (fun c141 => ?_) (fun c141 => ?_)
                                · skip
                                  exact absurd c141 (by omega)
                                · skip
                                  first | (rw [if_pos g17] at he) | skip
                                  unfold rc_n_261 at he
                                  rw [if_pos (by omega), if_pos ⟨by omega, goo⟩, if_pos (by omega)] at he
                                  unfold rc_body at he
                                  rw [if_pos gac] at he
                                  exact wJ_S (cl_10_261 (B := (w_up (w_up (w_up (w_up (w_up (w_up (w_up (w_up A 263 c 1) 270 c (lx_ne (zq A p) p)) 271 c (zq A (lx_ne (zq A p) p) 237 8)) 264 c (-1)) 265 c 0) 267 c (wb_lshl 1 c)) 268 c (A 261 11)) 269 c 0)) (r := su_a (w_up (w_up (w_up (w_up (w_up (w_up (w_up (w_up A 263 c 1) 270 c (lx_ne (zq A p) p)) 271 c (zq A (lx_ne (zq A p) p) 237 8)) 264 c (-1)) 265 c 0) 267 c (wb_lshl 1 c)) 268 c (A 261 11)) 269 c 0) 261 c (lx_ne (zq A (lx_ne (zq A (lx_ne (zq A p) p)) (lx_ne (zq A p) p))) (lx_ne (zq A (lx_ne (zq A p) p)) (lx_ne (zq A p) p)))) hA15 (ho_nm_up (ho_nm_up (ho_nm_up (ho_nm_up (ho_nm_up (ho_nm_up (ho_nm_up (ho_nm_up hAn hAc (by decide)) hAc (by decide)) hAc (by decide)) hAc (by decide)) hAc (by decide)) hAc (by decide)) hAc (by decide)) hAc (by decide)) ⟨by omega, by omega⟩ hAc (fun Z2 q a al l hr2 g1 g2 g3 g4 => cl_12_261 (B1 := (w_up (w_up (w_up (w_up (w_up (w_up (w_up (w_up A 263 c 1) 270 c (lx_ne (zq A p) p)) 271 c (zq A (lx_ne (zq A p) p) 237 8)) 264 c (-1)) 265 c 0) 267 c (wb_lshl 1 c)) 268 c (A 261 11)) 269 c 0)) hX hA15 hAc hcc hAn hA11 hms hm4 (by omega) (rc_ag_up (rc_ag_up (rc_ag_up (rc_ag_up (rc_ag_up (rc_ag_up (rc_ag_up (rc_ag_up rc_ag_rf (by omega)) (by omega)) (by omega)) (by omega)) (by omega)) (by omega)) (by omega)) (by omega)) hA15 (ho_nm_up (ho_nm_up (ho_nm_up (ho_nm_up (ho_nm_up (ho_nm_up (ho_nm_up (ho_nm_up hAn hAc (by decide)) hAc (by decide)) hAc (by decide)) hAc (by decide)) hAc (by decide)) hAc (by decide)) hAc (by decide)) hAc (by decide)) (by have y9 : (w_up (w_up (w_up (w_up (w_up (w_up (w_up (w_up A 263 c 1) 270 c (lx_ne (zq A p) p)) 271 c (zq A (lx_ne (zq A p) p) 237 8)) 264 c (-1)) 265 c 0) 267 c (wb_lshl 1 c)) 268 c (A 261 11)) 269 c 0) 270 c = (lx_ne (zq A p) p) := ((w_up_slot (by decide)).trans ((w_up_slot (by decide)).trans ((w_up_slot (by decide)).trans ((w_up_slot (by decide)).trans ((w_up_slot (by decide)).trans ((w_up_slot (by decide)).trans (w_up_same _ _ _ _))))))); have y10 : (w_up (w_up (w_up (w_up (w_up (w_up (w_up (w_up A 263 c 1) 270 c (lx_ne (zq A p) p)) 271 c (zq A (lx_ne (zq A p) p) 237 8)) 264 c (-1)) 265 c 0) 267 c (wb_lshl 1 c)) 268 c (A 261 11)) 269 c 0) 271 c = zq A (lx_ne (zq A p) p) 237 8 := ((w_up_slot (by decide)).trans ((w_up_slot (by decide)).trans ((w_up_slot (by decide)).trans ((w_up_slot (by decide)).trans ((w_up_slot (by decide)).trans (w_up_same _ _ _ _)))))); omega) hAc ((w_up_slot (by decide)).trans ((w_up_slot (by decide)).trans ((w_up_slot (by decide)).trans ((w_up_slot (by decide)).trans ((w_up_slot (by decide)).trans ((w_up_slot (by decide)).trans ((w_up_slot (by decide)).trans (w_up_same _ _ _ _)))))))) ((w_up_slot (by decide)).trans ((w_up_slot (by decide)).trans ((w_up_slot (by decide)).trans ((w_up_slot (by decide)).trans ((w_up_slot (by decide)).trans ((w_up_slot (by decide)).trans (w_up_same _ _ _ _))))))) ((w_up_slot (by decide)).trans ((w_up_slot (by decide)).trans ((w_up_slot (by decide)).trans ((w_up_slot (by decide)).trans ((w_up_slot (by decide)).trans (w_up_same _ _ _ _)))))) (((w_up_slot (by decide)).trans (w_up_same _ _ _ _)).trans hA11) (w_up_same _ _ _ _) hA11 ⟨rfl, rfl, rfl⟩ (show hr_all 261 (w_up (w_up (w_up (w_up (w_up (w_up (w_up (w_up A 263 c 1) 270 c (lx_ne (zq A p) p)) 271 c (zq A (lx_ne (zq A p) p) 237 8)) 264 c (-1)) 265 c 0) 267 c (wb_lshl 1 c)) 268 c (A 261 11)) 269 c 0) ms from hms) g1 ⟨g2.1, g2.2.1, g2.2.2.1, g2.2.2.2⟩ g3 (by rw [hr2] at he; exact he)) (fun Z2 e q hr2 g1 g2 g3 => Or.inr ⟨e, q, by rw [hr2] at he; exact he.symm, rfl, rc_ag_su (rc_ag_up (rc_ag_up (rc_ag_up (rc_ag_up (rc_ag_up (rc_ag_up (rc_ag_up (rc_ag_up rc_ag_rf (by omega)) (by omega)) (by omega)) (by omega)) (by omega)) (by omega)) (by omega)) (by omega)) g1, g2, g3⟩) rfl (su_ag_lx su_ag_rf hL140) ⟨hE140.1, hE140.2.1, hE140.2.2.1, hE140.2.2.2⟩ ⟨(hL140 265 c (by omega) (by omega)).trans ((w_up_slot (by decide)).trans ((w_up_slot (by decide)).trans ((w_up_slot (by decide)).trans (w_up_same _ _ _ _)))), hL140 264 c (by omega) (by omega), hL140 267 c (by omega) (by omega), fun i hi => absurd hi (Nat.not_lt_zero i)⟩) ⟨rfl, rfl, trivial⟩
                              · skip
                                show wJ _ _ _ _ _ _ _ _ _ _
                                rw [lx_E_is hE137] at gac
                                refine wa_ifeq (w_rg0 (by omega) (by omega)) ⟨_, rfl⟩ (fun c143 => ?_) (fun c143 => ?_)
                                · skip
                                  first | (rw [if_pos g17] at he) | skip
                                  unfold rc_n_261 at he
                                  rw [if_pos (by omega), if_pos ⟨by omega, goo⟩, if_pos (by omega)] at he
                                  unfold rc_body at he
                                  rw [if_neg (by rw [gac]; decide)] at he
                                  dsimp only at he
                                  exact wJ_S (cl_12_261 (B1 := (w_up (w_up (w_up (w_up (w_up (w_up (w_up (w_up A 263 c 1) 270 c (lx_ne (zq A p) p)) 271 c (zq A (lx_ne (zq A p) p) 237 8)) 264 c (-1)) 265 c 0) 267 c (wb_lshl 1 c)) 268 c (A 261 11)) 269 c 0)) (l := []) hX hA15 hAc hcc hAn hA11 hms hm4 (by omega) (rc_ag_up (rc_ag_up (rc_ag_up (rc_ag_up (rc_ag_up (rc_ag_up (rc_ag_up (rc_ag_up rc_ag_rf (by omega)) (by omega)) (by omega)) (by omega)) (by omega)) (by omega)) (by omega)) (by omega)) hA15 (ho_nm_up (ho_nm_up (ho_nm_up (ho_nm_up (ho_nm_up (ho_nm_up (ho_nm_up (ho_nm_up hAn hAc (by decide)) hAc (by decide)) hAc (by decide)) hAc (by decide)) hAc (by decide)) hAc (by decide)) hAc (by decide)) hAc (by decide)) (by have y9 : (w_up (w_up (w_up (w_up (w_up (w_up (w_up (w_up A 263 c 1) 270 c (lx_ne (zq A p) p)) 271 c (zq A (lx_ne (zq A p) p) 237 8)) 264 c (-1)) 265 c 0) 267 c (wb_lshl 1 c)) 268 c (A 261 11)) 269 c 0) 270 c = (lx_ne (zq A p) p) := ((w_up_slot (by decide)).trans ((w_up_slot (by decide)).trans ((w_up_slot (by decide)).trans ((w_up_slot (by decide)).trans ((w_up_slot (by decide)).trans ((w_up_slot (by decide)).trans (w_up_same _ _ _ _))))))); have y10 : (w_up (w_up (w_up (w_up (w_up (w_up (w_up (w_up A 263 c 1) 270 c (lx_ne (zq A p) p)) 271 c (zq A (lx_ne (zq A p) p) 237 8)) 264 c (-1)) 265 c 0) 267 c (wb_lshl 1 c)) 268 c (A 261 11)) 269 c 0) 271 c = zq A (lx_ne (zq A p) p) 237 8 := ((w_up_slot (by decide)).trans ((w_up_slot (by decide)).trans ((w_up_slot (by decide)).trans ((w_up_slot (by decide)).trans ((w_up_slot (by decide)).trans (w_up_same _ _ _ _)))))); omega) hAc ((w_up_slot (by decide)).trans ((w_up_slot (by decide)).trans ((w_up_slot (by decide)).trans ((w_up_slot (by decide)).trans ((w_up_slot (by decide)).trans ((w_up_slot (by decide)).trans ((w_up_slot (by decide)).trans (w_up_same _ _ _ _)))))))) ((w_up_slot (by decide)).trans ((w_up_slot (by decide)).trans ((w_up_slot (by decide)).trans ((w_up_slot (by decide)).trans ((w_up_slot (by decide)).trans ((w_up_slot (by decide)).trans (w_up_same _ _ _ _))))))) ((w_up_slot (by decide)).trans ((w_up_slot (by decide)).trans ((w_up_slot (by decide)).trans ((w_up_slot (by decide)).trans ((w_up_slot (by decide)).trans (w_up_same _ _ _ _)))))) (((w_up_slot (by decide)).trans (w_up_same _ _ _ _)).trans hA11) (w_up_same _ _ _ _) hA11 ⟨rfl, rfl, rfl⟩ (show hr_all 261 (w_up (w_up (w_up (w_up (w_up (w_up (w_up (w_up A 263 c 1) 270 c (lx_ne (zq A p) p)) 271 c (zq A (lx_ne (zq A p) p) 237 8)) 264 c (-1)) 265 c 0) 267 c (wb_lshl 1 c)) 268 c (A 261 11)) 269 c 0) ms from hms) (su_ag_lx su_ag_rf hL137) hE137 ⟨((hL137 265 c (by omega) (by omega)).trans ((w_up_slot (by decide)).trans ((w_up_slot (by decide)).trans ((w_up_slot (by decide)).trans (w_up_same _ _ _ _))))), ((hL137 264 c (by omega) (by omega)).trans ((w_up_slot (by decide)).trans ((w_up_slot (by decide)).trans ((w_up_slot (by decide)).trans ((w_up_slot (by decide)).trans (w_up_same _ _ _ _)))))), ((hL137 267 c (by omega) (by omega)).trans ((w_up_slot (by decide)).trans ((w_up_slot (by decide)).trans (w_up_same _ _ _ _)))), fun i hi => absurd hi (Nat.not_lt_zero i)⟩ he) ⟨rfl, rfl, trivial⟩
                                · skip
                                  exact absurd c143 (by omega)
                            · skip
                              exact absurd m118 (by decide)
                        · skip
                          exact absurd m109 (by decide)
                · skip
                  exact absurd m92 (by decide)
            · skip
              rw [lx_E_w hE] at gw81
              exact absurd (gw81.symm.trans h19) (by decide)
          · skip
            exact absurd m78 (by decide)
      · skip
        rw [lx_E_w hE] at gw74
        exact absurd (gw74.symm.trans h19) (by decide)
theorem rc_false_261 {c p : Int} {ms : List hMR} {R : (Int × Int) ⊕ (Int × hCR × List hMR)} (hX : w_X xs) (hA15 : A 237 15 = 261) (hAc : A 261 1 = c) (hcc : 0 ≤ c ∧ c ≤ 60) (hAn : ho_nm A 261) (hA11 : A 261 11 = (ms.length : Int)) (hms : hr_all 261 A ms) (hm4 : ms.length ≤ 400) (hE : lx_E A A p) (h19 : lx_w (zq A p) tx_19 = false) (he : rc_of_261 A c ms p = R) : wJ (pe_GA xs) wY0 M (d + 8) t_M_readsClass ((pe_at t_M_readsClass.bl 0).getD (0, [])).2 [(0, (2, 237))] [] A (fun o S2 => (∃ (p2 : Int) (cr : hCR) (ms2 : List hMR), R = .inr (p2, cr, ms2) ∧ o = .inl none ∧ rc_ag 261 c (ms.length : Int) A S2 ∧ lx_E S2 A p2 ∧ S2 261 1 = c + 1 ∧ hc_at 261 c S2 cr ∧ S2 261 11 = (ms2.length : Int) ∧ hr_all 261 S2 ms2 ∧ ms.length ≤ ms2.length ∧ ms2.length ≤ 400) ∨ (∃ e q : Int, R = .inl (e, q) ∧ o = .inr 238 ∧ rc_ag 261 c (ms.length : Int) A S2 ∧ S2 238 5 = e ∧ S2 238 6 = q)) := by
  have hL : lx_ag A A := lx_ag_rf
  have hlo := wb_lshl_rg 1 c
  unfold rc_of_261 at he
  rw [if_neg (by rw [h19]; decide)] at he
  refine wa_aload_n (n := 0) rfl ?_
  refine wa_aload_n (n := 0) rfl ?_
  refine wa_ks ?_
  refine wa_cv 237 rfl (wy_pr rfl) wt_237 (M2 := fun _ => False) rfl at_M_isWord ⟨_, rfl⟩ rfl rfl ⟨(Or.inr ⟨wy_pr rfl, fun q => q⟩), trivial⟩ ⟨(Or.inr ⟨wy_pr rfl, fun q => q⟩), trivial⟩ (fun _ _ q => False.elim q) (isWord_ok (S := A) hE.1.1 (wx_17 hX) (by decide) (lx_I_hp hE.1)) (fun oq2 Sq2 hp3 q2 => ?_)
  rcases q2 with ⟨rfl, ⟨rfl, gw1⟩ | ⟨rfl, gw1⟩⟩
  · skip
    show wJ _ _ _ _ _ _ _ _ _ _
    rw [lx_E_w hE] at gw1
    have g17 := gw1
    refine wa_ifne (w_rg0 (by omega) (by omega)) ⟨_, rfl⟩ (fun c4 => ?_) (fun c4 => ?_)
    · skip
      refine wa_iconst ?_
      refine wa_goto ⟨_, rfl⟩ ?_
      refine wa_iconst ?_
      refine wa_cv 237 rfl (wy_pr rfl) wt_237 (M2 := fun _ => False) rfl at_M_must ⟨_, rfl⟩ rfl rfl ⟨(Or.inr ⟨wy_pr rfl, fun q => q⟩), trivial⟩ trivial (fun _ _ q => False.elim q) (must_ok (S := A) (g := 1) (n := 1) (Or.inr rfl) ⟨by omega, by omega⟩) (fun oq6 Sq6 hp7 q6 => ?_)
      rcases q6 with ⟨_, rfl, rfl⟩ | ⟨m5, _, _⟩
      · skip
        show wJ _ _ _ _ _ _ _ _ _ _
        refine wa_aload_n (n := 0) rfl ?_
        refine wa_ks ?_
        refine wa_cv 237 rfl (wy_pr rfl) wt_237 (M2 := fun _ => False) rfl at_M_isWord ⟨_, rfl⟩ rfl rfl ⟨(Or.inr ⟨wy_pr rfl, fun q => q⟩), trivial⟩ trivial (fun _ _ q => False.elim q) (isWord_ok (S := A) hE.1.1 (wx_19 hX) (by decide) (lx_I_hp hE.1)) (fun oq9 Sq9 hp10 q9 => ?_)
        rcases q9 with ⟨rfl, ⟨rfl, gw8⟩ | ⟨rfl, gw8⟩⟩
        · skip
          rw [lx_E_w hE] at gw8
          exact absurd (gw8.symm.trans h19) (by decide)
        · skip
          show wJ _ _ _ _ _ _ _ _ _ _
          rw [lx_E_w hE] at gw8
          refine wa_istore_n (n := 1) rfl ?_
          refine wa_aload_n (n := 0) rfl ?_
          refine wa_cv 237 rfl (wy_pr rfl) wt_237 (M2 := fun _ => False) rfl at_M_next ⟨_, rfl⟩ rfl rfl ⟨trivial, (Or.inr ⟨wy_pr rfl, fun q => q⟩), trivial⟩ trivial (fun _ _ q => False.elim q) (nx_I (S := A) hE.1 (by have e6 : A 237 6 = (zq A p 237 6) := ((lx_E_6 hE)); first | omega | (have := lx_w1 h19; omega) | (have := lx_w1 g17; omega))) (fun oq11 Sq11 hp12 q11 => ?_)
          rcases q11 with ⟨rfl, a1, a2⟩
          show wJ _ _ _ _ _ _ _ _ _ _
          rw [lx_E_ne hE] at a2
          have hE13 : lx_E Sq11 A (lx_ne (zq A p) p) := lx_E_ag hE a1 a2
          have hL13 : lx_ag A Sq11 := lx_ag_tr hL a1
          refine wa_aload_n (n := 0) rfl ?_
          refine wa_aload_n (n := 0) rfl ?_
          refine wb_gfi 237 rfl (wy_pr rfl) wt_237 wf_15_6 (v := (zq A (lx_ne (zq A p) p) 237 6)) ((lx_E_6 hE13)) (fun r14 => ?_)
          refine wa_iconst ?_
          refine wa_icmpne (w_rg0 (by omega) (by omega)) (w_rg0 (by omega) (by omega)) ⟨_, rfl⟩ (fun c15 => ?_) (fun c15 => ?_)
          · skip
            refine wa_iconst ?_
            refine wa_fall ⟨_, rfl⟩ ?_
            refine wa_iconst ?_
            refine wa_cv 237 rfl (wy_pr rfl) wt_237 (M2 := fun _ => False) rfl at_M_must ⟨_, rfl⟩ rfl rfl ⟨trivial, (Or.inr ⟨wy_pr rfl, fun q => q⟩), trivial⟩ trivial (fun _ _ q => False.elim q) (must_ok (S := Sq11) (g := 0) (n := 1) (Or.inl rfl) ⟨by omega, by omega⟩) (fun oq17 Sq17 hp18 q17 => ?_)
            rcases q17 with ⟨m16, _, _⟩ | ⟨_, rfl, rfl⟩
            · skip
              exact absurd m16 (by decide)
            · skip
              refine ⟨rfl, ?_⟩
              first | (rw [if_pos g17] at he) | skip
              unfold rc_n_261 at he
              first | (rw [if_neg (by omega)] at he) | (rw [if_pos (by omega), if_neg (by first | (intro z; omega) | (rw [goo]; exact fun z => absurd z.2 (by decide)))] at he) | (rw [if_pos (by omega), if_pos ⟨by omega, goo⟩, if_neg (by omega)] at he)
              exact Or.inr ⟨_, _, he.symm, rfl, rc_ag_hl (rc_ag_lx rc_ag_rf hL13), rfl, by first | rfl | exact (show Sq11 237 7 = (lx_ne (zq A p) p) from ((lx_E_7 hE13)))⟩
          · skip
            refine wa_iconst ?_
            refine wa_goto ⟨_, rfl⟩ ?_
            refine wa_iconst ?_
            refine wa_cv 237 rfl (wy_pr rfl) wt_237 (M2 := fun _ => False) rfl at_M_must ⟨_, rfl⟩ rfl rfl ⟨trivial, (Or.inr ⟨wy_pr rfl, fun q => q⟩), trivial⟩ trivial (fun _ _ q => False.elim q) (must_ok (S := Sq11) (g := 1) (n := 1) (Or.inr rfl) ⟨by omega, by omega⟩) (fun oq20 Sq20 hp21 q20 => ?_)
            rcases q20 with ⟨_, rfl, rfl⟩ | ⟨m19, _, _⟩
            · skip
              show wJ _ _ _ _ _ _ _ _ _ _
              have hb6 : zq A (lx_ne (zq A p) p) 237 6 = 1 := by omega
              have hbp := hE13.1.2.2.1
              have hbn := hE13.1.2.1
              rw [hE13.2.2.1] at hbp hbn
              have hbe := lx_en_le (T := A 239) (h := A 237 5) hbp.2
              have hb8 : zq A (lx_ne (zq A p) p) 237 8 ≤ A 237 4 := hbe.2.1 (by rw [← zq_6, hb6]; decide)
              have hb9 : (lx_ne (zq A p) p) ≤ zq A (lx_ne (zq A p) p) 237 8 := hbe.1
              refine wa_aload_n (n := 0) rfl ?_
              refine wa_aload_n (n := 0) rfl ?_
              refine wa_cv 237 rfl (wy_pr rfl) wt_237 (M2 := fun _ => False) rfl at_M_classHere ⟨_, rfl⟩ rfl rfl ⟨trivial, (Or.inr ⟨wy_pr rfl, fun q => q⟩), trivial⟩ ⟨(Or.inr ⟨wy_pr rfl, fun q => q⟩), trivial⟩ (fun _ _ q => False.elim q) (classHere_261 (S := Sq11) hE13.1.1 (((hL13 237 15 (by omega) (by omega)).trans hA15)) (ho_nm_of hAn ((hL13 261 1 (by omega) (by omega)).trans rfl) (funext fun i => (hL13 270 i (by omega) (by omega)).trans rfl) (funext fun i => (hL13 271 i (by omega) (by omega)).trans rfl)) (lx_I_hp hE13.1)) (fun oq22 Sq22 hp23 q22 => ?_)
              rcases q22 with ⟨rfl, rfl⟩
              show wJ _ _ _ _ _ _ _ _ _ _
              rw [lx_E_ch (b := 261) hE13 (by decide) ((hL13 261 1 (by omega) (by omega)).trans rfl) (funext fun i => (hL13 270 i (by omega) (by omega)).trans rfl) (funext fun i => (hL13 271 i (by omega) (by omega)).trans rfl)]
              have hch := ch_of_rg (zq A (lx_ne (zq A p) p)) 261 (show A 261 1 ≤ 60 from hAn.1.2)
              refine wa_ifge (w_rg0 (by omega) (by omega)) ⟨_, rfl⟩ (fun c24 => ?_) (fun c24 => ?_)
              · skip
                refine wa_iconst ?_
                refine wa_fall ⟨_, rfl⟩ ?_
                refine wa_iconst ?_
                refine wa_cv 237 rfl (wy_pr rfl) wt_237 (M2 := fun _ => False) rfl at_M_must ⟨_, rfl⟩ rfl rfl ⟨trivial, (Or.inr ⟨wy_pr rfl, fun q => q⟩), trivial⟩ trivial (fun _ _ q => False.elim q) (must_ok (S := Sq11) (g := 0) (n := 2) (Or.inl rfl) ⟨by omega, by omega⟩) (fun oq26 Sq26 hp27 q26 => ?_)
                rcases q26 with ⟨m25, _, _⟩ | ⟨_, rfl, rfl⟩
                · skip
                  exact absurd m25 (by decide)
                · skip
                  refine ⟨rfl, ?_⟩
                  first | (rw [if_pos g17] at he) | skip
                  unfold rc_n_261 at he
                  first | (rw [if_neg (by omega)] at he) | (rw [if_pos (by omega), if_neg (by first | (intro z; omega) | (rw [goo]; exact fun z => absurd z.2 (by decide)))] at he) | (rw [if_pos (by omega), if_pos ⟨by omega, goo⟩, if_neg (by omega)] at he)
                  exact Or.inr ⟨_, _, he.symm, rfl, rc_ag_hl (rc_ag_lx rc_ag_rf hL13), rfl, by first | rfl | exact (show Sq11 237 7 = (lx_ne (zq A p) p) from ((lx_E_7 hE13)))⟩
              · skip
                refine wa_aload_n (n := 0) rfl ?_
                refine wa_ks ?_
                refine wa_cv 237 rfl (wy_pr rfl) wt_237 (M2 := fun _ => False) rfl at_M_isOneOf ⟨_, rfl⟩ rfl rfl ⟨trivial, (Or.inr ⟨wy_pr rfl, fun q => q⟩), trivial⟩ ⟨(Or.inr ⟨wy_pr rfl, fun q => q⟩), trivial⟩ (fun _ _ q => False.elim q) (isOneOf_ok (S := Sq11) hE13.1.1 (wx_21 hX) (by decide) (by decide) (lx_I_hp hE13.1) (by decide)) (fun oq29 Sq29 hp30 q29 => ?_)
                rcases q29 with ⟨rfl, ⟨rfl, go28⟩ | ⟨rfl, go28⟩⟩
                · skip
                  show wJ _ _ _ _ _ _ _ _ _ _
                  rw [lx_E_oo hE13] at go28
                  have goo := go28
                  refine wa_ifne (w_rg0 (by omega) (by omega)) ⟨_, rfl⟩ (fun c31 => ?_) (fun c31 => ?_)
                  · skip
                    refine wa_iconst ?_
                    refine wa_fall ⟨_, rfl⟩ ?_
                    refine wa_iconst ?_
                    refine wa_cv 237 rfl (wy_pr rfl) wt_237 (M2 := fun _ => False) rfl at_M_must ⟨_, rfl⟩ rfl rfl ⟨trivial, (Or.inr ⟨wy_pr rfl, fun q => q⟩), trivial⟩ trivial (fun _ _ q => False.elim q) (must_ok (S := Sq11) (g := 0) (n := 2) (Or.inl rfl) ⟨by omega, by omega⟩) (fun oq33 Sq33 hp34 q33 => ?_)
                    rcases q33 with ⟨m32, _, _⟩ | ⟨_, rfl, rfl⟩
                    · skip
                      exact absurd m32 (by decide)
                    · skip
                      refine ⟨rfl, ?_⟩
                      first | (rw [if_pos g17] at he) | skip
                      unfold rc_n_261 at he
                      first | (rw [if_neg (by omega)] at he) | (rw [if_pos (by omega), if_neg (by first | (intro z; omega) | (rw [goo]; exact fun z => absurd z.2 (by decide)))] at he) | (rw [if_pos (by omega), if_pos ⟨by omega, goo⟩, if_neg (by omega)] at he)
                      exact Or.inr ⟨_, _, he.symm, rfl, rc_ag_hl (rc_ag_lx rc_ag_rf hL13), rfl, by first | rfl | exact (show Sq11 237 7 = (lx_ne (zq A p) p) from ((lx_E_7 hE13)))⟩
                  · skip
                    exact absurd c31 (by omega)
                · skip
                  show wJ _ _ _ _ _ _ _ _ _ _
                  rw [lx_E_oo hE13] at go28
                  have goo := go28
                  refine wa_ifne (w_rg0 (by omega) (by omega)) ⟨_, rfl⟩ (fun c35 => ?_) (fun c35 => ?_)
                  · skip
                    exact absurd c35 (by omega)
                  · skip
                    refine wa_iconst ?_
                    refine wa_goto ⟨_, rfl⟩ ?_
                    refine wa_iconst ?_
                    refine wa_cv 237 rfl (wy_pr rfl) wt_237 (M2 := fun _ => False) rfl at_M_must ⟨_, rfl⟩ rfl rfl ⟨trivial, (Or.inr ⟨wy_pr rfl, fun q => q⟩), trivial⟩ trivial (fun _ _ q => False.elim q) (must_ok (S := Sq11) (g := 1) (n := 2) (Or.inr rfl) ⟨by omega, by omega⟩) (fun oq37 Sq37 hp38 q37 => ?_)
                    rcases q37 with ⟨_, rfl, rfl⟩ | ⟨m36, _, _⟩
                    · skip
                      show wJ _ _ _ _ _ _ _ _ _ _
                      refine wa_aload_n (n := 0) rfl ?_
                      refine wa_aload_n (n := 0) rfl ?_
                      refine wb_gf5 237 rfl (wy_pr rfl) wt_237 wf_15_15 (v := 261) (((hL13 237 15 (by omega) (by omega)).trans hA15)) (fun r39 => ?_)
                      refine wb_gfi 261 rfl (wy_pr rfl) wt_261 wf_12_1 (v := c) (((hL13 261 1 (by omega) (by omega)).trans hAc)) (fun r40 => ?_)
                      refine wa_bipush (w_rg2 (by omega) (by omega)) ?_
                      refine wa_icmpge (w_rg0 (by omega) (by omega)) (w_rg0 (by omega) (by omega)) ⟨_, rfl⟩ (fun c41 => ?_) (fun c41 => ?_)
                      · skip
                        refine wa_iconst ?_
                        refine wa_fall ⟨_, rfl⟩ ?_
                        refine wa_iconst ?_
                        refine wa_cv 237 rfl (wy_pr rfl) wt_237 (M2 := fun _ => False) rfl at_M_must ⟨_, rfl⟩ rfl rfl ⟨trivial, (Or.inr ⟨wy_pr rfl, fun q => q⟩), trivial⟩ trivial (fun _ _ q => False.elim q) (must_ok (S := Sq11) (g := 0) (n := 5) (Or.inl rfl) ⟨by omega, by omega⟩) (fun oq43 Sq43 hp44 q43 => ?_)
                        rcases q43 with ⟨m42, _, _⟩ | ⟨_, rfl, rfl⟩
                        · skip
                          exact absurd m42 (by decide)
                        · skip
                          refine ⟨rfl, ?_⟩
                          first | (rw [if_pos g17] at he) | skip
                          unfold rc_n_261 at he
                          first | (rw [if_neg (by omega)] at he) | (rw [if_pos (by omega), if_neg (by first | (intro z; omega) | (rw [goo]; exact fun z => absurd z.2 (by decide)))] at he) | (rw [if_pos (by omega), if_pos ⟨by omega, goo⟩, if_neg (by omega)] at he)
                          exact Or.inr ⟨_, _, he.symm, rfl, rc_ag_hl (rc_ag_lx rc_ag_rf hL13), rfl, by first | rfl | exact (show Sq11 237 7 = (lx_ne (zq A p) p) from ((lx_E_7 hE13)))⟩
                      · skip
                        refine wa_iconst ?_
                        refine wa_goto ⟨_, rfl⟩ ?_
                        refine wa_iconst ?_
                        refine wa_cv 237 rfl (wy_pr rfl) wt_237 (M2 := fun _ => False) rfl at_M_must ⟨_, rfl⟩ rfl rfl ⟨trivial, (Or.inr ⟨wy_pr rfl, fun q => q⟩), trivial⟩ trivial (fun _ _ q => False.elim q) (must_ok (S := Sq11) (g := 1) (n := 5) (Or.inr rfl) ⟨by omega, by omega⟩) (fun oq46 Sq46 hp47 q46 => ?_)
                        rcases q46 with ⟨_, rfl, rfl⟩ | ⟨m45, _, _⟩
                        · skip
                          show wJ _ _ _ _ _ _ _ _ _ _
                          refine wa_aload_n (n := 0) rfl ?_
                          refine wb_gf5 237 rfl (wy_pr rfl) wt_237 wf_15_15 (v := 261) (((hL13 237 15 (by omega) (by omega)).trans hA15)) (fun r48 => ?_)
                          refine wb_gfi 261 rfl (wy_pr rfl) wt_261 wf_12_1 (v := c) (((hL13 261 1 (by omega) (by omega)).trans hAc)) (fun r49 => ?_)
                          refine wa_istore_n (n := 2) rfl ?_
                          refine wa_aload_n (n := 0) rfl ?_
                          refine wb_gf5 237 rfl (wy_pr rfl) wt_237 wf_15_15 (v := 261) (((hL13 237 15 (by omega) (by omega)).trans hA15)) (fun r50 => ?_)
                          refine wb_gf4 261 rfl (wy_pr rfl) wt_261 wf_12_2 (v := 263) wl_261_2 ?_
                          refine wa_iload_n (n := 2) rfl ?_
                          refine wa_iload_n (n := 1) rfl ?_
                          refine wb_zast 263 rfl (wy_pr rfl) wt_263 (n := 60) ((ml_263 hE13.1.1)) (by omega) (by omega) ⟨(by omega), (by omega)⟩ ?_
                          refine wa_aload_n (n := 0) rfl ?_
                          refine wb_gf5 237 rfl (wy_pr rfl) wt_237 wf_15_15 (v := 261) ((w_up_slot (by decide)).trans (((hL13 237 15 (by omega) (by omega)).trans hA15))) (fun r51 => ?_)
                          refine wb_gf4 261 rfl (wy_pr rfl) wt_261 wf_12_9 (v := 270) wl_261_9 ?_
                          refine wa_iload_n (n := 2) rfl ?_
                          refine wa_aload_n (n := 0) rfl ?_
                          refine wb_gfi 237 rfl (wy_pr rfl) wt_237 wf_15_7 (v := (lx_ne (zq A p) p)) ((w_up_slot (by decide)).trans ((lx_E_7 hE13))) (fun r52 => ?_)
                          refine wb_iast 270 rfl (wy_pr rfl) wt_270 (n := 60) ((w_up_slot (by decide)).trans ((ml_270 hE13.1.1))) (by omega) (by omega) ⟨(by omega), (by omega)⟩ ?_
                          refine wa_aload_n (n := 0) rfl ?_
                          refine wb_gf5 237 rfl (wy_pr rfl) wt_237 wf_15_15 (v := 261) ((w_up_slot (by decide)).trans ((w_up_slot (by decide)).trans (((hL13 237 15 (by omega) (by omega)).trans hA15)))) (fun r53 => ?_)
                          refine wb_gf4 261 rfl (wy_pr rfl) wt_261 wf_12_10 (v := 271) wl_261_10 ?_
                          refine wa_iload_n (n := 2) rfl ?_
                          refine wa_aload_n (n := 0) rfl ?_
                          refine wb_gfi 237 rfl (wy_pr rfl) wt_237 wf_15_8 (v := (zq A (lx_ne (zq A p) p) 237 8)) ((w_up_slot (by decide)).trans ((w_up_slot (by decide)).trans ((lx_E_8 hE13)))) (fun r54 => ?_)
                          refine wb_iast 271 rfl (wy_pr rfl) wt_271 (n := 60) ((w_up_slot (by decide)).trans ((w_up_slot (by decide)).trans ((ml_271 hE13.1.1)))) (by omega) (by omega) ⟨(by omega), (by omega)⟩ ?_
                          refine wa_aload_n (n := 0) rfl ?_
                          refine wb_gf5 237 rfl (wy_pr rfl) wt_237 wf_15_15 (v := 261) ((w_up_slot (by decide)).trans ((w_up_slot (by decide)).trans ((w_up_slot (by decide)).trans (((hL13 237 15 (by omega) (by omega)).trans hA15))))) (fun r55 => ?_)
                          refine wb_gf4 261 rfl (wy_pr rfl) wt_261 wf_12_3 (v := 264) wl_261_3 ?_
                          refine wa_iload_n (n := 2) rfl ?_
                          refine wa_iconst ?_
                          refine wb_iast 264 rfl (wy_pr rfl) wt_264 (n := 60) ((w_up_slot (by decide)).trans ((w_up_slot (by decide)).trans ((w_up_slot (by decide)).trans ((ml_264 hE13.1.1))))) (by omega) (by omega) ⟨(by omega), (by omega)⟩ ?_
                          refine wa_aload_n (n := 0) rfl ?_
                          refine wb_gf5 237 rfl (wy_pr rfl) wt_237 wf_15_15 (v := 261) ((w_up_slot (by decide)).trans ((w_up_slot (by decide)).trans ((w_up_slot (by decide)).trans ((w_up_slot (by decide)).trans (((hL13 237 15 (by omega) (by omega)).trans hA15)))))) (fun r56 => ?_)
                          refine wb_gf4 261 rfl (wy_pr rfl) wt_261 wf_12_4 (v := 265) wl_261_4 ?_
                          refine wa_iload_n (n := 2) rfl ?_
                          refine wa_iconst ?_
                          refine wb_iast 265 rfl (wy_pr rfl) wt_265 (n := 60) ((w_up_slot (by decide)).trans ((w_up_slot (by decide)).trans ((w_up_slot (by decide)).trans ((w_up_slot (by decide)).trans ((ml_265 hE13.1.1)))))) (by omega) (by omega) ⟨(by omega), (by omega)⟩ ?_
                          refine wa_aload_n (n := 0) rfl ?_
                          refine wb_gf5 237 rfl (wy_pr rfl) wt_237 wf_15_15 (v := 261) ((w_up_slot (by decide)).trans ((w_up_slot (by decide)).trans ((w_up_slot (by decide)).trans ((w_up_slot (by decide)).trans ((w_up_slot (by decide)).trans (((hL13 237 15 (by omega) (by omega)).trans hA15))))))) (fun r57 => ?_)
                          refine wa_fall ⟨_, rfl⟩ ?_
                          refine wb_gf4 261 rfl (wy_pr rfl) wt_261 wf_12_6 (v := 267) wl_261_6 ?_
                          refine wa_iload_n (n := 2) rfl ?_
                          refine wb_lconst (m := 1) rfl ?_
                          refine wa_iload_n (n := 2) rfl ?_
                          refine wa_lshl ?_
                          refine wb_last 267 rfl (wy_pr rfl) wt_267 (n := 60) ((w_up_slot (by decide)).trans ((w_up_slot (by decide)).trans ((w_up_slot (by decide)).trans ((w_up_slot (by decide)).trans ((w_up_slot (by decide)).trans ((ml_267 hE13.1.1))))))) (by omega) (by omega) ⟨(by omega), (by omega)⟩ ?_
                          refine wa_aload_n (n := 0) rfl ?_
                          refine wb_gf5 237 rfl (wy_pr rfl) wt_237 wf_15_15 (v := 261) ((w_up_slot (by decide)).trans ((w_up_slot (by decide)).trans ((w_up_slot (by decide)).trans ((w_up_slot (by decide)).trans ((w_up_slot (by decide)).trans ((w_up_slot (by decide)).trans (((hL13 237 15 (by omega) (by omega)).trans hA15)))))))) (fun r58 => ?_)
                          refine wb_gf4 261 rfl (wy_pr rfl) wt_261 wf_12_7 (v := 268) wl_261_7 ?_
                          refine wa_iload_n (n := 2) rfl ?_
                          refine wa_aload_n (n := 0) rfl ?_
                          refine wb_gf5 237 rfl (wy_pr rfl) wt_237 wf_15_15 (v := 261) ((w_up_slot (by decide)).trans ((w_up_slot (by decide)).trans ((w_up_slot (by decide)).trans ((w_up_slot (by decide)).trans ((w_up_slot (by decide)).trans ((w_up_slot (by decide)).trans (((hL13 237 15 (by omega) (by omega)).trans hA15)))))))) (fun r59 => ?_)
                          refine wb_gfi 261 rfl (wy_pr rfl) wt_261 wf_12_11 (v := (A 261 11)) ((w_up_slot (by decide)).trans ((w_up_slot (by decide)).trans ((w_up_slot (by decide)).trans ((w_up_slot (by decide)).trans ((w_up_slot (by decide)).trans ((w_up_slot (by decide)).trans (((hL13 261 11 (by omega) (by omega)).trans rfl)))))))) (fun r60 => ?_)
                          refine wb_iast 268 rfl (wy_pr rfl) wt_268 (n := 60) ((w_up_slot (by decide)).trans ((w_up_slot (by decide)).trans ((w_up_slot (by decide)).trans ((w_up_slot (by decide)).trans ((w_up_slot (by decide)).trans ((w_up_slot (by decide)).trans ((ml_268 hE13.1.1)))))))) (by omega) (by omega) ⟨(by omega), (by omega)⟩ ?_
                          refine wa_aload_n (n := 0) rfl ?_
                          refine wb_gf5 237 rfl (wy_pr rfl) wt_237 wf_15_15 (v := 261) ((w_up_slot (by decide)).trans ((w_up_slot (by decide)).trans ((w_up_slot (by decide)).trans ((w_up_slot (by decide)).trans ((w_up_slot (by decide)).trans ((w_up_slot (by decide)).trans ((w_up_slot (by decide)).trans (((hL13 237 15 (by omega) (by omega)).trans hA15))))))))) (fun r61 => ?_)
                          refine wb_gf4 261 rfl (wy_pr rfl) wt_261 wf_12_8 (v := 269) wl_261_8 ?_
                          refine wa_iload_n (n := 2) rfl ?_
                          refine wa_iconst ?_
                          refine wb_iast 269 rfl (wy_pr rfl) wt_269 (n := 60) ((w_up_slot (by decide)).trans ((w_up_slot (by decide)).trans ((w_up_slot (by decide)).trans ((w_up_slot (by decide)).trans ((w_up_slot (by decide)).trans ((w_up_slot (by decide)).trans ((w_up_slot (by decide)).trans ((ml_269 hE13.1.1))))))))) (by omega) (by omega) ⟨(by omega), (by omega)⟩ ?_
                          refine wa_aload_n (n := 0) rfl ?_
                          refine wa_cv 237 rfl (wy_pr rfl) wt_237 (M2 := fun _ => False) rfl at_M_next ⟨_, rfl⟩ rfl rfl ⟨trivial, trivial, (Or.inr ⟨wy_pr rfl, fun q => q⟩), trivial⟩ trivial (fun _ _ q => False.elim q) (nx_I (S := (w_up (w_up (w_up (w_up (w_up (w_up (w_up (w_up Sq11 263 c 0) 270 c (lx_ne (zq A p) p)) 271 c (zq A (lx_ne (zq A p) p) 237 8)) 264 c (-1)) 265 c 0) 267 c (wb_lshl 1 c)) 268 c (A 261 11)) 269 c 0)) (lx_E_up (lx_E_up (lx_E_up (lx_E_up (lx_E_up (lx_E_up (lx_E_up (lx_E_up hE13 (by decide) (by omega)) (by decide) (by omega)) (by decide) (by omega)) (by decide) (by omega)) (by decide) (by omega)) (by decide) (by omega)) (by decide) (by omega)) (by decide) (by omega)).1 (by have e6 : (w_up (w_up (w_up (w_up (w_up (w_up (w_up (w_up Sq11 263 c 0) 270 c (lx_ne (zq A p) p)) 271 c (zq A (lx_ne (zq A p) p) 237 8)) 264 c (-1)) 265 c 0) 267 c (wb_lshl 1 c)) 268 c (A 261 11)) 269 c 0) 237 6 = (zq A (lx_ne (zq A p) p) 237 6) := ((w_up_slot (by decide)).trans ((w_up_slot (by decide)).trans ((w_up_slot (by decide)).trans ((w_up_slot (by decide)).trans ((w_up_slot (by decide)).trans ((w_up_slot (by decide)).trans ((w_up_slot (by decide)).trans ((w_up_slot (by decide)).trans ((lx_E_6 hE13)))))))))); first | omega | (have := lx_w1 h19; omega) | (have := lx_w1 g17; omega))) (fun oq62 Sq62 hp63 q62 => ?_)
                          rcases q62 with ⟨rfl, a1, a2⟩
                          show wJ _ _ _ _ _ _ _ _ _ _
                          rw [lx_E_ne (lx_E_up (lx_E_up (lx_E_up (lx_E_up (lx_E_up (lx_E_up (lx_E_up (lx_E_up hE13 (by decide) (by omega)) (by decide) (by omega)) (by decide) (by omega)) (by decide) (by omega)) (by decide) (by omega)) (by decide) (by omega)) (by decide) (by omega)) (by decide) (by omega))] at a2
                          have hE64 : lx_E Sq62 A (lx_ne (zq A (lx_ne (zq A p) p)) (lx_ne (zq A p) p)) := lx_E_ag (lx_E_up (lx_E_up (lx_E_up (lx_E_up (lx_E_up (lx_E_up (lx_E_up (lx_E_up hE13 (by decide) (by omega)) (by decide) (by omega)) (by decide) (by omega)) (by decide) (by omega)) (by decide) (by omega)) (by decide) (by omega)) (by decide) (by omega)) (by decide) (by omega)) a1 a2
                          have hL64 : lx_ag (w_up (w_up (w_up (w_up (w_up (w_up (w_up (w_up A 263 c 0) 270 c (lx_ne (zq A p) p)) 271 c (zq A (lx_ne (zq A p) p) 237 8)) 264 c (-1)) 265 c 0) 267 c (wb_lshl 1 c)) 268 c (A 261 11)) 269 c 0) Sq62 := lx_ag_tr (lx_ag_cg (lx_ag_cg (lx_ag_cg (lx_ag_cg (lx_ag_cg (lx_ag_cg (lx_ag_cg (lx_ag_cg hL13)))))))) a1
                          refine wa_aload_n (n := 0) rfl ?_
                          refine wa_bipush (w_rg2 (by omega) (by omega)) ?_
                          refine wa_cv 237 rfl (wy_pr rfl) wt_237 (M2 := fun _ => False) rfl at_M_accepts ⟨_, rfl⟩ rfl rfl ⟨trivial, trivial, (Or.inr ⟨wy_pr rfl, fun q => q⟩), trivial⟩ trivial (fun _ _ q => False.elim q) (accepts_ok (S := Sq62) hE64.1 ⟨by omega, by omega⟩) (fun oq65 Sq65 hp66 q65 => ?_)
                          rcases q65 with ⟨rfl, gac, a1, a2⟩ | ⟨rfl, gac, rfl⟩
                          · skip
                            rw [lx_E_is hE64] at gac
                            show wJ _ _ _ _ _ _ _ _ _ _
                            rw [lx_E_ne hE64] at a2
                            have hE67 : lx_E Sq65 A (lx_ne (zq A (lx_ne (zq A (lx_ne (zq A p) p)) (lx_ne (zq A p) p))) (lx_ne (zq A (lx_ne (zq A p) p)) (lx_ne (zq A p) p))) := lx_E_ag hE64 a1 a2
                            have hL67 : lx_ag (w_up (w_up (w_up (w_up (w_up (w_up (w_up (w_up A 263 c 0) 270 c (lx_ne (zq A p) p)) 271 c (zq A (lx_ne (zq A p) p) 237 8)) 264 c (-1)) 265 c 0) 267 c (wb_lshl 1 c)) 268 c (A 261 11)) 269 c 0) Sq65 := lx_ag_tr hL64 a1
                            refine wa_ifeq (w_rg0 (by omega) (by omega)) ⟨_, rfl⟩ (fun c68 => ?_) (fun c68 => ?_)
                            · skip
                              exact absurd c68 (by omega)
                            · skip
                              first | (rw [if_pos g17] at he) | skip
                              unfold rc_n_261 at he
                              rw [if_pos (by omega), if_pos ⟨by omega, goo⟩, if_pos (by omega)] at he
                              unfold rc_body at he
                              rw [if_pos gac] at he
                              exact wJ_S (cl_10_261 (B := (w_up (w_up (w_up (w_up (w_up (w_up (w_up (w_up A 263 c 0) 270 c (lx_ne (zq A p) p)) 271 c (zq A (lx_ne (zq A p) p) 237 8)) 264 c (-1)) 265 c 0) 267 c (wb_lshl 1 c)) 268 c (A 261 11)) 269 c 0)) (r := su_a (w_up (w_up (w_up (w_up (w_up (w_up (w_up (w_up A 263 c 0) 270 c (lx_ne (zq A p) p)) 271 c (zq A (lx_ne (zq A p) p) 237 8)) 264 c (-1)) 265 c 0) 267 c (wb_lshl 1 c)) 268 c (A 261 11)) 269 c 0) 261 c (lx_ne (zq A (lx_ne (zq A (lx_ne (zq A p) p)) (lx_ne (zq A p) p))) (lx_ne (zq A (lx_ne (zq A p) p)) (lx_ne (zq A p) p)))) hA15 (ho_nm_up (ho_nm_up (ho_nm_up (ho_nm_up (ho_nm_up (ho_nm_up (ho_nm_up (ho_nm_up hAn hAc (by decide)) hAc (by decide)) hAc (by decide)) hAc (by decide)) hAc (by decide)) hAc (by decide)) hAc (by decide)) hAc (by decide)) ⟨by omega, by omega⟩ hAc (fun Z2 q a al l hr2 g1 g2 g3 g4 => cl_12_261 (B1 := (w_up (w_up (w_up (w_up (w_up (w_up (w_up (w_up A 263 c 0) 270 c (lx_ne (zq A p) p)) 271 c (zq A (lx_ne (zq A p) p) 237 8)) 264 c (-1)) 265 c 0) 267 c (wb_lshl 1 c)) 268 c (A 261 11)) 269 c 0)) hX hA15 hAc hcc hAn hA11 hms hm4 (by omega) (rc_ag_up (rc_ag_up (rc_ag_up (rc_ag_up (rc_ag_up (rc_ag_up (rc_ag_up (rc_ag_up rc_ag_rf (by omega)) (by omega)) (by omega)) (by omega)) (by omega)) (by omega)) (by omega)) (by omega)) hA15 (ho_nm_up (ho_nm_up (ho_nm_up (ho_nm_up (ho_nm_up (ho_nm_up (ho_nm_up (ho_nm_up hAn hAc (by decide)) hAc (by decide)) hAc (by decide)) hAc (by decide)) hAc (by decide)) hAc (by decide)) hAc (by decide)) hAc (by decide)) (by have y9 : (w_up (w_up (w_up (w_up (w_up (w_up (w_up (w_up A 263 c 0) 270 c (lx_ne (zq A p) p)) 271 c (zq A (lx_ne (zq A p) p) 237 8)) 264 c (-1)) 265 c 0) 267 c (wb_lshl 1 c)) 268 c (A 261 11)) 269 c 0) 270 c = (lx_ne (zq A p) p) := ((w_up_slot (by decide)).trans ((w_up_slot (by decide)).trans ((w_up_slot (by decide)).trans ((w_up_slot (by decide)).trans ((w_up_slot (by decide)).trans ((w_up_slot (by decide)).trans (w_up_same _ _ _ _))))))); have y10 : (w_up (w_up (w_up (w_up (w_up (w_up (w_up (w_up A 263 c 0) 270 c (lx_ne (zq A p) p)) 271 c (zq A (lx_ne (zq A p) p) 237 8)) 264 c (-1)) 265 c 0) 267 c (wb_lshl 1 c)) 268 c (A 261 11)) 269 c 0) 271 c = zq A (lx_ne (zq A p) p) 237 8 := ((w_up_slot (by decide)).trans ((w_up_slot (by decide)).trans ((w_up_slot (by decide)).trans ((w_up_slot (by decide)).trans ((w_up_slot (by decide)).trans (w_up_same _ _ _ _)))))); omega) hAc ((w_up_slot (by decide)).trans ((w_up_slot (by decide)).trans ((w_up_slot (by decide)).trans ((w_up_slot (by decide)).trans ((w_up_slot (by decide)).trans ((w_up_slot (by decide)).trans ((w_up_slot (by decide)).trans (w_up_same _ _ _ _)))))))) ((w_up_slot (by decide)).trans ((w_up_slot (by decide)).trans ((w_up_slot (by decide)).trans ((w_up_slot (by decide)).trans ((w_up_slot (by decide)).trans ((w_up_slot (by decide)).trans (w_up_same _ _ _ _))))))) ((w_up_slot (by decide)).trans ((w_up_slot (by decide)).trans ((w_up_slot (by decide)).trans ((w_up_slot (by decide)).trans ((w_up_slot (by decide)).trans (w_up_same _ _ _ _)))))) (((w_up_slot (by decide)).trans (w_up_same _ _ _ _)).trans hA11) (w_up_same _ _ _ _) hA11 ⟨rfl, rfl, rfl⟩ (show hr_all 261 (w_up (w_up (w_up (w_up (w_up (w_up (w_up (w_up A 263 c 0) 270 c (lx_ne (zq A p) p)) 271 c (zq A (lx_ne (zq A p) p) 237 8)) 264 c (-1)) 265 c 0) 267 c (wb_lshl 1 c)) 268 c (A 261 11)) 269 c 0) ms from hms) g1 ⟨g2.1, g2.2.1, g2.2.2.1, g2.2.2.2⟩ g3 (by rw [hr2] at he; exact he)) (fun Z2 e q hr2 g1 g2 g3 => Or.inr ⟨e, q, by rw [hr2] at he; exact he.symm, rfl, rc_ag_su (rc_ag_up (rc_ag_up (rc_ag_up (rc_ag_up (rc_ag_up (rc_ag_up (rc_ag_up (rc_ag_up rc_ag_rf (by omega)) (by omega)) (by omega)) (by omega)) (by omega)) (by omega)) (by omega)) (by omega)) g1, g2, g3⟩) rfl (su_ag_lx su_ag_rf hL67) ⟨hE67.1, hE67.2.1, hE67.2.2.1, hE67.2.2.2⟩ ⟨(hL67 265 c (by omega) (by omega)).trans ((w_up_slot (by decide)).trans ((w_up_slot (by decide)).trans ((w_up_slot (by decide)).trans (w_up_same _ _ _ _)))), hL67 264 c (by omega) (by omega), hL67 267 c (by omega) (by omega), fun i hi => absurd hi (Nat.not_lt_zero i)⟩) ⟨rfl, rfl, trivial⟩
                          · skip
                            show wJ _ _ _ _ _ _ _ _ _ _
                            rw [lx_E_is hE64] at gac
                            refine wa_ifeq (w_rg0 (by omega) (by omega)) ⟨_, rfl⟩ (fun c70 => ?_) (fun c70 => ?_)
                            · skip
                              first | (rw [if_pos g17] at he) | skip
                              unfold rc_n_261 at he
                              rw [if_pos (by omega), if_pos ⟨by omega, goo⟩, if_pos (by omega)] at he
                              unfold rc_body at he
                              rw [if_neg (by rw [gac]; decide)] at he
                              dsimp only at he
                              exact wJ_S (cl_12_261 (B1 := (w_up (w_up (w_up (w_up (w_up (w_up (w_up (w_up A 263 c 0) 270 c (lx_ne (zq A p) p)) 271 c (zq A (lx_ne (zq A p) p) 237 8)) 264 c (-1)) 265 c 0) 267 c (wb_lshl 1 c)) 268 c (A 261 11)) 269 c 0)) (l := []) hX hA15 hAc hcc hAn hA11 hms hm4 (by omega) (rc_ag_up (rc_ag_up (rc_ag_up (rc_ag_up (rc_ag_up (rc_ag_up (rc_ag_up (rc_ag_up rc_ag_rf (by omega)) (by omega)) (by omega)) (by omega)) (by omega)) (by omega)) (by omega)) (by omega)) hA15 (ho_nm_up (ho_nm_up (ho_nm_up (ho_nm_up (ho_nm_up (ho_nm_up (ho_nm_up (ho_nm_up hAn hAc (by decide)) hAc (by decide)) hAc (by decide)) hAc (by decide)) hAc (by decide)) hAc (by decide)) hAc (by decide)) hAc (by decide)) (by have y9 : (w_up (w_up (w_up (w_up (w_up (w_up (w_up (w_up A 263 c 0) 270 c (lx_ne (zq A p) p)) 271 c (zq A (lx_ne (zq A p) p) 237 8)) 264 c (-1)) 265 c 0) 267 c (wb_lshl 1 c)) 268 c (A 261 11)) 269 c 0) 270 c = (lx_ne (zq A p) p) := ((w_up_slot (by decide)).trans ((w_up_slot (by decide)).trans ((w_up_slot (by decide)).trans ((w_up_slot (by decide)).trans ((w_up_slot (by decide)).trans ((w_up_slot (by decide)).trans (w_up_same _ _ _ _))))))); have y10 : (w_up (w_up (w_up (w_up (w_up (w_up (w_up (w_up A 263 c 0) 270 c (lx_ne (zq A p) p)) 271 c (zq A (lx_ne (zq A p) p) 237 8)) 264 c (-1)) 265 c 0) 267 c (wb_lshl 1 c)) 268 c (A 261 11)) 269 c 0) 271 c = zq A (lx_ne (zq A p) p) 237 8 := ((w_up_slot (by decide)).trans ((w_up_slot (by decide)).trans ((w_up_slot (by decide)).trans ((w_up_slot (by decide)).trans ((w_up_slot (by decide)).trans (w_up_same _ _ _ _)))))); omega) hAc ((w_up_slot (by decide)).trans ((w_up_slot (by decide)).trans ((w_up_slot (by decide)).trans ((w_up_slot (by decide)).trans ((w_up_slot (by decide)).trans ((w_up_slot (by decide)).trans ((w_up_slot (by decide)).trans (w_up_same _ _ _ _)))))))) ((w_up_slot (by decide)).trans ((w_up_slot (by decide)).trans ((w_up_slot (by decide)).trans ((w_up_slot (by decide)).trans ((w_up_slot (by decide)).trans ((w_up_slot (by decide)).trans (w_up_same _ _ _ _))))))) ((w_up_slot (by decide)).trans ((w_up_slot (by decide)).trans ((w_up_slot (by decide)).trans ((w_up_slot (by decide)).trans ((w_up_slot (by decide)).trans (w_up_same _ _ _ _)))))) (((w_up_slot (by decide)).trans (w_up_same _ _ _ _)).trans hA11) (w_up_same _ _ _ _) hA11 ⟨rfl, rfl, rfl⟩ (show hr_all 261 (w_up (w_up (w_up (w_up (w_up (w_up (w_up (w_up A 263 c 0) 270 c (lx_ne (zq A p) p)) 271 c (zq A (lx_ne (zq A p) p) 237 8)) 264 c (-1)) 265 c 0) 267 c (wb_lshl 1 c)) 268 c (A 261 11)) 269 c 0) ms from hms) (su_ag_lx su_ag_rf hL64) hE64 ⟨((hL64 265 c (by omega) (by omega)).trans ((w_up_slot (by decide)).trans ((w_up_slot (by decide)).trans ((w_up_slot (by decide)).trans (w_up_same _ _ _ _))))), ((hL64 264 c (by omega) (by omega)).trans ((w_up_slot (by decide)).trans ((w_up_slot (by decide)).trans ((w_up_slot (by decide)).trans ((w_up_slot (by decide)).trans (w_up_same _ _ _ _)))))), ((hL64 267 c (by omega) (by omega)).trans ((w_up_slot (by decide)).trans ((w_up_slot (by decide)).trans (w_up_same _ _ _ _)))), fun i hi => absurd hi (Nat.not_lt_zero i)⟩ he) ⟨rfl, rfl, trivial⟩
                            · skip
                              exact absurd c70 (by omega)
                        · skip
                          exact absurd m45 (by decide)
                    · skip
                      exact absurd m36 (by decide)
            · skip
              exact absurd m19 (by decide)
      · skip
        exact absurd m5 (by decide)
    · skip
      exact absurd c4 (by omega)
  · skip
    show wJ _ _ _ _ _ _ _ _ _ _
    rw [lx_E_w hE] at gw1
    have g17 := gw1
    refine wa_ifne (w_rg0 (by omega) (by omega)) ⟨_, rfl⟩ (fun c73 => ?_) (fun c73 => ?_)
    · skip
      exact absurd c73 (by omega)
    · skip
      refine wa_aload_n (n := 0) rfl ?_
      refine wa_ks ?_
      refine wa_cv 237 rfl (wy_pr rfl) wt_237 (M2 := fun _ => False) rfl at_M_isWord ⟨_, rfl⟩ rfl rfl ⟨(Or.inr ⟨wy_pr rfl, fun q => q⟩), trivial⟩ ⟨(Or.inr ⟨wy_pr rfl, fun q => q⟩), trivial⟩ (fun _ _ q => False.elim q) (isWord_ok (S := A) hE.1.1 (wx_19 hX) (by decide) (lx_I_hp hE.1)) (fun oq75 Sq75 hp76 q75 => ?_)
      rcases q75 with ⟨rfl, ⟨rfl, gw74⟩ | ⟨rfl, gw74⟩⟩
      · skip
        rw [lx_E_w hE] at gw74
        exact absurd (gw74.symm.trans h19) (by decide)
      · skip
        show wJ _ _ _ _ _ _ _ _ _ _
        rw [lx_E_w hE] at gw74
        refine wa_ifeq (w_rg0 (by omega) (by omega)) ⟨_, rfl⟩ (fun c77 => ?_) (fun c77 => ?_)
        · skip
          refine wa_iconst ?_
          refine wa_fall ⟨_, rfl⟩ ?_
          refine wa_iconst ?_
          refine wa_cv 237 rfl (wy_pr rfl) wt_237 (M2 := fun _ => False) rfl at_M_must ⟨_, rfl⟩ rfl rfl ⟨(Or.inr ⟨wy_pr rfl, fun q => q⟩), trivial⟩ trivial (fun _ _ q => False.elim q) (must_ok (S := A) (g := 0) (n := 1) (Or.inl rfl) ⟨by omega, by omega⟩) (fun oq79 Sq79 hp80 q79 => ?_)
          rcases q79 with ⟨m78, _, _⟩ | ⟨_, rfl, rfl⟩
          · skip
            exact absurd m78 (by decide)
          · skip
            refine ⟨rfl, ?_⟩
            rw [if_neg (by rw [g17]; decide)] at he
            exact Or.inr ⟨_, _, he.symm, rfl, rc_ag_hl (rc_ag_lx rc_ag_rf hL), rfl, by first | rfl | exact (show A 237 7 = p from ((lx_E_7 hE)))⟩
        · skip
          exact absurd c77 (by omega)
theorem readsClass_261 {c p : Int} {ms : List hMR} {R : (Int × Int) ⊕ (Int × hCR × List hMR)} (hX : w_X xs) (hA15 : A 237 15 = 261) (hAc : A 261 1 = c) (hcc : 0 ≤ c ∧ c ≤ 60) (hAn : ho_nm A 261) (hA11 : A 261 11 = (ms.length : Int)) (hms : hr_all 261 A ms) (hm4 : ms.length ≤ 400) (hE : lx_E A A p) (he : rc_of_261 A c ms p = R) : wJ (pe_GA xs) wY0 M (d + 8) t_M_readsClass ((pe_at t_M_readsClass.bl 0).getD (0, [])).2 [(0, (2, 237))] [] A (fun o S2 => (∃ (p2 : Int) (cr : hCR) (ms2 : List hMR), R = .inr (p2, cr, ms2) ∧ o = .inl none ∧ rc_ag 261 c (ms.length : Int) A S2 ∧ lx_E S2 A p2 ∧ S2 261 1 = c + 1 ∧ hc_at 261 c S2 cr ∧ S2 261 11 = (ms2.length : Int) ∧ hr_all 261 S2 ms2 ∧ ms.length ≤ ms2.length ∧ ms2.length ≤ 400) ∨ (∃ e q : Int, R = .inl (e, q) ∧ o = .inr 238 ∧ rc_ag 261 c (ms.length : Int) A S2 ∧ S2 238 5 = e ∧ S2 238 6 = q)) := by
  cases h19 : lx_w (zq A p) tx_19 with
  | true => exact rc_true_261 hX hA15 hAc hcc hAn hA11 hms hm4 hE h19 he
  | false => exact rc_false_261 hX hA15 hAc hcc hAn hA11 hms hm4 hE h19 he
end W92
