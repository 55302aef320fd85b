/-! PART aa: HostReader.read. -/
section Waa
variable {xs : List (Nat × List Int32)} {M : Nat → Prop} {d : Nat} {A B C S Z S0 : wS} {Q : wO → wS → Prop} {T : Int → Int} {n : Int} {c i : Nat}
theorem hrd_73 {JE : List hCR → List hMR → (Int → List Int) → wS → Prop} (hE : ∀ c : Nat, JE_73 A T n c JE) (hX : w_X xs) (hAs : as_74 xs) (hA : zT A T n) (hI : gI S) (hC : w_CL S) (hw : hw_I S 74) (hrw : rw_I S 74) (hst : S 118 (-1) = S 117 (-1) ∧ 16 ≤ S 117 (-1) ∧ S 117 (-1) ≤ 2047) (hn : 0 ≤ n ∧ n ≤ 65536 ∧ n ≤ S 1 (-1) ∧ S 1 (-1) ≤ 2147483647) (hT : ∀ i : Int, 0 ≤ i → i < n → S 1 i = T i) (hCh : ∀ i : Int, 0 ≤ i → i < n → T i = 10 ∨ (32 ≤ T i ∧ T i ≤ 126)) (hR : S 16 (-1) = S 15 (-1) ∧ S 17 (-1) = S 15 (-1) ∧ 64 ≤ S 15 (-1) ∧ S 15 (-1) ≤ 1048576) (hb : S 76 (-1) ≤ 1000000 ∧ S 75 (-1) ≤ 10000000) : wJ (pe_GA xs) wY0 (mS [15, 16, 17, 75, 76, 77, 78, 79, 80, 117, 118]) (d + 13) t_XT_read ((pe_at t_XT_read.bl 0).getD (0, [])).2 [(0, (2, 61)), (1, (2, 1)), (2, (0, n)), (3, (2, 73))] [] S (fun o Z => ∃ (Zc Zr : wS) (c : Nat), oc_ag 73 74 116 125 (w_up S 61 1 73) Zc ∧ rh_I 74 64 T n (w_up (w_up (w_up (w_up (w_up (w_up (w_up Zc 61 2 0) 14 5 1) 14 6 n) 14 7 74) 14 8 1) 14 3 0) 14 4 0) Zr c ∧ ((∃ (cs : List hCR) (ms : List hMR) (os : Int → List Int), o = .inl (some (0, 0)) ∧ ho_f_241 A 61 [] [] (tp T n 1 0) = .inr (cs, ms) ∧ JT_73 A T n c cs ms os Z ∧ FR 73 87 119 Zr Z ∧ JE cs ms os Z) ∨ (∃ (e q : Int) (v : Nat) (cs : List hCR) (ms : List hMR) (os : Int → List Int) (S2 Z0 : wS), o = .inl (some (0, e + 16 * q)) ∧ ho_f_241 A 61 [] [] (tp T n 1 0) = .inl (e, q) ∧ (JT_73 A T n c cs ms os S2 ∧ FR 73 87 119 Zr S2) ∧ cz_ag 97 73 87 114 115 (cs.length : Int) (ms.length : Int) S2 Z0 ∧ rz_ag Z0 Z v (e + 16 * q)))) := by
  refine wa_aload_n (n := 0) rfl ?_
  refine wa_aload_n (n := 3) rfl ?_
  refine wb_pfr 61 rfl (wy_pr rfl) wt_61 wf_4_1 (n := 1) rfl (Or.inr ⟨wy_pr rfl, by decide⟩) ?_
  refine wa_aload_n (n := 0) rfl ?_
  refine wb_gf5 61 rfl (wy_pr rfl) wt_61 wf_4_1 (v := 73) (w_up_same _ _ _ _) (fun r1 => ?_)
  refine wa_cv 73 rfl (wy_pr rfl) wt_73 (M2 := fun _ => False) rfl at_XO_clear ⟨_, rfl⟩ rfl rfl ⟨(Or.inr ⟨wy_pr rfl, fun q => q⟩), (Or.inr ⟨wy_pr rfl, fun q => q⟩), trivial, (Or.inr ⟨wy_pr rfl, fun q => q⟩), trivial⟩ trivial (fun _ _ q => False.elim q) (ocl_73 (d := d + 9) (S := (w_up S 61 1 73)) (show hw_I (w_up S 61 1 73) 74 from hw)) (fun oq2 Sq2 hp3 q2 => ?_)
  rcases q2 with ⟨rfl, oc⟩
  show wJ _ _ _ _ _ _ _ _ _ _
  generalize Sq2 = Zc at oc ⊢
  have zc : ∀ (j : Nat) (y : Int), (y < 0 ∨ ((j ≠ 79 ∧ j ≠ 80 ∧ j ≠ 83 ∧ j ≠ 84 ∧ j ≠ 125) ∧ (j ≠ 74 ∨ (y ≠ 1 ∧ y ≠ 7 ∧ y ≠ 10 ∧ y ≠ 12)) ∧ (j ≠ 73 ∨ (y ≠ 2 ∧ y ≠ 4 ∧ y ≠ 16 ∧ y ≠ 18)) ∧ (j ≠ 116 ∨ y ≠ 2))) → Zc j y = (w_up S 61 1 73) j y := oc.2.2.2.2
  have zc61 : Zc 61 1 = 73 := (zc 61 1 (by omega)).trans (w_up_same _ _ _ _)
  have zcI : gI Zc := gI_ag2 (gI_up (j := 61) (i := 1) (x := 73) hI (by omega) (by omega) (by omega)) (fun j hj => zc j (-1) (by omega)) (fun x hx => zc 238 x (by omega)) (zc 14 5 (by omega))
  have zcw := oc.2.2.2.1
  have hCc : w_CL Zc := fun y hy => (zc y.1 (-1) (by omega)).trans ((w_up_at (by decide)).trans (hC y hy))
  have z7 : Zc 74 7 = 13 := oc.2.2.1.2
  have z1 : Zc 74 1 = 56 := oc.2.2.1.1
  refine wa_aload_n (n := 0) rfl ?_
  refine wa_iconst ?_
  refine wb_pfi 61 rfl (wy_pr rfl) wt_61 wf_4_2 (n := 2) rfl ⟨(by omega), (by omega)⟩ ?_
  refine wa_aload_n (n := 0) rfl ?_
  refine wb_gf4 61 rfl (wy_pr rfl) wt_61 wf_4_0 (v := 14) wl_61_0 ?_
  refine wa_aload_n (n := 1) rfl ?_
  refine wa_iload_n (n := 2) rfl ?_
  refine wa_aload_n (n := 3) rfl ?_
  refine wb_gf4 73 rfl (wy_pr rfl) wt_73 wf_3_0 (v := 74) wl_73_0 ?_
  refine wa_iconst ?_
  have hrr := rdr_74 (xs := xs) (d := d + 4) (S := (w_up Zc 61 2 0)) (T := T) (n := n) hAs (show 0 ≤ n ∧ n ≤ 65536 ∧ n ≤ (w_up Zc 61 2 0) 1 (-1) ∧ (w_up Zc 61 2 0) 1 (-1) ≤ 2147483647 by rw [show (w_up Zc 61 2 0) 1 (-1) = S 1 (-1) from (w_up_slot (by decide)).trans ((zc 1 (-1) (by omega)).trans (w_up_slot (by decide)))]; exact hn) (fun y y0 y1 => (w_up_slot (by decide)).trans ((zc 1 y (by omega)).trans ((w_up_slot (by decide)).trans (hT y y0 y1)))) hCh (cl_18 (w_CL_up hCc (by omega))) (gI_up zcI (by omega) (by omega) (by omega)) (show wd_at (w_up Zc 61 2 0) 74 64 from zcw.1) (show wd_L (w_up Zc 61 2 0) 74 64 from zcw.2.1) (by rw [show (w_up Zc 61 2 0) 15 (-1) = S 15 (-1) from (w_up_slot (by decide)).trans ((zc 15 (-1) (by omega)).trans (w_up_slot (by decide))), show (w_up Zc 61 2 0) 16 (-1) = S 16 (-1) from (w_up_slot (by decide)).trans ((zc 16 (-1) (by omega)).trans (w_up_slot (by decide))), show (w_up Zc 61 2 0) 17 (-1) = S 17 (-1) from (w_up_slot (by decide)).trans ((zc 17 (-1) (by omega)).trans (w_up_slot (by decide)))]; exact hR) ⟨by rw [show (w_up Zc 61 2 0) 74 7 = 13 from z7]; decide, by rw [show (w_up Zc 61 2 0) 74 1 = 56 from z1]; decide, by rw [show (w_up Zc 61 2 0) 76 (-1) = S 76 (-1) from (w_up_slot (by decide)).trans ((zc 76 (-1) (by omega)).trans (w_up_slot (by decide)))]; exact hb.1, by rw [show (w_up Zc 61 2 0) 75 (-1) = S 75 (-1) from (w_up_slot (by decide)).trans ((zc 75 (-1) (by omega)).trans (w_up_slot (by decide)))]; exact hb.2⟩
  refine wa_cv 14 rfl (wy_pr rfl) wt_14 (M2 := mS [15, 16, 17, 75, 76, 77, 78, 79, 80]) rfl at_XR_read ⟨_, rfl⟩ rfl rfl ⟨(Or.inr ⟨wy_pr rfl, mS_no rfl⟩), (Or.inr ⟨wy_pr rfl, mS_no rfl⟩), trivial, (Or.inr ⟨wy_pr rfl, mS_no rfl⟩), trivial⟩ trivial (fun _ _ q => mS_sub (by decide) q) (hrr) (fun oq4 Sq4 hp5 q4 => ?_)
  rcases q4 with ⟨rfl, c, hrh⟩
  generalize Sq4 = Zr at hrh ⊢
  show wJ _ _ _ _ _ _ _ _ _ _
  have hj0 := JT_0_73 (A := A) (S := (w_up (w_up (w_up (w_up (w_up (w_up (w_up Zc 61 2 0) 14 5 1) 14 6 n) 14 7 74) 14 8 1) 14 3 0) 14 4 0)) (Z := Zr) (c := c) hA hn.2.1 (w_CL_up (w_CL_up (w_CL_up (w_CL_up (w_CL_up (w_CL_up (w_CL_up hCc (by omega)) (by omega)) (by omega)) (by omega)) (by omega)) (by omega)) (by omega)) (show wd_at (w_up (w_up (w_up (w_up (w_up (w_up (w_up Zc 61 2 0) 14 5 1) 14 6 n) 14 7 74) 14 8 1) 14 3 0) 14 4 0) 74 64 from zcw.1) ?_ z7 oc.1.1 oc.1.2.1 zc61 (w_up_same _ _ _ _) ⟨oc.1.2.2.1, ?_⟩ hrh
  · skip
    refine wa_aload_n (n := 0) rfl ?_
    refine wa_cx (M2 := mS [117, 118]) 61 rfl (wy_pr rfl) wt_61 rfl at_XT_readClasses ⟨_, rfl⟩ rfl rfl ⟨(Or.inr ⟨wy_pr rfl, mS_no rfl⟩), (Or.inr ⟨wy_pr rfl, mS_no rfl⟩), trivial, (Or.inr ⟨wy_pr rfl, mS_no rfl⟩), trivial⟩ trivial (fun _ _ q => mS_sub (by decide) q) (rcx_73 (d := d) (S := Zr) (S0 := Zr) (A := A) (hE c) hX hA hj0.1 (FR_rfl _ _ _ _) hj0.2) (fun o Zf hp q => ?_)
    rcases q with ⟨cs, ms, os, rfl, f1, f2, f3, f3e⟩ | ⟨e, q, v, cs, ms, os, S2, Z0, rfl, f1, f2, f3, f4⟩
    · show wJ _ _ _ _ _ _ _ _ _ _
      refine wa_goto ⟨_, rfl⟩ ?_
      refine wa_iconst ?_
      refine wa_ireturn rfl ?_
      exact ⟨Zc, Zr, c, oc, hrh, Or.inl ⟨cs, ms, os, rfl, f1, f2, f3, f3e⟩⟩
    · refine ⟨17, _, _, f4.2.2.2.2.2, f4.2.2.2.2.1, rfl, ⟨_, rfl⟩, ?_⟩
      refine wa_astore (n := 4) rfl ?_
      refine wa_aload_n (n := 0) rfl ?_
      refine wb_gfi 61 rfl (wy_pr rfl) wt_61 wf_4_2 (v := e + 16 * q) f4.1 (fun r0 => ?_)
      refine wa_ireturn rfl ?_
      exact ⟨Zc, Zr, c, oc, hrh, Or.inr ⟨e, q, v, cs, ms, os, S2, Z0, rfl, f1, f2, f3, f4⟩⟩
  · have e1 : ∀ y : Int, Zc 75 y = S 75 y := fun y => (zc 75 y (by omega)).trans (w_up_slot (by decide))
    have e2 : ∀ y : Int, Zc 76 y = S 76 y := fun y => (zc 76 y (by omega)).trans (w_up_slot (by decide))
    have e3 : ∀ y : Int, Zc 77 y = S 77 y := fun y => (zc 77 y (by omega)).trans (w_up_slot (by decide))
    show rw_I Zc 74
    unfold rw_I; rw [show Zc (74 + 1) = S 75 from funext e1, show Zc (74 + 2) = S 76 from funext e2, show Zc (74 + 3) = S 77 from funext e3]; exact hrw
  · show (0 ≤ Zc 116 2 ∧ Zc 116 2 ≤ Zc 117 (-1)) ∧ Zc 118 (-1) = Zc 117 (-1) ∧ 16 ≤ Zc 117 (-1) ∧ Zc 117 (-1) ≤ 2047
    rw [show Zc 116 2 = 0 from oc.1.2.2.1, show Zc 117 (-1) = S 117 (-1) from (zc 117 (-1) (by omega)).trans (w_up_slot (by decide)), show Zc 118 (-1) = S 118 (-1) from (zc 118 (-1) (by omega)).trans (w_up_slot (by decide))]; exact ⟨⟨by omega, by omega⟩, hst⟩
theorem hrd_162 {JE : List hCR → List hMR → (Int → List Int) → wS → Prop} (hE : ∀ c : Nat, JE_162 A T n c JE) (hX : w_X xs) (hAs : as_163 xs) (hA : zT A T n) (hI : gI S) (hC : w_CL S) (hw : hw_I S 163) (hrw : rw_I S 163) (hst : S 207 (-1) = S 206 (-1) ∧ 16 ≤ S 206 (-1) ∧ S 206 (-1) ≤ 2047) (hn : 0 ≤ n ∧ n ≤ 65536 ∧ n ≤ S 1 (-1) ∧ S 1 (-1) ≤ 2147483647) (hT : ∀ i : Int, 0 ≤ i → i < n → S 1 i = T i) (hCh : ∀ i : Int, 0 ≤ i → i < n → T i = 10 ∨ (32 ≤ T i ∧ T i ≤ 126)) (hR : S 16 (-1) = S 15 (-1) ∧ S 17 (-1) = S 15 (-1) ∧ 64 ≤ S 15 (-1) ∧ S 15 (-1) ≤ 1048576) (hb : S 165 (-1) ≤ 1000000 ∧ S 164 (-1) ≤ 10000000) : wJ (pe_GA xs) wY0 (mS [15, 16, 17, 164, 165, 166, 167, 168, 169, 206, 207]) (d + 13) t_XT_read ((pe_at t_XT_read.bl 0).getD (0, [])).2 [(0, (2, 61)), (1, (2, 1)), (2, (0, n)), (3, (2, 162))] [] S (fun o Z => ∃ (Zc Zr : wS) (c : Nat), oc_ag 162 163 205 214 (w_up S 61 1 162) Zc ∧ rh_I 163 64 T n (w_up (w_up (w_up (w_up (w_up (w_up (w_up Zc 61 2 0) 14 5 1) 14 6 n) 14 7 163) 14 8 1) 14 3 0) 14 4 0) Zr c ∧ ((∃ (cs : List hCR) (ms : List hMR) (os : Int → List Int), o = .inl (some (0, 0)) ∧ ho_f_261 A 61 [] [] (tp T n 1 0) = .inr (cs, ms) ∧ JT_162 A T n c cs ms os Z ∧ FR 162 176 208 Zr Z ∧ JE cs ms os Z) ∨ (∃ (e q : Int) (v : Nat) (cs : List hCR) (ms : List hMR) (os : Int → List Int) (S2 Z0 : wS), o = .inl (some (0, e + 16 * q)) ∧ ho_f_261 A 61 [] [] (tp T n 1 0) = .inl (e, q) ∧ (JT_162 A T n c cs ms os S2 ∧ FR 162 176 208 Zr S2) ∧ cz_ag 186 162 176 203 204 (cs.length : Int) (ms.length : Int) S2 Z0 ∧ rz_ag Z0 Z v (e + 16 * q)))) := by
  refine wa_aload_n (n := 0) rfl ?_
  refine wa_aload_n (n := 3) rfl ?_
  refine wb_pfr 61 rfl (wy_pr rfl) wt_61 wf_4_1 (n := 1) rfl (Or.inr ⟨wy_pr rfl, by decide⟩) ?_
  refine wa_aload_n (n := 0) rfl ?_
  refine wb_gf5 61 rfl (wy_pr rfl) wt_61 wf_4_1 (v := 162) (w_up_same _ _ _ _) (fun r1 => ?_)
  refine wa_cv 162 rfl (wy_pr rfl) wt_162 (M2 := fun _ => False) rfl at_XO_clear ⟨_, rfl⟩ rfl rfl ⟨(Or.inr ⟨wy_pr rfl, fun q => q⟩), (Or.inr ⟨wy_pr rfl, fun q => q⟩), trivial, (Or.inr ⟨wy_pr rfl, fun q => q⟩), trivial⟩ trivial (fun _ _ q => False.elim q) (ocl_162 (d := d + 9) (S := (w_up S 61 1 162)) (show hw_I (w_up S 61 1 162) 163 from hw)) (fun oq2 Sq2 hp3 q2 => ?_)
  rcases q2 with ⟨rfl, oc⟩
  show wJ _ _ _ _ _ _ _ _ _ _
  generalize Sq2 = Zc at oc ⊢
  have zc : ∀ (j : Nat) (y : Int), (y < 0 ∨ ((j ≠ 168 ∧ j ≠ 169 ∧ j ≠ 172 ∧ j ≠ 173 ∧ j ≠ 214) ∧ (j ≠ 163 ∨ (y ≠ 1 ∧ y ≠ 7 ∧ y ≠ 10 ∧ y ≠ 12)) ∧ (j ≠ 162 ∨ (y ≠ 2 ∧ y ≠ 4 ∧ y ≠ 16 ∧ y ≠ 18)) ∧ (j ≠ 205 ∨ y ≠ 2))) → Zc j y = (w_up S 61 1 162) j y := oc.2.2.2.2
  have zc61 : Zc 61 1 = 162 := (zc 61 1 (by omega)).trans (w_up_same _ _ _ _)
  have zcI : gI Zc := gI_ag2 (gI_up (j := 61) (i := 1) (x := 162) hI (by omega) (by omega) (by omega)) (fun j hj => zc j (-1) (by omega)) (fun x hx => zc 238 x (by omega)) (zc 14 5 (by omega))
  have zcw := oc.2.2.2.1
  have hCc : w_CL Zc := fun y hy => (zc y.1 (-1) (by omega)).trans ((w_up_at (by decide)).trans (hC y hy))
  have z7 : Zc 163 7 = 13 := oc.2.2.1.2
  have z1 : Zc 163 1 = 56 := oc.2.2.1.1
  refine wa_aload_n (n := 0) rfl ?_
  refine wa_iconst ?_
  refine wb_pfi 61 rfl (wy_pr rfl) wt_61 wf_4_2 (n := 2) rfl ⟨(by omega), (by omega)⟩ ?_
  refine wa_aload_n (n := 0) rfl ?_
  refine wb_gf4 61 rfl (wy_pr rfl) wt_61 wf_4_0 (v := 14) wl_61_0 ?_
  refine wa_aload_n (n := 1) rfl ?_
  refine wa_iload_n (n := 2) rfl ?_
  refine wa_aload_n (n := 3) rfl ?_
  refine wb_gf4 162 rfl (wy_pr rfl) wt_162 wf_3_0 (v := 163) wl_162_0 ?_
  refine wa_iconst ?_
  have hrr := rdr_163 (xs := xs) (d := d + 4) (S := (w_up Zc 61 2 0)) (T := T) (n := n) hAs (show 0 ≤ n ∧ n ≤ 65536 ∧ n ≤ (w_up Zc 61 2 0) 1 (-1) ∧ (w_up Zc 61 2 0) 1 (-1) ≤ 2147483647 by rw [show (w_up Zc 61 2 0) 1 (-1) = S 1 (-1) from (w_up_slot (by decide)).trans ((zc 1 (-1) (by omega)).trans (w_up_slot (by decide)))]; exact hn) (fun y y0 y1 => (w_up_slot (by decide)).trans ((zc 1 y (by omega)).trans ((w_up_slot (by decide)).trans (hT y y0 y1)))) hCh (cl_18 (w_CL_up hCc (by omega))) (gI_up zcI (by omega) (by omega) (by omega)) (show wd_at (w_up Zc 61 2 0) 163 64 from zcw.1) (show wd_L (w_up Zc 61 2 0) 163 64 from zcw.2.1) (by rw [show (w_up Zc 61 2 0) 15 (-1) = S 15 (-1) from (w_up_slot (by decide)).trans ((zc 15 (-1) (by omega)).trans (w_up_slot (by decide))), show (w_up Zc 61 2 0) 16 (-1) = S 16 (-1) from (w_up_slot (by decide)).trans ((zc 16 (-1) (by omega)).trans (w_up_slot (by decide))), show (w_up Zc 61 2 0) 17 (-1) = S 17 (-1) from (w_up_slot (by decide)).trans ((zc 17 (-1) (by omega)).trans (w_up_slot (by decide)))]; exact hR) ⟨by rw [show (w_up Zc 61 2 0) 163 7 = 13 from z7]; decide, by rw [show (w_up Zc 61 2 0) 163 1 = 56 from z1]; decide, by rw [show (w_up Zc 61 2 0) 165 (-1) = S 165 (-1) from (w_up_slot (by decide)).trans ((zc 165 (-1) (by omega)).trans (w_up_slot (by decide)))]; exact hb.1, by rw [show (w_up Zc 61 2 0) 164 (-1) = S 164 (-1) from (w_up_slot (by decide)).trans ((zc 164 (-1) (by omega)).trans (w_up_slot (by decide)))]; exact hb.2⟩
  refine wa_cv 14 rfl (wy_pr rfl) wt_14 (M2 := mS [15, 16, 17, 164, 165, 166, 167, 168, 169]) rfl at_XR_read ⟨_, rfl⟩ rfl rfl ⟨(Or.inr ⟨wy_pr rfl, mS_no rfl⟩), (Or.inr ⟨wy_pr rfl, mS_no rfl⟩), trivial, (Or.inr ⟨wy_pr rfl, mS_no rfl⟩), trivial⟩ trivial (fun _ _ q => mS_sub (by decide) q) (hrr) (fun oq4 Sq4 hp5 q4 => ?_)
  rcases q4 with ⟨rfl, c, hrh⟩
  generalize Sq4 = Zr at hrh ⊢
  show wJ _ _ _ _ _ _ _ _ _ _
  have hj0 := JT_0_162 (A := A) (S := (w_up (w_up (w_up (w_up (w_up (w_up (w_up Zc 61 2 0) 14 5 1) 14 6 n) 14 7 163) 14 8 1) 14 3 0) 14 4 0)) (Z := Zr) (c := c) hA hn.2.1 (w_CL_up (w_CL_up (w_CL_up (w_CL_up (w_CL_up (w_CL_up (w_CL_up hCc (by omega)) (by omega)) (by omega)) (by omega)) (by omega)) (by omega)) (by omega)) (show wd_at (w_up (w_up (w_up (w_up (w_up (w_up (w_up Zc 61 2 0) 14 5 1) 14 6 n) 14 7 163) 14 8 1) 14 3 0) 14 4 0) 163 64 from zcw.1) ?_ z7 oc.1.1 oc.1.2.1 zc61 (w_up_same _ _ _ _) ⟨oc.1.2.2.1, ?_⟩ hrh
  · skip
    refine wa_aload_n (n := 0) rfl ?_
    refine wa_cx (M2 := mS [206, 207]) 61 rfl (wy_pr rfl) wt_61 rfl at_XT_readClasses ⟨_, rfl⟩ rfl rfl ⟨(Or.inr ⟨wy_pr rfl, mS_no rfl⟩), (Or.inr ⟨wy_pr rfl, mS_no rfl⟩), trivial, (Or.inr ⟨wy_pr rfl, mS_no rfl⟩), trivial⟩ trivial (fun _ _ q => mS_sub (by decide) q) (rcx_162 (d := d) (S := Zr) (S0 := Zr) (A := A) (hE c) hX hA hj0.1 (FR_rfl _ _ _ _) hj0.2) (fun o Zf hp q => ?_)
    rcases q with ⟨cs, ms, os, rfl, f1, f2, f3, f3e⟩ | ⟨e, q, v, cs, ms, os, S2, Z0, rfl, f1, f2, f3, f4⟩
    · show wJ _ _ _ _ _ _ _ _ _ _
      refine wa_goto ⟨_, rfl⟩ ?_
      refine wa_iconst ?_
      refine wa_ireturn rfl ?_
      exact ⟨Zc, Zr, c, oc, hrh, Or.inl ⟨cs, ms, os, rfl, f1, f2, f3, f3e⟩⟩
    · refine ⟨17, _, _, f4.2.2.2.2.2, f4.2.2.2.2.1, rfl, ⟨_, rfl⟩, ?_⟩
      refine wa_astore (n := 4) rfl ?_
      refine wa_aload_n (n := 0) rfl ?_
      refine wb_gfi 61 rfl (wy_pr rfl) wt_61 wf_4_2 (v := e + 16 * q) f4.1 (fun r0 => ?_)
      refine wa_ireturn rfl ?_
      exact ⟨Zc, Zr, c, oc, hrh, Or.inr ⟨e, q, v, cs, ms, os, S2, Z0, rfl, f1, f2, f3, f4⟩⟩
  · have e1 : ∀ y : Int, Zc 164 y = S 164 y := fun y => (zc 164 y (by omega)).trans (w_up_slot (by decide))
    have e2 : ∀ y : Int, Zc 165 y = S 165 y := fun y => (zc 165 y (by omega)).trans (w_up_slot (by decide))
    have e3 : ∀ y : Int, Zc 166 y = S 166 y := fun y => (zc 166 y (by omega)).trans (w_up_slot (by decide))
    show rw_I Zc 163
    unfold rw_I; rw [show Zc (163 + 1) = S 164 from funext e1, show Zc (163 + 2) = S 165 from funext e2, show Zc (163 + 3) = S 166 from funext e3]; exact hrw
  · show (0 ≤ Zc 205 2 ∧ Zc 205 2 ≤ Zc 206 (-1)) ∧ Zc 207 (-1) = Zc 206 (-1) ∧ 16 ≤ Zc 206 (-1) ∧ Zc 206 (-1) ≤ 2047
    rw [show Zc 205 2 = 0 from oc.1.2.2.1, show Zc 206 (-1) = S 206 (-1) from (zc 206 (-1) (by omega)).trans (w_up_slot (by decide)), show Zc 207 (-1) = S 207 (-1) from (zc 207 (-1) (by omega)).trans (w_up_slot (by decide))]; exact ⟨⟨by omega, by omega⟩, hst⟩
end Waa
