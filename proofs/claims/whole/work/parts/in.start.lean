/-! PART in: start, of the class. -/
section Win
variable {xs : List (Nat × List Int32)} {d : Nat} {S Z A : wS} {K K0 K1 : aK} {T : List aO} {L : List aC} {G : Int → aV} {t u f : Int}
/-- a task that begins with function f, its call is n -/
def kBg (f n : Int) (v : aV) : aK := ([], [(f, 0, n, (0, 0, []), -1, 0, 0)], [], 1, v)
theorem bgw_215 (hC : w_CL S) (hI : gI S) (hW : cWd S T L G) (hu1 : 0 ≤ S 150 0 ∧ S 150 0 ≤ 8000) (hv1 : 0 ≤ S 150 1 ∧ S 150 1 ≤ 60000) (hz : S 140 2 ≤ 240200) (hL : (L.length : Int) ≤ 8000) (hf : -2147483648 ≤ f ∧ f ≤ 2147483647) : wJ (pe_GA xs) wY0 (mS [138, 139, 141, 142]) (d + 5) t_XK_begin ((pe_at t_XK_begin.bl 0).getD (0, [])).2 [(0, (2, 215)), (1, (0, f))] [] S (fun o Z => o = .inl none ∧ ∃ A : wS, ac_ag (-1) 0 (w_up (w_up (w_up (w_up (w_up S 215 13 0) 215 4 0) 216 2 0) 215 12 0) 215 13 1) A ∧ (w_up (w_up (w_up (w_up (w_up (w_up (w_up A 219 0 f) 220 0 0) 221 0 (L.length : Int)) 222 0 0) 223 0 0) 224 0 0) 215 4 1) = Z) := by
  obtain ⟨-, ⟨hn5, -⟩, -, ⟨⟨hl9, hl5, hl64, hl100⟩, hl14, hc2, hc16, hcm⟩, -, -⟩ := id hW
  refine wa_aload_n (n := 0) rfl ?_
  refine wa_cv 215 rfl (wy_pr rfl) wt_215 (M2 := fun _ => False) rfl at_XK_clear ⟨_, rfl⟩ rfl rfl ⟨(Or.inr ⟨wy_pr rfl, fun q => q⟩), trivial, trivial⟩ trivial (fun _ _ q => False.elim q) (tcl_215 (S := S)) (fun oq1 Sq1 hp2 q1 => ?_)
  rcases q1 with ⟨rfl, rfl⟩
  show wJ _ _ _ _ _ _ _ _ _ _
  refine wa_aload_n (n := 0) rfl ?_
  refine wa_iconst ?_
  refine wb_pfi 215 rfl (wy_pr rfl) wt_215 wf_8_13 (n := 13) rfl ⟨(by omega), (by omega)⟩ ?_
  refine wa_aload_n (n := 0) rfl ?_
  refine wa_iload_n (n := 1) rfl ?_
  refine wa_aload_n (n := 0) rfl ?_
  refine wb_gf4 215 rfl (wy_pr rfl) wt_215 wf_8_0 (v := 72) wl_215_0 ?_
  refine wa_iconst ?_
  refine wa_iconst ?_
  refine wa_cv 72 rfl (wy_pr rfl) wt_72 (M2 := mS [138, 139, 141, 142]) rfl at_XH_addCall ⟨_, rfl⟩ rfl rfl ⟨(Or.inr ⟨wy_pr rfl, mS_no rfl⟩), trivial, trivial⟩ ⟨trivial, (Or.inr ⟨wy_pr rfl, mS_no rfl⟩), trivial⟩ (fun _ _ q => q) (ac_ok (S := (w_up (w_up (w_up (w_up (w_up S 215 13 0) 215 4 0) 216 2 0) 215 12 0) 215 13 1)) (ar := -1) (vn := 0) (cs := S 140 2) (n := (L.length : Int)) (u0 := S 150 0) (v0 := S 150 1) (w_CL_up (w_CL_up (w_CL_up (w_CL_up (w_CL_up hC (by decide)) (by decide)) (by decide)) (by decide)) (by decide)) (gI_up (gI_up (gI_up (gI_up (gI_up hI (by decide) (by decide) (by decide)) (by decide) (by decide) (by decide)) (by decide) (by decide) (by decide)) (by decide) (by decide) (by decide)) (by decide) (by decide) (by decide)) rfl hc2 hl14 ⟨hc16, hcm⟩ hl9 hn5 ⟨by omega, by show _ ≤ S 138 (-1); omega⟩ ⟨by show 64 ≤ S 138 (-1); omega, by show S 138 (-1) ≤ _; omega⟩ rfl hu1 rfl hv1 (by decide) (by decide)) (fun oq3 Sq3 hp4 q3 => ?_)
  rcases q3 with ⟨rfl, hac⟩
  show wJ _ _ _ _ _ _ _ _ _ _
  refine wa_iconst ?_
  refine wb_lconst (m := 0) rfl ?_
  refine wa_iconst ?_
  refine wa_cv 215 rfl (wy_pr rfl) wt_215 (M2 := fun _ => False) rfl at_XK_push ⟨_, rfl⟩ rfl rfl ⟨(Or.inr ⟨wy_pr rfl, fun q => q⟩), trivial, trivial⟩ trivial (fun _ _ q => False.elim q) ?_ (fun _ _ _ q => q)
  refine wa_aload_n (n := 0) rfl ?_
  refine wb_gf4 215 rfl (wy_pr rfl) wt_215 wf_8_5 (v := 219) wl_215_5 ?_
  refine wa_aload_n (n := 0) rfl ?_
  refine wb_gfi 215 rfl (wy_pr rfl) wt_215 wf_8_4 (v := 0) (((hac.2.2.2.2.2.2.2.1 215 4 (by decide) (by decide) (by decide) (by decide) (by decide) (by decide) (by omega) (by omega) (by omega)).trans ((w_up_at (by decide)).trans ((w_up_at (by decide)).trans ((w_up_slot (by decide)).trans (w_up_same _ _ _ _)))))) (fun r5 => ?_)
  refine wa_iload_n (n := 1) rfl ?_
  refine wb_iast 219 rfl (wy_pr rfl) wt_219 (n := 200) (((hac.2.2.2.2.2.2.2.1 219 (-1) (by decide) (by decide) (by decide) (by decide) (by decide) (by decide) (by omega) (by omega) (by omega)).trans ((w_up_slot (by decide)).trans ((w_up_slot (by decide)).trans ((w_up_slot (by decide)).trans ((w_up_slot (by decide)).trans ((w_up_slot (by decide)).trans ((cl_219 hC))))))))) (by omega) (by omega) ⟨(by omega), (by omega)⟩ ?_
  refine wa_aload_n (n := 0) rfl ?_
  refine wb_gf4 215 rfl (wy_pr rfl) wt_215 wf_8_6 (v := 220) wl_215_6 ?_
  refine wa_aload_n (n := 0) rfl ?_
  refine wb_gfi 215 rfl (wy_pr rfl) wt_215 wf_8_4 (v := 0) ((w_up_slot (by decide)).trans (((hac.2.2.2.2.2.2.2.1 215 4 (by decide) (by decide) (by decide) (by decide) (by decide) (by decide) (by omega) (by omega) (by omega)).trans ((w_up_at (by decide)).trans ((w_up_at (by decide)).trans ((w_up_slot (by decide)).trans (w_up_same _ _ _ _))))))) (fun r6 => ?_)
  refine wa_iconst ?_
  refine wb_iast 220 rfl (wy_pr rfl) wt_220 (n := 200) ((w_up_slot (by decide)).trans (((hac.2.2.2.2.2.2.2.1 220 (-1) (by decide) (by decide) (by decide) (by decide) (by decide) (by decide) (by omega) (by omega) (by omega)).trans ((w_up_slot (by decide)).trans ((w_up_slot (by decide)).trans ((w_up_slot (by decide)).trans ((w_up_slot (by decide)).trans ((w_up_slot (by decide)).trans ((cl_220 hC)))))))))) (by omega) (by omega) ⟨(by omega), (by omega)⟩ ?_
  refine wa_aload_n (n := 0) rfl ?_
  refine wb_gf4 215 rfl (wy_pr rfl) wt_215 wf_8_7 (v := 221) wl_215_7 ?_
  refine wa_aload_n (n := 0) rfl ?_
  refine wb_gfi 215 rfl (wy_pr rfl) wt_215 wf_8_4 (v := 0) ((w_up_slot (by decide)).trans ((w_up_slot (by decide)).trans (((hac.2.2.2.2.2.2.2.1 215 4 (by decide) (by decide) (by decide) (by decide) (by decide) (by decide) (by omega) (by omega) (by omega)).trans ((w_up_at (by decide)).trans ((w_up_at (by decide)).trans ((w_up_slot (by decide)).trans (w_up_same _ _ _ _)))))))) (fun r7 => ?_)
  refine wa_iload_n (n := 2) rfl ?_
  refine wb_iast 221 rfl (wy_pr rfl) wt_221 (n := 200) ((w_up_slot (by decide)).trans ((w_up_slot (by decide)).trans (((hac.2.2.2.2.2.2.2.1 221 (-1) (by decide) (by decide) (by decide) (by decide) (by decide) (by decide) (by omega) (by omega) (by omega)).trans ((w_up_slot (by decide)).trans ((w_up_slot (by decide)).trans ((w_up_slot (by decide)).trans ((w_up_slot (by decide)).trans ((w_up_slot (by decide)).trans ((cl_221 hC))))))))))) (by omega) (by omega) ⟨(by omega), (by omega)⟩ ?_
  refine wa_aload_n (n := 0) rfl ?_
  refine wb_gf4 215 rfl (wy_pr rfl) wt_215 wf_8_8 (v := 222) wl_215_8 ?_
  refine wa_aload_n (n := 0) rfl ?_
  refine wb_gfi 215 rfl (wy_pr rfl) wt_215 wf_8_4 (v := 0) ((w_up_slot (by decide)).trans ((w_up_slot (by decide)).trans ((w_up_slot (by decide)).trans (((hac.2.2.2.2.2.2.2.1 215 4 (by decide) (by decide) (by decide) (by decide) (by decide) (by decide) (by omega) (by omega) (by omega)).trans ((w_up_at (by decide)).trans ((w_up_at (by decide)).trans ((w_up_slot (by decide)).trans (w_up_same _ _ _ _))))))))) (fun r8 => ?_)
  refine wa_iload_n (n := 3) rfl ?_
  refine wb_i2b_r (wb_i2b_id ⟨(by omega), (by omega)⟩) ?_
  refine wb_bast 222 rfl (wy_pr rfl) wt_222 (n := 200) ((w_up_slot (by decide)).trans ((w_up_slot (by decide)).trans ((w_up_slot (by decide)).trans (((hac.2.2.2.2.2.2.2.1 222 (-1) (by decide) (by decide) (by decide) (by decide) (by decide) (by decide) (by omega) (by omega) (by omega)).trans ((w_up_slot (by decide)).trans ((w_up_slot (by decide)).trans ((w_up_slot (by decide)).trans ((w_up_slot (by decide)).trans ((w_up_slot (by decide)).trans ((cl_222 hC)))))))))))) (by omega) (by omega) ⟨(by omega), (by omega)⟩ ?_
  refine wa_aload_n (n := 0) rfl ?_
  refine wb_gf4 215 rfl (wy_pr rfl) wt_215 wf_8_9 (v := 223) wl_215_9 ?_
  refine wa_aload_n (n := 0) rfl ?_
  refine wb_gfi 215 rfl (wy_pr rfl) wt_215 wf_8_4 (v := 0) ((w_up_slot (by decide)).trans ((w_up_slot (by decide)).trans ((w_up_slot (by decide)).trans ((w_up_slot (by decide)).trans (((hac.2.2.2.2.2.2.2.1 215 4 (by decide) (by decide) (by decide) (by decide) (by decide) (by decide) (by omega) (by omega) (by omega)).trans ((w_up_at (by decide)).trans ((w_up_at (by decide)).trans ((w_up_slot (by decide)).trans (w_up_same _ _ _ _)))))))))) (fun r9 => ?_)
  refine wa_lload (n := 4) rfl ?_
  refine wb_last 223 rfl (wy_pr rfl) wt_223 (n := 200) ((w_up_slot (by decide)).trans ((w_up_slot (by decide)).trans ((w_up_slot (by decide)).trans ((w_up_slot (by decide)).trans (((hac.2.2.2.2.2.2.2.1 223 (-1) (by decide) (by decide) (by decide) (by decide) (by decide) (by decide) (by omega) (by omega) (by omega)).trans ((w_up_slot (by decide)).trans ((w_up_slot (by decide)).trans ((w_up_slot (by decide)).trans ((w_up_slot (by decide)).trans ((w_up_slot (by decide)).trans ((cl_223 hC))))))))))))) (by omega) (by omega) ⟨(by omega), (by omega)⟩ ?_
  refine wa_aload_n (n := 0) rfl ?_
  refine wb_gf4 215 rfl (wy_pr rfl) wt_215 wf_8_10 (v := 224) wl_215_10 ?_
  refine wa_aload_n (n := 0) rfl ?_
  refine wb_gfi 215 rfl (wy_pr rfl) wt_215 wf_8_4 (v := 0) ((w_up_slot (by decide)).trans ((w_up_slot (by decide)).trans ((w_up_slot (by decide)).trans ((w_up_slot (by decide)).trans ((w_up_slot (by decide)).trans (((hac.2.2.2.2.2.2.2.1 215 4 (by decide) (by decide) (by decide) (by decide) (by decide) (by decide) (by omega) (by omega) (by omega)).trans ((w_up_at (by decide)).trans ((w_up_at (by decide)).trans ((w_up_slot (by decide)).trans (w_up_same _ _ _ _))))))))))) (fun r10 => ?_)
  refine wa_iload (n := 6) rfl ?_
  refine wb_zast 224 rfl (wy_pr rfl) wt_224 (n := 200) ((w_up_slot (by decide)).trans ((w_up_slot (by decide)).trans ((w_up_slot (by decide)).trans ((w_up_slot (by decide)).trans ((w_up_slot (by decide)).trans (((hac.2.2.2.2.2.2.2.1 224 (-1) (by decide) (by decide) (by decide) (by decide) (by decide) (by decide) (by omega) (by omega) (by omega)).trans ((w_up_slot (by decide)).trans ((w_up_slot (by decide)).trans ((w_up_slot (by decide)).trans ((w_up_slot (by decide)).trans ((w_up_slot (by decide)).trans ((cl_224 hC)))))))))))))) (by omega) (by omega) ⟨(by omega), (by omega)⟩ ?_
  refine wa_aload_n (n := 0) rfl ?_
  refine wa_dup (by decide) ?_
  refine wb_gfi 215 rfl (wy_pr rfl) wt_215 wf_8_4 (v := 0) ((w_up_slot (by decide)).trans ((w_up_slot (by decide)).trans ((w_up_slot (by decide)).trans ((w_up_slot (by decide)).trans ((w_up_slot (by decide)).trans ((w_up_slot (by decide)).trans (((hac.2.2.2.2.2.2.2.1 215 4 (by decide) (by decide) (by decide) (by decide) (by decide) (by decide) (by omega) (by omega) (by omega)).trans ((w_up_at (by decide)).trans ((w_up_at (by decide)).trans ((w_up_slot (by decide)).trans (w_up_same _ _ _ _)))))))))))) (fun r11 => ?_)
  refine wa_iconst ?_
  refine wa_iadd ?_
  refine wb_pfi 215 rfl (wy_pr rfl) wt_215 wf_8_4 (n := 4) rfl ⟨(by omega), (by omega)⟩ ?_
  refine wa_return rfl ?_
  show wJ _ _ _ _ _ _ _ _ _ _
  refine wa_return rfl ?_
  exact ⟨rfl, _, hac, rfl⟩
theorem bgk_215 (hK : cTk 215 S K) (hW : cWd S T L G) (hz : S 140 2 ≤ 240200) (hL : (L.length : Int) ≤ 8000) (h : ac_ag (-1) 0 (w_up (w_up (w_up (w_up (w_up S 215 13 0) 215 4 0) 216 2 0) 215 12 0) 215 13 1) A) : cTk 215 (w_up (w_up (w_up (w_up (w_up (w_up (w_up A 219 0 f) 220 0 0) 221 0 (L.length : Int)) 222 0 0) 223 0 0) 224 0 0) 215 4 1) (kBg f (L.length : Int) K.2.2.2.2) ∧ cWd (w_up (w_up (w_up (w_up (w_up (w_up (w_up A 219 0 f) 220 0 0) 221 0 (L.length : Int)) 222 0 0) 223 0 0) 224 0 0) 215 4 1) T (L ++ [(-1, [])]) G ∧ cFm 215 cMc S (w_up (w_up (w_up (w_up (w_up (w_up (w_up A 219 0 f) 220 0 0) 221 0 (L.length : Int)) 222 0 0) 223 0 0) 224 0 0) 215 4 1) ∧ (w_up (w_up (w_up (w_up (w_up (w_up (w_up A 219 0 f) 220 0 0) 221 0 (L.length : Int)) 222 0 0) 223 0 0) 224 0 0) 215 4 1) 150 0 = S 150 0 + 1 ∧ (w_up (w_up (w_up (w_up (w_up (w_up (w_up A 219 0 f) 220 0 0) 221 0 (L.length : Int)) 222 0 0) 223 0 0) 224 0 0) 215 4 1) 150 1 = S 150 1 ∧ (w_up (w_up (w_up (w_up (w_up (w_up (w_up A 219 0 f) 220 0 0) 221 0 (L.length : Int)) 222 0 0) 223 0 0) 224 0 0) 215 4 1) 140 2 = S 140 2 := by
  have hWA : cWd A T (L ++ [(-1, [])]) G := cWd_ac (vs := []) (cWd_up (cWd_up (cWd_up (cWd_up (cWd_up hW (by first | decide | omega)) (by first | decide | omega)) (by first | decide | omega)) (by first | decide | omega)) (by first | decide | omega)) h (fun _ _ _ => rfl) rfl (fun i hi => absurd hi (by show ¬ i < 0; omega)) hL (by show S 140 2 + 0 ≤ 240200; omega)
  obtain ⟨⟨a1, a2, a3⟩, -, -, a4, -, -, -, fr, gi, rm⟩ := h
  obtain ⟨⟨-, -, b1, b2, b3, b4⟩, -, ⟨-, b5, b6, b7, -⟩, -⟩ := hK
  replace b2 : S 218 (-1) = S 217 (-1) := b2
  replace b3 : 64 ≤ S 217 (-1) := b3
  replace b4 : S 217 (-1) ≤ 4095 := b4
  replace b6 : 48 ≤ S 225 (-1) := b6
  replace b7 : S 225 (-1) ≤ 60000 := b7
  have f2 : A 217 (-1) = S 217 (-1) := fr 217 (-1) (by first | decide | omega) (by first | decide | omega) (by first | decide | omega) (by first | decide | omega) (by first | decide | omega) (by first | decide | omega) (by omega) (by omega) (by omega)
  have f3 : A 218 (-1) = S 218 (-1) := fr 218 (-1) (by first | decide | omega) (by first | decide | omega) (by first | decide | omega) (by first | decide | omega) (by first | decide | omega) (by first | decide | omega) (by omega) (by omega) (by omega)
  have f10 : A 225 (-1) = S 225 (-1) := fr 225 (-1) (by first | decide | omega) (by first | decide | omega) (by first | decide | omega) (by first | decide | omega) (by first | decide | omega) (by first | decide | omega) (by omega) (by omega) (by omega)
  have f1 : A 216 2 = 0 := fr 216 2 (by first | decide | omega) (by first | decide | omega) (by first | decide | omega) (by first | decide | omega) (by first | decide | omega) (by first | decide | omega) (by omega) (by omega) (by omega)
  have f12 : A 215 12 = 0 := fr 215 12 (by first | decide | omega) (by first | decide | omega) (by first | decide | omega) (by first | decide | omega) (by first | decide | omega) (by first | decide | omega) (by omega) (by omega) (by omega)
  have f13 : A 215 13 = 1 := fr 215 13 (by first | decide | omega) (by first | decide | omega) (by first | decide | omega) (by first | decide | omega) (by first | decide | omega) (by first | decide | omega) (by omega) (by omega) (by omega)
  refine ⟨⟨⟨f1, fun i hi => absurd hi (by show ¬ i < 0; omega), by show (0 : Int) ≤ A 217 (-1); omega, by show A 218 (-1) = A 217 (-1); omega, by show 64 ≤ A 217 (-1); omega, by show A 217 (-1) ≤ 4095; omega⟩, ⟨rfl, by show 1 ≤ 200; omega, fun i hi => ?_⟩, ⟨f12, by show (0 : Int) ≤ A 225 (-1); omega, by show 48 ≤ A 225 (-1); omega, by show A 225 (-1) ≤ 60000; omega, fun i hi => absurd hi (by show ¬ i < 0; omega)⟩, f13, fun z => absurd (show (1 : Int) = 2 ∨ (1 : Int) = 3 from z) (by first | decide | omega)⟩, (cWd_up (cWd_up (cWd_up (cWd_up (cWd_up (cWd_up (cWd_up hWA (by first | decide | omega)) (by first | decide | omega)) (by first | decide | omega)) (by first | decide | omega)) (by first | decide | omega)) (by first | decide | omega)) (by first | decide | omega)), ⟨fun j x j0 j1 j2 j3 => ?_, fun j j0 j1 => ?_, ?_, ?_⟩, a2, a3.trans (Int.add_zero _), a4.trans (Int.add_zero _)⟩
  · have hi0 : i = 0 := by have : i < 1 := hi; omega
    subst hi0
    exact ⟨⟨rfl, rfl, rfl⟩, ⟨rfl, fun _ => ⟨rfl, rfl⟩, fun z => absurd (show (0 : Int) = 3 from z) (by first | decide | omega)⟩, Or.inl ⟨rfl, rfl⟩⟩
  · unfold cMc at j3
    refine (w_up_no (by omega)).trans ((w_up_no (by omega)).trans ((w_up_no (by omega)).trans ((w_up_no (by omega)).trans ((w_up_no (by omega)).trans ((w_up_no (by omega)).trans ((w_up_no (by omega)).trans ((fr j x j0 j1 (by omega) (by omega) (by omega) (by omega) (by omega) (by omega) (by omega)).trans ?_)))))))
    exact (w_up_no (by omega)).trans ((w_up_no (by omega)).trans ((w_up_no (by omega)).trans ((w_up_no (by omega)).trans (w_up_no (by omega)))))
  · have hg : wG = 1000000 := rfl
    refine (w_up_at (by first | decide | omega)).trans ((w_up_at (by first | decide | omega)).trans ((w_up_at (by first | decide | omega)).trans ((w_up_at (by first | decide | omega)).trans ((w_up_at (by first | decide | omega)).trans ((w_up_at (by first | decide | omega)).trans ((w_up_at (by first | decide | omega)).trans ((fr j (-1) (by omega) (by omega) (by omega) (by omega) (by omega) (by omega) (by omega) (by omega) (by omega)).trans ?_)))))))
    exact (w_up_at (by first | decide | omega)).trans ((w_up_at (by first | decide | omega)).trans ((w_up_at (by first | decide | omega)).trans ((w_up_at (by first | decide | omega)).trans (w_up_at (by first | decide | omega)))))
  · exact (gI_up (gI_up (gI_up (gI_up (gI_up (gI_up (gI_up gi (by first | decide | omega) (by first | decide | omega) (by first | decide | omega)) (by first | decide | omega) (by first | decide | omega) (by first | decide | omega)) (by first | decide | omega) (by first | decide | omega) (by first | decide | omega)) (by first | decide | omega) (by first | decide | omega) (by first | decide | omega)) (by first | decide | omega) (by first | decide | omega) (by first | decide | omega)) (by first | decide | omega) (by first | decide | omega) (by first | decide | omega)) (by first | decide | omega) (by first | decide | omega) (by first | decide | omega))
  · exact (rmR_up (rmR_up (rmR_up (rmR_up (rmR_up (rmR_up (rmR_up (rmR_tr (rmR_up (rmR_up (rmR_up (rmR_up (rmR_up (rmR_rfl S) (by first | decide | omega) (by first | decide | omega)) (by first | decide | omega) (by first | decide | omega)) (by first | decide | omega) (by first | decide | omega)) (by first | decide | omega) (by first | decide | omega)) (by first | decide | omega) (by first | decide | omega)) rm) (by first | decide | omega) (by first | decide | omega)) (by first | decide | omega) (by first | decide | omega)) (by first | decide | omega) (by first | decide | omega)) (by first | decide | omega) (by first | decide | omega)) (by first | decide | omega) (by first | decide | omega)) (by first | decide | omega) (by first | decide | omega)) (by first | decide | omega) (by first | decide | omega))
theorem bgw_226 (hC : w_CL S) (hI : gI S) (hW : cWd S T L G) (hu1 : 0 ≤ S 150 0 ∧ S 150 0 ≤ 8000) (hv1 : 0 ≤ S 150 1 ∧ S 150 1 ≤ 60000) (hz : S 140 2 ≤ 240200) (hL : (L.length : Int) ≤ 8000) (hf : -2147483648 ≤ f ∧ f ≤ 2147483647) : wJ (pe_GA xs) wY0 (mS [138, 139, 141, 142]) (d + 5) t_XK_begin ((pe_at t_XK_begin.bl 0).getD (0, [])).2 [(0, (2, 226)), (1, (0, f))] [] S (fun o Z => o = .inl none ∧ ∃ A : wS, ac_ag (-1) 0 (w_up (w_up (w_up (w_up (w_up S 226 13 0) 226 4 0) 227 2 0) 226 12 0) 226 13 1) A ∧ (w_up (w_up (w_up (w_up (w_up (w_up (w_up A 230 0 f) 231 0 0) 232 0 (L.length : Int)) 233 0 0) 234 0 0) 235 0 0) 226 4 1) = Z) := by
  obtain ⟨-, ⟨hn5, -⟩, -, ⟨⟨hl9, hl5, hl64, hl100⟩, hl14, hc2, hc16, hcm⟩, -, -⟩ := id hW
  refine wa_aload_n (n := 0) rfl ?_
  refine wa_cv 226 rfl (wy_pr rfl) wt_226 (M2 := fun _ => False) rfl at_XK_clear ⟨_, rfl⟩ rfl rfl ⟨(Or.inr ⟨wy_pr rfl, fun q => q⟩), trivial, trivial⟩ trivial (fun _ _ q => False.elim q) (tcl_226 (S := S)) (fun oq1 Sq1 hp2 q1 => ?_)
  rcases q1 with ⟨rfl, rfl⟩
  show wJ _ _ _ _ _ _ _ _ _ _
  refine wa_aload_n (n := 0) rfl ?_
  refine wa_iconst ?_
  refine wb_pfi 226 rfl (wy_pr rfl) wt_226 wf_8_13 (n := 13) rfl ⟨(by omega), (by omega)⟩ ?_
  refine wa_aload_n (n := 0) rfl ?_
  refine wa_iload_n (n := 1) rfl ?_
  refine wa_aload_n (n := 0) rfl ?_
  refine wb_gf4 226 rfl (wy_pr rfl) wt_226 wf_8_0 (v := 72) wl_226_0 ?_
  refine wa_iconst ?_
  refine wa_iconst ?_
  refine wa_cv 72 rfl (wy_pr rfl) wt_72 (M2 := mS [138, 139, 141, 142]) rfl at_XH_addCall ⟨_, rfl⟩ rfl rfl ⟨(Or.inr ⟨wy_pr rfl, mS_no rfl⟩), trivial, trivial⟩ ⟨trivial, (Or.inr ⟨wy_pr rfl, mS_no rfl⟩), trivial⟩ (fun _ _ q => q) (ac_ok (S := (w_up (w_up (w_up (w_up (w_up S 226 13 0) 226 4 0) 227 2 0) 226 12 0) 226 13 1)) (ar := -1) (vn := 0) (cs := S 140 2) (n := (L.length : Int)) (u0 := S 150 0) (v0 := S 150 1) (w_CL_up (w_CL_up (w_CL_up (w_CL_up (w_CL_up hC (by decide)) (by decide)) (by decide)) (by decide)) (by decide)) (gI_up (gI_up (gI_up (gI_up (gI_up hI (by decide) (by decide) (by decide)) (by decide) (by decide) (by decide)) (by decide) (by decide) (by decide)) (by decide) (by decide) (by decide)) (by decide) (by decide) (by decide)) rfl hc2 hl14 ⟨hc16, hcm⟩ hl9 hn5 ⟨by omega, by show _ ≤ S 138 (-1); omega⟩ ⟨by show 64 ≤ S 138 (-1); omega, by show S 138 (-1) ≤ _; omega⟩ rfl hu1 rfl hv1 (by decide) (by decide)) (fun oq3 Sq3 hp4 q3 => ?_)
  rcases q3 with ⟨rfl, hac⟩
  show wJ _ _ _ _ _ _ _ _ _ _
  refine wa_iconst ?_
  refine wb_lconst (m := 0) rfl ?_
  refine wa_iconst ?_
  refine wa_cv 226 rfl (wy_pr rfl) wt_226 (M2 := fun _ => False) rfl at_XK_push ⟨_, rfl⟩ rfl rfl ⟨(Or.inr ⟨wy_pr rfl, fun q => q⟩), trivial, trivial⟩ trivial (fun _ _ q => False.elim q) ?_ (fun _ _ _ q => q)
  refine wa_aload_n (n := 0) rfl ?_
  refine wb_gf4 226 rfl (wy_pr rfl) wt_226 wf_8_5 (v := 230) wl_226_5 ?_
  refine wa_aload_n (n := 0) rfl ?_
  refine wb_gfi 226 rfl (wy_pr rfl) wt_226 wf_8_4 (v := 0) (((hac.2.2.2.2.2.2.2.1 226 4 (by decide) (by decide) (by decide) (by decide) (by decide) (by decide) (by omega) (by omega) (by omega)).trans ((w_up_at (by decide)).trans ((w_up_at (by decide)).trans ((w_up_slot (by decide)).trans (w_up_same _ _ _ _)))))) (fun r5 => ?_)
  refine wa_iload_n (n := 1) rfl ?_
  refine wb_iast 230 rfl (wy_pr rfl) wt_230 (n := 200) (((hac.2.2.2.2.2.2.2.1 230 (-1) (by decide) (by decide) (by decide) (by decide) (by decide) (by decide) (by omega) (by omega) (by omega)).trans ((w_up_slot (by decide)).trans ((w_up_slot (by decide)).trans ((w_up_slot (by decide)).trans ((w_up_slot (by decide)).trans ((w_up_slot (by decide)).trans ((cl_230 hC))))))))) (by omega) (by omega) ⟨(by omega), (by omega)⟩ ?_
  refine wa_aload_n (n := 0) rfl ?_
  refine wb_gf4 226 rfl (wy_pr rfl) wt_226 wf_8_6 (v := 231) wl_226_6 ?_
  refine wa_aload_n (n := 0) rfl ?_
  refine wb_gfi 226 rfl (wy_pr rfl) wt_226 wf_8_4 (v := 0) ((w_up_slot (by decide)).trans (((hac.2.2.2.2.2.2.2.1 226 4 (by decide) (by decide) (by decide) (by decide) (by decide) (by decide) (by omega) (by omega) (by omega)).trans ((w_up_at (by decide)).trans ((w_up_at (by decide)).trans ((w_up_slot (by decide)).trans (w_up_same _ _ _ _))))))) (fun r6 => ?_)
  refine wa_iconst ?_
  refine wb_iast 231 rfl (wy_pr rfl) wt_231 (n := 200) ((w_up_slot (by decide)).trans (((hac.2.2.2.2.2.2.2.1 231 (-1) (by decide) (by decide) (by decide) (by decide) (by decide) (by decide) (by omega) (by omega) (by omega)).trans ((w_up_slot (by decide)).trans ((w_up_slot (by decide)).trans ((w_up_slot (by decide)).trans ((w_up_slot (by decide)).trans ((w_up_slot (by decide)).trans ((cl_231 hC)))))))))) (by omega) (by omega) ⟨(by omega), (by omega)⟩ ?_
  refine wa_aload_n (n := 0) rfl ?_
  refine wb_gf4 226 rfl (wy_pr rfl) wt_226 wf_8_7 (v := 232) wl_226_7 ?_
  refine wa_aload_n (n := 0) rfl ?_
  refine wb_gfi 226 rfl (wy_pr rfl) wt_226 wf_8_4 (v := 0) ((w_up_slot (by decide)).trans ((w_up_slot (by decide)).trans (((hac.2.2.2.2.2.2.2.1 226 4 (by decide) (by decide) (by decide) (by decide) (by decide) (by decide) (by omega) (by omega) (by omega)).trans ((w_up_at (by decide)).trans ((w_up_at (by decide)).trans ((w_up_slot (by decide)).trans (w_up_same _ _ _ _)))))))) (fun r7 => ?_)
  refine wa_iload_n (n := 2) rfl ?_
  refine wb_iast 232 rfl (wy_pr rfl) wt_232 (n := 200) ((w_up_slot (by decide)).trans ((w_up_slot (by decide)).trans (((hac.2.2.2.2.2.2.2.1 232 (-1) (by decide) (by decide) (by decide) (by decide) (by decide) (by decide) (by omega) (by omega) (by omega)).trans ((w_up_slot (by decide)).trans ((w_up_slot (by decide)).trans ((w_up_slot (by decide)).trans ((w_up_slot (by decide)).trans ((w_up_slot (by decide)).trans ((cl_232 hC))))))))))) (by omega) (by omega) ⟨(by omega), (by omega)⟩ ?_
  refine wa_aload_n (n := 0) rfl ?_
  refine wb_gf4 226 rfl (wy_pr rfl) wt_226 wf_8_8 (v := 233) wl_226_8 ?_
  refine wa_aload_n (n := 0) rfl ?_
  refine wb_gfi 226 rfl (wy_pr rfl) wt_226 wf_8_4 (v := 0) ((w_up_slot (by decide)).trans ((w_up_slot (by decide)).trans ((w_up_slot (by decide)).trans (((hac.2.2.2.2.2.2.2.1 226 4 (by decide) (by decide) (by decide) (by decide) (by decide) (by decide) (by omega) (by omega) (by omega)).trans ((w_up_at (by decide)).trans ((w_up_at (by decide)).trans ((w_up_slot (by decide)).trans (w_up_same _ _ _ _))))))))) (fun r8 => ?_)
  refine wa_iload_n (n := 3) rfl ?_
  refine wb_i2b_r (wb_i2b_id ⟨(by omega), (by omega)⟩) ?_
  refine wb_bast 233 rfl (wy_pr rfl) wt_233 (n := 200) ((w_up_slot (by decide)).trans ((w_up_slot (by decide)).trans ((w_up_slot (by decide)).trans (((hac.2.2.2.2.2.2.2.1 233 (-1) (by decide) (by decide) (by decide) (by decide) (by decide) (by decide) (by omega) (by omega) (by omega)).trans ((w_up_slot (by decide)).trans ((w_up_slot (by decide)).trans ((w_up_slot (by decide)).trans ((w_up_slot (by decide)).trans ((w_up_slot (by decide)).trans ((cl_233 hC)))))))))))) (by omega) (by omega) ⟨(by omega), (by omega)⟩ ?_
  refine wa_aload_n (n := 0) rfl ?_
  refine wb_gf4 226 rfl (wy_pr rfl) wt_226 wf_8_9 (v := 234) wl_226_9 ?_
  refine wa_aload_n (n := 0) rfl ?_
  refine wb_gfi 226 rfl (wy_pr rfl) wt_226 wf_8_4 (v := 0) ((w_up_slot (by decide)).trans ((w_up_slot (by decide)).trans ((w_up_slot (by decide)).trans ((w_up_slot (by decide)).trans (((hac.2.2.2.2.2.2.2.1 226 4 (by decide) (by decide) (by decide) (by decide) (by decide) (by decide) (by omega) (by omega) (by omega)).trans ((w_up_at (by decide)).trans ((w_up_at (by decide)).trans ((w_up_slot (by decide)).trans (w_up_same _ _ _ _)))))))))) (fun r9 => ?_)
  refine wa_lload (n := 4) rfl ?_
  refine wb_last 234 rfl (wy_pr rfl) wt_234 (n := 200) ((w_up_slot (by decide)).trans ((w_up_slot (by decide)).trans ((w_up_slot (by decide)).trans ((w_up_slot (by decide)).trans (((hac.2.2.2.2.2.2.2.1 234 (-1) (by decide) (by decide) (by decide) (by decide) (by decide) (by decide) (by omega) (by omega) (by omega)).trans ((w_up_slot (by decide)).trans ((w_up_slot (by decide)).trans ((w_up_slot (by decide)).trans ((w_up_slot (by decide)).trans ((w_up_slot (by decide)).trans ((cl_234 hC))))))))))))) (by omega) (by omega) ⟨(by omega), (by omega)⟩ ?_
  refine wa_aload_n (n := 0) rfl ?_
  refine wb_gf4 226 rfl (wy_pr rfl) wt_226 wf_8_10 (v := 235) wl_226_10 ?_
  refine wa_aload_n (n := 0) rfl ?_
  refine wb_gfi 226 rfl (wy_pr rfl) wt_226 wf_8_4 (v := 0) ((w_up_slot (by decide)).trans ((w_up_slot (by decide)).trans ((w_up_slot (by decide)).trans ((w_up_slot (by decide)).trans ((w_up_slot (by decide)).trans (((hac.2.2.2.2.2.2.2.1 226 4 (by decide) (by decide) (by decide) (by decide) (by decide) (by decide) (by omega) (by omega) (by omega)).trans ((w_up_at (by decide)).trans ((w_up_at (by decide)).trans ((w_up_slot (by decide)).trans (w_up_same _ _ _ _))))))))))) (fun r10 => ?_)
  refine wa_iload (n := 6) rfl ?_
  refine wb_zast 235 rfl (wy_pr rfl) wt_235 (n := 200) ((w_up_slot (by decide)).trans ((w_up_slot (by decide)).trans ((w_up_slot (by decide)).trans ((w_up_slot (by decide)).trans ((w_up_slot (by decide)).trans (((hac.2.2.2.2.2.2.2.1 235 (-1) (by decide) (by decide) (by decide) (by decide) (by decide) (by decide) (by omega) (by omega) (by omega)).trans ((w_up_slot (by decide)).trans ((w_up_slot (by decide)).trans ((w_up_slot (by decide)).trans ((w_up_slot (by decide)).trans ((w_up_slot (by decide)).trans ((cl_235 hC)))))))))))))) (by omega) (by omega) ⟨(by omega), (by omega)⟩ ?_
  refine wa_aload_n (n := 0) rfl ?_
  refine wa_dup (by decide) ?_
  refine wb_gfi 226 rfl (wy_pr rfl) wt_226 wf_8_4 (v := 0) ((w_up_slot (by decide)).trans ((w_up_slot (by decide)).trans ((w_up_slot (by decide)).trans ((w_up_slot (by decide)).trans ((w_up_slot (by decide)).trans ((w_up_slot (by decide)).trans (((hac.2.2.2.2.2.2.2.1 226 4 (by decide) (by decide) (by decide) (by decide) (by decide) (by decide) (by omega) (by omega) (by omega)).trans ((w_up_at (by decide)).trans ((w_up_at (by decide)).trans ((w_up_slot (by decide)).trans (w_up_same _ _ _ _)))))))))))) (fun r11 => ?_)
  refine wa_iconst ?_
  refine wa_iadd ?_
  refine wb_pfi 226 rfl (wy_pr rfl) wt_226 wf_8_4 (n := 4) rfl ⟨(by omega), (by omega)⟩ ?_
  refine wa_return rfl ?_
  show wJ _ _ _ _ _ _ _ _ _ _
  refine wa_return rfl ?_
  exact ⟨rfl, _, hac, rfl⟩
theorem bgk_226 (hK : cTk 226 S K) (hW : cWd S T L G) (hz : S 140 2 ≤ 240200) (hL : (L.length : Int) ≤ 8000) (h : ac_ag (-1) 0 (w_up (w_up (w_up (w_up (w_up S 226 13 0) 226 4 0) 227 2 0) 226 12 0) 226 13 1) A) : cTk 226 (w_up (w_up (w_up (w_up (w_up (w_up (w_up A 230 0 f) 231 0 0) 232 0 (L.length : Int)) 233 0 0) 234 0 0) 235 0 0) 226 4 1) (kBg f (L.length : Int) K.2.2.2.2) ∧ cWd (w_up (w_up (w_up (w_up (w_up (w_up (w_up A 230 0 f) 231 0 0) 232 0 (L.length : Int)) 233 0 0) 234 0 0) 235 0 0) 226 4 1) T (L ++ [(-1, [])]) G ∧ cFm 226 cMc S (w_up (w_up (w_up (w_up (w_up (w_up (w_up A 230 0 f) 231 0 0) 232 0 (L.length : Int)) 233 0 0) 234 0 0) 235 0 0) 226 4 1) ∧ (w_up (w_up (w_up (w_up (w_up (w_up (w_up A 230 0 f) 231 0 0) 232 0 (L.length : Int)) 233 0 0) 234 0 0) 235 0 0) 226 4 1) 150 0 = S 150 0 + 1 ∧ (w_up (w_up (w_up (w_up (w_up (w_up (w_up A 230 0 f) 231 0 0) 232 0 (L.length : Int)) 233 0 0) 234 0 0) 235 0 0) 226 4 1) 150 1 = S 150 1 ∧ (w_up (w_up (w_up (w_up (w_up (w_up (w_up A 230 0 f) 231 0 0) 232 0 (L.length : Int)) 233 0 0) 234 0 0) 235 0 0) 226 4 1) 140 2 = S 140 2 := by
  have hWA : cWd A T (L ++ [(-1, [])]) G := cWd_ac (vs := []) (cWd_up (cWd_up (cWd_up (cWd_up (cWd_up hW (by first | decide | omega)) (by first | decide | omega)) (by first | decide | omega)) (by first | decide | omega)) (by first | decide | omega)) h (fun _ _ _ => rfl) rfl (fun i hi => absurd hi (by show ¬ i < 0; omega)) hL (by show S 140 2 + 0 ≤ 240200; omega)
  obtain ⟨⟨a1, a2, a3⟩, -, -, a4, -, -, -, fr, gi, rm⟩ := h
  obtain ⟨⟨-, -, b1, b2, b3, b4⟩, -, ⟨-, b5, b6, b7, -⟩, -⟩ := hK
  replace b2 : S 229 (-1) = S 228 (-1) := b2
  replace b3 : 64 ≤ S 228 (-1) := b3
  replace b4 : S 228 (-1) ≤ 4095 := b4
  replace b6 : 48 ≤ S 236 (-1) := b6
  replace b7 : S 236 (-1) ≤ 60000 := b7
  have f2 : A 228 (-1) = S 228 (-1) := fr 228 (-1) (by first | decide | omega) (by first | decide | omega) (by first | decide | omega) (by first | decide | omega) (by first | decide | omega) (by first | decide | omega) (by omega) (by omega) (by omega)
  have f3 : A 229 (-1) = S 229 (-1) := fr 229 (-1) (by first | decide | omega) (by first | decide | omega) (by first | decide | omega) (by first | decide | omega) (by first | decide | omega) (by first | decide | omega) (by omega) (by omega) (by omega)
  have f10 : A 236 (-1) = S 236 (-1) := fr 236 (-1) (by first | decide | omega) (by first | decide | omega) (by first | decide | omega) (by first | decide | omega) (by first | decide | omega) (by first | decide | omega) (by omega) (by omega) (by omega)
  have f1 : A 227 2 = 0 := fr 227 2 (by first | decide | omega) (by first | decide | omega) (by first | decide | omega) (by first | decide | omega) (by first | decide | omega) (by first | decide | omega) (by omega) (by omega) (by omega)
  have f12 : A 226 12 = 0 := fr 226 12 (by first | decide | omega) (by first | decide | omega) (by first | decide | omega) (by first | decide | omega) (by first | decide | omega) (by first | decide | omega) (by omega) (by omega) (by omega)
  have f13 : A 226 13 = 1 := fr 226 13 (by first | decide | omega) (by first | decide | omega) (by first | decide | omega) (by first | decide | omega) (by first | decide | omega) (by first | decide | omega) (by omega) (by omega) (by omega)
  refine ⟨⟨⟨f1, fun i hi => absurd hi (by show ¬ i < 0; omega), by show (0 : Int) ≤ A 228 (-1); omega, by show A 229 (-1) = A 228 (-1); omega, by show 64 ≤ A 228 (-1); omega, by show A 228 (-1) ≤ 4095; omega⟩, ⟨rfl, by show 1 ≤ 200; omega, fun i hi => ?_⟩, ⟨f12, by show (0 : Int) ≤ A 236 (-1); omega, by show 48 ≤ A 236 (-1); omega, by show A 236 (-1) ≤ 60000; omega, fun i hi => absurd hi (by show ¬ i < 0; omega)⟩, f13, fun z => absurd (show (1 : Int) = 2 ∨ (1 : Int) = 3 from z) (by first | decide | omega)⟩, (cWd_up (cWd_up (cWd_up (cWd_up (cWd_up (cWd_up (cWd_up hWA (by first | decide | omega)) (by first | decide | omega)) (by first | decide | omega)) (by first | decide | omega)) (by first | decide | omega)) (by first | decide | omega)) (by first | decide | omega)), ⟨fun j x j0 j1 j2 j3 => ?_, fun j j0 j1 => ?_, ?_, ?_⟩, a2, a3.trans (Int.add_zero _), a4.trans (Int.add_zero _)⟩
  · have hi0 : i = 0 := by have : i < 1 := hi; omega
    subst hi0
    exact ⟨⟨rfl, rfl, rfl⟩, ⟨rfl, fun _ => ⟨rfl, rfl⟩, fun z => absurd (show (0 : Int) = 3 from z) (by first | decide | omega)⟩, Or.inl ⟨rfl, rfl⟩⟩
  · unfold cMc at j3
    refine (w_up_no (by omega)).trans ((w_up_no (by omega)).trans ((w_up_no (by omega)).trans ((w_up_no (by omega)).trans ((w_up_no (by omega)).trans ((w_up_no (by omega)).trans ((w_up_no (by omega)).trans ((fr j x j0 j1 (by omega) (by omega) (by omega) (by omega) (by omega) (by omega) (by omega)).trans ?_)))))))
    exact (w_up_no (by omega)).trans ((w_up_no (by omega)).trans ((w_up_no (by omega)).trans ((w_up_no (by omega)).trans (w_up_no (by omega)))))
  · have hg : wG = 1000000 := rfl
    refine (w_up_at (by first | decide | omega)).trans ((w_up_at (by first | decide | omega)).trans ((w_up_at (by first | decide | omega)).trans ((w_up_at (by first | decide | omega)).trans ((w_up_at (by first | decide | omega)).trans ((w_up_at (by first | decide | omega)).trans ((w_up_at (by first | decide | omega)).trans ((fr j (-1) (by omega) (by omega) (by omega) (by omega) (by omega) (by omega) (by omega) (by omega) (by omega)).trans ?_)))))))
    exact (w_up_at (by first | decide | omega)).trans ((w_up_at (by first | decide | omega)).trans ((w_up_at (by first | decide | omega)).trans ((w_up_at (by first | decide | omega)).trans (w_up_at (by first | decide | omega)))))
  · exact (gI_up (gI_up (gI_up (gI_up (gI_up (gI_up (gI_up gi (by first | decide | omega) (by first | decide | omega) (by first | decide | omega)) (by first | decide | omega) (by first | decide | omega) (by first | decide | omega)) (by first | decide | omega) (by first | decide | omega) (by first | decide | omega)) (by first | decide | omega) (by first | decide | omega) (by first | decide | omega)) (by first | decide | omega) (by first | decide | omega) (by first | decide | omega)) (by first | decide | omega) (by first | decide | omega) (by first | decide | omega)) (by first | decide | omega) (by first | decide | omega) (by first | decide | omega))
  · exact (rmR_up (rmR_up (rmR_up (rmR_up (rmR_up (rmR_up (rmR_up (rmR_tr (rmR_up (rmR_up (rmR_up (rmR_up (rmR_up (rmR_rfl S) (by first | decide | omega) (by first | decide | omega)) (by first | decide | omega) (by first | decide | omega)) (by first | decide | omega) (by first | decide | omega)) (by first | decide | omega) (by first | decide | omega)) (by first | decide | omega) (by first | decide | omega)) rm) (by first | decide | omega) (by first | decide | omega)) (by first | decide | omega) (by first | decide | omega)) (by first | decide | omega) (by first | decide | omega)) (by first | decide | omega) (by first | decide | omega)) (by first | decide | omega) (by first | decide | omega)) (by first | decide | omega) (by first | decide | omega)) (by first | decide | omega) (by first | decide | omega))
theorem xst (hx1 : pe_at (pe_GA xs).xs 1 = some (1, tx_1)) (hC : w_CL S) (hI : gI S) (hW : cWd S T L G) (hu1 : 0 ≤ S 150 0 ∧ S 150 0 ≤ 8000) (hv1 : 0 ≤ S 150 1 ∧ S 150 1 ≤ 60000) (hz : S 140 2 ≤ 240200) (hL : (L.length : Int) ≤ 8000) (h161 : S 161 (-1) = 2 ∧ S 161 0 = 215 ∧ S 161 1 = 226) (k0 : cTk 215 S K0) (k1 : cTk 226 S K1) (h30 : S 19 3 ≤ 16) (ht : -2147483648 ≤ t ∧ t ≤ 2147483647) (hu : -2147483648 ≤ u ∧ u ≤ 2147483647) : wJ (pe_GA xs) wY0 (mS [138, 139, 141, 142]) (d + 6) t_X_start ((pe_at t_X_start.bl 0).getD (0, [])).2 [(0, (2, 0)), (1, (0, t)), (2, (0, u))] [] S (fun o Z => (¬ ((0 ≤ t ∧ t < 2 ∧ 0 ≤ u ∧ u < S 19 3) ∧ (tkq K0 K1 t).2.2.2.1 ≠ 1 ∧ S 150 0 + 1 ≤ 8000) ∧ S = Z ∧ o = .inl (some (0, 0))) ∨ (((0 ≤ t ∧ t < 2 ∧ 0 ≤ u ∧ u < S 19 3) ∧ (tkq K0 K1 t).2.2.2.1 ≠ 1 ∧ S 150 0 + 1 ≤ 8000) ∧ o = .inl (some (0, 1)) ∧ ((t = 0 ∧ cTk 215 Z (kBg (S 30 u) (L.length : Int) K0.2.2.2.2) ∧ cFm 215 cMc S Z) ∨ (t = 1 ∧ cTk 226 Z (kBg (S 30 u) (L.length : Int) K1.2.2.2.2) ∧ cFm 226 cMc S Z)) ∧ cWd Z T (L ++ [(-1, [])]) G ∧ Z 150 0 = S 150 0 + 1 ∧ Z 150 1 = S 150 1 ∧ Z 140 2 = S 140 2)) := by
  refine wa_iload_n (n := 1) rfl ?_
  refine wa_iflt (w_rg0 (by omega) (by omega)) ⟨_, rfl⟩ (fun c1 => ?_) (fun c1 => ?_)
  · skip
    refine wa_iconst ?_
    refine wa_zreturn rfl (Or.inl rfl) ?_
    exact Or.inl ⟨fun z => by have := z.1; omega, rfl, rfl⟩
  · skip
    refine wa_iload_n (n := 1) rfl ?_
    refine wa_iconst ?_
    refine wa_icmpge (w_rg0 (by omega) (by omega)) (w_rg0 (by omega) (by omega)) ⟨_, rfl⟩ (fun c2 => ?_) (fun c2 => ?_)
    · skip
      refine wa_iconst ?_
      refine wa_zreturn rfl (Or.inl rfl) ?_
      exact Or.inl ⟨fun z => by have := z.1; omega, rfl, rfl⟩
    · skip
      refine wa_iload_n (n := 2) rfl ?_
      refine wa_iflt (w_rg0 (by omega) (by omega)) ⟨_, rfl⟩ (fun c3 => ?_) (fun c3 => ?_)
      · skip
        refine wa_iconst ?_
        refine wa_zreturn rfl (Or.inl rfl) ?_
        exact Or.inl ⟨fun z => by have := z.1; omega, rfl, rfl⟩
      · skip
        refine wa_iload_n (n := 2) rfl ?_
        refine wa_aload_n (n := 0) rfl ?_
        refine wb_gf4 0 rfl (wy_pr rfl) wt_0 wf_10_4 (v := 19) wl_0_4 ?_
        refine wb_gfi 19 rfl (wy_pr rfl) wt_19 wf_0_3 (v := (S 19 3)) rfl (fun r4 => ?_)
        refine wa_icmplt (w_rg0 (by omega) (by omega)) (w_rg0 (by omega) (by omega)) ⟨_, rfl⟩ (fun c5 => ?_) (fun c5 => ?_)
        · skip
          rcases (show t = 0 ∨ t = 1 by omega) with e | e
          · subst e
            have hst : S 215 13 = K0.2.2.2.1 := k0.2.2.2.1
            refine wa_aload_n (n := 0) rfl ?_
            refine wb_gf4 0 rfl (wy_pr rfl) wt_0 wf_10_9 (v := 161) wl_0_9 ?_
            refine wa_iload_n (n := 1) rfl ?_
            refine wb_aald14 161 rfl (wy_pr rfl) wt_161 (by omega) (n := 2) (h161.1) (by omega) (v := 215) (h161.2.1) ?_
            refine wa_astore_n (n := 3) rfl ?_
            refine wa_aload_n (n := 3) rfl ?_
            refine wb_gfi 215 rfl (wy_pr rfl) wt_215 wf_8_13 (v := (S 215 13)) rfl (fun r6 => ?_)
            refine wa_iconst ?_
            refine wa_icmpeq (w_rg0 (by omega) (by omega)) (w_rg0 (by omega) (by omega)) ⟨_, rfl⟩ (fun c7 => ?_) (fun c7 => ?_)
            · skip
              refine wa_iconst ?_
              refine wa_zreturn rfl (Or.inl rfl) ?_
              refine Or.inl ⟨fun z => ?_, rfl, rfl⟩
              rw [show tkq K0 K1 0 = K0 from if_pos rfl] at z; have := z.2; omega
            · skip
              refine wa_aload_n (n := 0) rfl ?_
              refine wb_gf4 0 rfl (wy_pr rfl) wt_0 wf_10_7 (v := 72) wl_0_7 ?_
              refine wa_iconst ?_
              refine wa_iconst ?_
              refine wa_cv 72 rfl (wy_pr rfl) wt_72 (M2 := fun _ => False) rfl at_XH_hasRoom ⟨_, rfl⟩ rfl rfl ⟨(Or.inr ⟨wy_pr rfl, fun q => q⟩), (Or.inr ⟨wy_pr rfl, fun q => q⟩), trivial, trivial, trivial⟩ trivial (fun _ _ q => False.elim q) ?_ (fun _ _ _ q => q)
              refine wa_aload_n (n := 0) rfl ?_
              refine wb_gf4 72 rfl (wy_pr rfl) wt_72 wf_2_10 (v := 150) wl_72_10 ?_
              refine wa_iload_n (n := 1) rfl ?_
              refine wb_iald 150 rfl (wy_pr rfl) wt_150 (n := 6) ((cl_150 hC)) (by omega) (by omega) (v := (S 150 0)) rfl (fun r8 => ?_)
              refine wa_iload_n (n := 2) rfl ?_
              refine wa_iadd ?_
              refine wa_gs ?_
              refine wa_iload_n (n := 1) rfl ?_
              refine wb_xald 1 rfl hx1 (by decide) (by omega) (by decide) (v := 8000) (by decide) (fun r9 => ?_)
              refine wa_icmpgt (w_rg0 (by omega) (by omega)) (w_rg0 (by omega) (by omega)) ⟨_, rfl⟩ (fun c10 => ?_) (fun c10 => ?_)
              · skip
                refine wa_iconst ?_
                refine wa_fall ⟨_, rfl⟩ ?_
                refine wa_zreturn rfl (Or.inl rfl) ?_
                show wJ _ _ _ _ _ _ _ _ _ _
                refine wa_ifne (w_rg0 (by omega) (by omega)) ⟨_, rfl⟩ (fun c11 => ?_) (fun c11 => ?_)
                · skip
                  exact absurd c11 (by omega)
                · skip
                  refine wa_fall ⟨_, rfl⟩ ?_
                  refine wa_iconst ?_
                  refine wa_zreturn rfl (Or.inl rfl) ?_
                  refine Or.inl ⟨fun z => ?_, rfl, rfl⟩
                  rw [show tkq K0 K1 0 = K0 from if_pos rfl] at z; have := z.2; omega
              · skip
                refine wa_iconst ?_
                refine wa_goto ⟨_, rfl⟩ ?_
                refine wa_zreturn rfl (Or.inr rfl) ?_
                show wJ _ _ _ _ _ _ _ _ _ _
                refine wa_ifne (w_rg0 (by omega) (by omega)) ⟨_, rfl⟩ (fun c12 => ?_) (fun c12 => ?_)
                · skip
                  refine wa_aload_n (n := 3) rfl ?_
                  refine wa_aload_n (n := 0) rfl ?_
                  refine wb_gf4 0 rfl (wy_pr rfl) wt_0 wf_10_4 (v := 19) wl_0_4 ?_
                  refine wb_gf4 19 rfl (wy_pr rfl) wt_19 wf_0_2 (v := 30) wl_19_2 ?_
                  refine wa_iload_n (n := 2) rfl ?_
                  refine wb_iald 30 rfl (wy_pr rfl) wt_30 (n := 16) ((cl_30 hC)) (by omega) (by omega) (v := (S 30 u)) rfl (fun r13 => ?_)
                  refine wa_cv 215 rfl (wy_pr rfl) wt_215 (M2 := mS [138, 139, 141, 142]) rfl at_XK_begin ⟨_, rfl⟩ rfl rfl ⟨(Or.inr ⟨wy_pr rfl, mS_no rfl⟩), (Or.inr ⟨wy_pr rfl, mS_no rfl⟩), trivial, trivial, trivial⟩ trivial (fun _ _ q => q) (bgw_215 (S := S) (f := S 30 u) (T := T) (L := L) (G := G) hC hI hW hu1 hv1 hz hL (by omega)) (fun oq14 Sq14 hp15 q14 => ?_)
                  rcases q14 with ⟨rfl, A, hac, rfl⟩
                  show wJ _ _ _ _ _ _ _ _ _ _
                  refine wa_iconst ?_
                  refine wa_zreturn rfl (Or.inr rfl) ?_
                  obtain ⟨g1, g2, g3, g4, g5, g6⟩ := bgk_215 (f := S 30 u) k0 hW hz hL hac
                  refine Or.inr ⟨⟨⟨by omega, by omega, by omega, by omega⟩, ?_, by omega⟩, rfl, Or.inl ⟨rfl, g1, g3⟩, g2, g4, g5, g6⟩
                  rw [show tkq K0 K1 0 = K0 from if_pos rfl]; omega
                · skip
                  exact absurd c12 (by omega)
          · subst e
            have hst : S 226 13 = K1.2.2.2.1 := k1.2.2.2.1
            refine wa_aload_n (n := 0) rfl ?_
            refine wb_gf4 0 rfl (wy_pr rfl) wt_0 wf_10_9 (v := 161) wl_0_9 ?_
            refine wa_iload_n (n := 1) rfl ?_
            refine wb_aald14 161 rfl (wy_pr rfl) wt_161 (by omega) (n := 2) (h161.1) (by omega) (v := 226) (h161.2.2) ?_
            refine wa_astore_n (n := 3) rfl ?_
            refine wa_aload_n (n := 3) rfl ?_
            refine wb_gfi 226 rfl (wy_pr rfl) wt_226 wf_8_13 (v := (S 226 13)) rfl (fun r16 => ?_)
            refine wa_iconst ?_
            refine wa_icmpeq (w_rg0 (by omega) (by omega)) (w_rg0 (by omega) (by omega)) ⟨_, rfl⟩ (fun c17 => ?_) (fun c17 => ?_)
            · skip
              refine wa_iconst ?_
              refine wa_zreturn rfl (Or.inl rfl) ?_
              refine Or.inl ⟨fun z => ?_, rfl, rfl⟩
              rw [show tkq K0 K1 1 = K1 from if_neg (by first | decide | omega)] at z; have := z.2; omega
            · skip
              refine wa_aload_n (n := 0) rfl ?_
              refine wb_gf4 0 rfl (wy_pr rfl) wt_0 wf_10_7 (v := 72) wl_0_7 ?_
              refine wa_iconst ?_
              refine wa_iconst ?_
              refine wa_cv 72 rfl (wy_pr rfl) wt_72 (M2 := fun _ => False) rfl at_XH_hasRoom ⟨_, rfl⟩ rfl rfl ⟨(Or.inr ⟨wy_pr rfl, fun q => q⟩), (Or.inr ⟨wy_pr rfl, fun q => q⟩), trivial, trivial, trivial⟩ trivial (fun _ _ q => False.elim q) ?_ (fun _ _ _ q => q)
              refine wa_aload_n (n := 0) rfl ?_
              refine wb_gf4 72 rfl (wy_pr rfl) wt_72 wf_2_10 (v := 150) wl_72_10 ?_
              refine wa_iload_n (n := 1) rfl ?_
              refine wb_iald 150 rfl (wy_pr rfl) wt_150 (n := 6) ((cl_150 hC)) (by omega) (by omega) (v := (S 150 0)) rfl (fun r18 => ?_)
              refine wa_iload_n (n := 2) rfl ?_
              refine wa_iadd ?_
              refine wa_gs ?_
              refine wa_iload_n (n := 1) rfl ?_
              refine wb_xald 1 rfl hx1 (by decide) (by omega) (by decide) (v := 8000) (by decide) (fun r19 => ?_)
              refine wa_icmpgt (w_rg0 (by omega) (by omega)) (w_rg0 (by omega) (by omega)) ⟨_, rfl⟩ (fun c20 => ?_) (fun c20 => ?_)
              · skip
                refine wa_iconst ?_
                refine wa_fall ⟨_, rfl⟩ ?_
                refine wa_zreturn rfl (Or.inl rfl) ?_
                show wJ _ _ _ _ _ _ _ _ _ _
                refine wa_ifne (w_rg0 (by omega) (by omega)) ⟨_, rfl⟩ (fun c21 => ?_) (fun c21 => ?_)
                · skip
                  exact absurd c21 (by omega)
                · skip
                  refine wa_fall ⟨_, rfl⟩ ?_
                  refine wa_iconst ?_
                  refine wa_zreturn rfl (Or.inl rfl) ?_
                  refine Or.inl ⟨fun z => ?_, rfl, rfl⟩
                  rw [show tkq K0 K1 1 = K1 from if_neg (by first | decide | omega)] at z; have := z.2; omega
              · skip
                refine wa_iconst ?_
                refine wa_goto ⟨_, rfl⟩ ?_
                refine wa_zreturn rfl (Or.inr rfl) ?_
                show wJ _ _ _ _ _ _ _ _ _ _
                refine wa_ifne (w_rg0 (by omega) (by omega)) ⟨_, rfl⟩ (fun c22 => ?_) (fun c22 => ?_)
                · skip
                  refine wa_aload_n (n := 3) rfl ?_
                  refine wa_aload_n (n := 0) rfl ?_
                  refine wb_gf4 0 rfl (wy_pr rfl) wt_0 wf_10_4 (v := 19) wl_0_4 ?_
                  refine wb_gf4 19 rfl (wy_pr rfl) wt_19 wf_0_2 (v := 30) wl_19_2 ?_
                  refine wa_iload_n (n := 2) rfl ?_
                  refine wb_iald 30 rfl (wy_pr rfl) wt_30 (n := 16) ((cl_30 hC)) (by omega) (by omega) (v := (S 30 u)) rfl (fun r23 => ?_)
                  refine wa_cv 226 rfl (wy_pr rfl) wt_226 (M2 := mS [138, 139, 141, 142]) rfl at_XK_begin ⟨_, rfl⟩ rfl rfl ⟨(Or.inr ⟨wy_pr rfl, mS_no rfl⟩), (Or.inr ⟨wy_pr rfl, mS_no rfl⟩), trivial, trivial, trivial⟩ trivial (fun _ _ q => q) (bgw_226 (S := S) (f := S 30 u) (T := T) (L := L) (G := G) hC hI hW hu1 hv1 hz hL (by omega)) (fun oq24 Sq24 hp25 q24 => ?_)
                  rcases q24 with ⟨rfl, A, hac, rfl⟩
                  show wJ _ _ _ _ _ _ _ _ _ _
                  refine wa_iconst ?_
                  refine wa_zreturn rfl (Or.inr rfl) ?_
                  obtain ⟨g1, g2, g3, g4, g5, g6⟩ := bgk_226 (f := S 30 u) k1 hW hz hL hac
                  refine Or.inr ⟨⟨⟨by omega, by omega, by omega, by omega⟩, ?_, by omega⟩, rfl, Or.inr ⟨rfl, g1, g3⟩, g2, g4, g5, g6⟩
                  rw [show tkq K0 K1 1 = K1 from if_neg (by first | decide | omega)]; omega
                · skip
                  exact absurd c22 (by omega)
        · skip
          refine wa_fall ⟨_, rfl⟩ ?_
          refine wa_iconst ?_
          refine wa_zreturn rfl (Or.inl rfl) ?_
          exact Or.inl ⟨fun z => by have := z.1; omega, rfl, rfl⟩
end Win
