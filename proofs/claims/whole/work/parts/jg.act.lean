/-! PART jg: acting at a site by tasks: NEW of a fun: of the class. -/
section Wjg
variable {xs : List (Nat × List Int32)} {d : Nat} {Y : wS} {K : aK} {T : List aO} {H : List aH} {L : List aC} {G : Int → aV} {x kd ec gk gb es hd wh e50 l : Int} {ba : Nat} {S A B Z V : wS} {w : Nat} {kd2 sh fo : Int}
theorem at_bd {kd : Int} (hw : w = 215 ∨ w = 226) (hk : cTk w A K) (hW : cWd A T L G) (hsw : cSw A T H) (hwS : wSh T H) (hT : (T.length : Int) ≤ 8000) (hc5 : A 140 2 ≤ 240200) (r : at_ag kd sh fo 0 A B) : cTk w B K ∧ cWd B (T ++ [(kd, sh, fo, -1, -1, 0, [])]) L G ∧ cSw B (T ++ [(kd, sh, fo, -1, -1, 0, [])]) H ∧ cFm w cMk A B ∧ (B 150 0 = A 150 0 + 1 ∧ ∀ x : Int, x ≠ 0 → B 150 x = A 150 x) ∧ (cPo A → cPo B) ∧ B w 16 = A w 16 := by
  have hg : wG = 1000000 := rfl
  have hn : A 72 3 = (T.length : Int) := hW.1.1
  have hWA := cWd_at (ar := -1) hW r ⟨Int.le_refl _, by omega⟩ hT
  rw [hn] at hWA
  have e6 : B 136 (T.length : Int) = -1 := by rw [← hn]; exact r.2.1.2.2.2.2.2
  rw [← w_up_eta e6] at hWA
  obtain ⟨⟨a1, a2⟩, ⟨-, ⟨-, -, b6⟩, -⟩, cr, -, -, -, -, fr, gB, rB⟩ := id r
  have es : ∀ (j : Nat) (x : Int), j < 4000000 → j ≠ wG → ¬ cMk j x → B j x = A j x := fun j x j0 j1 j2 => by
    unfold cMk at j2
    exact fr j x j0 j1 (by omega) (by omega) (by omega) (by omega) (by omega) (by omega)
  have es2 : ∀ (j : Nat) (x : Int), (160 < j ∨ j < 72) → j < 237 → B j x = A j x := fun j x j0 j1 => es j x (by omega) (by omega) (by unfold cMk; omega)
  have hkB : cTk w B K := cTk_fr hk (cTx_of (es2 2 1 (by first | decide | omega) (by first | decide | omega)) (fun x => es2 3 x (by first | decide | omega) (by first | decide | omega))) (fun j y j0 j1 => es2 j y (by omega) (by omega))
  have fB : cFm w cMk A B := ⟨fun j x j0 j1 _ j3 => es j x j0 j1 j3, fun j j0 j1 => es2 j (-1) (by omega) (by omega), gB, rB⟩
  have swB : cSw B (T ++ [(kd, sh, fo, -1, -1, 0, [])]) H := by
    have sw1 : cSw (w_up B 132 (T.length : Int) (B 132 (T.length : Int))) T H := by
      rw [← w_up_eta (S := B) (j := 132) (i := (T.length : Int)) rfl]
      exact cSw_ag hsw (fun j x hj => by
        rcases hj with z | ⟨z, z1, z2⟩ | z
        · exact fr j x (by omega) (by omega) (by omega) (by omega) (by omega) (by omega) (by omega) (by omega)
        · subst z; exact cr 5 (by first | decide | omega) x z1 (by omega)
        · exact fr j x (by omega) (by omega) (by omega) (by omega) (by omega) (by omega) (by omega) (by omega))
    rw [← w_up_eta (S := B) (j := 132) (i := (T.length : Int)) rfl] at sw1
    obtain ⟨q1, q2, q3, q4⟩ := sw1
    refine ⟨q1, q2, q3, fun x x0 x1 => ?_⟩
    rw [List.length_append] at x1
    by_cases c : x < (T.length : Int)
    · exact q4 x x0 c
    · have ex : x = (T.length : Int) := by
        have : ([((kd, sh, fo, -1, -1, 0, []) : aO)]).length = 1 := rfl
        omega
      rw [ex, aFs_nw hwS, ← hn]; exact b6
  exact ⟨hkB, hWA, swB, fB, ⟨a2, fun x hx => es 150 x (by first | decide | omega) (by first | decide | omega) (by unfold cMk; omega)⟩, fun po => cPo_at po (by omega) r, es2 w 16 (by omega) (by omega)⟩
/-- NEW of a fun changes beside its task -/
def cMw (j : Nat) (x : Int) : Prop := cMb j x ∨ cMc j x
/-- what NEW comes to -/
def naP (w : Nat) (K : aK) (T1 : List aO) (H1 : List aH) (L : List aC) (G : Int → aV) (ba : Nat) (f ar : Int) (vn : Nat) (pn sh n ds : Int) (Y V : wS) : Prop := V w 16 = 0 ∧ cTk w V (kCl K (K.1.take ba) ((K.2.1.getD (K.2.1.length - 1) (0, 0, 0, (0, 0, []), 0, 0, 0)).2.1 + 1) f (L.length : Int) (4, n, []) n) ∧ cWd V (T1 ++ [(4, sh, -1, -1, -1, 0, [])]) (L ++ [(ar, aVr K.1 ba (esN K ba pn) vn)]) G ∧ cSw V (T1 ++ [(4, sh, -1, -1, -1, 0, [])]) H1 ∧ cFm w cMw Y V ∧ (V 150 0 = Y 150 0 + 2 ∧ V 150 1 = Y 150 1 + (vn : Int) ∧ V 150 4 = Y 150 4 + ds) ∧ (cPo Y → cPo V)
def naQ (T : List aO) (H : List aH) (q : Int) (Y : wS) : Prop := q ≠ -1 ∧ aFs (-1) q (-1) H 0 = -1 ∧ 4000 ≤ Y 150 4
def naR (w : Nat) (K : aK) (T : List aO) (H : List aH) (L : List aC) (G : Int → aV) (ba : Nat) (f ar : Int) (vn : Nat) (pn q : Int) (Y V : wS) : Prop := (K.2.1.length = 200 ∧ w_up Y w 16 11 = V) ∨ (K.2.1.length < 200 ∧ (8000 < Y 150 0 + 2 ∨ 60000 < Y 150 1 + (vn : Int) ∨ naQ T H q Y) ∧ w_up Y w 16 99 = V) ∨ (K.2.1.length < 200 ∧ (Y 150 0 + 2 ≤ 8000 ∧ Y 150 1 + (vn : Int) ≤ 60000 ∧ ¬ naQ T H q Y) ∧ naP w K (aBr T H q).1 (aBr T H q).2.1 L G ba f ar vn pn (aBr T H q).2.2 (T.length : Int) (if q ≠ -1 ∧ aFs (-1) q (-1) H 0 = -1 then 1 else 0) Y V)
theorem anw_215 {R : wS → Prop} (hC : w_CL S) (hI : gI S) (hl : cSl S) (hx : 0 ≤ x ∧ x < S 48 (-1)) (e48 : S 48 x = 0) (l7 : S 158 7 = kd) (hkd : kd = 6) (l10 : S 158 10 = gb) (hgb : 0 ≤ gb ∧ gb < 8000) (hcm : wJ (pe_GA xs) wY0 (mS [217, 218, 127, 128, 129, 130, 131, 132, 133, 134, 135, 136, 141, 142, 138, 139, 144, 145, 146, 147, 148]) d t_XL_makeNew ((pe_at t_XL_makeNew.bl 0).getD (0, [])).2 [(0, (2, 158)), (1, (0, gb))] [] S (fun o Z => o = .inl none ∧ R Z)) : wJ (pe_GA xs) wY0 (mS [217, 218, 127, 128, 129, 130, 131, 132, 133, 134, 135, 136, 141, 142, 138, 139, 144, 145, 146, 147, 148]) (d + 1) t_XL_act ((pe_at t_XL_act.bl 0).getD (0, [])).2 [(0, (2, 158)), (1, (0, x))] [] S (fun o Z => o = .inl none ∧ R Z) := by
  have h35 := hl.2.1
  have h48 := hl.2.2.2
  refine wa_aload_n (n := 0) rfl ?_
  refine wb_gf4 158 rfl (wy_pr rfl) wt_158 wf_5_3 (v := 47) wl_158_3 ?_
  refine wa_iconst ?_
  refine wb_aald5 47 3 rfl rfl (wy_pr rfl) wt_47 (by rw [show _ = _ from ((cl_47 hC))]; omega) wl_47_3 ?_
  refine wa_iload_n (n := 1) rfl ?_
  refine wb_iald 51 rfl (wy_pr rfl) wt_51 (n := (S 48 (-1))) ((hl.2.2.1 3 (by decide))) (by omega) (by omega) (v := (S 51 x)) rfl (fun r1 => ?_)
  refine wa_istore_n (n := 2) rfl ?_
  refine wa_aload_n (n := 0) rfl ?_
  refine wb_gf4 158 rfl (wy_pr rfl) wt_158 wf_5_3 (v := 47) wl_158_3 ?_
  refine wa_iconst ?_
  refine wb_aald5 47 0 rfl rfl (wy_pr rfl) wt_47 (by rw [show _ = _ from ((cl_47 hC))]; omega) wl_47_0 ?_
  refine wa_iload_n (n := 1) rfl ?_
  refine wb_iald 48 rfl (wy_pr rfl) wt_48 (n := (S 48 (-1))) (rfl) (by omega) (by omega) (v := 0) (e48) (fun r2 => ?_)
  refine wa_lw (tb := 0) (w_rg0 (by omega) (by omega)) (q := (27, 1)) (by first | rfl | decide) ⟨_, rfl⟩ ?_
  refine wa_aload_n (n := 0) rfl ?_
  refine wb_gfi 158 rfl (wy_pr rfl) wt_158 wf_5_7 (v := kd) (l7) (fun r3 => ?_)
  refine wa_bipush (w_rg2 (by omega) (by omega)) ?_
  refine wa_icmpne (w_rg0 (by omega) (by omega)) (w_rg0 (by omega) (by omega)) ⟨_, rfl⟩ (fun c4 => ?_) (fun c4 => ?_)
  · skip
    exact absurd c4 (by omega)
  · skip
    refine wa_aload_n (n := 0) rfl ?_
    refine wa_aload_n (n := 0) rfl ?_
    refine wb_gfl 158 rfl (wy_pr rfl) wt_158 wf_5_10 (v := gb) (l10) (fun r5 => ?_)
    refine wb_l2i_r (wb_l2i_id ⟨(by omega), (by omega)⟩) ?_
    refine wa_cv 158 rfl (wy_pr rfl) wt_158 (M2 := mS [217, 218, 127, 128, 129, 130, 131, 132, 133, 134, 135, 136, 141, 142, 138, 139, 144, 145, 146, 147, 148]) rfl at_XL_makeNew ⟨_, rfl⟩ rfl rfl ⟨trivial, (Or.inr ⟨wy_pr rfl, mS_no rfl⟩), trivial, trivial⟩ trivial (fun _ _ q => q) (hcm) (fun oq6 Sq6 hp7 q6 => ?_)
    rcases q6 with ⟨rfl, hR⟩
    show wJ _ _ _ _ _ _ _ _ _ _
    refine wa_goto ⟨_, rfl⟩ ?_
    refine wa_return rfl ?_
    exact ⟨rfl, hR⟩
theorem enN_215 {T1 : List aO} {H1 : List aH} {f ar pn : Int} {vn : Nat} (hKA : cTk 215 A K) (hWA : cWd A T1 L G) (hsA : cSw A T1 H1) (hwA : wSh T1 H1) (hl1 : T1.length = T.length) (hT : (T.length : Int) ≤ 8000) (hc5 : A 140 2 + (vn : Int) ≤ 240200) (a16 : A 215 16 = 0) (k0 : 0 < K.2.1.length) (hKc : K.2.1.length < 200) (hba : ba < K.1.length) (hp : 0 ≤ pn) (hv1 : vn ≤ 1000) (hLc : (L.length : Int) ≤ 8000) (hB : at_ag 4 sh (-1) 0 A B) (hV : enQ_215 ar (vn : Int) (if (K.1.length : Int) - (ba : Int) - 1 ≤ pn then (K.1.length : Int) - (ba : Int) - 1 else pn) (ba : Int) (K.2.1.length : Int) (K.2.1.getD (K.2.1.length - 1) (0, 0, 0, (0, 0, []), 0, 0, 0)).2.1 f (L.length : Int) 4 (T.length : Int) 1 (B 140 2) B V) : V 215 16 = 0 ∧ cTk 215 V (kCl K (K.1.take ba) ((K.2.1.getD (K.2.1.length - 1) (0, 0, 0, (0, 0, []), 0, 0, 0)).2.1 + 1) f (L.length : Int) (4, (T.length : Int), []) (T.length : Int)) ∧ cWd V (T1 ++ [(4, sh, -1, -1, -1, 0, [])]) (L ++ [(ar, aVr K.1 ba (esN K ba pn) vn)]) G ∧ cSw V (T1 ++ [(4, sh, -1, -1, -1, 0, [])]) H1 ∧ cFm 215 cMw A V ∧ (V 150 0 = A 150 0 + 2 ∧ V 150 1 = A 150 1 + (vn : Int) ∧ V 150 4 = A 150 4) ∧ (cPo A → cPo V) := by
  obtain ⟨g1, g2, g3, g4, ⟨g5, g6⟩, g7, g8⟩ := at_bd (w := 215) (by omega) hKA hWA hsA hwA (by rw [hl1]; exact hT) (by omega) hB
  obtain ⟨e1, e2⟩ := esN_e (K := K) (ba := ba) hba hp
  rw [← e1] at hV
  have e140 : B 140 2 = A 140 2 := by have := hB.2.2.2.1; omega
  have z16 : V 215 16 = B 215 16 := by
    obtain ⟨A2, B2, hA2, hB2, rfl⟩ := id hV
    refine (w_up_no (by omega)).trans ((w_up_no (by omega)).trans ((w_up_no (by omega)).trans ((w_up_no (by omega)).trans ((w_up_no (by omega)).trans ((w_up_no (by omega)).trans ((w_up_no (by omega)).trans ((w_up_no (by omega)).trans ((w_up_no (by omega)).trans ((hB2.2 215 16 (Or.inl (by omega))).trans ?_)))))))))
    exact hA2.2.2.2.2.2.2.2.1 215 16 (by first | decide | omega) (by first | decide | omega) (by first | decide | omega) (by first | decide | omega) (by first | decide | omega) (by first | decide | omega) (by omega) (by omega) (by omega)
  obtain ⟨r1, r2, r3, r4, r5, r6⟩ := en_k_215 (md := (T.length : Int)) (th := (4, (T.length : Int), [])) g1 g2 hV k0 hKc e2 (cV_e (by first | decide | omega) rfl) (Or.inr ⟨by omega, rfl, rfl⟩) hLc (by omega)
  refine ⟨z16.trans (g8.trans a16), r1, r2, cSw_ag g3 (fun j i hj => r3.1 j i (by omega) (by unfold wG; omega) (by omega) (by unfold cMc; omega)), cFm_tr (cFm_m (fun j i q => Or.inl (Or.inl q)) g4) (cFm_m (fun j i q => Or.inr q) r3), ⟨by rw [r4, g5]; omega, by rw [r5, g6 1 (by first | decide | omega)], (r3.1 150 4 (by first | decide | omega) (by first | decide | omega) (by first | decide | omega) (by unfold cMc; omega)).trans (g6 4 (by first | decide | omega))⟩, fun po => r6 (g7 po)⟩
theorem anN_215 {f ar pn nm : Int} {vn : Nat} (hx1 : pe_at (pe_GA xs).xs 1 = some (1, tx_1)) (h : rdC 215 kd ec ba gk gb es x 0 K T L G Y) (hkd : kd = 6) (hsw : cSw Y T H) (hwS : wSh T H) (hf5 : isO T gb) (hfn : cFn T gb f ar vn pn Y) (hu1 : 0 ≤ Y 150 0 ∧ Y 150 0 ≤ 8000) (hv1 : 0 ≤ Y 150 1 ∧ Y 150 1 ≤ 60000) (hu4 : 0 ≤ Y 150 4 ∧ Y 150 4 ≤ 4000 ∧ (H.length : Int) ≤ Y 150 4 + 1) (hz : Y 140 2 ≤ 4 * Y 150 1) (hLc : (L.length : Int) ≤ 8000) (h7 : Y 7 16 = nm) (h7l : 16 < Y 7 (-1)) (hnm : nm = -1 ∨ (0 ≤ nm ∧ nm ≤ 100000)) (hpo : ∀ k : Int, isO T k → 0 ≤ aIx T nm k → (prV T nm k).1 = 4 ∨ (prV T nm k).1 = 5 → isO T (prV T nm k).2.1) : wJ (pe_GA xs) wY0 (mS [217, 218, 127, 128, 129, 130, 131, 132, 133, 134, 135, 136, 141, 142, 138, 139, 144, 145, 146, 147, 148]) (d + 10) t_XL_act ((pe_at t_XL_act.bl 0).getD (0, [])).2 [(0, (2, 158)), (1, (0, x))] [] Y (fun o V => o = .inl none ∧ naR 215 K T H L G ba f ar vn pn (npA T H nm gb) Y V) := by
  obtain ⟨⟨h, hW, hl, hT⟩, ⟨l4, l5, l7, l8, l9, l10, l12, l13⟩, y16, ⟨hx, e48⟩, hba⟩ := h
  have hP := xP_of (w := 215) (by omega) h
  rw [← w_up_eta y16] at hP
  obtain ⟨hTh, hCa, -, ⟨⟨m1, m2, m3, m4⟩, hl14, ⟨c0, c1⟩, hz16, hz10⟩, ⟨t1, t2, t3, t4⟩, -⟩ := id hW
  obtain ⟨hK, ⟨hC, hI⟩, ⟨k0, k1, -⟩, -⟩ := id h
  obtain ⟨f1, ⟨f2, f3⟩, f4, ⟨f5, f6⟩, f7, f8⟩ := hfn
  obtain ⟨⟨-, -, x3, x4, -⟩, -⟩ := hTh.2 gb.toNat (by omega)
  rw [show ((gb.toNat : Nat) : Int) = gb by omega] at x3 x4
  replace x3 : Y 129 gb = f := x3.trans f2
  replace x4 : Y 136 gb = ar := x4.trans f3
  have hn := hTh.1
  refine anw_215 hC hI hl hx e48 l7 hkd l10 ⟨f1.1, by omega⟩ (mnh (d := d + 7) hC hsw hTh ⟨t1, t2, t3, t4⟩ ⟨hl14, ⟨c0, c1⟩, hz10⟩ hwS hT hf5 h7 h7l hnm hpo ?_)
  rcases npA_rg hwS hf5 hpo with hq | hq
  · rw [hq]
    refine wJ_mono (wJ_M (mn5n_215 (d := d) (c := (K.2.1.length : Int)) (p := (K.2.1.getD (K.2.1.length - 1) (0, 0, 0, (0, 0, []), 0, 0, 0)).2.1) (h := (K.1.length : Int)) (ba := (ba : Int)) (cs := Y 140 2) (n := (T.length : Int)) (u0 := Y 150 0) (nc := (L.length : Int)) (v0 := Y 150 1) (fn := gb) (f := f) (ar := ar) (vs := (vn : Int)) (pn := pn) hP l4 l8 ⟨by omega, by omega⟩ hx1 rfl ⟨c0, c1⟩ ⟨hz16, hz10⟩ t1 hn ⟨by omega, t2⟩ ⟨t3, t4⟩ rfl hu1 hl14 m1 hCa.1 ⟨by omega, by omega⟩ ⟨by omega, by omega⟩ rfl hv1 f1 x3 f4 x4 f5 ⟨by omega, by omega⟩ f7 f8 hz y16) (fun j hj => ?_)) (fun o V hq2 => ?_)
    · unfold mS at hj ⊢
      simp only [List.mem_cons, List.not_mem_nil, or_false] at hj ⊢
      omega
    obtain ⟨rfl, hq2⟩ := hq2
    refine ⟨rfl, ?_⟩
    rcases hq2 with ⟨q1, q2⟩ | ⟨q1, q2, q3⟩ | ⟨q1, q2, q3, B, hB, hV⟩
    · exact Or.inl ⟨by omega, q2⟩
    · exact Or.inr (Or.inl ⟨by omega, by omega, q3⟩)
    · obtain ⟨r1, r2, r3, r4, r5, ⟨r6, r7, r8⟩, r9⟩ := enN_215 (T1 := T) (H1 := H) hK hW hsw hwS rfl hT (by omega) y16 k0 (by omega) hba f8.1 f6 hLc hB hV
      refine Or.inr (Or.inr ⟨by omega, ⟨q2, q3, fun z => z.1 rfl⟩, ?_⟩)
      unfold aBr
      rw [if_pos rfl, if_neg (fun z => z.1 rfl)]
      exact ⟨r1, r2, r3, r4, r5, ⟨r6, r7, by rw [r8]; omega⟩, r9⟩
  · refine wJ_mono (mn5o_215 (d := d) (c := (K.2.1.length : Int)) (p := (K.2.1.getD (K.2.1.length - 1) (0, 0, 0, (0, 0, []), 0, 0, 0)).2.1) (h := (K.1.length : Int)) (ba := (ba : Int)) (cs := Y 140 2) (n := (T.length : Int)) (u0 := Y 150 0) (nc := (L.length : Int)) (v0 := Y 150 1) (fn := gb) (f := f) (ar := ar) (vs := (vn : Int)) (pn := pn) (q := npA T H nm gb) (r := aFs (-1) (npA T H nm gb) (-1) H 0) hP l4 l8 ⟨by omega, by omega⟩ hx1 rfl ⟨c0, c1⟩ ⟨hz16, hz10⟩ t1 hn ⟨by omega, t2⟩ ⟨t3, t4⟩ rfl hu1 hl14 m1 hCa.1 ⟨by omega, by omega⟩ ⟨by omega, by omega⟩ rfl hv1 f1 x3 f4 x4 f5 ⟨by omega, by omega⟩ f7 f8 hz y16 hsw ⟨t1, t2, t3, t4⟩ hwS hq rfl ⟨hu4.1, hu4.2.1⟩ rfl) (fun o V hq2 => ?_)
    have hq1 : npA T H nm gb ≠ -1 := by have := hq.1.1; omega
    obtain ⟨rfl, hq2⟩ := hq2
    refine ⟨rfl, ?_⟩
    rcases hq2 with ⟨q1, q2⟩ | ⟨q1, q2, q3⟩ | ⟨q1, q2, q3, q4, B, hB, hV⟩ | ⟨q1, q2, q3, q4, q5, A, B, hA, hB, hV⟩
    · exact Or.inl ⟨by omega, q2⟩
    · refine Or.inr (Or.inl ⟨by omega, ?_, q3⟩)
      rcases q2 with z | z | z
      · exact Or.inl z
      · exact Or.inr (Or.inl z)
      · exact Or.inr (Or.inr ⟨hq1, z.1, z.2⟩)
    · obtain ⟨r1, r2, r3, r4, r5, ⟨r6, r7, r8⟩, r9⟩ := enN_215 (T1 := T) (H1 := H) hK hW hsw hwS rfl hT (by omega) y16 k0 (by omega) hba f8.1 f6 hLc hB hV
      refine Or.inr (Or.inr ⟨by omega, ⟨q2, q3, fun z => by have := z.2.1; omega⟩, ?_⟩)
      unfold aBr
      rw [if_neg hq1, if_neg (by omega), if_neg (fun z => by have := z.2; omega)]
      exact ⟨r1, r2, r3, r4, r5, ⟨r6, r7, by rw [r8]; omega⟩, r9⟩
    · have hl4 : (H.length : Int) ≤ 4000 := by omega
      have hWA := cWd_bs hW hq.1.1 hq.1.2 hA
      have hsA := cSw_bs hsw hq q4 hl4 hA
      have hwA := wSh_bs hwS hq q4 hl4
      have lT : (tEp T (npA T H nm gb) 0).length = T.length := tEp_l
      obtain ⟨⟨-, a4⟩, -, -, -, fr, -, -⟩ := id hA
      have e0 : ∀ i : Int, i ≠ 4 → A 150 i = Y 150 i := fun i hi => fr 150 i (by first | decide | omega) (by first | decide | omega) (by first | decide | omega) (Or.inl (by first | decide | omega)) (Or.inl (by first | decide | omega)) (Or.inr hi)
      have e4 : A 140 2 = Y 140 2 := fr 140 2 (by first | decide | omega) (by first | decide | omega) (by first | decide | omega) (Or.inl (by first | decide | omega)) (by first | decide | omega) (by first | decide | omega)
      have e16 : A 215 16 = Y 215 16 := fr 215 16 (by first | decide | omega) (by first | decide | omega) (by first | decide | omega) (Or.inl (by first | decide | omega)) (by first | decide | omega) (by first | decide | omega)
      obtain ⟨r1, r2, r3, r4, r5, ⟨r6, r7, r8⟩, r9⟩ := enN_215 (T1 := tEp T (npA T H nm gb) 0) (H1 := H ++ [(npA T H nm gb, -1, -1, 0)]) (bs_tk (by omega) hA hK) hWA hsA hwA lT hT (by omega) (e16.trans y16) k0 (by omega) hba f8.1 f6 hLc hB hV
      refine Or.inr (Or.inr ⟨by omega, ⟨q2, q3, fun z => by have := z.2.2; omega⟩, ?_⟩)
      unfold aBr
      rw [if_neg hq1, if_pos q4, if_pos ⟨hq1, q4⟩]
      refine ⟨r1, r2, r3, r4, cFm_tr (cFm_m (fun j i q => Or.inl q) (bs_fm (by omega) hA)) r5, ⟨by rw [r6, e0 0 (by first | decide | omega)], by rw [r7, e0 1 (by first | decide | omega)], by rw [r8, a4]⟩, fun po => r9 (bs_po hA po)⟩
theorem anw_226 {R : wS → Prop} (hC : w_CL S) (hI : gI S) (hl : cSl S) (hx : 0 ≤ x ∧ x < S 48 (-1)) (e48 : S 48 x = 0) (l7 : S 158 7 = kd) (hkd : kd = 6) (l10 : S 158 10 = gb) (hgb : 0 ≤ gb ∧ gb < 8000) (hcm : wJ (pe_GA xs) wY0 (mS [228, 229, 127, 128, 129, 130, 131, 132, 133, 134, 135, 136, 141, 142, 138, 139, 144, 145, 146, 147, 148]) d t_XL_makeNew ((pe_at t_XL_makeNew.bl 0).getD (0, [])).2 [(0, (2, 158)), (1, (0, gb))] [] S (fun o Z => o = .inl none ∧ R Z)) : wJ (pe_GA xs) wY0 (mS [228, 229, 127, 128, 129, 130, 131, 132, 133, 134, 135, 136, 141, 142, 138, 139, 144, 145, 146, 147, 148]) (d + 1) t_XL_act ((pe_at t_XL_act.bl 0).getD (0, [])).2 [(0, (2, 158)), (1, (0, x))] [] S (fun o Z => o = .inl none ∧ R Z) := by
  have h35 := hl.2.1
  have h48 := hl.2.2.2
  refine wa_aload_n (n := 0) rfl ?_
  refine wb_gf4 158 rfl (wy_pr rfl) wt_158 wf_5_3 (v := 47) wl_158_3 ?_
  refine wa_iconst ?_
  refine wb_aald5 47 3 rfl rfl (wy_pr rfl) wt_47 (by rw [show _ = _ from ((cl_47 hC))]; omega) wl_47_3 ?_
  refine wa_iload_n (n := 1) rfl ?_
  refine wb_iald 51 rfl (wy_pr rfl) wt_51 (n := (S 48 (-1))) ((hl.2.2.1 3 (by decide))) (by omega) (by omega) (v := (S 51 x)) rfl (fun r1 => ?_)
  refine wa_istore_n (n := 2) rfl ?_
  refine wa_aload_n (n := 0) rfl ?_
  refine wb_gf4 158 rfl (wy_pr rfl) wt_158 wf_5_3 (v := 47) wl_158_3 ?_
  refine wa_iconst ?_
  refine wb_aald5 47 0 rfl rfl (wy_pr rfl) wt_47 (by rw [show _ = _ from ((cl_47 hC))]; omega) wl_47_0 ?_
  refine wa_iload_n (n := 1) rfl ?_
  refine wb_iald 48 rfl (wy_pr rfl) wt_48 (n := (S 48 (-1))) (rfl) (by omega) (by omega) (v := 0) (e48) (fun r2 => ?_)
  refine wa_lw (tb := 0) (w_rg0 (by omega) (by omega)) (q := (27, 1)) (by first | rfl | decide) ⟨_, rfl⟩ ?_
  refine wa_aload_n (n := 0) rfl ?_
  refine wb_gfi 158 rfl (wy_pr rfl) wt_158 wf_5_7 (v := kd) (l7) (fun r3 => ?_)
  refine wa_bipush (w_rg2 (by omega) (by omega)) ?_
  refine wa_icmpne (w_rg0 (by omega) (by omega)) (w_rg0 (by omega) (by omega)) ⟨_, rfl⟩ (fun c4 => ?_) (fun c4 => ?_)
  · skip
    exact absurd c4 (by omega)
  · skip
    refine wa_aload_n (n := 0) rfl ?_
    refine wa_aload_n (n := 0) rfl ?_
    refine wb_gfl 158 rfl (wy_pr rfl) wt_158 wf_5_10 (v := gb) (l10) (fun r5 => ?_)
    refine wb_l2i_r (wb_l2i_id ⟨(by omega), (by omega)⟩) ?_
    refine wa_cv 158 rfl (wy_pr rfl) wt_158 (M2 := mS [228, 229, 127, 128, 129, 130, 131, 132, 133, 134, 135, 136, 141, 142, 138, 139, 144, 145, 146, 147, 148]) rfl at_XL_makeNew ⟨_, rfl⟩ rfl rfl ⟨trivial, (Or.inr ⟨wy_pr rfl, mS_no rfl⟩), trivial, trivial⟩ trivial (fun _ _ q => q) (hcm) (fun oq6 Sq6 hp7 q6 => ?_)
    rcases q6 with ⟨rfl, hR⟩
    show wJ _ _ _ _ _ _ _ _ _ _
    refine wa_goto ⟨_, rfl⟩ ?_
    refine wa_return rfl ?_
    exact ⟨rfl, hR⟩
theorem enN_226 {T1 : List aO} {H1 : List aH} {f ar pn : Int} {vn : Nat} (hKA : cTk 226 A K) (hWA : cWd A T1 L G) (hsA : cSw A T1 H1) (hwA : wSh T1 H1) (hl1 : T1.length = T.length) (hT : (T.length : Int) ≤ 8000) (hc5 : A 140 2 + (vn : Int) ≤ 240200) (a16 : A 226 16 = 0) (k0 : 0 < K.2.1.length) (hKc : K.2.1.length < 200) (hba : ba < K.1.length) (hp : 0 ≤ pn) (hv1 : vn ≤ 1000) (hLc : (L.length : Int) ≤ 8000) (hB : at_ag 4 sh (-1) 0 A B) (hV : enQ_226 ar (vn : Int) (if (K.1.length : Int) - (ba : Int) - 1 ≤ pn then (K.1.length : Int) - (ba : Int) - 1 else pn) (ba : Int) (K.2.1.length : Int) (K.2.1.getD (K.2.1.length - 1) (0, 0, 0, (0, 0, []), 0, 0, 0)).2.1 f (L.length : Int) 4 (T.length : Int) 1 (B 140 2) B V) : V 226 16 = 0 ∧ cTk 226 V (kCl K (K.1.take ba) ((K.2.1.getD (K.2.1.length - 1) (0, 0, 0, (0, 0, []), 0, 0, 0)).2.1 + 1) f (L.length : Int) (4, (T.length : Int), []) (T.length : Int)) ∧ cWd V (T1 ++ [(4, sh, -1, -1, -1, 0, [])]) (L ++ [(ar, aVr K.1 ba (esN K ba pn) vn)]) G ∧ cSw V (T1 ++ [(4, sh, -1, -1, -1, 0, [])]) H1 ∧ cFm 226 cMw A V ∧ (V 150 0 = A 150 0 + 2 ∧ V 150 1 = A 150 1 + (vn : Int) ∧ V 150 4 = A 150 4) ∧ (cPo A → cPo V) := by
  obtain ⟨g1, g2, g3, g4, ⟨g5, g6⟩, g7, g8⟩ := at_bd (w := 226) (by omega) hKA hWA hsA hwA (by rw [hl1]; exact hT) (by omega) hB
  obtain ⟨e1, e2⟩ := esN_e (K := K) (ba := ba) hba hp
  rw [← e1] at hV
  have e140 : B 140 2 = A 140 2 := by have := hB.2.2.2.1; omega
  have z16 : V 226 16 = B 226 16 := by
    obtain ⟨A2, B2, hA2, hB2, rfl⟩ := id hV
    refine (w_up_no (by omega)).trans ((w_up_no (by omega)).trans ((w_up_no (by omega)).trans ((w_up_no (by omega)).trans ((w_up_no (by omega)).trans ((w_up_no (by omega)).trans ((w_up_no (by omega)).trans ((w_up_no (by omega)).trans ((w_up_no (by omega)).trans ((hB2.2 226 16 (Or.inl (by omega))).trans ?_)))))))))
    exact hA2.2.2.2.2.2.2.2.1 226 16 (by first | decide | omega) (by first | decide | omega) (by first | decide | omega) (by first | decide | omega) (by first | decide | omega) (by first | decide | omega) (by omega) (by omega) (by omega)
  obtain ⟨r1, r2, r3, r4, r5, r6⟩ := en_k_226 (md := (T.length : Int)) (th := (4, (T.length : Int), [])) g1 g2 hV k0 hKc e2 (cV_e (by first | decide | omega) rfl) (Or.inr ⟨by omega, rfl, rfl⟩) hLc (by omega)
  refine ⟨z16.trans (g8.trans a16), r1, r2, cSw_ag g3 (fun j i hj => r3.1 j i (by omega) (by unfold wG; omega) (by omega) (by unfold cMc; omega)), cFm_tr (cFm_m (fun j i q => Or.inl (Or.inl q)) g4) (cFm_m (fun j i q => Or.inr q) r3), ⟨by rw [r4, g5]; omega, by rw [r5, g6 1 (by first | decide | omega)], (r3.1 150 4 (by first | decide | omega) (by first | decide | omega) (by first | decide | omega) (by unfold cMc; omega)).trans (g6 4 (by first | decide | omega))⟩, fun po => r6 (g7 po)⟩
theorem anN_226 {f ar pn nm : Int} {vn : Nat} (hx1 : pe_at (pe_GA xs).xs 1 = some (1, tx_1)) (h : rdC 226 kd ec ba gk gb es x 0 K T L G Y) (hkd : kd = 6) (hsw : cSw Y T H) (hwS : wSh T H) (hf5 : isO T gb) (hfn : cFn T gb f ar vn pn Y) (hu1 : 0 ≤ Y 150 0 ∧ Y 150 0 ≤ 8000) (hv1 : 0 ≤ Y 150 1 ∧ Y 150 1 ≤ 60000) (hu4 : 0 ≤ Y 150 4 ∧ Y 150 4 ≤ 4000 ∧ (H.length : Int) ≤ Y 150 4 + 1) (hz : Y 140 2 ≤ 4 * Y 150 1) (hLc : (L.length : Int) ≤ 8000) (h7 : Y 7 16 = nm) (h7l : 16 < Y 7 (-1)) (hnm : nm = -1 ∨ (0 ≤ nm ∧ nm ≤ 100000)) (hpo : ∀ k : Int, isO T k → 0 ≤ aIx T nm k → (prV T nm k).1 = 4 ∨ (prV T nm k).1 = 5 → isO T (prV T nm k).2.1) : wJ (pe_GA xs) wY0 (mS [228, 229, 127, 128, 129, 130, 131, 132, 133, 134, 135, 136, 141, 142, 138, 139, 144, 145, 146, 147, 148]) (d + 10) t_XL_act ((pe_at t_XL_act.bl 0).getD (0, [])).2 [(0, (2, 158)), (1, (0, x))] [] Y (fun o V => o = .inl none ∧ naR 226 K T H L G ba f ar vn pn (npA T H nm gb) Y V) := by
  obtain ⟨⟨h, hW, hl, hT⟩, ⟨l4, l5, l7, l8, l9, l10, l12, l13⟩, y16, ⟨hx, e48⟩, hba⟩ := h
  have hP := xP_of (w := 226) (by omega) h
  rw [← w_up_eta y16] at hP
  obtain ⟨hTh, hCa, -, ⟨⟨m1, m2, m3, m4⟩, hl14, ⟨c0, c1⟩, hz16, hz10⟩, ⟨t1, t2, t3, t4⟩, -⟩ := id hW
  obtain ⟨hK, ⟨hC, hI⟩, ⟨k0, k1, -⟩, -⟩ := id h
  obtain ⟨f1, ⟨f2, f3⟩, f4, ⟨f5, f6⟩, f7, f8⟩ := hfn
  obtain ⟨⟨-, -, x3, x4, -⟩, -⟩ := hTh.2 gb.toNat (by omega)
  rw [show ((gb.toNat : Nat) : Int) = gb by omega] at x3 x4
  replace x3 : Y 129 gb = f := x3.trans f2
  replace x4 : Y 136 gb = ar := x4.trans f3
  have hn := hTh.1
  refine anw_226 hC hI hl hx e48 l7 hkd l10 ⟨f1.1, by omega⟩ (mnh (d := d + 7) hC hsw hTh ⟨t1, t2, t3, t4⟩ ⟨hl14, ⟨c0, c1⟩, hz10⟩ hwS hT hf5 h7 h7l hnm hpo ?_)
  rcases npA_rg hwS hf5 hpo with hq | hq
  · rw [hq]
    refine wJ_mono (wJ_M (mn5n_226 (d := d) (c := (K.2.1.length : Int)) (p := (K.2.1.getD (K.2.1.length - 1) (0, 0, 0, (0, 0, []), 0, 0, 0)).2.1) (h := (K.1.length : Int)) (ba := (ba : Int)) (cs := Y 140 2) (n := (T.length : Int)) (u0 := Y 150 0) (nc := (L.length : Int)) (v0 := Y 150 1) (fn := gb) (f := f) (ar := ar) (vs := (vn : Int)) (pn := pn) hP l4 l8 ⟨by omega, by omega⟩ hx1 rfl ⟨c0, c1⟩ ⟨hz16, hz10⟩ t1 hn ⟨by omega, t2⟩ ⟨t3, t4⟩ rfl hu1 hl14 m1 hCa.1 ⟨by omega, by omega⟩ ⟨by omega, by omega⟩ rfl hv1 f1 x3 f4 x4 f5 ⟨by omega, by omega⟩ f7 f8 hz y16) (fun j hj => ?_)) (fun o V hq2 => ?_)
    · unfold mS at hj ⊢
      simp only [List.mem_cons, List.not_mem_nil, or_false] at hj ⊢
      omega
    obtain ⟨rfl, hq2⟩ := hq2
    refine ⟨rfl, ?_⟩
    rcases hq2 with ⟨q1, q2⟩ | ⟨q1, q2, q3⟩ | ⟨q1, q2, q3, B, hB, hV⟩
    · exact Or.inl ⟨by omega, q2⟩
    · exact Or.inr (Or.inl ⟨by omega, by omega, q3⟩)
    · obtain ⟨r1, r2, r3, r4, r5, ⟨r6, r7, r8⟩, r9⟩ := enN_226 (T1 := T) (H1 := H) hK hW hsw hwS rfl hT (by omega) y16 k0 (by omega) hba f8.1 f6 hLc hB hV
      refine Or.inr (Or.inr ⟨by omega, ⟨q2, q3, fun z => z.1 rfl⟩, ?_⟩)
      unfold aBr
      rw [if_pos rfl, if_neg (fun z => z.1 rfl)]
      exact ⟨r1, r2, r3, r4, r5, ⟨r6, r7, by rw [r8]; omega⟩, r9⟩
  · refine wJ_mono (mn5o_226 (d := d) (c := (K.2.1.length : Int)) (p := (K.2.1.getD (K.2.1.length - 1) (0, 0, 0, (0, 0, []), 0, 0, 0)).2.1) (h := (K.1.length : Int)) (ba := (ba : Int)) (cs := Y 140 2) (n := (T.length : Int)) (u0 := Y 150 0) (nc := (L.length : Int)) (v0 := Y 150 1) (fn := gb) (f := f) (ar := ar) (vs := (vn : Int)) (pn := pn) (q := npA T H nm gb) (r := aFs (-1) (npA T H nm gb) (-1) H 0) hP l4 l8 ⟨by omega, by omega⟩ hx1 rfl ⟨c0, c1⟩ ⟨hz16, hz10⟩ t1 hn ⟨by omega, t2⟩ ⟨t3, t4⟩ rfl hu1 hl14 m1 hCa.1 ⟨by omega, by omega⟩ ⟨by omega, by omega⟩ rfl hv1 f1 x3 f4 x4 f5 ⟨by omega, by omega⟩ f7 f8 hz y16 hsw ⟨t1, t2, t3, t4⟩ hwS hq rfl ⟨hu4.1, hu4.2.1⟩ rfl) (fun o V hq2 => ?_)
    have hq1 : npA T H nm gb ≠ -1 := by have := hq.1.1; omega
    obtain ⟨rfl, hq2⟩ := hq2
    refine ⟨rfl, ?_⟩
    rcases hq2 with ⟨q1, q2⟩ | ⟨q1, q2, q3⟩ | ⟨q1, q2, q3, q4, B, hB, hV⟩ | ⟨q1, q2, q3, q4, q5, A, B, hA, hB, hV⟩
    · exact Or.inl ⟨by omega, q2⟩
    · refine Or.inr (Or.inl ⟨by omega, ?_, q3⟩)
      rcases q2 with z | z | z
      · exact Or.inl z
      · exact Or.inr (Or.inl z)
      · exact Or.inr (Or.inr ⟨hq1, z.1, z.2⟩)
    · obtain ⟨r1, r2, r3, r4, r5, ⟨r6, r7, r8⟩, r9⟩ := enN_226 (T1 := T) (H1 := H) hK hW hsw hwS rfl hT (by omega) y16 k0 (by omega) hba f8.1 f6 hLc hB hV
      refine Or.inr (Or.inr ⟨by omega, ⟨q2, q3, fun z => by have := z.2.1; omega⟩, ?_⟩)
      unfold aBr
      rw [if_neg hq1, if_neg (by omega), if_neg (fun z => by have := z.2; omega)]
      exact ⟨r1, r2, r3, r4, r5, ⟨r6, r7, by rw [r8]; omega⟩, r9⟩
    · have hl4 : (H.length : Int) ≤ 4000 := by omega
      have hWA := cWd_bs hW hq.1.1 hq.1.2 hA
      have hsA := cSw_bs hsw hq q4 hl4 hA
      have hwA := wSh_bs hwS hq q4 hl4
      have lT : (tEp T (npA T H nm gb) 0).length = T.length := tEp_l
      obtain ⟨⟨-, a4⟩, -, -, -, fr, -, -⟩ := id hA
      have e0 : ∀ i : Int, i ≠ 4 → A 150 i = Y 150 i := fun i hi => fr 150 i (by first | decide | omega) (by first | decide | omega) (by first | decide | omega) (Or.inl (by first | decide | omega)) (Or.inl (by first | decide | omega)) (Or.inr hi)
      have e4 : A 140 2 = Y 140 2 := fr 140 2 (by first | decide | omega) (by first | decide | omega) (by first | decide | omega) (Or.inl (by first | decide | omega)) (by first | decide | omega) (by first | decide | omega)
      have e16 : A 226 16 = Y 226 16 := fr 226 16 (by first | decide | omega) (by first | decide | omega) (by first | decide | omega) (Or.inl (by first | decide | omega)) (by first | decide | omega) (by first | decide | omega)
      obtain ⟨r1, r2, r3, r4, r5, ⟨r6, r7, r8⟩, r9⟩ := enN_226 (T1 := tEp T (npA T H nm gb) 0) (H1 := H ++ [(npA T H nm gb, -1, -1, 0)]) (bs_tk (by omega) hA hK) hWA hsA hwA lT hT (by omega) (e16.trans y16) k0 (by omega) hba f8.1 f6 hLc hB hV
      refine Or.inr (Or.inr ⟨by omega, ⟨q2, q3, fun z => by have := z.2.2; omega⟩, ?_⟩)
      unfold aBr
      rw [if_neg hq1, if_pos q4, if_pos ⟨hq1, q4⟩]
      refine ⟨r1, r2, r3, r4, cFm_tr (cFm_m (fun j i q => Or.inl q) (bs_fm (by omega) hA)) r5, ⟨by rw [r6, e0 0 (by first | decide | omega)], by rw [r7, e0 1 (by first | decide | omega)], by rw [r8, a4]⟩, fun po => r9 (bs_po hA po)⟩
end Wjg
