/-! PART ib: what a host's value prints: of the class. -/
section Wib
variable {xs : List (Nat × List Int32)} {M : Nat → Prop} {d : Nat} {S S0 Z A B : wS} {T : Int → Int} {cs : List hCR} {Th : List aO} {e k v on : Int} {l l2 o : List Int} {K : aK} {b : Int} {w : Nat}
/-- the name of a class -/
def cNa (T : Int → Int) (cs : List hCR) (k : Int) : List Int := sl_ T (hcR cs k).2.1 ((hcR cs k).2.2.1 - (hcR cs k).2.1)
/-- the words of the classes -/
def cnW (t5 w : Nat) (T : Int → Int) (cs : List hCR) (S : wS) : Prop := (S (w + 3) (-1) = S (w + 2) (-1) ∧ S (w + 2) (-1) ≤ 2147483647 ∧ S (w + 1) (-1) ≤ 2147483647) ∧ ∀ k : Int, 0 ≤ k → k < (cs.length : Int) → (0 ≤ S t5 k ∧ S t5 k < S (w + 2) (-1)) ∧ S (w + 3) (S t5 k) = ((cNa T cs k).length : Int) ∧ (0 ≤ S (w + 2) (S t5 k) ∧ S (w + 2) (S t5 k) + ((cNa T cs k).length : Int) ≤ S (w + 1) (-1)) ∧ (∀ i : Nat, i < (cNa T cs k).length → S (w + 1) (S (w + 2) (S t5 k) + (i : Int)) = (cNa T cs k).getD i 0) ∧ (cNa T cs k).length ≤ 30
/-- what a host's value prints -/
def hoL (T : Int → Int) (cs : List hCR) (k v of : Int) : List Int := if k = 7 then cNa T cs of ++ ([64] ++ shN v) else cNa T cs v
/-- .. by the value -/
def pH (T : Int → Int) (cs : List hCR) (Th : List aO) (u : aV) : List Int := if u.1 = 7 then cNa T cs (tO Th u.2.1).2.2.1 ++ ([64] ++ shN u.2.1) else cNa T cs u.2.1
theorem cnW_ag {t5 w : Nat} (h : cnW t5 w T cs S) (f : ∀ (j : Nat) (x : Int), (j = t5 ∨ (w ≤ j ∧ j ≤ w + 3)) → Z j x = S j x) : cnW t5 w T cs Z := by
  obtain ⟨⟨a1, a2, a3⟩, hk⟩ := h
  refine ⟨⟨by rw [f (w + 3) (-1) (by omega), f (w + 2) (-1) (by omega)]; exact a1, by rw [f (w + 2) (-1) (by omega)]; exact a2, by rw [f (w + 1) (-1) (by omega)]; exact a3⟩, fun k k0 k1 => ?_⟩
  obtain ⟨b1, b2, b3, b4, b5⟩ := hk k k0 k1
  rw [f t5 k (by omega), f (w + 2) (-1) (by omega), f (w + 3) _ (by omega), f (w + 2) _ (by omega), f (w + 1) (-1) (by omega)]
  exact ⟨b1, b2, b3, fun i hi => (f (w + 1) _ (by omega)).trans (b4 i hi), b5⟩
theorem shc_73 (hC : w_CL S) (hI : gI S) (h72 : S 72 1 = 73) (hcw : cnW 92 74 T cs S) (hk : 0 ≤ k ∧ k < (cs.length : Int) ∧ k < 60) (h19 : S 72 19 = e) (he : 30 ≤ e ∧ e ≤ 64) (h57 : S 157 (-1) = 64) : wJ (pe_GA xs) wY0 M (d + 1) t_XH_showClass ((pe_at t_XH_showClass.bl 0).getD (0, [])).2 [(0, (2, 72)), (1, (0, k))] [] S (fun o Z => o = .inl none ∧ shA (cNa T cs k) e S Z) := by
  have hg : wG = 1000000 := rfl
  have hRm := rmR_rfl S
  obtain ⟨⟨a1, a2, a3⟩, hkk⟩ := hcw
  replace a1 : S 77 (-1) = S 76 (-1) := a1
  replace a2 : S 76 (-1) ≤ 2147483647 := a2
  replace a3 : S 75 (-1) ≤ 2147483647 := a3
  obtain ⟨b1, b2, b3, b4, b5⟩ := hkk k hk.1 hk.2.1
  replace b1 : 0 ≤ S 92 k ∧ S 92 k < S 76 (-1) := b1
  replace b2 : S 77 (S 92 k) = ((cNa T cs k).length : Int) := b2
  replace b3 : 0 ≤ S 76 (S 92 k) ∧ S 76 (S 92 k) + ((cNa T cs k).length : Int) ≤ S 75 (-1) := b3
  replace b4 : ∀ i : Nat, i < (cNa T cs k).length → S 75 (S 76 (S 92 k) + (i : Int)) = (cNa T cs k).getD i 0 := b4
  refine wa_aload_n (n := 0) rfl ?_
  refine wb_gf5 72 rfl (wy_pr rfl) wt_72 wf_2_1 (v := 73) (h72) (fun r1 => ?_)
  refine wb_gf4 73 rfl (wy_pr rfl) wt_73 wf_3_1 (v := 86) wl_73_1 ?_
  refine wa_iconst ?_
  refine wb_aald5 86 5 rfl rfl (wy_pr rfl) wt_86 (by rw [show _ = _ from ((cl_86 hC))]; omega) wl_86_5 ?_
  refine wa_iload_n (n := 1) rfl ?_
  refine wb_iald 92 rfl (wy_pr rfl) wt_92 (n := 60) ((cl_92 hC)) (by omega) (by omega) (v := (S 92 k)) rfl (fun r2 => ?_)
  refine wa_istore_n (n := 2) rfl ?_
  refine wa_aload_n (n := 0) rfl ?_
  refine wb_gf5 72 rfl (wy_pr rfl) wt_72 wf_2_1 (v := 73) (h72) (fun r3 => ?_)
  refine wb_gf4 73 rfl (wy_pr rfl) wt_73 wf_3_0 (v := 74) wl_73_0 ?_
  refine wb_gf4 74 rfl (wy_pr rfl) wt_74 wf_9_3 (v := 77) wl_74_3 ?_
  refine wa_iload_n (n := 2) rfl ?_
  refine wb_iald 77 rfl (wy_pr rfl) wt_77 (n := (S 76 (-1))) (a1) (by omega) (by omega) (v := ((cNa T cs k).length : Int)) (b2) (fun r4 => ?_)
  refine wa_istore_n (n := 3) rfl ?_
  refine wa_aload_n (n := 0) rfl ?_
  refine wa_dup (by decide) ?_
  refine wb_gfi 72 rfl (wy_pr rfl) wt_72 wf_2_19 (v := e) (h19) (fun r5 => ?_)
  refine wa_iload_n (n := 3) rfl ?_
  refine wa_isub ?_
  refine wb_pfi 72 rfl (wy_pr rfl) wt_72 wf_2_19 (n := 19) rfl ⟨(by omega), (by omega)⟩ ?_
  refine wa_aload_n (n := 0) rfl ?_
  refine wb_gf5 72 rfl (wy_pr rfl) wt_72 wf_2_1 (v := 73) ((w_up_at (by decide)).trans (h72)) (fun r6 => ?_)
  refine wb_gf4 73 rfl (wy_pr rfl) wt_73 wf_3_0 (v := 74) wl_73_0 ?_
  refine wb_gf4 74 rfl (wy_pr rfl) wt_74 wf_9_0 (v := 75) wl_74_0 ?_
  refine wa_aload_n (n := 0) rfl ?_
  refine wb_gf5 72 rfl (wy_pr rfl) wt_72 wf_2_1 (v := 73) ((w_up_at (by decide)).trans (h72)) (fun r7 => ?_)
  refine wb_gf4 73 rfl (wy_pr rfl) wt_73 wf_3_0 (v := 74) wl_73_0 ?_
  refine wb_gf4 74 rfl (wy_pr rfl) wt_74 wf_9_2 (v := 76) wl_74_2 ?_
  refine wa_iload_n (n := 2) rfl ?_
  refine wb_iald 76 rfl (wy_pr rfl) wt_76 (n := (S 76 (-1))) ((w_up_slot (by decide)).trans (rfl)) (by omega) (by omega) (v := (S 76 (S 92 k))) (w_up_slot (by decide)) (fun r8 => ?_)
  refine wa_aload_n (n := 0) rfl ?_
  refine wb_gf4 72 rfl (wy_pr rfl) wt_72 wf_2_18 (v := 157) wl_72_18 ?_
  refine wa_aload_n (n := 0) rfl ?_
  refine wb_gfi 72 rfl (wy_pr rfl) wt_72 wf_2_19 (v := (e - ((cNa T cs k).length : Int))) (w_up_same _ _ _ _) (fun r9 => ?_)
  refine wa_iload_n (n := 3) rfl ?_
  refine wb_acB (S := (w_up S 72 19 (e - ((cNa T cs k).length : Int)))) 75 157 rfl rfl (wy_pr rfl) (wy_pr rfl) wt_75 wt_157 (gI_up hI (by omega) (by omega) (by omega)) (rmR_up hRm (by omega) (by decide)) (by decide) (by omega) (by omega) (by omega) (by have e : (w_up S 72 19 (e - ((cNa T cs k).length : Int))) 75 (-1) = (S 75 (-1)) := ((w_up_slot (by decide)).trans (rfl)); omega) (by have e : (w_up S 72 19 (e - ((cNa T cs k).length : Int))) 157 (-1) = 64 := ((w_up_slot (by decide)).trans (h57)); omega) (by omega) rfl (fun Z10 g11 gi12 rm13 => ?_)
  refine wa_return rfl ?_
  have e0 : ∀ (j : Nat) (i : Int), (j ≠ 157 ∨ i < e - ((cNa T cs k).length : Int) ∨ e - ((cNa T cs k).length : Int) + ((cNa T cs k).length : Int) ≤ i) → Z10 j i = (w_up S 72 19 (e - ((cNa T cs k).length : Int))) j i := g11.1
  have e2 : ∀ i : Int, 0 ≤ i → i < ((cNa T cs k).length : Int) → Z10 157 (e - ((cNa T cs k).length : Int) + i) = (w_up S 72 19 (e - ((cNa T cs k).length : Int))) 75 (S 76 (S 92 k) + i) := g11.2
  exact ⟨rfl, (e0 72 19 (Or.inl (by first | decide | omega))).trans (w_up_same _ _ _ _), fun q hq => (e2 (q : Int) (by omega) (by omega)).trans ((w_up_slot (by first | decide | omega)).trans (b4 q hq)), fun j x j0 j1 => (e0 j x (by omega)).trans (w_up_no (by omega)), gi12, rm13⟩
set_option maxHeartbeats 4000000 in
theorem xsh7_73 (hX : w_X xs) (hC : w_CL S) (hI : gI S) (h72 : S 72 1 = 73) (hcw : cnW 92 74 T cs S) (hn6 : (cs.length : Int) ≤ 60) (hlt : cLt S Th) (hT : (Th.length : Int) ≤ 8000) (hv : 0 ≤ v ∧ v < (Th.length : Int)) (hof : 0 ≤ S 129 v ∧ S 129 v < (cs.length : Int)) (h57 : S 157 (-1) = 64) : wJ (pe_GA xs) wY0 M (d + 5) t_XH_show ((pe_at t_XH_show.bl 0).getD (0, [])).2 [(0, (2, 72)), (1, (0, 7)), (2, (1, v))] [] S (fun o Z => o = .inl (some (1, (64 - ((hoL T cs 7 v (S 129 v)).length : Int)) * 4294967296 + ((hoL T cs 7 v (S 129 v)).length : Int))) ∧ (hoL T cs 7 v (S 129 v)).length ≤ 64 ∧ shA (hoL T cs 7 v (S 129 v)) 64 (w_up S 72 19 64) Z) := by
  have hlsn := shN_len (v := v)
  have hl2 := hlt.2
  refine wa_aload_n (n := 0) rfl ?_
  refine wa_aload_n (n := 0) rfl ?_
  refine wb_gf4 72 rfl (wy_pr rfl) wt_72 wf_2_18 (v := 157) wl_72_18 ?_
  refine wb_alen 157 rfl (wy_pr rfl) (by rw [wt_157]; rfl) (v := 64) (h57) (fun r1 => ?_)
  refine wb_pfi 72 rfl (wy_pr rfl) wt_72 wf_2_19 (n := 19) rfl ⟨(by omega), (by omega)⟩ ?_
  refine wa_iload_n (n := 1) rfl ?_
  refine wb_sw (w_rg0 (by omega) (by omega)) (tb := 10) rfl ⟨_, rfl⟩ ?_
  refine wa_aload_n (n := 0) rfl ?_
  refine wa_lload_n (n := 2) rfl ?_
  refine wa_cv 72 rfl (wy_pr rfl) wt_72 (M2 := fun _ => False) rfl at_XH_showNumber ⟨_, rfl⟩ rfl rfl ⟨(Or.inr ⟨wy_pr rfl, fun q => q⟩), trivial, trivial, trivial⟩ trivial (fun _ _ q => False.elim q) (sn_ok (v := v) (e := 64) (S := (w_up S 72 19 64)) ⟨by omega, by omega⟩ (w_up_same _ _ _ _) (by decide) ((w_up_slot (by decide)).trans h57) (gI_up hI (by decide) (by decide) (by decide))) (fun oq2 Sq2 hp3 q2 => ?_)
  rcases q2 with ⟨rfl, hsn⟩
  show wJ _ _ _ _ _ _ _ _ _ _
  have z57 : Sq2 157 (-1) = 64 := (hsn.2.2.1 157 (-1) (Or.inr (Or.inl (by omega))) (Or.inl (by first | decide | omega))).trans ((w_up_slot (by first | decide | omega)).trans h57)
  refine wa_aload_n (n := 0) rfl ?_
  refine wa_ks ?_
  refine wa_cv 72 rfl (wy_pr rfl) wt_72 (M2 := fun _ => False) rfl at_XH_showText ⟨_, rfl⟩ rfl rfl ⟨(Or.inr ⟨wy_pr rfl, fun q => q⟩), trivial, trivial, trivial⟩ trivial (fun _ _ q => False.elim q) (st_ok (j := 121) (tx := tx_95) (e := 64 - ((shN v).length : Int)) (S := Sq2) (wx_121 hX) (by decide) (hb_l (by decide)) ⟨by show (1 : Int) ≤ _; omega, by omega⟩ hsn.1 z57 hsn.2.2.2.1) (fun oq4 Sq4 hp5 q4 => ?_)
  rcases q4 with ⟨rfl, hst0⟩
  show wJ _ _ _ _ _ _ _ _ _ _
  have hst : shA [64] (64 - ((shN v).length : Int)) Sq2 Sq4 := hst0
  have hst1 := hst.1
  have z57b : Sq4 157 (-1) = 64 := (hst.2.2.1 157 (-1) (Or.inr (Or.inl (by show _ < 64 - ((shN v).length : Int) - 1; omega))) (Or.inl (by first | decide | omega))).trans z57
  refine wa_aload_n (n := 0) rfl ?_
  refine wa_aload_n (n := 0) rfl ?_
  refine wb_gf4 72 rfl (wy_pr rfl) wt_72 wf_2_2 (v := 126) wl_72_2 ?_
  refine wa_iconst ?_
  refine wb_aald5 126 2 rfl rfl (wy_pr rfl) wt_126 (by rw [show _ = _ from (((hst.2.2.1 126 (-1) (Or.inl (by decide)) (by omega)).trans (((hsn.2.2.1 126 (-1) (Or.inl (by decide)) (by omega)).trans ((w_up_slot (by decide)).trans ((cl_126 hC)))))))]; omega) wl_126_2 ?_
  refine wa_lload_n (n := 2) rfl ?_
  refine wb_l2i_r (y := v) (wb_l2i_id ⟨by omega, by omega⟩) ?_
  refine wb_iald 129 rfl (wy_pr rfl) wt_129 (n := (S 127 (-1))) (((hst.2.2.1 129 (-1) (Or.inl (by decide)) (by omega)).trans (((hsn.2.2.1 129 (-1) (Or.inl (by decide)) (by omega)).trans ((w_up_slot (by decide)).trans ((hlt.1 2 (by decide)))))))) (by omega) (by omega) (v := (S 129 v)) (((hst.2.2.1 129 v (Or.inl (by decide)) (by omega)).trans (((hsn.2.2.1 129 v (Or.inl (by decide)) (by omega)).trans (w_up_slot (by decide)))))) (fun r6 => ?_)
  have fb : ∀ (j : Nat) (x : Int), j ≠ 157 → j ≠ 72 → Sq4 j x = S j x := fun j x j0 j1 => (hst.2.2.1 j x (Or.inl j0) (Or.inl j1)).trans ((hsn.2.2.1 j x (Or.inl j0) (Or.inl j1)).trans (w_up_slot j1))
  have hCB : w_CL Sq4 := fun q hq => (show Sq4 q.1 (-1) = S q.1 (-1) from by by_cases cx : q.1 = 72; exact (hst.2.2.1 q.1 (-1) (Or.inl (by omega)) (Or.inr (by first | decide | omega))).trans ((hsn.2.2.1 q.1 (-1) (Or.inl (by omega)) (Or.inr (by first | decide | omega))).trans (w_up_at (by first | decide | omega))); by_cases cy : q.1 = 157; exact (hst.2.2.1 q.1 (-1) (Or.inr (Or.inl (by show _ < 64 - ((shN v).length : Int) - 1; omega))) (Or.inl cx)).trans ((hsn.2.2.1 q.1 (-1) (Or.inr (Or.inl (by omega))) (Or.inl cx)).trans (w_up_slot cx)); exact fb q.1 (-1) cy cx).trans (hC q hq)
  refine wa_cv 72 rfl (wy_pr rfl) wt_72 (M2 := fun _ => False) rfl at_XH_showClass ⟨_, rfl⟩ rfl rfl ⟨(Or.inr ⟨wy_pr rfl, fun q => q⟩), trivial, trivial, trivial⟩ trivial (fun _ _ q => False.elim q) (shc_73 (S := Sq4) (k := S 129 v) (e := 64 - ((shN v).length : Int) - 1) hCB hst.2.2.2.1 (((hst.2.2.1 72 1 (Or.inl (by decide)) (by omega)).trans (((hsn.2.2.1 72 1 (Or.inl (by decide)) (by omega)).trans ((w_up_at (by decide)).trans (h72)))))) (cnW_ag hcw (fun j x hj => fb j x (by omega) (by omega))) ⟨by omega, by omega, by omega⟩ hst1 ⟨by omega, by omega⟩ z57b) (fun oq7 Sq7 hp8 q7 => ?_)
  rcases q7 with ⟨rfl, hcn⟩
  show wJ _ _ _ _ _ _ _ _ _ _
  have hsh : shA (hoL T cs 7 v (S 129 v)) 64 (w_up S 72 19 64) Sq7 := (show hoL T cs 7 v (S 129 v) = cNa T cs (S 129 v) ++ ([64] ++ shN v) from if_pos rfl) ▸ shA_ap (l2 := [64] ++ shN v) (shA_ap hsn hst) (by rw [show (64 : Int) - ((([64] ++ shN v : List Int).length : Nat) : Int) = 64 - ((shN v).length : Int) - 1 by rw [List.length_append]; show (64 : Int) - ((1 + (shN v).length : Nat) : Int) = _; omega]; exact hcn)
  have hlv : (hoL T cs 7 v (S 129 v)).length ≤ 64 := by rw [show hoL T cs 7 v (S 129 v) = cNa T cs (S 129 v) ++ ([64] ++ shN v) from if_pos rfl, List.length_append, List.length_append]; have := (hcw.2 (S 129 v) (by omega) (by omega)).2.2.2.2; show _ + (1 + _) ≤ 64; omega
  have z57c : Sq7 157 (-1) = 64 := (hsh.2.2.1 157 (-1) (Or.inr (Or.inl (by omega))) (Or.inl (by first | decide | omega))).trans ((w_up_slot (by first | decide | omega)).trans h57)
  refine wa_goto ⟨_, rfl⟩ ?_
  refine wa_aload_n (n := 0) rfl ?_
  refine wb_gfi 72 rfl (wy_pr rfl) wt_72 wf_2_19 (v := (64 - ((hoL T cs 7 v (S 129 v)).length : Int))) (hsh.1) (fun r9 => ?_)
  refine wa_aload_n (n := 0) rfl ?_
  refine wb_gf4 72 rfl (wy_pr rfl) wt_72 wf_2_18 (v := 157) wl_72_18 ?_
  refine wb_alen 157 rfl (wy_pr rfl) (by rw [wt_157]; rfl) (v := 64) (z57c) (fun r10 => ?_)
  refine wa_aload_n (n := 0) rfl ?_
  refine wb_gfi 72 rfl (wy_pr rfl) wt_72 wf_2_19 (v := (64 - ((hoL T cs 7 v (S 129 v)).length : Int))) (hsh.1) (fun r11 => ?_)
  refine wa_isub ?_
  refine wa_cs (M2 := fun _ => False) rfl at_X_slice ⟨_, rfl⟩ rfl rfl ⟨(Or.inr ⟨wy_pr rfl, fun q => q⟩), trivial, trivial, trivial⟩ trivial (fun _ _ q => False.elim q) ?_ (fun _ _ _ q => q)
  refine wa_iload_n (n := 0) rfl ?_
  refine wa_i2l (w_rg0 (by omega) (by omega)) ?_
  refine wa_bipush (w_rg2 (by omega) (by omega)) ?_
  refine wa_lshl ?_
  refine wa_iload_n (n := 1) rfl ?_
  refine wa_i2l (w_rg0 (by omega) (by omega)) ?_
  refine wa_lor ?_
  refine wa_lreturn rfl ?_
  show wJ _ _ _ _ _ _ _ _ _ _
  refine wa_lreturn rfl ?_
  rw [show 64 - (64 - ((hoL T cs 7 v (S 129 v)).length : Int)) = ((hoL T cs 7 v (S 129 v)).length : Int) by omega, sl_mk ⟨by omega, by omega⟩ ⟨by omega, by omega⟩]
  exact ⟨rfl, hlv, hsh⟩
set_option maxHeartbeats 4000000 in
theorem xsh8_73 (hX : w_X xs) (hC : w_CL S) (hI : gI S) (h72 : S 72 1 = 73) (hcw : cnW 92 74 T cs S) (hn6 : (cs.length : Int) ≤ 60) (hv : 0 ≤ v ∧ v < (cs.length : Int)) (h57 : S 157 (-1) = 64) : wJ (pe_GA xs) wY0 M (d + 5) t_XH_show ((pe_at t_XH_show.bl 0).getD (0, [])).2 [(0, (2, 72)), (1, (0, 8)), (2, (1, v))] [] S (fun o Z => o = .inl (some (1, (64 - ((hoL T cs 8 v 0).length : Int)) * 4294967296 + ((hoL T cs 8 v 0).length : Int))) ∧ (hoL T cs 8 v 0).length ≤ 64 ∧ shA (hoL T cs 8 v 0) 64 (w_up S 72 19 64) Z) := by
  have hlsn := shN_len (v := v)
  refine wa_aload_n (n := 0) rfl ?_
  refine wa_aload_n (n := 0) rfl ?_
  refine wb_gf4 72 rfl (wy_pr rfl) wt_72 wf_2_18 (v := 157) wl_72_18 ?_
  refine wb_alen 157 rfl (wy_pr rfl) (by rw [wt_157]; rfl) (v := 64) (h57) (fun r1 => ?_)
  refine wb_pfi 72 rfl (wy_pr rfl) wt_72 wf_2_19 (n := 19) rfl ⟨(by omega), (by omega)⟩ ?_
  refine wa_iload_n (n := 1) rfl ?_
  refine wb_sw (w_rg0 (by omega) (by omega)) (tb := 11) rfl ⟨_, rfl⟩ ?_
  refine wa_aload_n (n := 0) rfl ?_
  refine wa_lload_n (n := 2) rfl ?_
  refine wb_l2i_r (y := v) (wb_l2i_id ⟨by omega, by omega⟩) ?_
  refine wa_cv 72 rfl (wy_pr rfl) wt_72 (M2 := fun _ => False) rfl at_XH_showClass ⟨_, rfl⟩ rfl rfl ⟨(Or.inr ⟨wy_pr rfl, fun q => q⟩), trivial, trivial, trivial⟩ trivial (fun _ _ q => False.elim q) (shc_73 (S := (w_up S 72 19 64)) (k := v) (e := 64) (w_CL_up hC (by decide)) (gI_up hI (by decide) (by decide) (by decide)) ((w_up_at (by decide)).trans (h72)) (cnW_ag hcw (fun j x hj => w_up_slot (by omega))) ⟨by omega, by omega, by omega⟩ (w_up_same _ _ _ _) (by decide) ((w_up_slot (by decide)).trans h57)) (fun oq2 Sq2 hp3 q2 => ?_)
  rcases q2 with ⟨rfl, hcn⟩
  show wJ _ _ _ _ _ _ _ _ _ _
  have hsh : shA (hoL T cs 8 v 0) 64 (w_up S 72 19 64) Sq2 := (show hoL T cs 8 v 0 = cNa T cs v from if_neg (by first | decide | omega)) ▸ hcn
  have hlv : (hoL T cs 8 v 0).length ≤ 64 := by rw [show hoL T cs 8 v 0 = cNa T cs v from if_neg (by first | decide | omega)]; have := (hcw.2 v (by omega) (by omega)).2.2.2.2; omega
  have z57c : Sq2 157 (-1) = 64 := (hsh.2.2.1 157 (-1) (Or.inr (Or.inl (by omega))) (Or.inl (by first | decide | omega))).trans ((w_up_slot (by first | decide | omega)).trans h57)
  refine wa_fall ⟨_, rfl⟩ ?_
  refine wa_aload_n (n := 0) rfl ?_
  refine wb_gfi 72 rfl (wy_pr rfl) wt_72 wf_2_19 (v := (64 - ((hoL T cs 8 v 0).length : Int))) (hsh.1) (fun r4 => ?_)
  refine wa_aload_n (n := 0) rfl ?_
  refine wb_gf4 72 rfl (wy_pr rfl) wt_72 wf_2_18 (v := 157) wl_72_18 ?_
  refine wb_alen 157 rfl (wy_pr rfl) (by rw [wt_157]; rfl) (v := 64) (z57c) (fun r5 => ?_)
  refine wa_aload_n (n := 0) rfl ?_
  refine wb_gfi 72 rfl (wy_pr rfl) wt_72 wf_2_19 (v := (64 - ((hoL T cs 8 v 0).length : Int))) (hsh.1) (fun r6 => ?_)
  refine wa_isub ?_
  refine wa_cs (M2 := fun _ => False) rfl at_X_slice ⟨_, rfl⟩ rfl rfl ⟨(Or.inr ⟨wy_pr rfl, fun q => q⟩), trivial, trivial, trivial⟩ trivial (fun _ _ q => False.elim q) ?_ (fun _ _ _ q => q)
  refine wa_iload_n (n := 0) rfl ?_
  refine wa_i2l (w_rg0 (by omega) (by omega)) ?_
  refine wa_bipush (w_rg2 (by omega) (by omega)) ?_
  refine wa_lshl ?_
  refine wa_iload_n (n := 1) rfl ?_
  refine wa_i2l (w_rg0 (by omega) (by omega)) ?_
  refine wa_lor ?_
  refine wa_lreturn rfl ?_
  show wJ _ _ _ _ _ _ _ _ _ _
  refine wa_lreturn rfl ?_
  rw [show 64 - (64 - ((hoL T cs 8 v 0).length : Int)) = ((hoL T cs 8 v 0).length : Int) by omega, sl_mk ⟨by omega, by omega⟩ ⟨by omega, by omega⟩]
  exact ⟨rfl, hlv, hsh⟩
theorem shc_162 (hC : w_CL S) (hI : gI S) (h72 : S 72 1 = 162) (hcw : cnW 181 163 T cs S) (hk : 0 ≤ k ∧ k < (cs.length : Int) ∧ k < 60) (h19 : S 72 19 = e) (he : 30 ≤ e ∧ e ≤ 64) (h57 : S 157 (-1) = 64) : wJ (pe_GA xs) wY0 M (d + 1) t_XH_showClass ((pe_at t_XH_showClass.bl 0).getD (0, [])).2 [(0, (2, 72)), (1, (0, k))] [] S (fun o Z => o = .inl none ∧ shA (cNa T cs k) e S Z) := by
  have hg : wG = 1000000 := rfl
  have hRm := rmR_rfl S
  obtain ⟨⟨a1, a2, a3⟩, hkk⟩ := hcw
  replace a1 : S 166 (-1) = S 165 (-1) := a1
  replace a2 : S 165 (-1) ≤ 2147483647 := a2
  replace a3 : S 164 (-1) ≤ 2147483647 := a3
  obtain ⟨b1, b2, b3, b4, b5⟩ := hkk k hk.1 hk.2.1
  replace b1 : 0 ≤ S 181 k ∧ S 181 k < S 165 (-1) := b1
  replace b2 : S 166 (S 181 k) = ((cNa T cs k).length : Int) := b2
  replace b3 : 0 ≤ S 165 (S 181 k) ∧ S 165 (S 181 k) + ((cNa T cs k).length : Int) ≤ S 164 (-1) := b3
  replace b4 : ∀ i : Nat, i < (cNa T cs k).length → S 164 (S 165 (S 181 k) + (i : Int)) = (cNa T cs k).getD i 0 := b4
  refine wa_aload_n (n := 0) rfl ?_
  refine wb_gf5 72 rfl (wy_pr rfl) wt_72 wf_2_1 (v := 162) (h72) (fun r1 => ?_)
  refine wb_gf4 162 rfl (wy_pr rfl) wt_162 wf_3_1 (v := 175) wl_162_1 ?_
  refine wa_iconst ?_
  refine wb_aald5 175 5 rfl rfl (wy_pr rfl) wt_175 (by rw [show _ = _ from ((cl_175 hC))]; omega) wl_175_5 ?_
  refine wa_iload_n (n := 1) rfl ?_
  refine wb_iald 181 rfl (wy_pr rfl) wt_181 (n := 60) ((cl_181 hC)) (by omega) (by omega) (v := (S 181 k)) rfl (fun r2 => ?_)
  refine wa_istore_n (n := 2) rfl ?_
  refine wa_aload_n (n := 0) rfl ?_
  refine wb_gf5 72 rfl (wy_pr rfl) wt_72 wf_2_1 (v := 162) (h72) (fun r3 => ?_)
  refine wb_gf4 162 rfl (wy_pr rfl) wt_162 wf_3_0 (v := 163) wl_162_0 ?_
  refine wb_gf4 163 rfl (wy_pr rfl) wt_163 wf_9_3 (v := 166) wl_163_3 ?_
  refine wa_iload_n (n := 2) rfl ?_
  refine wb_iald 166 rfl (wy_pr rfl) wt_166 (n := (S 165 (-1))) (a1) (by omega) (by omega) (v := ((cNa T cs k).length : Int)) (b2) (fun r4 => ?_)
  refine wa_istore_n (n := 3) rfl ?_
  refine wa_aload_n (n := 0) rfl ?_
  refine wa_dup (by decide) ?_
  refine wb_gfi 72 rfl (wy_pr rfl) wt_72 wf_2_19 (v := e) (h19) (fun r5 => ?_)
  refine wa_iload_n (n := 3) rfl ?_
  refine wa_isub ?_
  refine wb_pfi 72 rfl (wy_pr rfl) wt_72 wf_2_19 (n := 19) rfl ⟨(by omega), (by omega)⟩ ?_
  refine wa_aload_n (n := 0) rfl ?_
  refine wb_gf5 72 rfl (wy_pr rfl) wt_72 wf_2_1 (v := 162) ((w_up_at (by decide)).trans (h72)) (fun r6 => ?_)
  refine wb_gf4 162 rfl (wy_pr rfl) wt_162 wf_3_0 (v := 163) wl_162_0 ?_
  refine wb_gf4 163 rfl (wy_pr rfl) wt_163 wf_9_0 (v := 164) wl_163_0 ?_
  refine wa_aload_n (n := 0) rfl ?_
  refine wb_gf5 72 rfl (wy_pr rfl) wt_72 wf_2_1 (v := 162) ((w_up_at (by decide)).trans (h72)) (fun r7 => ?_)
  refine wb_gf4 162 rfl (wy_pr rfl) wt_162 wf_3_0 (v := 163) wl_162_0 ?_
  refine wb_gf4 163 rfl (wy_pr rfl) wt_163 wf_9_2 (v := 165) wl_163_2 ?_
  refine wa_iload_n (n := 2) rfl ?_
  refine wb_iald 165 rfl (wy_pr rfl) wt_165 (n := (S 165 (-1))) ((w_up_slot (by decide)).trans (rfl)) (by omega) (by omega) (v := (S 165 (S 181 k))) (w_up_slot (by decide)) (fun r8 => ?_)
  refine wa_aload_n (n := 0) rfl ?_
  refine wb_gf4 72 rfl (wy_pr rfl) wt_72 wf_2_18 (v := 157) wl_72_18 ?_
  refine wa_aload_n (n := 0) rfl ?_
  refine wb_gfi 72 rfl (wy_pr rfl) wt_72 wf_2_19 (v := (e - ((cNa T cs k).length : Int))) (w_up_same _ _ _ _) (fun r9 => ?_)
  refine wa_iload_n (n := 3) rfl ?_
  refine wb_acB (S := (w_up S 72 19 (e - ((cNa T cs k).length : Int)))) 164 157 rfl rfl (wy_pr rfl) (wy_pr rfl) wt_164 wt_157 (gI_up hI (by omega) (by omega) (by omega)) (rmR_up hRm (by omega) (by decide)) (by decide) (by omega) (by omega) (by omega) (by have e : (w_up S 72 19 (e - ((cNa T cs k).length : Int))) 164 (-1) = (S 164 (-1)) := ((w_up_slot (by decide)).trans (rfl)); omega) (by have e : (w_up S 72 19 (e - ((cNa T cs k).length : Int))) 157 (-1) = 64 := ((w_up_slot (by decide)).trans (h57)); omega) (by omega) rfl (fun Z10 g11 gi12 rm13 => ?_)
  refine wa_return rfl ?_
  have e0 : ∀ (j : Nat) (i : Int), (j ≠ 157 ∨ i < e - ((cNa T cs k).length : Int) ∨ e - ((cNa T cs k).length : Int) + ((cNa T cs k).length : Int) ≤ i) → Z10 j i = (w_up S 72 19 (e - ((cNa T cs k).length : Int))) j i := g11.1
  have e2 : ∀ i : Int, 0 ≤ i → i < ((cNa T cs k).length : Int) → Z10 157 (e - ((cNa T cs k).length : Int) + i) = (w_up S 72 19 (e - ((cNa T cs k).length : Int))) 164 (S 165 (S 181 k) + i) := g11.2
  exact ⟨rfl, (e0 72 19 (Or.inl (by first | decide | omega))).trans (w_up_same _ _ _ _), fun q hq => (e2 (q : Int) (by omega) (by omega)).trans ((w_up_slot (by first | decide | omega)).trans (b4 q hq)), fun j x j0 j1 => (e0 j x (by omega)).trans (w_up_no (by omega)), gi12, rm13⟩
set_option maxHeartbeats 4000000 in
theorem xsh7_162 (hX : w_X xs) (hC : w_CL S) (hI : gI S) (h72 : S 72 1 = 162) (hcw : cnW 181 163 T cs S) (hn6 : (cs.length : Int) ≤ 60) (hlt : cLt S Th) (hT : (Th.length : Int) ≤ 8000) (hv : 0 ≤ v ∧ v < (Th.length : Int)) (hof : 0 ≤ S 129 v ∧ S 129 v < (cs.length : Int)) (h57 : S 157 (-1) = 64) : wJ (pe_GA xs) wY0 M (d + 5) t_XH_show ((pe_at t_XH_show.bl 0).getD (0, [])).2 [(0, (2, 72)), (1, (0, 7)), (2, (1, v))] [] S (fun o Z => o = .inl (some (1, (64 - ((hoL T cs 7 v (S 129 v)).length : Int)) * 4294967296 + ((hoL T cs 7 v (S 129 v)).length : Int))) ∧ (hoL T cs 7 v (S 129 v)).length ≤ 64 ∧ shA (hoL T cs 7 v (S 129 v)) 64 (w_up S 72 19 64) Z) := by
  have hlsn := shN_len (v := v)
  have hl2 := hlt.2
  refine wa_aload_n (n := 0) rfl ?_
  refine wa_aload_n (n := 0) rfl ?_
  refine wb_gf4 72 rfl (wy_pr rfl) wt_72 wf_2_18 (v := 157) wl_72_18 ?_
  refine wb_alen 157 rfl (wy_pr rfl) (by rw [wt_157]; rfl) (v := 64) (h57) (fun r1 => ?_)
  refine wb_pfi 72 rfl (wy_pr rfl) wt_72 wf_2_19 (n := 19) rfl ⟨(by omega), (by omega)⟩ ?_
  refine wa_iload_n (n := 1) rfl ?_
  refine wb_sw (w_rg0 (by omega) (by omega)) (tb := 10) rfl ⟨_, rfl⟩ ?_
  refine wa_aload_n (n := 0) rfl ?_
  refine wa_lload_n (n := 2) rfl ?_
  refine wa_cv 72 rfl (wy_pr rfl) wt_72 (M2 := fun _ => False) rfl at_XH_showNumber ⟨_, rfl⟩ rfl rfl ⟨(Or.inr ⟨wy_pr rfl, fun q => q⟩), trivial, trivial, trivial⟩ trivial (fun _ _ q => False.elim q) (sn_ok (v := v) (e := 64) (S := (w_up S 72 19 64)) ⟨by omega, by omega⟩ (w_up_same _ _ _ _) (by decide) ((w_up_slot (by decide)).trans h57) (gI_up hI (by decide) (by decide) (by decide))) (fun oq2 Sq2 hp3 q2 => ?_)
  rcases q2 with ⟨rfl, hsn⟩
  show wJ _ _ _ _ _ _ _ _ _ _
  have z57 : Sq2 157 (-1) = 64 := (hsn.2.2.1 157 (-1) (Or.inr (Or.inl (by omega))) (Or.inl (by first | decide | omega))).trans ((w_up_slot (by first | decide | omega)).trans h57)
  refine wa_aload_n (n := 0) rfl ?_
  refine wa_ks ?_
  refine wa_cv 72 rfl (wy_pr rfl) wt_72 (M2 := fun _ => False) rfl at_XH_showText ⟨_, rfl⟩ rfl rfl ⟨(Or.inr ⟨wy_pr rfl, fun q => q⟩), trivial, trivial, trivial⟩ trivial (fun _ _ q => False.elim q) (st_ok (j := 121) (tx := tx_95) (e := 64 - ((shN v).length : Int)) (S := Sq2) (wx_121 hX) (by decide) (hb_l (by decide)) ⟨by show (1 : Int) ≤ _; omega, by omega⟩ hsn.1 z57 hsn.2.2.2.1) (fun oq4 Sq4 hp5 q4 => ?_)
  rcases q4 with ⟨rfl, hst0⟩
  show wJ _ _ _ _ _ _ _ _ _ _
  have hst : shA [64] (64 - ((shN v).length : Int)) Sq2 Sq4 := hst0
  have hst1 := hst.1
  have z57b : Sq4 157 (-1) = 64 := (hst.2.2.1 157 (-1) (Or.inr (Or.inl (by show _ < 64 - ((shN v).length : Int) - 1; omega))) (Or.inl (by first | decide | omega))).trans z57
  refine wa_aload_n (n := 0) rfl ?_
  refine wa_aload_n (n := 0) rfl ?_
  refine wb_gf4 72 rfl (wy_pr rfl) wt_72 wf_2_2 (v := 126) wl_72_2 ?_
  refine wa_iconst ?_
  refine wb_aald5 126 2 rfl rfl (wy_pr rfl) wt_126 (by rw [show _ = _ from (((hst.2.2.1 126 (-1) (Or.inl (by decide)) (by omega)).trans (((hsn.2.2.1 126 (-1) (Or.inl (by decide)) (by omega)).trans ((w_up_slot (by decide)).trans ((cl_126 hC)))))))]; omega) wl_126_2 ?_
  refine wa_lload_n (n := 2) rfl ?_
  refine wb_l2i_r (y := v) (wb_l2i_id ⟨by omega, by omega⟩) ?_
  refine wb_iald 129 rfl (wy_pr rfl) wt_129 (n := (S 127 (-1))) (((hst.2.2.1 129 (-1) (Or.inl (by decide)) (by omega)).trans (((hsn.2.2.1 129 (-1) (Or.inl (by decide)) (by omega)).trans ((w_up_slot (by decide)).trans ((hlt.1 2 (by decide)))))))) (by omega) (by omega) (v := (S 129 v)) (((hst.2.2.1 129 v (Or.inl (by decide)) (by omega)).trans (((hsn.2.2.1 129 v (Or.inl (by decide)) (by omega)).trans (w_up_slot (by decide)))))) (fun r6 => ?_)
  have fb : ∀ (j : Nat) (x : Int), j ≠ 157 → j ≠ 72 → Sq4 j x = S j x := fun j x j0 j1 => (hst.2.2.1 j x (Or.inl j0) (Or.inl j1)).trans ((hsn.2.2.1 j x (Or.inl j0) (Or.inl j1)).trans (w_up_slot j1))
  have hCB : w_CL Sq4 := fun q hq => (show Sq4 q.1 (-1) = S q.1 (-1) from by by_cases cx : q.1 = 72; exact (hst.2.2.1 q.1 (-1) (Or.inl (by omega)) (Or.inr (by first | decide | omega))).trans ((hsn.2.2.1 q.1 (-1) (Or.inl (by omega)) (Or.inr (by first | decide | omega))).trans (w_up_at (by first | decide | omega))); by_cases cy : q.1 = 157; exact (hst.2.2.1 q.1 (-1) (Or.inr (Or.inl (by show _ < 64 - ((shN v).length : Int) - 1; omega))) (Or.inl cx)).trans ((hsn.2.2.1 q.1 (-1) (Or.inr (Or.inl (by omega))) (Or.inl cx)).trans (w_up_slot cx)); exact fb q.1 (-1) cy cx).trans (hC q hq)
  refine wa_cv 72 rfl (wy_pr rfl) wt_72 (M2 := fun _ => False) rfl at_XH_showClass ⟨_, rfl⟩ rfl rfl ⟨(Or.inr ⟨wy_pr rfl, fun q => q⟩), trivial, trivial, trivial⟩ trivial (fun _ _ q => False.elim q) (shc_162 (S := Sq4) (k := S 129 v) (e := 64 - ((shN v).length : Int) - 1) hCB hst.2.2.2.1 (((hst.2.2.1 72 1 (Or.inl (by decide)) (by omega)).trans (((hsn.2.2.1 72 1 (Or.inl (by decide)) (by omega)).trans ((w_up_at (by decide)).trans (h72)))))) (cnW_ag hcw (fun j x hj => fb j x (by omega) (by omega))) ⟨by omega, by omega, by omega⟩ hst1 ⟨by omega, by omega⟩ z57b) (fun oq7 Sq7 hp8 q7 => ?_)
  rcases q7 with ⟨rfl, hcn⟩
  show wJ _ _ _ _ _ _ _ _ _ _
  have hsh : shA (hoL T cs 7 v (S 129 v)) 64 (w_up S 72 19 64) Sq7 := (show hoL T cs 7 v (S 129 v) = cNa T cs (S 129 v) ++ ([64] ++ shN v) from if_pos rfl) ▸ shA_ap (l2 := [64] ++ shN v) (shA_ap hsn hst) (by rw [show (64 : Int) - ((([64] ++ shN v : List Int).length : Nat) : Int) = 64 - ((shN v).length : Int) - 1 by rw [List.length_append]; show (64 : Int) - ((1 + (shN v).length : Nat) : Int) = _; omega]; exact hcn)
  have hlv : (hoL T cs 7 v (S 129 v)).length ≤ 64 := by rw [show hoL T cs 7 v (S 129 v) = cNa T cs (S 129 v) ++ ([64] ++ shN v) from if_pos rfl, List.length_append, List.length_append]; have := (hcw.2 (S 129 v) (by omega) (by omega)).2.2.2.2; show _ + (1 + _) ≤ 64; omega
  have z57c : Sq7 157 (-1) = 64 := (hsh.2.2.1 157 (-1) (Or.inr (Or.inl (by omega))) (Or.inl (by first | decide | omega))).trans ((w_up_slot (by first | decide | omega)).trans h57)
  refine wa_goto ⟨_, rfl⟩ ?_
  refine wa_aload_n (n := 0) rfl ?_
  refine wb_gfi 72 rfl (wy_pr rfl) wt_72 wf_2_19 (v := (64 - ((hoL T cs 7 v (S 129 v)).length : Int))) (hsh.1) (fun r9 => ?_)
  refine wa_aload_n (n := 0) rfl ?_
  refine wb_gf4 72 rfl (wy_pr rfl) wt_72 wf_2_18 (v := 157) wl_72_18 ?_
  refine wb_alen 157 rfl (wy_pr rfl) (by rw [wt_157]; rfl) (v := 64) (z57c) (fun r10 => ?_)
  refine wa_aload_n (n := 0) rfl ?_
  refine wb_gfi 72 rfl (wy_pr rfl) wt_72 wf_2_19 (v := (64 - ((hoL T cs 7 v (S 129 v)).length : Int))) (hsh.1) (fun r11 => ?_)
  refine wa_isub ?_
  refine wa_cs (M2 := fun _ => False) rfl at_X_slice ⟨_, rfl⟩ rfl rfl ⟨(Or.inr ⟨wy_pr rfl, fun q => q⟩), trivial, trivial, trivial⟩ trivial (fun _ _ q => False.elim q) ?_ (fun _ _ _ q => q)
  refine wa_iload_n (n := 0) rfl ?_
  refine wa_i2l (w_rg0 (by omega) (by omega)) ?_
  refine wa_bipush (w_rg2 (by omega) (by omega)) ?_
  refine wa_lshl ?_
  refine wa_iload_n (n := 1) rfl ?_
  refine wa_i2l (w_rg0 (by omega) (by omega)) ?_
  refine wa_lor ?_
  refine wa_lreturn rfl ?_
  show wJ _ _ _ _ _ _ _ _ _ _
  refine wa_lreturn rfl ?_
  rw [show 64 - (64 - ((hoL T cs 7 v (S 129 v)).length : Int)) = ((hoL T cs 7 v (S 129 v)).length : Int) by omega, sl_mk ⟨by omega, by omega⟩ ⟨by omega, by omega⟩]
  exact ⟨rfl, hlv, hsh⟩
set_option maxHeartbeats 4000000 in
theorem xsh8_162 (hX : w_X xs) (hC : w_CL S) (hI : gI S) (h72 : S 72 1 = 162) (hcw : cnW 181 163 T cs S) (hn6 : (cs.length : Int) ≤ 60) (hv : 0 ≤ v ∧ v < (cs.length : Int)) (h57 : S 157 (-1) = 64) : wJ (pe_GA xs) wY0 M (d + 5) t_XH_show ((pe_at t_XH_show.bl 0).getD (0, [])).2 [(0, (2, 72)), (1, (0, 8)), (2, (1, v))] [] S (fun o Z => o = .inl (some (1, (64 - ((hoL T cs 8 v 0).length : Int)) * 4294967296 + ((hoL T cs 8 v 0).length : Int))) ∧ (hoL T cs 8 v 0).length ≤ 64 ∧ shA (hoL T cs 8 v 0) 64 (w_up S 72 19 64) Z) := by
  have hlsn := shN_len (v := v)
  refine wa_aload_n (n := 0) rfl ?_
  refine wa_aload_n (n := 0) rfl ?_
  refine wb_gf4 72 rfl (wy_pr rfl) wt_72 wf_2_18 (v := 157) wl_72_18 ?_
  refine wb_alen 157 rfl (wy_pr rfl) (by rw [wt_157]; rfl) (v := 64) (h57) (fun r1 => ?_)
  refine wb_pfi 72 rfl (wy_pr rfl) wt_72 wf_2_19 (n := 19) rfl ⟨(by omega), (by omega)⟩ ?_
  refine wa_iload_n (n := 1) rfl ?_
  refine wb_sw (w_rg0 (by omega) (by omega)) (tb := 11) rfl ⟨_, rfl⟩ ?_
  refine wa_aload_n (n := 0) rfl ?_
  refine wa_lload_n (n := 2) rfl ?_
  refine wb_l2i_r (y := v) (wb_l2i_id ⟨by omega, by omega⟩) ?_
  refine wa_cv 72 rfl (wy_pr rfl) wt_72 (M2 := fun _ => False) rfl at_XH_showClass ⟨_, rfl⟩ rfl rfl ⟨(Or.inr ⟨wy_pr rfl, fun q => q⟩), trivial, trivial, trivial⟩ trivial (fun _ _ q => False.elim q) (shc_162 (S := (w_up S 72 19 64)) (k := v) (e := 64) (w_CL_up hC (by decide)) (gI_up hI (by decide) (by decide) (by decide)) ((w_up_at (by decide)).trans (h72)) (cnW_ag hcw (fun j x hj => w_up_slot (by omega))) ⟨by omega, by omega, by omega⟩ (w_up_same _ _ _ _) (by decide) ((w_up_slot (by decide)).trans h57)) (fun oq2 Sq2 hp3 q2 => ?_)
  rcases q2 with ⟨rfl, hcn⟩
  show wJ _ _ _ _ _ _ _ _ _ _
  have hsh : shA (hoL T cs 8 v 0) 64 (w_up S 72 19 64) Sq2 := (show hoL T cs 8 v 0 = cNa T cs v from if_neg (by first | decide | omega)) ▸ hcn
  have hlv : (hoL T cs 8 v 0).length ≤ 64 := by rw [show hoL T cs 8 v 0 = cNa T cs v from if_neg (by first | decide | omega)]; have := (hcw.2 v (by omega) (by omega)).2.2.2.2; omega
  have z57c : Sq2 157 (-1) = 64 := (hsh.2.2.1 157 (-1) (Or.inr (Or.inl (by omega))) (Or.inl (by first | decide | omega))).trans ((w_up_slot (by first | decide | omega)).trans h57)
  refine wa_fall ⟨_, rfl⟩ ?_
  refine wa_aload_n (n := 0) rfl ?_
  refine wb_gfi 72 rfl (wy_pr rfl) wt_72 wf_2_19 (v := (64 - ((hoL T cs 8 v 0).length : Int))) (hsh.1) (fun r4 => ?_)
  refine wa_aload_n (n := 0) rfl ?_
  refine wb_gf4 72 rfl (wy_pr rfl) wt_72 wf_2_18 (v := 157) wl_72_18 ?_
  refine wb_alen 157 rfl (wy_pr rfl) (by rw [wt_157]; rfl) (v := 64) (z57c) (fun r5 => ?_)
  refine wa_aload_n (n := 0) rfl ?_
  refine wb_gfi 72 rfl (wy_pr rfl) wt_72 wf_2_19 (v := (64 - ((hoL T cs 8 v 0).length : Int))) (hsh.1) (fun r6 => ?_)
  refine wa_isub ?_
  refine wa_cs (M2 := fun _ => False) rfl at_X_slice ⟨_, rfl⟩ rfl rfl ⟨(Or.inr ⟨wy_pr rfl, fun q => q⟩), trivial, trivial, trivial⟩ trivial (fun _ _ q => False.elim q) ?_ (fun _ _ _ q => q)
  refine wa_iload_n (n := 0) rfl ?_
  refine wa_i2l (w_rg0 (by omega) (by omega)) ?_
  refine wa_bipush (w_rg2 (by omega) (by omega)) ?_
  refine wa_lshl ?_
  refine wa_iload_n (n := 1) rfl ?_
  refine wa_i2l (w_rg0 (by omega) (by omega)) ?_
  refine wa_lor ?_
  refine wa_lreturn rfl ?_
  show wJ _ _ _ _ _ _ _ _ _ _
  refine wa_lreturn rfl ?_
  rw [show 64 - (64 - ((hoL T cs 8 v 0).length : Int)) = ((hoL T cs 8 v 0).length : Int) by omega, sl_mk ⟨by omega, by omega⟩ ⟨by omega, by omega⟩]
  exact ⟨rfl, hlv, hsh⟩
set_option maxHeartbeats 4000000 in
theorem xprg (h57 : S 157 (-1) = 64) (hI : gI S) (hk : 4 ≤ k ∧ k ≤ 8) (hlv : l.length ≤ 64) (hsw : wJ (pe_GA xs) wY0 (mS []) (d + 5) t_XH_show ((pe_at t_XH_show.bl 0).getD (0, [])).2 [(0, (2, 72)), (1, (0, k)), (2, (1, v))] [] S (fun o Z => o = .inl (some (1, (64 - (l.length : Int)) * 4294967296 + (l.length : Int))) ∧ shA l 64 (w_up S 72 19 64) Z)) (h13 : S 72 13 = on) (hon : 0 ≤ on ∧ on ≤ 65536 ∧ on ≤ S 151 (-1)) (hlo : 16 ≤ S 151 (-1) ∧ S 151 (-1) ≤ 131072) : wJ (pe_GA xs) wY0 (mS [151]) (d + 6) t_XH_print ((pe_at t_XH_print.bl 0).getD (0, [])).2 [(0, (2, 72)), (1, (0, k)), (2, (1, v))] [] S (fun o Z => (65536 < on + (l.length : Int) + 1 ∧ o = .inl (some (0, 0)) ∧ shA l 64 (w_up S 72 19 64) Z) ∨ (on + (l.length : Int) + 1 ≤ 65536 ∧ o = .inl (some (0, 1)) ∧ coA on l S Z)) := by
  have hg : wG = 1000000 := rfl
  refine wa_aload_n (n := 0) rfl ?_
  refine wa_iload_n (n := 1) rfl ?_
  refine wa_lload_n (n := 2) rfl ?_
  refine wa_cv 72 rfl (wy_pr rfl) wt_72 (M2 := mS []) rfl at_XH_show ⟨_, rfl⟩ rfl rfl ⟨(Or.inr ⟨wy_pr rfl, mS_no rfl⟩), trivial, trivial, trivial⟩ trivial (fun _ _ q => mS_sub (by decide) q) (hsw) (fun oq1 Sq1 hp2 q1 => ?_)
  rcases q1 with ⟨rfl, hsh⟩
  show wJ _ _ _ _ _ _ _ _ _ _
  have hshF0 := hsh.2.2.1
  have hshF : ∀ (j : Nat) (x : Int), (j ≠ 157 ∨ x < 64 - (l.length : Int) ∨ 64 ≤ x) → (j ≠ 72 ∨ x ≠ 19) → Sq1 j x = S j x := fun j x j0 j1 => (hshF0 j x j0 j1).trans (w_up_no (by omega))
  have hshG := hsh.2.2.2.1
  have hshR : rmR S Sq1 := rmR_tr (rmR_up (rmR_rfl S) (by first | decide | omega) (by first | decide | omega)) hsh.2.2.2.2
  refine wa_lstore (n := 4) rfl ?_
  refine wa_lload (n := 4) rfl ?_
  refine wa_cs (M2 := fun _ => False) rfl at_X_sliceSize ⟨_, rfl⟩ rfl rfl ⟨trivial, (Or.inr ⟨wy_pr rfl, fun q => q⟩), trivial, trivial, trivial⟩ trivial (fun _ _ q => False.elim q) ?_ (fun _ _ _ q => q)
  refine wa_lload_n (n := 0) rfl ?_
  refine wb_l2i_r (y := (l.length : Int)) (sl_z ⟨by omega, by omega⟩ ⟨by omega, by omega⟩) ?_
  refine wa_ireturn rfl ?_
  show wJ _ _ _ _ _ _ _ _ _ _
  refine wa_istore (n := 6) rfl ?_
  refine wa_aload_n (n := 0) rfl ?_
  refine wb_gfi 72 rfl (wy_pr rfl) wt_72 wf_2_13 (v := on) (((hshF 72 13 (Or.inl (by decide)) (by omega)).trans (h13))) (fun r3 => ?_)
  refine wa_iload (n := 6) rfl ?_
  refine wa_iadd ?_
  refine wa_iconst ?_
  refine wa_iadd ?_
  refine wa_istore (n := 7) rfl ?_
  refine wa_iload (n := 7) rfl ?_
  refine wb_ki (n := 65536) rfl ?_
  refine wa_icmple (w_rg0 (by omega) (by omega)) (w_rg0 (by omega) (by omega)) ⟨_, rfl⟩ (fun c4 => ?_) (fun c4 => ?_)
  · skip
    refine wa_iload (n := 7) rfl ?_
    refine wa_aload_n (n := 0) rfl ?_
    refine wb_gf4 72 rfl (wy_pr rfl) wt_72 wf_2_12 (v := 151) wl_72_12 ?_
    refine wb_alen 151 rfl (wy_pr rfl) (by rw [wt_151]; rfl) (v := (S 151 (-1))) (((hshF 151 (-1) (Or.inl (by decide)) (by omega)).trans (rfl))) (fun r5 => ?_)
    refine wa_icmple (w_rg0 (by omega) (by omega)) (w_rg0 (by omega) (by omega)) ⟨_, rfl⟩ (fun c6 => ?_) (fun c6 => ?_)
    · skip
      refine wa_aload_n (n := 0) rfl ?_
      refine wa_iload_n (n := 1) rfl ?_
      refine wa_cv 72 rfl (wy_pr rfl) wt_72 (M2 := fun _ => False) rfl at_XH_shownIn ⟨_, rfl⟩ rfl rfl ⟨trivial, trivial, trivial, (Or.inr ⟨wy_pr rfl, fun q => q⟩), trivial, trivial, trivial⟩ trivial (fun _ _ q => False.elim q) ?_ (fun _ _ _ q => q)
      refine wa_iload_n (n := 1) rfl ?_
      refine wa_iconst ?_
      refine wa_icmpne (w_rg0 (by omega) (by omega)) (w_rg0 (by omega) (by omega)) ⟨_, rfl⟩ (fun c7 => ?_) (fun c7 => ?_)
      · skip
        refine wa_aload_n (n := 0) rfl ?_
        refine wb_gf4 72 rfl (wy_pr rfl) wt_72 wf_2_18 (v := 157) wl_72_18 ?_
        refine wa_fall ⟨_, rfl⟩ ?_
        refine wa_areturn rfl ?_
        show wJ _ _ _ _ _ _ _ _ _ _
        refine wa_lload (n := 4) rfl ?_
        refine wa_cs (M2 := fun _ => False) rfl at_X_sliceStart ⟨_, rfl⟩ rfl rfl ⟨trivial, trivial, trivial, (Or.inr ⟨wy_pr rfl, fun q => q⟩), trivial, trivial, trivial⟩ ⟨(Or.inr ⟨wy_pr rfl, fun q => q⟩), trivial⟩ (fun _ _ q => False.elim q) ?_ (fun _ _ _ q => q)
        refine wa_lload_n (n := 0) rfl ?_
        refine wa_bipush (w_rg2 (by omega) (by omega)) ?_
        refine wa_lushr ?_
        refine wb_l2i_r (y := (64 - (l.length : Int))) (sl_s ⟨by omega, by omega⟩ ⟨by omega, by omega⟩) ?_
        refine wa_ireturn rfl ?_
        show wJ _ _ _ _ _ _ _ _ _ _
        refine wa_aload_n (n := 0) rfl ?_
        refine wb_gf4 72 rfl (wy_pr rfl) wt_72 wf_2_12 (v := 151) wl_72_12 ?_
        refine wa_aload_n (n := 0) rfl ?_
        refine wb_gfi 72 rfl (wy_pr rfl) wt_72 wf_2_13 (v := on) (((hshF 72 13 (Or.inl (by decide)) (by omega)).trans (h13))) (fun r8 => ?_)
        refine wa_iload (n := 6) rfl ?_
        refine wb_acB (S := Sq1) 157 151 rfl rfl (wy_pr rfl) (wy_pr rfl) wt_157 wt_151 hshG hshR (by decide) (by omega) (by omega) (by omega) (by have e : Sq1 157 (-1) = 64 := (((hshF 157 (-1) (Or.inr (Or.inl (by omega))) (by omega)).trans (h57))); omega) (by have e : Sq1 151 (-1) = (S 151 (-1)) := (((hshF 151 (-1) (Or.inl (by decide)) (by omega)).trans (rfl))); omega) (by omega) rfl (fun Z9 g10 gi11 rm12 => ?_)
        refine wa_aload_n (n := 0) rfl ?_
        refine wb_gf4 72 rfl (wy_pr rfl) wt_72 wf_2_12 (v := 151) wl_72_12 ?_
        refine wa_iload (n := 7) rfl ?_
        refine wa_iconst ?_
        refine wa_isub ?_
        refine wa_bipush (w_rg2 (by omega) (by omega)) ?_
        refine wb_bast 151 rfl (wy_pr rfl) wt_151 (n := (S 151 (-1))) (((g10.1 151 (-1) (by omega)).trans (((hshF 151 (-1) (Or.inl (by decide)) (by omega)).trans (rfl))))) (by omega) (by omega) ⟨(by omega), (by omega)⟩ ?_
        refine wa_aload_n (n := 0) rfl ?_
        refine wa_iload (n := 7) rfl ?_
        refine wb_pfi 72 rfl (wy_pr rfl) wt_72 wf_2_13 (n := 13) rfl ⟨(by omega), (by omega)⟩ ?_
        refine wa_iconst ?_
        refine wa_zreturn rfl (Or.inr rfl) ?_
        have e0 : ∀ (j : Nat) (i : Int), (j ≠ 151 ∨ i < on ∨ on + (l.length : Int) ≤ i) → Z9 j i = Sq1 j i := g10.1
        have e2 : ∀ i : Int, 0 ≤ i → i < (l.length : Int) → Z9 151 (on + i) = Sq1 157 (64 - (l.length : Int) + i) := g10.2
        have zz : ∀ (j : Nat) (i : Int), j < 4000000 → j ≠ wG → j ≠ 151 → Sq1 j i = Sq1 j i := fun _ _ _ _ _ => rfl
        have zo : ∀ x : Int, 0 ≤ x → x < on → Sq1 151 x = S 151 x := fun x _ _ => hshF 151 x (Or.inl (by first | decide | omega)) (Or.inl (by first | decide | omega))
        have zl : Sq1 151 (-1) = S 151 (-1) := hshF 151 (-1) (Or.inl (by first | decide | omega)) (Or.inl (by first | decide | omega))
        have e1 : (w_up (w_up Z9 151 (((on + (l.length : Int)) + 1) - 1) 10) 72 13 ((on + (l.length : Int)) + 1)) 151 (-1) = (S 151 (-1)) := (w_up_slot (by first | decide | omega)).trans ((w_up_at (by omega)).trans ((e0 151 (-1) (by omega)).trans zl))
        refine Or.inr ⟨by omega, rfl, w_up_same _ _ _ _, fun q hq => ?_, ?_, fun x x0 x1 => (w_up_slot (by first | decide | omega)).trans ((w_up_at (by omega)).trans ((e0 151 x (by omega)).trans (zo x x0 x1))), fun j x j0 j1 j2 j3 j4 => (w_up_no (by omega)).trans ((w_up_slot j2).trans ((e0 j x (Or.inl j2)).trans ((zz j x j0 j1 j2).trans (hshF j x (by omega) (by omega))))), by rw [e1]; omega, (gI_up (gI_up gi11 (by omega) (by omega) (by omega)) (by omega) (by omega) (by omega)), (rmR_up (rmR_up rm12 (by omega) (by first | decide | omega)) (by omega) (by first | decide | omega))⟩
        · have y := e2 (q : Int) (by omega) (by omega)
          exact (w_up_slot (by first | decide | omega)).trans ((w_up_at (by omega)).trans (y.trans ((zz 157 _ (by first | decide | omega) (by first | decide | omega) (by first | decide | omega)).trans (hsh.2.1 q hq))))
        · rw [w_up_slot (by first | decide | omega), show on + (l.length : Int) + 1 - 1 = on + (l.length : Int) by omega]; exact w_up_same _ _ _ _
      · skip
        exact absurd c7 (by omega)
    · skip
      refine wa_aload_n (n := 0) rfl ?_
      refine wa_aload_n (n := 0) rfl ?_
      refine wb_gf4 72 rfl (wy_pr rfl) wt_72 wf_2_12 (v := 151) wl_72_12 ?_
      refine wa_iload (n := 7) rfl ?_
      refine wa_aload_n (n := 0) rfl ?_
      refine wb_gf4 72 rfl (wy_pr rfl) wt_72 wf_2_12 (v := 151) wl_72_12 ?_
      refine wb_alen 151 rfl (wy_pr rfl) (by rw [wt_151]; rfl) (v := (S 151 (-1))) (((hshF 151 (-1) (Or.inl (by decide)) (by omega)).trans (rfl))) (fun r13 => ?_)
      refine wa_iconst ?_
      refine wa_imul ?_
      refine wa_cs (M2 := fun _ => False) rfl at_JM_max ⟨_, rfl⟩ rfl rfl ⟨trivial, trivial, trivial, (Or.inr ⟨wy_pr rfl, fun q => q⟩), trivial, trivial, trivial⟩ ⟨(Or.inr ⟨wy_pr rfl, fun q => q⟩), (Or.inr ⟨wy_pr rfl, fun q => q⟩), trivial⟩ (fun _ _ q => False.elim q) (mx_ok (S := Sq1) ⟨by omega, by omega⟩ ⟨by omega, by omega⟩) (fun oq15 Sq15 hp16 q15 => ?_)
      rcases q15 with ⟨rfl, rfl⟩
      show wJ _ _ _ _ _ _ _ _ _ _
      generalize hvv14 : (if ((on + (l.length : Int)) + 1) ≥ ((S 151 (-1)) * 2) then ((on + (l.length : Int)) + 1) else ((S 151 (-1)) * 2)) = v14
      have hwv14 : ((on + (l.length : Int)) + 1) ≤ v14 ∧ ((S 151 (-1)) * 2) ≤ v14 ∧ (v14 = ((on + (l.length : Int)) + 1) ∨ v14 = ((S 151 (-1)) * 2)) := by subst hvv14; split <;> omega
      refine wa_cs (M2 := fun _ => False) rfl at_JA_copyOf ⟨_, rfl⟩ rfl rfl ⟨trivial, trivial, trivial, (Or.inr ⟨wy_pr rfl, fun q => q⟩), trivial, trivial, trivial⟩ ⟨(Or.inr ⟨wy_pr rfl, fun q => q⟩), trivial⟩ (fun _ _ q => False.elim q) (cp_B (S := Sq1) (a := 151) (n := v14) (len := (S 151 (-1))) (wy_pr rfl) wt_151 (((hshF 151 (-1) (Or.inl (by decide)) (by omega)).trans (rfl))) ⟨by omega, by omega, by omega⟩) (fun oq17 Sq17 _ q17 => ?_)
      rcases q17 with ⟨rfl, rfl⟩
      show wJ _ _ _ _ _ _ _ _ _ _
      refine wg_pf (S := Sq1) (len := (S 151 (-1))) 2 72 151 rfl rfl rfl wt_72 wf_2_12 wl_72_12 (by decide +kernel) wt_151 (by first | decide | omega) (by decide +kernel) hshG (fun q => absurd q (by first | decide | omega)) (by first | decide | omega) ⟨by omega, by omega⟩ (((hshF 151 (-1) (Or.inl (by first | decide | omega)) (by omega)).trans (rfl))) (fun _ => ⟨Or.inr (by first | decide | omega), Or.inl (nN_ge _)⟩) ⟨trivial, trivial, trivial, (Or.inr ⟨wy_pr rfl, mS_no rfl⟩), trivial, trivial, trivial⟩ trivial (fun Z18 g19 gi20 => ?_)
      have rm21 := rmR_gr hshR g19 (by decide +kernel) (len := (S 151 (-1))) (((hshF 151 (-1) (Or.inl (by first | decide | omega)) (by omega)).trans (rfl))) ⟨by omega, by omega⟩ ⟨fun q => by first | omega | exact absurd q (by decide), by show _ ≤ (100000000 : Int); omega⟩
      refine wa_fall ⟨_, rfl⟩ ?_
      refine wa_aload_n (n := 0) rfl ?_
      refine wa_iload_n (n := 1) rfl ?_
      refine wa_cv 72 rfl (wy_pr rfl) wt_72 (M2 := fun _ => False) rfl at_XH_shownIn ⟨_, rfl⟩ rfl rfl ⟨trivial, trivial, trivial, (Or.inr ⟨wy_pr rfl, fun q => q⟩), trivial, trivial, trivial⟩ trivial (fun _ _ q => False.elim q) ?_ (fun _ _ _ q => q)
      refine wa_iload_n (n := 1) rfl ?_
      refine wa_iconst ?_
      refine wa_icmpne (w_rg0 (by omega) (by omega)) (w_rg0 (by omega) (by omega)) ⟨_, rfl⟩ (fun c22 => ?_) (fun c22 => ?_)
      · skip
        refine wa_aload_n (n := 0) rfl ?_
        refine wb_gf4 72 rfl (wy_pr rfl) wt_72 wf_2_18 (v := 157) wl_72_18 ?_
        refine wa_fall ⟨_, rfl⟩ ?_
        refine wa_areturn rfl ?_
        show wJ _ _ _ _ _ _ _ _ _ _
        refine wa_lload (n := 4) rfl ?_
        refine wa_cs (M2 := fun _ => False) rfl at_X_sliceStart ⟨_, rfl⟩ rfl rfl ⟨trivial, trivial, trivial, (Or.inr ⟨wy_pr rfl, fun q => q⟩), trivial, trivial, trivial⟩ ⟨(Or.inr ⟨wy_pr rfl, fun q => q⟩), trivial⟩ (fun _ _ q => False.elim q) ?_ (fun _ _ _ q => q)
        refine wa_lload_n (n := 0) rfl ?_
        refine wa_bipush (w_rg2 (by omega) (by omega)) ?_
        refine wa_lushr ?_
        refine wb_l2i_r (y := (64 - (l.length : Int))) (sl_s ⟨by omega, by omega⟩ ⟨by omega, by omega⟩) ?_
        refine wa_ireturn rfl ?_
        show wJ _ _ _ _ _ _ _ _ _ _
        refine wa_aload_n (n := 0) rfl ?_
        refine wb_gf4 72 rfl (wy_pr rfl) wt_72 wf_2_12 (v := 151) wl_72_12 ?_
        refine wa_aload_n (n := 0) rfl ?_
        refine wb_gfi 72 rfl (wy_pr rfl) wt_72 wf_2_13 (v := on) (((congrFun (g19.2.2.1 72 (by decide) (by decide) (by decide)) 13).trans (((hshF 72 13 (Or.inl (by decide)) (by omega)).trans (h13))))) (fun r23 => ?_)
        refine wa_iload (n := 6) rfl ?_
        refine wb_acB (S := Z18) 157 151 rfl rfl (wy_pr rfl) (wy_pr rfl) wt_157 wt_151 gi20 rm21 (by decide) (by omega) (by omega) (by omega) (by have e : Z18 157 (-1) = 64 := (((congrFun (g19.2.2.1 157 (by decide) (by decide) (by decide)) (-1)).trans (((hshF 157 (-1) (Or.inr (Or.inl (by omega))) (by omega)).trans (h57))))); omega) (by have e : Z18 151 (-1) = v14 := (g19.1); omega) (by omega) rfl (fun Z24 g25 gi26 rm27 => ?_)
        refine wa_aload_n (n := 0) rfl ?_
        refine wb_gf4 72 rfl (wy_pr rfl) wt_72 wf_2_12 (v := 151) wl_72_12 ?_
        refine wa_iload (n := 7) rfl ?_
        refine wa_iconst ?_
        refine wa_isub ?_
        refine wa_bipush (w_rg2 (by omega) (by omega)) ?_
        refine wb_bast 151 rfl (wy_pr rfl) wt_151 (n := v14) (((g25.1 151 (-1) (by omega)).trans (g19.1))) (by omega) (by omega) ⟨(by omega), (by omega)⟩ ?_
        refine wa_aload_n (n := 0) rfl ?_
        refine wa_iload (n := 7) rfl ?_
        refine wb_pfi 72 rfl (wy_pr rfl) wt_72 wf_2_13 (n := 13) rfl ⟨(by omega), (by omega)⟩ ?_
        refine wa_iconst ?_
        refine wa_zreturn rfl (Or.inr rfl) ?_
        have e0 : ∀ (j : Nat) (i : Int), (j ≠ 151 ∨ i < on ∨ on + (l.length : Int) ≤ i) → Z24 j i = Z18 j i := g25.1
        have e2 : ∀ i : Int, 0 ≤ i → i < (l.length : Int) → Z24 151 (on + i) = Z18 157 (64 - (l.length : Int) + i) := g25.2
        have zz : ∀ (j : Nat) (i : Int), j < 4000000 → j ≠ wG → j ≠ 151 → Z18 j i = Sq1 j i := fun j i j1 j2 j3 => congrFun (g19.2.2.1 j j3 j1 j2) i
        have za : Sq1 151 (-1) = S 151 (-1) := hshF 151 (-1) (Or.inl (by first | decide | omega)) (Or.inl (by first | decide | omega))
        have zo : ∀ x : Int, 0 ≤ x → x < on → Z18 151 x = S 151 x := fun x x0 x1 => (g19.2.1 x x0 (by omega)).trans (hshF 151 x (Or.inl (by first | decide | omega)) (Or.inl (by first | decide | omega)))
        have zl : Z18 151 (-1) = v14 := g19.1
        have e1 : (w_up (w_up Z24 151 (((on + (l.length : Int)) + 1) - 1) 10) 72 13 ((on + (l.length : Int)) + 1)) 151 (-1) = v14 := (w_up_slot (by first | decide | omega)).trans ((w_up_at (by omega)).trans ((e0 151 (-1) (by omega)).trans zl))
        refine Or.inr ⟨by omega, rfl, w_up_same _ _ _ _, fun q hq => ?_, ?_, fun x x0 x1 => (w_up_slot (by first | decide | omega)).trans ((w_up_at (by omega)).trans ((e0 151 x (by omega)).trans (zo x x0 x1))), fun j x j0 j1 j2 j3 j4 => (w_up_no (by omega)).trans ((w_up_slot j2).trans ((e0 j x (Or.inl j2)).trans ((zz j x j0 j1 j2).trans (hshF j x (by omega) (by omega))))), by rw [e1]; omega, (gI_up (gI_up gi26 (by omega) (by omega) (by omega)) (by omega) (by omega) (by omega)), (rmR_up (rmR_up rm27 (by omega) (by first | decide | omega)) (by omega) (by first | decide | omega))⟩
        · have y := e2 (q : Int) (by omega) (by omega)
          exact (w_up_slot (by first | decide | omega)).trans ((w_up_at (by omega)).trans (y.trans ((zz 157 _ (by first | decide | omega) (by first | decide | omega) (by first | decide | omega)).trans (hsh.2.1 q hq))))
        · rw [w_up_slot (by first | decide | omega), show on + (l.length : Int) + 1 - 1 = on + (l.length : Int) by omega]; exact w_up_same _ _ _ _
      · skip
        exact absurd c22 (by omega)
  · skip
    refine wa_iconst ?_
    refine wa_zreturn rfl (Or.inl rfl) ?_
    exact Or.inl ⟨by omega, rfl, hsh⟩
theorem zbh_73_215 (h : stC 215 S K) (hi : cIn S K 28 0 b) (hX : w_X xs) (h57 : S 157 (-1) = 64) (hou : cOu S o) (h72 : S 72 1 = 73) (hcw : cnW 92 74 T cs S) (hn6 : (cs.length : Int) ≤ 60) (hth : cTh S Th) (hlt : cLt S Th) (hT : (Th.length : Int) ≤ 8000) (hh1 : 1 ≤ K.1.length) (hk : (K.1.getD (K.1.length - 1) (0, 0, [])).1 = 7 ∨ (K.1.getD (K.1.length - 1) (0, 0, [])).1 = 8) (h7 : (K.1.getD (K.1.length - 1) (0, 0, [])).1 = 7 → (0 ≤ (K.1.getD (K.1.length - 1) (0, 0, [])).2.1 ∧ (K.1.getD (K.1.length - 1) (0, 0, [])).2.1 < (Th.length : Int)) ∧ 0 ≤ (tO Th (K.1.getD (K.1.length - 1) (0, 0, [])).2.1).2.2.1 ∧ (tO Th (K.1.getD (K.1.length - 1) (0, 0, [])).2.1).2.2.1 < (cs.length : Int)) (h8 : (K.1.getD (K.1.length - 1) (0, 0, [])).1 = 8 → 0 ≤ (K.1.getD (K.1.length - 1) (0, 0, [])).2.1 ∧ (K.1.getD (K.1.length - 1) (0, 0, [])).2.1 < (cs.length : Int)) (hm : (o.length : Int) + ((pH T cs Th (K.1.getD (K.1.length - 1) (0, 0, []))).length : Int) + 1 ≤ 65536) : cSm xs d 215 [217, 218, 151] cMp S (kP K 1 (0, 0, [])) (fun Z => cOu Z (o ++ (pH T cs Th (K.1.getD (K.1.length - 1) (0, 0, []))) ++ [10])) := by
  obtain ⟨h1, ⟨h2, h2b⟩, ⟨h3, h4, h5⟩, -⟩ := id h
  have hk0 : cTk 215 (w_up S 215 16 0) K := cTk_16 h1 (Or.inl rfl)
  have hf : cFr 215 S (w_up S 215 16 0) := cFr_up (Or.inl rfl) (cFr_rfl h2b) (by first | decide | omega) (by omega)
  have hcy := c_at h1 (i := K.1.length - 1) (by omega) (j := (K.1.length : Int) - 1) (by omega)
  have ef : ∀ (j : Nat) (x : Int), j < 215 → (w_up S 215 16 0) j x = S j x := fun j x j0 => w_up_slot (by omega)
  obtain ⟨o1, o2, ⟨o3, o4, o5⟩, o6⟩ := id hou
  have hIT : gI (w_up S 215 16 0) := gI_up h2b (by first | decide | omega) (by first | decide | omega) (by first | decide | omega)
  have hCT : w_CL (w_up S 215 16 0) := w_CL_up h2 (by first | decide | omega)
  have e51 : (w_up S 215 16 0) 151 (-1) = S 151 (-1) := ef 151 _ (by first | decide | omega)
  have ev : S 218 ((K.1.length : Int) - 1) = (K.1.getD (K.1.length - 1) (0, 0, [])).2.1 := cV_v hcy (by omega)
  have hcwT : cnW 92 74 T cs (w_up S 215 16 0) := cnW_ag hcw (fun j x hj => ef j x (by omega))
  have hsw : (pH T cs Th (K.1.getD (K.1.length - 1) (0, 0, []))).length ≤ 64 ∧ wJ (pe_GA xs) wY0 (mS []) (d + 8) t_XH_show ((pe_at t_XH_show.bl 0).getD (0, [])).2 [(0, (2, 72)), (1, (0, (K.1.getD (K.1.length - 1) (0, 0, [])).1)), (2, (1, (K.1.getD (K.1.length - 1) (0, 0, [])).2.1))] [] (w_up S 215 16 0) (fun o Z => o = .inl (some (1, (64 - ((pH T cs Th (K.1.getD (K.1.length - 1) (0, 0, []))).length : Int)) * 4294967296 + ((pH T cs Th (K.1.getD (K.1.length - 1) (0, 0, []))).length : Int))) ∧ shA (pH T cs Th (K.1.getD (K.1.length - 1) (0, 0, []))) 64 (w_up (w_up S 215 16 0) 72 19 64) Z) := by
    rcases hk with c | c
    · have z7 := h7 c
      have e129 : (w_up S 215 16 0) 129 (K.1.getD (K.1.length - 1) (0, 0, [])).2.1 = (tO Th (K.1.getD (K.1.length - 1) (0, 0, [])).2.1).2.2.1 := (ef 129 _ (by first | decide | omega)).trans (c_th hth z7.1.1 z7.1.2).1.2.2.1
      have el : hoL T cs 7 (K.1.getD (K.1.length - 1) (0, 0, [])).2.1 ((w_up S 215 16 0) 129 (K.1.getD (K.1.length - 1) (0, 0, [])).2.1) = (pH T cs Th (K.1.getD (K.1.length - 1) (0, 0, []))) := by rw [e129]; exact ((if_pos rfl).trans (if_pos c).symm)
      have hw := xsh7_73 (xs := xs) (M := mS []) (d := d + 3) (v := (K.1.getD (K.1.length - 1) (0, 0, [])).2.1) (Th := Th) hX hCT hIT ((ef 72 1 (by first | decide | omega)).trans h72) hcwT hn6 (show cLt (w_up S 215 16 0) Th from ⟨fun x hx => by rw [ef (127 + x) _ (by omega), ef 127 _ (by first | decide | omega)]; exact hlt.1 x hx, by rw [ef 127 _ (by first | decide | omega)]; exact hlt.2⟩) hT z7.1 (by rw [e129]; exact z7.2) ((ef 157 _ (by first | decide | omega)).trans h57)
      rw [el] at hw
      rw [c]
      exact ⟨by have z := (hcw.2 _ z7.2.1 z7.2.2).2.2.2.2; have y := shN_len (v := (K.1.getD (K.1.length - 1) (0, 0, [])).2.1); rw [show (pH T cs Th (K.1.getD (K.1.length - 1) (0, 0, []))) = cNa T cs (tO Th (K.1.getD (K.1.length - 1) (0, 0, [])).2.1).2.2.1 ++ ([64] ++ shN (K.1.getD (K.1.length - 1) (0, 0, [])).2.1) from if_pos c, List.length_append, List.length_append]; show _ + (1 + _) ≤ 64; omega, wJ_mono hw (fun o Z hz => ⟨hz.1, hz.2.2⟩)⟩
    · have z8 := h8 c
      have el : hoL T cs 8 (K.1.getD (K.1.length - 1) (0, 0, [])).2.1 0 = (pH T cs Th (K.1.getD (K.1.length - 1) (0, 0, []))) := (if_neg (by first | decide | omega)).trans (if_neg (by omega)).symm
      have hw := xsh8_73 (xs := xs) (M := mS []) (d := d + 3) (v := (K.1.getD (K.1.length - 1) (0, 0, [])).2.1) hX hCT hIT ((ef 72 1 (by first | decide | omega)).trans h72) hcwT hn6 z8 ((ef 157 _ (by first | decide | omega)).trans h57)
      rw [el] at hw
      rw [c]
      exact ⟨by have z := (hcw.2 _ z8.1 z8.2).2.2.2.2; rw [show (pH T cs Th (K.1.getD (K.1.length - 1) (0, 0, []))) = cNa T cs (K.1.getD (K.1.length - 1) (0, 0, [])).2.1 from if_neg (by omega)]; omega, wJ_mono hw (fun o Z hz => ⟨hz.1, hz.2.2⟩)⟩
  have hpr : wJ (pe_GA xs) wY0 (mS [151]) (d + 9) t_XH_print ((pe_at t_XH_print.bl 0).getD (0, [])).2 [(0, (2, 72)), (1, (0, (K.1.getD (K.1.length - 1) (0, 0, [])).1)), (2, (1, S 218 ((K.1.length : Int) - 1)))] [] (w_up S 215 16 0) (fun z Z => (65536 < (o.length : Int) + ((pH T cs Th (K.1.getD (K.1.length - 1) (0, 0, []))).length : Int) + 1 ∧ z = .inl (some (0, 0)) ∧ prN (w_up S 215 16 0) Z) ∨ ((o.length : Int) + ((pH T cs Th (K.1.getD (K.1.length - 1) (0, 0, []))).length : Int) + 1 ≤ 65536 ∧ z = .inl (some (0, 1)) ∧ coA (o.length : Int) (pH T cs Th (K.1.getD (K.1.length - 1) (0, 0, []))) (w_up S 215 16 0) Z)) := by
    rw [ev]
    refine wJ_mono (xprg (d := d + 3) (k := (K.1.getD (K.1.length - 1) (0, 0, [])).1) (v := (K.1.getD (K.1.length - 1) (0, 0, [])).2.1) (l := (pH T cs Th (K.1.getD (K.1.length - 1) (0, 0, [])))) ((ef 157 _ (by first | decide | omega)).trans h57) hIT (by omega) hsw.1 hsw.2 ((ef 72 13 (by first | decide | omega)).trans o1) ⟨by omega, by omega, by rw [e51]; exact o3⟩ (by rw [e51]; exact ⟨o4, o5⟩)) (fun z Z hz => ?_)
    rcases hz with ⟨z1, z2, z3⟩ | hz
    · exact Or.inl ⟨z1, z2, prN_s z3 hsw.1⟩
    · exact Or.inr hz
  have hcal := xb0_215 (xs := xs) (d := d) (xP_of (Or.inl rfl) h) ((w_up_slot (by first | decide | omega)).trans hcy.1) (w_up_slot (by first | decide | omega)) (by omega) hpr
  refine cg_b_215 h hi.1 hi.2.1 hi.2.2 (by first | decide | omega) (fun q => by omega) (by first | decide | omega) (by unfold mS; decide) hcal (fun Z hz => ?_)
  rcases hz with ⟨z, -⟩ | ⟨-, A, hA, hs⟩
  · omega
  have hg : wG = 1000000 := rfl
  have fA := co_fm (w := 215) (Or.inl rfl) hA
  have frA := hA.2.2.2.2.1
  have hkA : cTk 215 A K := cTk_fr hk0 (cTx_of (frA 2 1 (by first | decide | omega) (by first | decide | omega) (by first | decide | omega) (Or.inl (by first | decide | omega)) (Or.inl (by first | decide | omega))) (fun x => frA 3 x (by first | decide | omega) (by first | decide | omega) (by first | decide | omega) (Or.inl (by first | decide | omega)) (Or.inl (by first | decide | omega)))) (fun j y j0 j1 => frA j y (by omega) (by omega) (by omega) (by omega) (by omega))
  have fZ := cFr_sO (Or.inl rfl) (cFr_rfl fA.2.2.1) (by omega) hs
  have ouT : cOu (w_up S 215 16 0) o := cOu_ag hou (ef 72 13 (by first | decide | omega)) (fun x => ef 151 x (by first | decide | omega))
  refine ⟨(sO_16 (Or.inl rfl) hs).trans ((frA 215 16 (by first | decide | omega) (by first | decide | omega) (by first | decide | omega) (Or.inl (by first | decide | omega)) (Or.inl (by first | decide | omega))).trans (w_up_same _ _ _ _)), cTk_sO hkA (Or.inl rfl) hs rfl rfl h3 rfl hh1 (by omega) (cV_e (by first | decide | omega) rfl), cFm_tr (cFm_tr (cFm_r hf) fA) (cFm_r fZ), cOu_ag (cOu_a ouT hA hm) (fZ.1 72 13 (by first | decide | omega) (by first | decide | omega) (by first | decide | omega)) (fun x => fZ.1 151 x (by first | decide | omega) (by first | decide | omega) (by first | decide | omega))⟩
theorem zbhm_73_215 (h : stC 215 S K) (hi : cIn S K 28 0 b) (hX : w_X xs) (h57 : S 157 (-1) = 64) (hou : cOu S o) (h72 : S 72 1 = 73) (hcw : cnW 92 74 T cs S) (hn6 : (cs.length : Int) ≤ 60) (hth : cTh S Th) (hlt : cLt S Th) (hT : (Th.length : Int) ≤ 8000) (hh1 : 1 ≤ K.1.length) (hk : (K.1.getD (K.1.length - 1) (0, 0, [])).1 = 7 ∨ (K.1.getD (K.1.length - 1) (0, 0, [])).1 = 8) (h7 : (K.1.getD (K.1.length - 1) (0, 0, [])).1 = 7 → (0 ≤ (K.1.getD (K.1.length - 1) (0, 0, [])).2.1 ∧ (K.1.getD (K.1.length - 1) (0, 0, [])).2.1 < (Th.length : Int)) ∧ 0 ≤ (tO Th (K.1.getD (K.1.length - 1) (0, 0, [])).2.1).2.2.1 ∧ (tO Th (K.1.getD (K.1.length - 1) (0, 0, [])).2.1).2.2.1 < (cs.length : Int)) (h8 : (K.1.getD (K.1.length - 1) (0, 0, [])).1 = 8 → 0 ≤ (K.1.getD (K.1.length - 1) (0, 0, [])).2.1 ∧ (K.1.getD (K.1.length - 1) (0, 0, [])).2.1 < (cs.length : Int)) (hm : 65536 < (o.length : Int) + ((pH T cs Th (K.1.getD (K.1.length - 1) (0, 0, []))).length : Int) + 1) : cSo xs d 215 [217, 218, 151] cMq S K := by
  obtain ⟨h1, ⟨h2, h2b⟩, ⟨h3, h4, h5⟩, -⟩ := id h
  have hk0 : cTk 215 (w_up S 215 16 0) K := cTk_16 h1 (Or.inl rfl)
  have hf : cFr 215 S (w_up S 215 16 0) := cFr_up (Or.inl rfl) (cFr_rfl h2b) (by first | decide | omega) (by omega)
  have hcy := c_at h1 (i := K.1.length - 1) (by omega) (j := (K.1.length : Int) - 1) (by omega)
  have ef : ∀ (j : Nat) (x : Int), j < 215 → (w_up S 215 16 0) j x = S j x := fun j x j0 => w_up_slot (by omega)
  obtain ⟨o1, o2, ⟨o3, o4, o5⟩, o6⟩ := id hou
  have hIT : gI (w_up S 215 16 0) := gI_up h2b (by first | decide | omega) (by first | decide | omega) (by first | decide | omega)
  have hCT : w_CL (w_up S 215 16 0) := w_CL_up h2 (by first | decide | omega)
  have e51 : (w_up S 215 16 0) 151 (-1) = S 151 (-1) := ef 151 _ (by first | decide | omega)
  have ev : S 218 ((K.1.length : Int) - 1) = (K.1.getD (K.1.length - 1) (0, 0, [])).2.1 := cV_v hcy (by omega)
  have hcwT : cnW 92 74 T cs (w_up S 215 16 0) := cnW_ag hcw (fun j x hj => ef j x (by omega))
  have hsw : (pH T cs Th (K.1.getD (K.1.length - 1) (0, 0, []))).length ≤ 64 ∧ wJ (pe_GA xs) wY0 (mS []) (d + 8) t_XH_show ((pe_at t_XH_show.bl 0).getD (0, [])).2 [(0, (2, 72)), (1, (0, (K.1.getD (K.1.length - 1) (0, 0, [])).1)), (2, (1, (K.1.getD (K.1.length - 1) (0, 0, [])).2.1))] [] (w_up S 215 16 0) (fun o Z => o = .inl (some (1, (64 - ((pH T cs Th (K.1.getD (K.1.length - 1) (0, 0, []))).length : Int)) * 4294967296 + ((pH T cs Th (K.1.getD (K.1.length - 1) (0, 0, []))).length : Int))) ∧ shA (pH T cs Th (K.1.getD (K.1.length - 1) (0, 0, []))) 64 (w_up (w_up S 215 16 0) 72 19 64) Z) := by
    rcases hk with c | c
    · have z7 := h7 c
      have e129 : (w_up S 215 16 0) 129 (K.1.getD (K.1.length - 1) (0, 0, [])).2.1 = (tO Th (K.1.getD (K.1.length - 1) (0, 0, [])).2.1).2.2.1 := (ef 129 _ (by first | decide | omega)).trans (c_th hth z7.1.1 z7.1.2).1.2.2.1
      have el : hoL T cs 7 (K.1.getD (K.1.length - 1) (0, 0, [])).2.1 ((w_up S 215 16 0) 129 (K.1.getD (K.1.length - 1) (0, 0, [])).2.1) = (pH T cs Th (K.1.getD (K.1.length - 1) (0, 0, []))) := by rw [e129]; exact ((if_pos rfl).trans (if_pos c).symm)
      have hw := xsh7_73 (xs := xs) (M := mS []) (d := d + 3) (v := (K.1.getD (K.1.length - 1) (0, 0, [])).2.1) (Th := Th) hX hCT hIT ((ef 72 1 (by first | decide | omega)).trans h72) hcwT hn6 (show cLt (w_up S 215 16 0) Th from ⟨fun x hx => by rw [ef (127 + x) _ (by omega), ef 127 _ (by first | decide | omega)]; exact hlt.1 x hx, by rw [ef 127 _ (by first | decide | omega)]; exact hlt.2⟩) hT z7.1 (by rw [e129]; exact z7.2) ((ef 157 _ (by first | decide | omega)).trans h57)
      rw [el] at hw
      rw [c]
      exact ⟨by have z := (hcw.2 _ z7.2.1 z7.2.2).2.2.2.2; have y := shN_len (v := (K.1.getD (K.1.length - 1) (0, 0, [])).2.1); rw [show (pH T cs Th (K.1.getD (K.1.length - 1) (0, 0, []))) = cNa T cs (tO Th (K.1.getD (K.1.length - 1) (0, 0, [])).2.1).2.2.1 ++ ([64] ++ shN (K.1.getD (K.1.length - 1) (0, 0, [])).2.1) from if_pos c, List.length_append, List.length_append]; show _ + (1 + _) ≤ 64; omega, wJ_mono hw (fun o Z hz => ⟨hz.1, hz.2.2⟩)⟩
    · have z8 := h8 c
      have el : hoL T cs 8 (K.1.getD (K.1.length - 1) (0, 0, [])).2.1 0 = (pH T cs Th (K.1.getD (K.1.length - 1) (0, 0, []))) := (if_neg (by first | decide | omega)).trans (if_neg (by omega)).symm
      have hw := xsh8_73 (xs := xs) (M := mS []) (d := d + 3) (v := (K.1.getD (K.1.length - 1) (0, 0, [])).2.1) hX hCT hIT ((ef 72 1 (by first | decide | omega)).trans h72) hcwT hn6 z8 ((ef 157 _ (by first | decide | omega)).trans h57)
      rw [el] at hw
      rw [c]
      exact ⟨by have z := (hcw.2 _ z8.1 z8.2).2.2.2.2; rw [show (pH T cs Th (K.1.getD (K.1.length - 1) (0, 0, []))) = cNa T cs (K.1.getD (K.1.length - 1) (0, 0, [])).2.1 from if_neg (by omega)]; omega, wJ_mono hw (fun o Z hz => ⟨hz.1, hz.2.2⟩)⟩
  have hpr : wJ (pe_GA xs) wY0 (mS [151]) (d + 9) t_XH_print ((pe_at t_XH_print.bl 0).getD (0, [])).2 [(0, (2, 72)), (1, (0, (K.1.getD (K.1.length - 1) (0, 0, [])).1)), (2, (1, S 218 ((K.1.length : Int) - 1)))] [] (w_up S 215 16 0) (fun z Z => (65536 < (o.length : Int) + ((pH T cs Th (K.1.getD (K.1.length - 1) (0, 0, []))).length : Int) + 1 ∧ z = .inl (some (0, 0)) ∧ prN (w_up S 215 16 0) Z) ∨ ((o.length : Int) + ((pH T cs Th (K.1.getD (K.1.length - 1) (0, 0, []))).length : Int) + 1 ≤ 65536 ∧ z = .inl (some (0, 1)) ∧ coA (o.length : Int) (pH T cs Th (K.1.getD (K.1.length - 1) (0, 0, []))) (w_up S 215 16 0) Z)) := by
    rw [ev]
    refine wJ_mono (xprg (d := d + 3) (k := (K.1.getD (K.1.length - 1) (0, 0, [])).1) (v := (K.1.getD (K.1.length - 1) (0, 0, [])).2.1) (l := (pH T cs Th (K.1.getD (K.1.length - 1) (0, 0, [])))) ((ef 157 _ (by first | decide | omega)).trans h57) hIT (by omega) hsw.1 hsw.2 ((ef 72 13 (by first | decide | omega)).trans o1) ⟨by omega, by omega, by rw [e51]; exact o3⟩ (by rw [e51]; exact ⟨o4, o5⟩)) (fun z Z hz => ?_)
    rcases hz with ⟨z1, z2, z3⟩ | hz
    · exact Or.inl ⟨z1, z2, prN_s z3 hsw.1⟩
    · exact Or.inr hz
  have hcal := xb0_215 (xs := xs) (d := d) (xP_of (Or.inl rfl) h) ((w_up_slot (by first | decide | omega)).trans hcy.1) (w_up_slot (by first | decide | omega)) (by omega) hpr
  refine wJ_mono (cm_b_215 (R := fun Z => ∃ A : wS, prN (w_up S 215 16 0) A ∧ w_up A 215 16 99 = Z) h hi.1 hi.2.1 hi.2.2 (by first | decide | omega) (fun q => by omega) (by first | decide | omega) (by unfold mS; decide) (wJ_mono hcal (fun z Z hz => ⟨hz.1, by
    rcases hz.2 with ⟨-, z⟩ | ⟨z, -⟩
    · exact z
    · omega⟩)) (fun Z hz => by obtain ⟨A, -, rfl⟩ := hz; exact w_up_same _ _ _ _)) (fun z Z2 hz => ?_)
  obtain ⟨hz0, Z, ⟨A, hA, rfl⟩, rfl⟩ := hz
  have hkA : cTk 215 A K := cTk_fr hk0 (cTx_of (hA.1 2 1 (by first | decide | omega) (by first | decide | omega)) (fun x => hA.1 3 x (Or.inl (by first | decide | omega)) (Or.inl (by first | decide | omega)))) (fun j y j0 j1 => hA.1 j y (by omega) (by omega))
  exact ⟨hz0, cTk_st (cTk_16 hkA (Or.inl rfl)) (Or.inl rfl), cFm_up (Or.inl rfl) (cFm_up (Or.inl rfl) (cFm_tr (cFm_r hf) (pr_fm (Or.inl rfl) hA)) (by first | decide | omega) (Or.inl (by omega)) (by first | decide | omega)) (by first | decide | omega) (Or.inl (by omega)) (by first | decide | omega)⟩
theorem zbh_162_215 (h : stC 215 S K) (hi : cIn S K 28 0 b) (hX : w_X xs) (h57 : S 157 (-1) = 64) (hou : cOu S o) (h72 : S 72 1 = 162) (hcw : cnW 181 163 T cs S) (hn6 : (cs.length : Int) ≤ 60) (hth : cTh S Th) (hlt : cLt S Th) (hT : (Th.length : Int) ≤ 8000) (hh1 : 1 ≤ K.1.length) (hk : (K.1.getD (K.1.length - 1) (0, 0, [])).1 = 7 ∨ (K.1.getD (K.1.length - 1) (0, 0, [])).1 = 8) (h7 : (K.1.getD (K.1.length - 1) (0, 0, [])).1 = 7 → (0 ≤ (K.1.getD (K.1.length - 1) (0, 0, [])).2.1 ∧ (K.1.getD (K.1.length - 1) (0, 0, [])).2.1 < (Th.length : Int)) ∧ 0 ≤ (tO Th (K.1.getD (K.1.length - 1) (0, 0, [])).2.1).2.2.1 ∧ (tO Th (K.1.getD (K.1.length - 1) (0, 0, [])).2.1).2.2.1 < (cs.length : Int)) (h8 : (K.1.getD (K.1.length - 1) (0, 0, [])).1 = 8 → 0 ≤ (K.1.getD (K.1.length - 1) (0, 0, [])).2.1 ∧ (K.1.getD (K.1.length - 1) (0, 0, [])).2.1 < (cs.length : Int)) (hm : (o.length : Int) + ((pH T cs Th (K.1.getD (K.1.length - 1) (0, 0, []))).length : Int) + 1 ≤ 65536) : cSm xs d 215 [217, 218, 151] cMp S (kP K 1 (0, 0, [])) (fun Z => cOu Z (o ++ (pH T cs Th (K.1.getD (K.1.length - 1) (0, 0, []))) ++ [10])) := by
  obtain ⟨h1, ⟨h2, h2b⟩, ⟨h3, h4, h5⟩, -⟩ := id h
  have hk0 : cTk 215 (w_up S 215 16 0) K := cTk_16 h1 (Or.inl rfl)
  have hf : cFr 215 S (w_up S 215 16 0) := cFr_up (Or.inl rfl) (cFr_rfl h2b) (by first | decide | omega) (by omega)
  have hcy := c_at h1 (i := K.1.length - 1) (by omega) (j := (K.1.length : Int) - 1) (by omega)
  have ef : ∀ (j : Nat) (x : Int), j < 215 → (w_up S 215 16 0) j x = S j x := fun j x j0 => w_up_slot (by omega)
  obtain ⟨o1, o2, ⟨o3, o4, o5⟩, o6⟩ := id hou
  have hIT : gI (w_up S 215 16 0) := gI_up h2b (by first | decide | omega) (by first | decide | omega) (by first | decide | omega)
  have hCT : w_CL (w_up S 215 16 0) := w_CL_up h2 (by first | decide | omega)
  have e51 : (w_up S 215 16 0) 151 (-1) = S 151 (-1) := ef 151 _ (by first | decide | omega)
  have ev : S 218 ((K.1.length : Int) - 1) = (K.1.getD (K.1.length - 1) (0, 0, [])).2.1 := cV_v hcy (by omega)
  have hcwT : cnW 181 163 T cs (w_up S 215 16 0) := cnW_ag hcw (fun j x hj => ef j x (by omega))
  have hsw : (pH T cs Th (K.1.getD (K.1.length - 1) (0, 0, []))).length ≤ 64 ∧ wJ (pe_GA xs) wY0 (mS []) (d + 8) t_XH_show ((pe_at t_XH_show.bl 0).getD (0, [])).2 [(0, (2, 72)), (1, (0, (K.1.getD (K.1.length - 1) (0, 0, [])).1)), (2, (1, (K.1.getD (K.1.length - 1) (0, 0, [])).2.1))] [] (w_up S 215 16 0) (fun o Z => o = .inl (some (1, (64 - ((pH T cs Th (K.1.getD (K.1.length - 1) (0, 0, []))).length : Int)) * 4294967296 + ((pH T cs Th (K.1.getD (K.1.length - 1) (0, 0, []))).length : Int))) ∧ shA (pH T cs Th (K.1.getD (K.1.length - 1) (0, 0, []))) 64 (w_up (w_up S 215 16 0) 72 19 64) Z) := by
    rcases hk with c | c
    · have z7 := h7 c
      have e129 : (w_up S 215 16 0) 129 (K.1.getD (K.1.length - 1) (0, 0, [])).2.1 = (tO Th (K.1.getD (K.1.length - 1) (0, 0, [])).2.1).2.2.1 := (ef 129 _ (by first | decide | omega)).trans (c_th hth z7.1.1 z7.1.2).1.2.2.1
      have el : hoL T cs 7 (K.1.getD (K.1.length - 1) (0, 0, [])).2.1 ((w_up S 215 16 0) 129 (K.1.getD (K.1.length - 1) (0, 0, [])).2.1) = (pH T cs Th (K.1.getD (K.1.length - 1) (0, 0, []))) := by rw [e129]; exact ((if_pos rfl).trans (if_pos c).symm)
      have hw := xsh7_162 (xs := xs) (M := mS []) (d := d + 3) (v := (K.1.getD (K.1.length - 1) (0, 0, [])).2.1) (Th := Th) hX hCT hIT ((ef 72 1 (by first | decide | omega)).trans h72) hcwT hn6 (show cLt (w_up S 215 16 0) Th from ⟨fun x hx => by rw [ef (127 + x) _ (by omega), ef 127 _ (by first | decide | omega)]; exact hlt.1 x hx, by rw [ef 127 _ (by first | decide | omega)]; exact hlt.2⟩) hT z7.1 (by rw [e129]; exact z7.2) ((ef 157 _ (by first | decide | omega)).trans h57)
      rw [el] at hw
      rw [c]
      exact ⟨by have z := (hcw.2 _ z7.2.1 z7.2.2).2.2.2.2; have y := shN_len (v := (K.1.getD (K.1.length - 1) (0, 0, [])).2.1); rw [show (pH T cs Th (K.1.getD (K.1.length - 1) (0, 0, []))) = cNa T cs (tO Th (K.1.getD (K.1.length - 1) (0, 0, [])).2.1).2.2.1 ++ ([64] ++ shN (K.1.getD (K.1.length - 1) (0, 0, [])).2.1) from if_pos c, List.length_append, List.length_append]; show _ + (1 + _) ≤ 64; omega, wJ_mono hw (fun o Z hz => ⟨hz.1, hz.2.2⟩)⟩
    · have z8 := h8 c
      have el : hoL T cs 8 (K.1.getD (K.1.length - 1) (0, 0, [])).2.1 0 = (pH T cs Th (K.1.getD (K.1.length - 1) (0, 0, []))) := (if_neg (by first | decide | omega)).trans (if_neg (by omega)).symm
      have hw := xsh8_162 (xs := xs) (M := mS []) (d := d + 3) (v := (K.1.getD (K.1.length - 1) (0, 0, [])).2.1) hX hCT hIT ((ef 72 1 (by first | decide | omega)).trans h72) hcwT hn6 z8 ((ef 157 _ (by first | decide | omega)).trans h57)
      rw [el] at hw
      rw [c]
      exact ⟨by have z := (hcw.2 _ z8.1 z8.2).2.2.2.2; rw [show (pH T cs Th (K.1.getD (K.1.length - 1) (0, 0, []))) = cNa T cs (K.1.getD (K.1.length - 1) (0, 0, [])).2.1 from if_neg (by omega)]; omega, wJ_mono hw (fun o Z hz => ⟨hz.1, hz.2.2⟩)⟩
  have hpr : wJ (pe_GA xs) wY0 (mS [151]) (d + 9) t_XH_print ((pe_at t_XH_print.bl 0).getD (0, [])).2 [(0, (2, 72)), (1, (0, (K.1.getD (K.1.length - 1) (0, 0, [])).1)), (2, (1, S 218 ((K.1.length : Int) - 1)))] [] (w_up S 215 16 0) (fun z Z => (65536 < (o.length : Int) + ((pH T cs Th (K.1.getD (K.1.length - 1) (0, 0, []))).length : Int) + 1 ∧ z = .inl (some (0, 0)) ∧ prN (w_up S 215 16 0) Z) ∨ ((o.length : Int) + ((pH T cs Th (K.1.getD (K.1.length - 1) (0, 0, []))).length : Int) + 1 ≤ 65536 ∧ z = .inl (some (0, 1)) ∧ coA (o.length : Int) (pH T cs Th (K.1.getD (K.1.length - 1) (0, 0, []))) (w_up S 215 16 0) Z)) := by
    rw [ev]
    refine wJ_mono (xprg (d := d + 3) (k := (K.1.getD (K.1.length - 1) (0, 0, [])).1) (v := (K.1.getD (K.1.length - 1) (0, 0, [])).2.1) (l := (pH T cs Th (K.1.getD (K.1.length - 1) (0, 0, [])))) ((ef 157 _ (by first | decide | omega)).trans h57) hIT (by omega) hsw.1 hsw.2 ((ef 72 13 (by first | decide | omega)).trans o1) ⟨by omega, by omega, by rw [e51]; exact o3⟩ (by rw [e51]; exact ⟨o4, o5⟩)) (fun z Z hz => ?_)
    rcases hz with ⟨z1, z2, z3⟩ | hz
    · exact Or.inl ⟨z1, z2, prN_s z3 hsw.1⟩
    · exact Or.inr hz
  have hcal := xb0_215 (xs := xs) (d := d) (xP_of (Or.inl rfl) h) ((w_up_slot (by first | decide | omega)).trans hcy.1) (w_up_slot (by first | decide | omega)) (by omega) hpr
  refine cg_b_215 h hi.1 hi.2.1 hi.2.2 (by first | decide | omega) (fun q => by omega) (by first | decide | omega) (by unfold mS; decide) hcal (fun Z hz => ?_)
  rcases hz with ⟨z, -⟩ | ⟨-, A, hA, hs⟩
  · omega
  have hg : wG = 1000000 := rfl
  have fA := co_fm (w := 215) (Or.inl rfl) hA
  have frA := hA.2.2.2.2.1
  have hkA : cTk 215 A K := cTk_fr hk0 (cTx_of (frA 2 1 (by first | decide | omega) (by first | decide | omega) (by first | decide | omega) (Or.inl (by first | decide | omega)) (Or.inl (by first | decide | omega))) (fun x => frA 3 x (by first | decide | omega) (by first | decide | omega) (by first | decide | omega) (Or.inl (by first | decide | omega)) (Or.inl (by first | decide | omega)))) (fun j y j0 j1 => frA j y (by omega) (by omega) (by omega) (by omega) (by omega))
  have fZ := cFr_sO (Or.inl rfl) (cFr_rfl fA.2.2.1) (by omega) hs
  have ouT : cOu (w_up S 215 16 0) o := cOu_ag hou (ef 72 13 (by first | decide | omega)) (fun x => ef 151 x (by first | decide | omega))
  refine ⟨(sO_16 (Or.inl rfl) hs).trans ((frA 215 16 (by first | decide | omega) (by first | decide | omega) (by first | decide | omega) (Or.inl (by first | decide | omega)) (Or.inl (by first | decide | omega))).trans (w_up_same _ _ _ _)), cTk_sO hkA (Or.inl rfl) hs rfl rfl h3 rfl hh1 (by omega) (cV_e (by first | decide | omega) rfl), cFm_tr (cFm_tr (cFm_r hf) fA) (cFm_r fZ), cOu_ag (cOu_a ouT hA hm) (fZ.1 72 13 (by first | decide | omega) (by first | decide | omega) (by first | decide | omega)) (fun x => fZ.1 151 x (by first | decide | omega) (by first | decide | omega) (by first | decide | omega))⟩
theorem zbhm_162_215 (h : stC 215 S K) (hi : cIn S K 28 0 b) (hX : w_X xs) (h57 : S 157 (-1) = 64) (hou : cOu S o) (h72 : S 72 1 = 162) (hcw : cnW 181 163 T cs S) (hn6 : (cs.length : Int) ≤ 60) (hth : cTh S Th) (hlt : cLt S Th) (hT : (Th.length : Int) ≤ 8000) (hh1 : 1 ≤ K.1.length) (hk : (K.1.getD (K.1.length - 1) (0, 0, [])).1 = 7 ∨ (K.1.getD (K.1.length - 1) (0, 0, [])).1 = 8) (h7 : (K.1.getD (K.1.length - 1) (0, 0, [])).1 = 7 → (0 ≤ (K.1.getD (K.1.length - 1) (0, 0, [])).2.1 ∧ (K.1.getD (K.1.length - 1) (0, 0, [])).2.1 < (Th.length : Int)) ∧ 0 ≤ (tO Th (K.1.getD (K.1.length - 1) (0, 0, [])).2.1).2.2.1 ∧ (tO Th (K.1.getD (K.1.length - 1) (0, 0, [])).2.1).2.2.1 < (cs.length : Int)) (h8 : (K.1.getD (K.1.length - 1) (0, 0, [])).1 = 8 → 0 ≤ (K.1.getD (K.1.length - 1) (0, 0, [])).2.1 ∧ (K.1.getD (K.1.length - 1) (0, 0, [])).2.1 < (cs.length : Int)) (hm : 65536 < (o.length : Int) + ((pH T cs Th (K.1.getD (K.1.length - 1) (0, 0, []))).length : Int) + 1) : cSo xs d 215 [217, 218, 151] cMq S K := by
  obtain ⟨h1, ⟨h2, h2b⟩, ⟨h3, h4, h5⟩, -⟩ := id h
  have hk0 : cTk 215 (w_up S 215 16 0) K := cTk_16 h1 (Or.inl rfl)
  have hf : cFr 215 S (w_up S 215 16 0) := cFr_up (Or.inl rfl) (cFr_rfl h2b) (by first | decide | omega) (by omega)
  have hcy := c_at h1 (i := K.1.length - 1) (by omega) (j := (K.1.length : Int) - 1) (by omega)
  have ef : ∀ (j : Nat) (x : Int), j < 215 → (w_up S 215 16 0) j x = S j x := fun j x j0 => w_up_slot (by omega)
  obtain ⟨o1, o2, ⟨o3, o4, o5⟩, o6⟩ := id hou
  have hIT : gI (w_up S 215 16 0) := gI_up h2b (by first | decide | omega) (by first | decide | omega) (by first | decide | omega)
  have hCT : w_CL (w_up S 215 16 0) := w_CL_up h2 (by first | decide | omega)
  have e51 : (w_up S 215 16 0) 151 (-1) = S 151 (-1) := ef 151 _ (by first | decide | omega)
  have ev : S 218 ((K.1.length : Int) - 1) = (K.1.getD (K.1.length - 1) (0, 0, [])).2.1 := cV_v hcy (by omega)
  have hcwT : cnW 181 163 T cs (w_up S 215 16 0) := cnW_ag hcw (fun j x hj => ef j x (by omega))
  have hsw : (pH T cs Th (K.1.getD (K.1.length - 1) (0, 0, []))).length ≤ 64 ∧ wJ (pe_GA xs) wY0 (mS []) (d + 8) t_XH_show ((pe_at t_XH_show.bl 0).getD (0, [])).2 [(0, (2, 72)), (1, (0, (K.1.getD (K.1.length - 1) (0, 0, [])).1)), (2, (1, (K.1.getD (K.1.length - 1) (0, 0, [])).2.1))] [] (w_up S 215 16 0) (fun o Z => o = .inl (some (1, (64 - ((pH T cs Th (K.1.getD (K.1.length - 1) (0, 0, []))).length : Int)) * 4294967296 + ((pH T cs Th (K.1.getD (K.1.length - 1) (0, 0, []))).length : Int))) ∧ shA (pH T cs Th (K.1.getD (K.1.length - 1) (0, 0, []))) 64 (w_up (w_up S 215 16 0) 72 19 64) Z) := by
    rcases hk with c | c
    · have z7 := h7 c
      have e129 : (w_up S 215 16 0) 129 (K.1.getD (K.1.length - 1) (0, 0, [])).2.1 = (tO Th (K.1.getD (K.1.length - 1) (0, 0, [])).2.1).2.2.1 := (ef 129 _ (by first | decide | omega)).trans (c_th hth z7.1.1 z7.1.2).1.2.2.1
      have el : hoL T cs 7 (K.1.getD (K.1.length - 1) (0, 0, [])).2.1 ((w_up S 215 16 0) 129 (K.1.getD (K.1.length - 1) (0, 0, [])).2.1) = (pH T cs Th (K.1.getD (K.1.length - 1) (0, 0, []))) := by rw [e129]; exact ((if_pos rfl).trans (if_pos c).symm)
      have hw := xsh7_162 (xs := xs) (M := mS []) (d := d + 3) (v := (K.1.getD (K.1.length - 1) (0, 0, [])).2.1) (Th := Th) hX hCT hIT ((ef 72 1 (by first | decide | omega)).trans h72) hcwT hn6 (show cLt (w_up S 215 16 0) Th from ⟨fun x hx => by rw [ef (127 + x) _ (by omega), ef 127 _ (by first | decide | omega)]; exact hlt.1 x hx, by rw [ef 127 _ (by first | decide | omega)]; exact hlt.2⟩) hT z7.1 (by rw [e129]; exact z7.2) ((ef 157 _ (by first | decide | omega)).trans h57)
      rw [el] at hw
      rw [c]
      exact ⟨by have z := (hcw.2 _ z7.2.1 z7.2.2).2.2.2.2; have y := shN_len (v := (K.1.getD (K.1.length - 1) (0, 0, [])).2.1); rw [show (pH T cs Th (K.1.getD (K.1.length - 1) (0, 0, []))) = cNa T cs (tO Th (K.1.getD (K.1.length - 1) (0, 0, [])).2.1).2.2.1 ++ ([64] ++ shN (K.1.getD (K.1.length - 1) (0, 0, [])).2.1) from if_pos c, List.length_append, List.length_append]; show _ + (1 + _) ≤ 64; omega, wJ_mono hw (fun o Z hz => ⟨hz.1, hz.2.2⟩)⟩
    · have z8 := h8 c
      have el : hoL T cs 8 (K.1.getD (K.1.length - 1) (0, 0, [])).2.1 0 = (pH T cs Th (K.1.getD (K.1.length - 1) (0, 0, []))) := (if_neg (by first | decide | omega)).trans (if_neg (by omega)).symm
      have hw := xsh8_162 (xs := xs) (M := mS []) (d := d + 3) (v := (K.1.getD (K.1.length - 1) (0, 0, [])).2.1) hX hCT hIT ((ef 72 1 (by first | decide | omega)).trans h72) hcwT hn6 z8 ((ef 157 _ (by first | decide | omega)).trans h57)
      rw [el] at hw
      rw [c]
      exact ⟨by have z := (hcw.2 _ z8.1 z8.2).2.2.2.2; rw [show (pH T cs Th (K.1.getD (K.1.length - 1) (0, 0, []))) = cNa T cs (K.1.getD (K.1.length - 1) (0, 0, [])).2.1 from if_neg (by omega)]; omega, wJ_mono hw (fun o Z hz => ⟨hz.1, hz.2.2⟩)⟩
  have hpr : wJ (pe_GA xs) wY0 (mS [151]) (d + 9) t_XH_print ((pe_at t_XH_print.bl 0).getD (0, [])).2 [(0, (2, 72)), (1, (0, (K.1.getD (K.1.length - 1) (0, 0, [])).1)), (2, (1, S 218 ((K.1.length : Int) - 1)))] [] (w_up S 215 16 0) (fun z Z => (65536 < (o.length : Int) + ((pH T cs Th (K.1.getD (K.1.length - 1) (0, 0, []))).length : Int) + 1 ∧ z = .inl (some (0, 0)) ∧ prN (w_up S 215 16 0) Z) ∨ ((o.length : Int) + ((pH T cs Th (K.1.getD (K.1.length - 1) (0, 0, []))).length : Int) + 1 ≤ 65536 ∧ z = .inl (some (0, 1)) ∧ coA (o.length : Int) (pH T cs Th (K.1.getD (K.1.length - 1) (0, 0, []))) (w_up S 215 16 0) Z)) := by
    rw [ev]
    refine wJ_mono (xprg (d := d + 3) (k := (K.1.getD (K.1.length - 1) (0, 0, [])).1) (v := (K.1.getD (K.1.length - 1) (0, 0, [])).2.1) (l := (pH T cs Th (K.1.getD (K.1.length - 1) (0, 0, [])))) ((ef 157 _ (by first | decide | omega)).trans h57) hIT (by omega) hsw.1 hsw.2 ((ef 72 13 (by first | decide | omega)).trans o1) ⟨by omega, by omega, by rw [e51]; exact o3⟩ (by rw [e51]; exact ⟨o4, o5⟩)) (fun z Z hz => ?_)
    rcases hz with ⟨z1, z2, z3⟩ | hz
    · exact Or.inl ⟨z1, z2, prN_s z3 hsw.1⟩
    · exact Or.inr hz
  have hcal := xb0_215 (xs := xs) (d := d) (xP_of (Or.inl rfl) h) ((w_up_slot (by first | decide | omega)).trans hcy.1) (w_up_slot (by first | decide | omega)) (by omega) hpr
  refine wJ_mono (cm_b_215 (R := fun Z => ∃ A : wS, prN (w_up S 215 16 0) A ∧ w_up A 215 16 99 = Z) h hi.1 hi.2.1 hi.2.2 (by first | decide | omega) (fun q => by omega) (by first | decide | omega) (by unfold mS; decide) (wJ_mono hcal (fun z Z hz => ⟨hz.1, by
    rcases hz.2 with ⟨-, z⟩ | ⟨z, -⟩
    · exact z
    · omega⟩)) (fun Z hz => by obtain ⟨A, -, rfl⟩ := hz; exact w_up_same _ _ _ _)) (fun z Z2 hz => ?_)
  obtain ⟨hz0, Z, ⟨A, hA, rfl⟩, rfl⟩ := hz
  have hkA : cTk 215 A K := cTk_fr hk0 (cTx_of (hA.1 2 1 (by first | decide | omega) (by first | decide | omega)) (fun x => hA.1 3 x (Or.inl (by first | decide | omega)) (Or.inl (by first | decide | omega)))) (fun j y j0 j1 => hA.1 j y (by omega) (by omega))
  exact ⟨hz0, cTk_st (cTk_16 hkA (Or.inl rfl)) (Or.inl rfl), cFm_up (Or.inl rfl) (cFm_up (Or.inl rfl) (cFm_tr (cFm_r hf) (pr_fm (Or.inl rfl) hA)) (by first | decide | omega) (Or.inl (by omega)) (by first | decide | omega)) (by first | decide | omega) (Or.inl (by omega)) (by first | decide | omega)⟩
theorem zbh_73_226 (h : stC 226 S K) (hi : cIn S K 28 0 b) (hX : w_X xs) (h57 : S 157 (-1) = 64) (hou : cOu S o) (h72 : S 72 1 = 73) (hcw : cnW 92 74 T cs S) (hn6 : (cs.length : Int) ≤ 60) (hth : cTh S Th) (hlt : cLt S Th) (hT : (Th.length : Int) ≤ 8000) (hh1 : 1 ≤ K.1.length) (hk : (K.1.getD (K.1.length - 1) (0, 0, [])).1 = 7 ∨ (K.1.getD (K.1.length - 1) (0, 0, [])).1 = 8) (h7 : (K.1.getD (K.1.length - 1) (0, 0, [])).1 = 7 → (0 ≤ (K.1.getD (K.1.length - 1) (0, 0, [])).2.1 ∧ (K.1.getD (K.1.length - 1) (0, 0, [])).2.1 < (Th.length : Int)) ∧ 0 ≤ (tO Th (K.1.getD (K.1.length - 1) (0, 0, [])).2.1).2.2.1 ∧ (tO Th (K.1.getD (K.1.length - 1) (0, 0, [])).2.1).2.2.1 < (cs.length : Int)) (h8 : (K.1.getD (K.1.length - 1) (0, 0, [])).1 = 8 → 0 ≤ (K.1.getD (K.1.length - 1) (0, 0, [])).2.1 ∧ (K.1.getD (K.1.length - 1) (0, 0, [])).2.1 < (cs.length : Int)) (hm : (o.length : Int) + ((pH T cs Th (K.1.getD (K.1.length - 1) (0, 0, []))).length : Int) + 1 ≤ 65536) : cSm xs d 226 [228, 229, 151] cMp S (kP K 1 (0, 0, [])) (fun Z => cOu Z (o ++ (pH T cs Th (K.1.getD (K.1.length - 1) (0, 0, []))) ++ [10])) := by
  obtain ⟨h1, ⟨h2, h2b⟩, ⟨h3, h4, h5⟩, -⟩ := id h
  have hk0 : cTk 226 (w_up S 226 16 0) K := cTk_16 h1 (Or.inr rfl)
  have hf : cFr 226 S (w_up S 226 16 0) := cFr_up (Or.inr rfl) (cFr_rfl h2b) (by first | decide | omega) (by omega)
  have hcy := c_at h1 (i := K.1.length - 1) (by omega) (j := (K.1.length : Int) - 1) (by omega)
  have ef : ∀ (j : Nat) (x : Int), j < 215 → (w_up S 226 16 0) j x = S j x := fun j x j0 => w_up_slot (by omega)
  obtain ⟨o1, o2, ⟨o3, o4, o5⟩, o6⟩ := id hou
  have hIT : gI (w_up S 226 16 0) := gI_up h2b (by first | decide | omega) (by first | decide | omega) (by first | decide | omega)
  have hCT : w_CL (w_up S 226 16 0) := w_CL_up h2 (by first | decide | omega)
  have e51 : (w_up S 226 16 0) 151 (-1) = S 151 (-1) := ef 151 _ (by first | decide | omega)
  have ev : S 229 ((K.1.length : Int) - 1) = (K.1.getD (K.1.length - 1) (0, 0, [])).2.1 := cV_v hcy (by omega)
  have hcwT : cnW 92 74 T cs (w_up S 226 16 0) := cnW_ag hcw (fun j x hj => ef j x (by omega))
  have hsw : (pH T cs Th (K.1.getD (K.1.length - 1) (0, 0, []))).length ≤ 64 ∧ wJ (pe_GA xs) wY0 (mS []) (d + 8) t_XH_show ((pe_at t_XH_show.bl 0).getD (0, [])).2 [(0, (2, 72)), (1, (0, (K.1.getD (K.1.length - 1) (0, 0, [])).1)), (2, (1, (K.1.getD (K.1.length - 1) (0, 0, [])).2.1))] [] (w_up S 226 16 0) (fun o Z => o = .inl (some (1, (64 - ((pH T cs Th (K.1.getD (K.1.length - 1) (0, 0, []))).length : Int)) * 4294967296 + ((pH T cs Th (K.1.getD (K.1.length - 1) (0, 0, []))).length : Int))) ∧ shA (pH T cs Th (K.1.getD (K.1.length - 1) (0, 0, []))) 64 (w_up (w_up S 226 16 0) 72 19 64) Z) := by
    rcases hk with c | c
    · have z7 := h7 c
      have e129 : (w_up S 226 16 0) 129 (K.1.getD (K.1.length - 1) (0, 0, [])).2.1 = (tO Th (K.1.getD (K.1.length - 1) (0, 0, [])).2.1).2.2.1 := (ef 129 _ (by first | decide | omega)).trans (c_th hth z7.1.1 z7.1.2).1.2.2.1
      have el : hoL T cs 7 (K.1.getD (K.1.length - 1) (0, 0, [])).2.1 ((w_up S 226 16 0) 129 (K.1.getD (K.1.length - 1) (0, 0, [])).2.1) = (pH T cs Th (K.1.getD (K.1.length - 1) (0, 0, []))) := by rw [e129]; exact ((if_pos rfl).trans (if_pos c).symm)
      have hw := xsh7_73 (xs := xs) (M := mS []) (d := d + 3) (v := (K.1.getD (K.1.length - 1) (0, 0, [])).2.1) (Th := Th) hX hCT hIT ((ef 72 1 (by first | decide | omega)).trans h72) hcwT hn6 (show cLt (w_up S 226 16 0) Th from ⟨fun x hx => by rw [ef (127 + x) _ (by omega), ef 127 _ (by first | decide | omega)]; exact hlt.1 x hx, by rw [ef 127 _ (by first | decide | omega)]; exact hlt.2⟩) hT z7.1 (by rw [e129]; exact z7.2) ((ef 157 _ (by first | decide | omega)).trans h57)
      rw [el] at hw
      rw [c]
      exact ⟨by have z := (hcw.2 _ z7.2.1 z7.2.2).2.2.2.2; have y := shN_len (v := (K.1.getD (K.1.length - 1) (0, 0, [])).2.1); rw [show (pH T cs Th (K.1.getD (K.1.length - 1) (0, 0, []))) = cNa T cs (tO Th (K.1.getD (K.1.length - 1) (0, 0, [])).2.1).2.2.1 ++ ([64] ++ shN (K.1.getD (K.1.length - 1) (0, 0, [])).2.1) from if_pos c, List.length_append, List.length_append]; show _ + (1 + _) ≤ 64; omega, wJ_mono hw (fun o Z hz => ⟨hz.1, hz.2.2⟩)⟩
    · have z8 := h8 c
      have el : hoL T cs 8 (K.1.getD (K.1.length - 1) (0, 0, [])).2.1 0 = (pH T cs Th (K.1.getD (K.1.length - 1) (0, 0, []))) := (if_neg (by first | decide | omega)).trans (if_neg (by omega)).symm
      have hw := xsh8_73 (xs := xs) (M := mS []) (d := d + 3) (v := (K.1.getD (K.1.length - 1) (0, 0, [])).2.1) hX hCT hIT ((ef 72 1 (by first | decide | omega)).trans h72) hcwT hn6 z8 ((ef 157 _ (by first | decide | omega)).trans h57)
      rw [el] at hw
      rw [c]
      exact ⟨by have z := (hcw.2 _ z8.1 z8.2).2.2.2.2; rw [show (pH T cs Th (K.1.getD (K.1.length - 1) (0, 0, []))) = cNa T cs (K.1.getD (K.1.length - 1) (0, 0, [])).2.1 from if_neg (by omega)]; omega, wJ_mono hw (fun o Z hz => ⟨hz.1, hz.2.2⟩)⟩
  have hpr : wJ (pe_GA xs) wY0 (mS [151]) (d + 9) t_XH_print ((pe_at t_XH_print.bl 0).getD (0, [])).2 [(0, (2, 72)), (1, (0, (K.1.getD (K.1.length - 1) (0, 0, [])).1)), (2, (1, S 229 ((K.1.length : Int) - 1)))] [] (w_up S 226 16 0) (fun z Z => (65536 < (o.length : Int) + ((pH T cs Th (K.1.getD (K.1.length - 1) (0, 0, []))).length : Int) + 1 ∧ z = .inl (some (0, 0)) ∧ prN (w_up S 226 16 0) Z) ∨ ((o.length : Int) + ((pH T cs Th (K.1.getD (K.1.length - 1) (0, 0, []))).length : Int) + 1 ≤ 65536 ∧ z = .inl (some (0, 1)) ∧ coA (o.length : Int) (pH T cs Th (K.1.getD (K.1.length - 1) (0, 0, []))) (w_up S 226 16 0) Z)) := by
    rw [ev]
    refine wJ_mono (xprg (d := d + 3) (k := (K.1.getD (K.1.length - 1) (0, 0, [])).1) (v := (K.1.getD (K.1.length - 1) (0, 0, [])).2.1) (l := (pH T cs Th (K.1.getD (K.1.length - 1) (0, 0, [])))) ((ef 157 _ (by first | decide | omega)).trans h57) hIT (by omega) hsw.1 hsw.2 ((ef 72 13 (by first | decide | omega)).trans o1) ⟨by omega, by omega, by rw [e51]; exact o3⟩ (by rw [e51]; exact ⟨o4, o5⟩)) (fun z Z hz => ?_)
    rcases hz with ⟨z1, z2, z3⟩ | hz
    · exact Or.inl ⟨z1, z2, prN_s z3 hsw.1⟩
    · exact Or.inr hz
  have hcal := xb0_226 (xs := xs) (d := d) (xP_of (Or.inr rfl) h) ((w_up_slot (by first | decide | omega)).trans hcy.1) (w_up_slot (by first | decide | omega)) (by omega) hpr
  refine cg_b_226 h hi.1 hi.2.1 hi.2.2 (by first | decide | omega) (fun q => by omega) (by first | decide | omega) (by unfold mS; decide) hcal (fun Z hz => ?_)
  rcases hz with ⟨z, -⟩ | ⟨-, A, hA, hs⟩
  · omega
  have hg : wG = 1000000 := rfl
  have fA := co_fm (w := 226) (Or.inr rfl) hA
  have frA := hA.2.2.2.2.1
  have hkA : cTk 226 A K := cTk_fr hk0 (cTx_of (frA 2 1 (by first | decide | omega) (by first | decide | omega) (by first | decide | omega) (Or.inl (by first | decide | omega)) (Or.inl (by first | decide | omega))) (fun x => frA 3 x (by first | decide | omega) (by first | decide | omega) (by first | decide | omega) (Or.inl (by first | decide | omega)) (Or.inl (by first | decide | omega)))) (fun j y j0 j1 => frA j y (by omega) (by omega) (by omega) (by omega) (by omega))
  have fZ := cFr_sO (Or.inr rfl) (cFr_rfl fA.2.2.1) (by omega) hs
  have ouT : cOu (w_up S 226 16 0) o := cOu_ag hou (ef 72 13 (by first | decide | omega)) (fun x => ef 151 x (by first | decide | omega))
  refine ⟨(sO_16 (Or.inr rfl) hs).trans ((frA 226 16 (by first | decide | omega) (by first | decide | omega) (by first | decide | omega) (Or.inl (by first | decide | omega)) (Or.inl (by first | decide | omega))).trans (w_up_same _ _ _ _)), cTk_sO hkA (Or.inr rfl) hs rfl rfl h3 rfl hh1 (by omega) (cV_e (by first | decide | omega) rfl), cFm_tr (cFm_tr (cFm_r hf) fA) (cFm_r fZ), cOu_ag (cOu_a ouT hA hm) (fZ.1 72 13 (by first | decide | omega) (by first | decide | omega) (by first | decide | omega)) (fun x => fZ.1 151 x (by first | decide | omega) (by first | decide | omega) (by first | decide | omega))⟩
theorem zbhm_73_226 (h : stC 226 S K) (hi : cIn S K 28 0 b) (hX : w_X xs) (h57 : S 157 (-1) = 64) (hou : cOu S o) (h72 : S 72 1 = 73) (hcw : cnW 92 74 T cs S) (hn6 : (cs.length : Int) ≤ 60) (hth : cTh S Th) (hlt : cLt S Th) (hT : (Th.length : Int) ≤ 8000) (hh1 : 1 ≤ K.1.length) (hk : (K.1.getD (K.1.length - 1) (0, 0, [])).1 = 7 ∨ (K.1.getD (K.1.length - 1) (0, 0, [])).1 = 8) (h7 : (K.1.getD (K.1.length - 1) (0, 0, [])).1 = 7 → (0 ≤ (K.1.getD (K.1.length - 1) (0, 0, [])).2.1 ∧ (K.1.getD (K.1.length - 1) (0, 0, [])).2.1 < (Th.length : Int)) ∧ 0 ≤ (tO Th (K.1.getD (K.1.length - 1) (0, 0, [])).2.1).2.2.1 ∧ (tO Th (K.1.getD (K.1.length - 1) (0, 0, [])).2.1).2.2.1 < (cs.length : Int)) (h8 : (K.1.getD (K.1.length - 1) (0, 0, [])).1 = 8 → 0 ≤ (K.1.getD (K.1.length - 1) (0, 0, [])).2.1 ∧ (K.1.getD (K.1.length - 1) (0, 0, [])).2.1 < (cs.length : Int)) (hm : 65536 < (o.length : Int) + ((pH T cs Th (K.1.getD (K.1.length - 1) (0, 0, []))).length : Int) + 1) : cSo xs d 226 [228, 229, 151] cMq S K := by
  obtain ⟨h1, ⟨h2, h2b⟩, ⟨h3, h4, h5⟩, -⟩ := id h
  have hk0 : cTk 226 (w_up S 226 16 0) K := cTk_16 h1 (Or.inr rfl)
  have hf : cFr 226 S (w_up S 226 16 0) := cFr_up (Or.inr rfl) (cFr_rfl h2b) (by first | decide | omega) (by omega)
  have hcy := c_at h1 (i := K.1.length - 1) (by omega) (j := (K.1.length : Int) - 1) (by omega)
  have ef : ∀ (j : Nat) (x : Int), j < 215 → (w_up S 226 16 0) j x = S j x := fun j x j0 => w_up_slot (by omega)
  obtain ⟨o1, o2, ⟨o3, o4, o5⟩, o6⟩ := id hou
  have hIT : gI (w_up S 226 16 0) := gI_up h2b (by first | decide | omega) (by first | decide | omega) (by first | decide | omega)
  have hCT : w_CL (w_up S 226 16 0) := w_CL_up h2 (by first | decide | omega)
  have e51 : (w_up S 226 16 0) 151 (-1) = S 151 (-1) := ef 151 _ (by first | decide | omega)
  have ev : S 229 ((K.1.length : Int) - 1) = (K.1.getD (K.1.length - 1) (0, 0, [])).2.1 := cV_v hcy (by omega)
  have hcwT : cnW 92 74 T cs (w_up S 226 16 0) := cnW_ag hcw (fun j x hj => ef j x (by omega))
  have hsw : (pH T cs Th (K.1.getD (K.1.length - 1) (0, 0, []))).length ≤ 64 ∧ wJ (pe_GA xs) wY0 (mS []) (d + 8) t_XH_show ((pe_at t_XH_show.bl 0).getD (0, [])).2 [(0, (2, 72)), (1, (0, (K.1.getD (K.1.length - 1) (0, 0, [])).1)), (2, (1, (K.1.getD (K.1.length - 1) (0, 0, [])).2.1))] [] (w_up S 226 16 0) (fun o Z => o = .inl (some (1, (64 - ((pH T cs Th (K.1.getD (K.1.length - 1) (0, 0, []))).length : Int)) * 4294967296 + ((pH T cs Th (K.1.getD (K.1.length - 1) (0, 0, []))).length : Int))) ∧ shA (pH T cs Th (K.1.getD (K.1.length - 1) (0, 0, []))) 64 (w_up (w_up S 226 16 0) 72 19 64) Z) := by
    rcases hk with c | c
    · have z7 := h7 c
      have e129 : (w_up S 226 16 0) 129 (K.1.getD (K.1.length - 1) (0, 0, [])).2.1 = (tO Th (K.1.getD (K.1.length - 1) (0, 0, [])).2.1).2.2.1 := (ef 129 _ (by first | decide | omega)).trans (c_th hth z7.1.1 z7.1.2).1.2.2.1
      have el : hoL T cs 7 (K.1.getD (K.1.length - 1) (0, 0, [])).2.1 ((w_up S 226 16 0) 129 (K.1.getD (K.1.length - 1) (0, 0, [])).2.1) = (pH T cs Th (K.1.getD (K.1.length - 1) (0, 0, []))) := by rw [e129]; exact ((if_pos rfl).trans (if_pos c).symm)
      have hw := xsh7_73 (xs := xs) (M := mS []) (d := d + 3) (v := (K.1.getD (K.1.length - 1) (0, 0, [])).2.1) (Th := Th) hX hCT hIT ((ef 72 1 (by first | decide | omega)).trans h72) hcwT hn6 (show cLt (w_up S 226 16 0) Th from ⟨fun x hx => by rw [ef (127 + x) _ (by omega), ef 127 _ (by first | decide | omega)]; exact hlt.1 x hx, by rw [ef 127 _ (by first | decide | omega)]; exact hlt.2⟩) hT z7.1 (by rw [e129]; exact z7.2) ((ef 157 _ (by first | decide | omega)).trans h57)
      rw [el] at hw
      rw [c]
      exact ⟨by have z := (hcw.2 _ z7.2.1 z7.2.2).2.2.2.2; have y := shN_len (v := (K.1.getD (K.1.length - 1) (0, 0, [])).2.1); rw [show (pH T cs Th (K.1.getD (K.1.length - 1) (0, 0, []))) = cNa T cs (tO Th (K.1.getD (K.1.length - 1) (0, 0, [])).2.1).2.2.1 ++ ([64] ++ shN (K.1.getD (K.1.length - 1) (0, 0, [])).2.1) from if_pos c, List.length_append, List.length_append]; show _ + (1 + _) ≤ 64; omega, wJ_mono hw (fun o Z hz => ⟨hz.1, hz.2.2⟩)⟩
    · have z8 := h8 c
      have el : hoL T cs 8 (K.1.getD (K.1.length - 1) (0, 0, [])).2.1 0 = (pH T cs Th (K.1.getD (K.1.length - 1) (0, 0, []))) := (if_neg (by first | decide | omega)).trans (if_neg (by omega)).symm
      have hw := xsh8_73 (xs := xs) (M := mS []) (d := d + 3) (v := (K.1.getD (K.1.length - 1) (0, 0, [])).2.1) hX hCT hIT ((ef 72 1 (by first | decide | omega)).trans h72) hcwT hn6 z8 ((ef 157 _ (by first | decide | omega)).trans h57)
      rw [el] at hw
      rw [c]
      exact ⟨by have z := (hcw.2 _ z8.1 z8.2).2.2.2.2; rw [show (pH T cs Th (K.1.getD (K.1.length - 1) (0, 0, []))) = cNa T cs (K.1.getD (K.1.length - 1) (0, 0, [])).2.1 from if_neg (by omega)]; omega, wJ_mono hw (fun o Z hz => ⟨hz.1, hz.2.2⟩)⟩
  have hpr : wJ (pe_GA xs) wY0 (mS [151]) (d + 9) t_XH_print ((pe_at t_XH_print.bl 0).getD (0, [])).2 [(0, (2, 72)), (1, (0, (K.1.getD (K.1.length - 1) (0, 0, [])).1)), (2, (1, S 229 ((K.1.length : Int) - 1)))] [] (w_up S 226 16 0) (fun z Z => (65536 < (o.length : Int) + ((pH T cs Th (K.1.getD (K.1.length - 1) (0, 0, []))).length : Int) + 1 ∧ z = .inl (some (0, 0)) ∧ prN (w_up S 226 16 0) Z) ∨ ((o.length : Int) + ((pH T cs Th (K.1.getD (K.1.length - 1) (0, 0, []))).length : Int) + 1 ≤ 65536 ∧ z = .inl (some (0, 1)) ∧ coA (o.length : Int) (pH T cs Th (K.1.getD (K.1.length - 1) (0, 0, []))) (w_up S 226 16 0) Z)) := by
    rw [ev]
    refine wJ_mono (xprg (d := d + 3) (k := (K.1.getD (K.1.length - 1) (0, 0, [])).1) (v := (K.1.getD (K.1.length - 1) (0, 0, [])).2.1) (l := (pH T cs Th (K.1.getD (K.1.length - 1) (0, 0, [])))) ((ef 157 _ (by first | decide | omega)).trans h57) hIT (by omega) hsw.1 hsw.2 ((ef 72 13 (by first | decide | omega)).trans o1) ⟨by omega, by omega, by rw [e51]; exact o3⟩ (by rw [e51]; exact ⟨o4, o5⟩)) (fun z Z hz => ?_)
    rcases hz with ⟨z1, z2, z3⟩ | hz
    · exact Or.inl ⟨z1, z2, prN_s z3 hsw.1⟩
    · exact Or.inr hz
  have hcal := xb0_226 (xs := xs) (d := d) (xP_of (Or.inr rfl) h) ((w_up_slot (by first | decide | omega)).trans hcy.1) (w_up_slot (by first | decide | omega)) (by omega) hpr
  refine wJ_mono (cm_b_226 (R := fun Z => ∃ A : wS, prN (w_up S 226 16 0) A ∧ w_up A 226 16 99 = Z) h hi.1 hi.2.1 hi.2.2 (by first | decide | omega) (fun q => by omega) (by first | decide | omega) (by unfold mS; decide) (wJ_mono hcal (fun z Z hz => ⟨hz.1, by
    rcases hz.2 with ⟨-, z⟩ | ⟨z, -⟩
    · exact z
    · omega⟩)) (fun Z hz => by obtain ⟨A, -, rfl⟩ := hz; exact w_up_same _ _ _ _)) (fun z Z2 hz => ?_)
  obtain ⟨hz0, Z, ⟨A, hA, rfl⟩, rfl⟩ := hz
  have hkA : cTk 226 A K := cTk_fr hk0 (cTx_of (hA.1 2 1 (by first | decide | omega) (by first | decide | omega)) (fun x => hA.1 3 x (Or.inl (by first | decide | omega)) (Or.inl (by first | decide | omega)))) (fun j y j0 j1 => hA.1 j y (by omega) (by omega))
  exact ⟨hz0, cTk_st (cTk_16 hkA (Or.inr rfl)) (Or.inr rfl), cFm_up (Or.inr rfl) (cFm_up (Or.inr rfl) (cFm_tr (cFm_r hf) (pr_fm (Or.inr rfl) hA)) (by first | decide | omega) (Or.inl (by omega)) (by first | decide | omega)) (by first | decide | omega) (Or.inl (by omega)) (by first | decide | omega)⟩
theorem zbh_162_226 (h : stC 226 S K) (hi : cIn S K 28 0 b) (hX : w_X xs) (h57 : S 157 (-1) = 64) (hou : cOu S o) (h72 : S 72 1 = 162) (hcw : cnW 181 163 T cs S) (hn6 : (cs.length : Int) ≤ 60) (hth : cTh S Th) (hlt : cLt S Th) (hT : (Th.length : Int) ≤ 8000) (hh1 : 1 ≤ K.1.length) (hk : (K.1.getD (K.1.length - 1) (0, 0, [])).1 = 7 ∨ (K.1.getD (K.1.length - 1) (0, 0, [])).1 = 8) (h7 : (K.1.getD (K.1.length - 1) (0, 0, [])).1 = 7 → (0 ≤ (K.1.getD (K.1.length - 1) (0, 0, [])).2.1 ∧ (K.1.getD (K.1.length - 1) (0, 0, [])).2.1 < (Th.length : Int)) ∧ 0 ≤ (tO Th (K.1.getD (K.1.length - 1) (0, 0, [])).2.1).2.2.1 ∧ (tO Th (K.1.getD (K.1.length - 1) (0, 0, [])).2.1).2.2.1 < (cs.length : Int)) (h8 : (K.1.getD (K.1.length - 1) (0, 0, [])).1 = 8 → 0 ≤ (K.1.getD (K.1.length - 1) (0, 0, [])).2.1 ∧ (K.1.getD (K.1.length - 1) (0, 0, [])).2.1 < (cs.length : Int)) (hm : (o.length : Int) + ((pH T cs Th (K.1.getD (K.1.length - 1) (0, 0, []))).length : Int) + 1 ≤ 65536) : cSm xs d 226 [228, 229, 151] cMp S (kP K 1 (0, 0, [])) (fun Z => cOu Z (o ++ (pH T cs Th (K.1.getD (K.1.length - 1) (0, 0, []))) ++ [10])) := by
  obtain ⟨h1, ⟨h2, h2b⟩, ⟨h3, h4, h5⟩, -⟩ := id h
  have hk0 : cTk 226 (w_up S 226 16 0) K := cTk_16 h1 (Or.inr rfl)
  have hf : cFr 226 S (w_up S 226 16 0) := cFr_up (Or.inr rfl) (cFr_rfl h2b) (by first | decide | omega) (by omega)
  have hcy := c_at h1 (i := K.1.length - 1) (by omega) (j := (K.1.length : Int) - 1) (by omega)
  have ef : ∀ (j : Nat) (x : Int), j < 215 → (w_up S 226 16 0) j x = S j x := fun j x j0 => w_up_slot (by omega)
  obtain ⟨o1, o2, ⟨o3, o4, o5⟩, o6⟩ := id hou
  have hIT : gI (w_up S 226 16 0) := gI_up h2b (by first | decide | omega) (by first | decide | omega) (by first | decide | omega)
  have hCT : w_CL (w_up S 226 16 0) := w_CL_up h2 (by first | decide | omega)
  have e51 : (w_up S 226 16 0) 151 (-1) = S 151 (-1) := ef 151 _ (by first | decide | omega)
  have ev : S 229 ((K.1.length : Int) - 1) = (K.1.getD (K.1.length - 1) (0, 0, [])).2.1 := cV_v hcy (by omega)
  have hcwT : cnW 181 163 T cs (w_up S 226 16 0) := cnW_ag hcw (fun j x hj => ef j x (by omega))
  have hsw : (pH T cs Th (K.1.getD (K.1.length - 1) (0, 0, []))).length ≤ 64 ∧ wJ (pe_GA xs) wY0 (mS []) (d + 8) t_XH_show ((pe_at t_XH_show.bl 0).getD (0, [])).2 [(0, (2, 72)), (1, (0, (K.1.getD (K.1.length - 1) (0, 0, [])).1)), (2, (1, (K.1.getD (K.1.length - 1) (0, 0, [])).2.1))] [] (w_up S 226 16 0) (fun o Z => o = .inl (some (1, (64 - ((pH T cs Th (K.1.getD (K.1.length - 1) (0, 0, []))).length : Int)) * 4294967296 + ((pH T cs Th (K.1.getD (K.1.length - 1) (0, 0, []))).length : Int))) ∧ shA (pH T cs Th (K.1.getD (K.1.length - 1) (0, 0, []))) 64 (w_up (w_up S 226 16 0) 72 19 64) Z) := by
    rcases hk with c | c
    · have z7 := h7 c
      have e129 : (w_up S 226 16 0) 129 (K.1.getD (K.1.length - 1) (0, 0, [])).2.1 = (tO Th (K.1.getD (K.1.length - 1) (0, 0, [])).2.1).2.2.1 := (ef 129 _ (by first | decide | omega)).trans (c_th hth z7.1.1 z7.1.2).1.2.2.1
      have el : hoL T cs 7 (K.1.getD (K.1.length - 1) (0, 0, [])).2.1 ((w_up S 226 16 0) 129 (K.1.getD (K.1.length - 1) (0, 0, [])).2.1) = (pH T cs Th (K.1.getD (K.1.length - 1) (0, 0, []))) := by rw [e129]; exact ((if_pos rfl).trans (if_pos c).symm)
      have hw := xsh7_162 (xs := xs) (M := mS []) (d := d + 3) (v := (K.1.getD (K.1.length - 1) (0, 0, [])).2.1) (Th := Th) hX hCT hIT ((ef 72 1 (by first | decide | omega)).trans h72) hcwT hn6 (show cLt (w_up S 226 16 0) Th from ⟨fun x hx => by rw [ef (127 + x) _ (by omega), ef 127 _ (by first | decide | omega)]; exact hlt.1 x hx, by rw [ef 127 _ (by first | decide | omega)]; exact hlt.2⟩) hT z7.1 (by rw [e129]; exact z7.2) ((ef 157 _ (by first | decide | omega)).trans h57)
      rw [el] at hw
      rw [c]
      exact ⟨by have z := (hcw.2 _ z7.2.1 z7.2.2).2.2.2.2; have y := shN_len (v := (K.1.getD (K.1.length - 1) (0, 0, [])).2.1); rw [show (pH T cs Th (K.1.getD (K.1.length - 1) (0, 0, []))) = cNa T cs (tO Th (K.1.getD (K.1.length - 1) (0, 0, [])).2.1).2.2.1 ++ ([64] ++ shN (K.1.getD (K.1.length - 1) (0, 0, [])).2.1) from if_pos c, List.length_append, List.length_append]; show _ + (1 + _) ≤ 64; omega, wJ_mono hw (fun o Z hz => ⟨hz.1, hz.2.2⟩)⟩
    · have z8 := h8 c
      have el : hoL T cs 8 (K.1.getD (K.1.length - 1) (0, 0, [])).2.1 0 = (pH T cs Th (K.1.getD (K.1.length - 1) (0, 0, []))) := (if_neg (by first | decide | omega)).trans (if_neg (by omega)).symm
      have hw := xsh8_162 (xs := xs) (M := mS []) (d := d + 3) (v := (K.1.getD (K.1.length - 1) (0, 0, [])).2.1) hX hCT hIT ((ef 72 1 (by first | decide | omega)).trans h72) hcwT hn6 z8 ((ef 157 _ (by first | decide | omega)).trans h57)
      rw [el] at hw
      rw [c]
      exact ⟨by have z := (hcw.2 _ z8.1 z8.2).2.2.2.2; rw [show (pH T cs Th (K.1.getD (K.1.length - 1) (0, 0, []))) = cNa T cs (K.1.getD (K.1.length - 1) (0, 0, [])).2.1 from if_neg (by omega)]; omega, wJ_mono hw (fun o Z hz => ⟨hz.1, hz.2.2⟩)⟩
  have hpr : wJ (pe_GA xs) wY0 (mS [151]) (d + 9) t_XH_print ((pe_at t_XH_print.bl 0).getD (0, [])).2 [(0, (2, 72)), (1, (0, (K.1.getD (K.1.length - 1) (0, 0, [])).1)), (2, (1, S 229 ((K.1.length : Int) - 1)))] [] (w_up S 226 16 0) (fun z Z => (65536 < (o.length : Int) + ((pH T cs Th (K.1.getD (K.1.length - 1) (0, 0, []))).length : Int) + 1 ∧ z = .inl (some (0, 0)) ∧ prN (w_up S 226 16 0) Z) ∨ ((o.length : Int) + ((pH T cs Th (K.1.getD (K.1.length - 1) (0, 0, []))).length : Int) + 1 ≤ 65536 ∧ z = .inl (some (0, 1)) ∧ coA (o.length : Int) (pH T cs Th (K.1.getD (K.1.length - 1) (0, 0, []))) (w_up S 226 16 0) Z)) := by
    rw [ev]
    refine wJ_mono (xprg (d := d + 3) (k := (K.1.getD (K.1.length - 1) (0, 0, [])).1) (v := (K.1.getD (K.1.length - 1) (0, 0, [])).2.1) (l := (pH T cs Th (K.1.getD (K.1.length - 1) (0, 0, [])))) ((ef 157 _ (by first | decide | omega)).trans h57) hIT (by omega) hsw.1 hsw.2 ((ef 72 13 (by first | decide | omega)).trans o1) ⟨by omega, by omega, by rw [e51]; exact o3⟩ (by rw [e51]; exact ⟨o4, o5⟩)) (fun z Z hz => ?_)
    rcases hz with ⟨z1, z2, z3⟩ | hz
    · exact Or.inl ⟨z1, z2, prN_s z3 hsw.1⟩
    · exact Or.inr hz
  have hcal := xb0_226 (xs := xs) (d := d) (xP_of (Or.inr rfl) h) ((w_up_slot (by first | decide | omega)).trans hcy.1) (w_up_slot (by first | decide | omega)) (by omega) hpr
  refine cg_b_226 h hi.1 hi.2.1 hi.2.2 (by first | decide | omega) (fun q => by omega) (by first | decide | omega) (by unfold mS; decide) hcal (fun Z hz => ?_)
  rcases hz with ⟨z, -⟩ | ⟨-, A, hA, hs⟩
  · omega
  have hg : wG = 1000000 := rfl
  have fA := co_fm (w := 226) (Or.inr rfl) hA
  have frA := hA.2.2.2.2.1
  have hkA : cTk 226 A K := cTk_fr hk0 (cTx_of (frA 2 1 (by first | decide | omega) (by first | decide | omega) (by first | decide | omega) (Or.inl (by first | decide | omega)) (Or.inl (by first | decide | omega))) (fun x => frA 3 x (by first | decide | omega) (by first | decide | omega) (by first | decide | omega) (Or.inl (by first | decide | omega)) (Or.inl (by first | decide | omega)))) (fun j y j0 j1 => frA j y (by omega) (by omega) (by omega) (by omega) (by omega))
  have fZ := cFr_sO (Or.inr rfl) (cFr_rfl fA.2.2.1) (by omega) hs
  have ouT : cOu (w_up S 226 16 0) o := cOu_ag hou (ef 72 13 (by first | decide | omega)) (fun x => ef 151 x (by first | decide | omega))
  refine ⟨(sO_16 (Or.inr rfl) hs).trans ((frA 226 16 (by first | decide | omega) (by first | decide | omega) (by first | decide | omega) (Or.inl (by first | decide | omega)) (Or.inl (by first | decide | omega))).trans (w_up_same _ _ _ _)), cTk_sO hkA (Or.inr rfl) hs rfl rfl h3 rfl hh1 (by omega) (cV_e (by first | decide | omega) rfl), cFm_tr (cFm_tr (cFm_r hf) fA) (cFm_r fZ), cOu_ag (cOu_a ouT hA hm) (fZ.1 72 13 (by first | decide | omega) (by first | decide | omega) (by first | decide | omega)) (fun x => fZ.1 151 x (by first | decide | omega) (by first | decide | omega) (by first | decide | omega))⟩
theorem zbhm_162_226 (h : stC 226 S K) (hi : cIn S K 28 0 b) (hX : w_X xs) (h57 : S 157 (-1) = 64) (hou : cOu S o) (h72 : S 72 1 = 162) (hcw : cnW 181 163 T cs S) (hn6 : (cs.length : Int) ≤ 60) (hth : cTh S Th) (hlt : cLt S Th) (hT : (Th.length : Int) ≤ 8000) (hh1 : 1 ≤ K.1.length) (hk : (K.1.getD (K.1.length - 1) (0, 0, [])).1 = 7 ∨ (K.1.getD (K.1.length - 1) (0, 0, [])).1 = 8) (h7 : (K.1.getD (K.1.length - 1) (0, 0, [])).1 = 7 → (0 ≤ (K.1.getD (K.1.length - 1) (0, 0, [])).2.1 ∧ (K.1.getD (K.1.length - 1) (0, 0, [])).2.1 < (Th.length : Int)) ∧ 0 ≤ (tO Th (K.1.getD (K.1.length - 1) (0, 0, [])).2.1).2.2.1 ∧ (tO Th (K.1.getD (K.1.length - 1) (0, 0, [])).2.1).2.2.1 < (cs.length : Int)) (h8 : (K.1.getD (K.1.length - 1) (0, 0, [])).1 = 8 → 0 ≤ (K.1.getD (K.1.length - 1) (0, 0, [])).2.1 ∧ (K.1.getD (K.1.length - 1) (0, 0, [])).2.1 < (cs.length : Int)) (hm : 65536 < (o.length : Int) + ((pH T cs Th (K.1.getD (K.1.length - 1) (0, 0, []))).length : Int) + 1) : cSo xs d 226 [228, 229, 151] cMq S K := by
  obtain ⟨h1, ⟨h2, h2b⟩, ⟨h3, h4, h5⟩, -⟩ := id h
  have hk0 : cTk 226 (w_up S 226 16 0) K := cTk_16 h1 (Or.inr rfl)
  have hf : cFr 226 S (w_up S 226 16 0) := cFr_up (Or.inr rfl) (cFr_rfl h2b) (by first | decide | omega) (by omega)
  have hcy := c_at h1 (i := K.1.length - 1) (by omega) (j := (K.1.length : Int) - 1) (by omega)
  have ef : ∀ (j : Nat) (x : Int), j < 215 → (w_up S 226 16 0) j x = S j x := fun j x j0 => w_up_slot (by omega)
  obtain ⟨o1, o2, ⟨o3, o4, o5⟩, o6⟩ := id hou
  have hIT : gI (w_up S 226 16 0) := gI_up h2b (by first | decide | omega) (by first | decide | omega) (by first | decide | omega)
  have hCT : w_CL (w_up S 226 16 0) := w_CL_up h2 (by first | decide | omega)
  have e51 : (w_up S 226 16 0) 151 (-1) = S 151 (-1) := ef 151 _ (by first | decide | omega)
  have ev : S 229 ((K.1.length : Int) - 1) = (K.1.getD (K.1.length - 1) (0, 0, [])).2.1 := cV_v hcy (by omega)
  have hcwT : cnW 181 163 T cs (w_up S 226 16 0) := cnW_ag hcw (fun j x hj => ef j x (by omega))
  have hsw : (pH T cs Th (K.1.getD (K.1.length - 1) (0, 0, []))).length ≤ 64 ∧ wJ (pe_GA xs) wY0 (mS []) (d + 8) t_XH_show ((pe_at t_XH_show.bl 0).getD (0, [])).2 [(0, (2, 72)), (1, (0, (K.1.getD (K.1.length - 1) (0, 0, [])).1)), (2, (1, (K.1.getD (K.1.length - 1) (0, 0, [])).2.1))] [] (w_up S 226 16 0) (fun o Z => o = .inl (some (1, (64 - ((pH T cs Th (K.1.getD (K.1.length - 1) (0, 0, []))).length : Int)) * 4294967296 + ((pH T cs Th (K.1.getD (K.1.length - 1) (0, 0, []))).length : Int))) ∧ shA (pH T cs Th (K.1.getD (K.1.length - 1) (0, 0, []))) 64 (w_up (w_up S 226 16 0) 72 19 64) Z) := by
    rcases hk with c | c
    · have z7 := h7 c
      have e129 : (w_up S 226 16 0) 129 (K.1.getD (K.1.length - 1) (0, 0, [])).2.1 = (tO Th (K.1.getD (K.1.length - 1) (0, 0, [])).2.1).2.2.1 := (ef 129 _ (by first | decide | omega)).trans (c_th hth z7.1.1 z7.1.2).1.2.2.1
      have el : hoL T cs 7 (K.1.getD (K.1.length - 1) (0, 0, [])).2.1 ((w_up S 226 16 0) 129 (K.1.getD (K.1.length - 1) (0, 0, [])).2.1) = (pH T cs Th (K.1.getD (K.1.length - 1) (0, 0, []))) := by rw [e129]; exact ((if_pos rfl).trans (if_pos c).symm)
      have hw := xsh7_162 (xs := xs) (M := mS []) (d := d + 3) (v := (K.1.getD (K.1.length - 1) (0, 0, [])).2.1) (Th := Th) hX hCT hIT ((ef 72 1 (by first | decide | omega)).trans h72) hcwT hn6 (show cLt (w_up S 226 16 0) Th from ⟨fun x hx => by rw [ef (127 + x) _ (by omega), ef 127 _ (by first | decide | omega)]; exact hlt.1 x hx, by rw [ef 127 _ (by first | decide | omega)]; exact hlt.2⟩) hT z7.1 (by rw [e129]; exact z7.2) ((ef 157 _ (by first | decide | omega)).trans h57)
      rw [el] at hw
      rw [c]
      exact ⟨by have z := (hcw.2 _ z7.2.1 z7.2.2).2.2.2.2; have y := shN_len (v := (K.1.getD (K.1.length - 1) (0, 0, [])).2.1); rw [show (pH T cs Th (K.1.getD (K.1.length - 1) (0, 0, []))) = cNa T cs (tO Th (K.1.getD (K.1.length - 1) (0, 0, [])).2.1).2.2.1 ++ ([64] ++ shN (K.1.getD (K.1.length - 1) (0, 0, [])).2.1) from if_pos c, List.length_append, List.length_append]; show _ + (1 + _) ≤ 64; omega, wJ_mono hw (fun o Z hz => ⟨hz.1, hz.2.2⟩)⟩
    · have z8 := h8 c
      have el : hoL T cs 8 (K.1.getD (K.1.length - 1) (0, 0, [])).2.1 0 = (pH T cs Th (K.1.getD (K.1.length - 1) (0, 0, []))) := (if_neg (by first | decide | omega)).trans (if_neg (by omega)).symm
      have hw := xsh8_162 (xs := xs) (M := mS []) (d := d + 3) (v := (K.1.getD (K.1.length - 1) (0, 0, [])).2.1) hX hCT hIT ((ef 72 1 (by first | decide | omega)).trans h72) hcwT hn6 z8 ((ef 157 _ (by first | decide | omega)).trans h57)
      rw [el] at hw
      rw [c]
      exact ⟨by have z := (hcw.2 _ z8.1 z8.2).2.2.2.2; rw [show (pH T cs Th (K.1.getD (K.1.length - 1) (0, 0, []))) = cNa T cs (K.1.getD (K.1.length - 1) (0, 0, [])).2.1 from if_neg (by omega)]; omega, wJ_mono hw (fun o Z hz => ⟨hz.1, hz.2.2⟩)⟩
  have hpr : wJ (pe_GA xs) wY0 (mS [151]) (d + 9) t_XH_print ((pe_at t_XH_print.bl 0).getD (0, [])).2 [(0, (2, 72)), (1, (0, (K.1.getD (K.1.length - 1) (0, 0, [])).1)), (2, (1, S 229 ((K.1.length : Int) - 1)))] [] (w_up S 226 16 0) (fun z Z => (65536 < (o.length : Int) + ((pH T cs Th (K.1.getD (K.1.length - 1) (0, 0, []))).length : Int) + 1 ∧ z = .inl (some (0, 0)) ∧ prN (w_up S 226 16 0) Z) ∨ ((o.length : Int) + ((pH T cs Th (K.1.getD (K.1.length - 1) (0, 0, []))).length : Int) + 1 ≤ 65536 ∧ z = .inl (some (0, 1)) ∧ coA (o.length : Int) (pH T cs Th (K.1.getD (K.1.length - 1) (0, 0, []))) (w_up S 226 16 0) Z)) := by
    rw [ev]
    refine wJ_mono (xprg (d := d + 3) (k := (K.1.getD (K.1.length - 1) (0, 0, [])).1) (v := (K.1.getD (K.1.length - 1) (0, 0, [])).2.1) (l := (pH T cs Th (K.1.getD (K.1.length - 1) (0, 0, [])))) ((ef 157 _ (by first | decide | omega)).trans h57) hIT (by omega) hsw.1 hsw.2 ((ef 72 13 (by first | decide | omega)).trans o1) ⟨by omega, by omega, by rw [e51]; exact o3⟩ (by rw [e51]; exact ⟨o4, o5⟩)) (fun z Z hz => ?_)
    rcases hz with ⟨z1, z2, z3⟩ | hz
    · exact Or.inl ⟨z1, z2, prN_s z3 hsw.1⟩
    · exact Or.inr hz
  have hcal := xb0_226 (xs := xs) (d := d) (xP_of (Or.inr rfl) h) ((w_up_slot (by first | decide | omega)).trans hcy.1) (w_up_slot (by first | decide | omega)) (by omega) hpr
  refine wJ_mono (cm_b_226 (R := fun Z => ∃ A : wS, prN (w_up S 226 16 0) A ∧ w_up A 226 16 99 = Z) h hi.1 hi.2.1 hi.2.2 (by first | decide | omega) (fun q => by omega) (by first | decide | omega) (by unfold mS; decide) (wJ_mono hcal (fun z Z hz => ⟨hz.1, by
    rcases hz.2 with ⟨-, z⟩ | ⟨z, -⟩
    · exact z
    · omega⟩)) (fun Z hz => by obtain ⟨A, -, rfl⟩ := hz; exact w_up_same _ _ _ _)) (fun z Z2 hz => ?_)
  obtain ⟨hz0, Z, ⟨A, hA, rfl⟩, rfl⟩ := hz
  have hkA : cTk 226 A K := cTk_fr hk0 (cTx_of (hA.1 2 1 (by first | decide | omega) (by first | decide | omega)) (fun x => hA.1 3 x (Or.inl (by first | decide | omega)) (Or.inl (by first | decide | omega)))) (fun j y j0 j1 => hA.1 j y (by omega) (by omega))
  exact ⟨hz0, cTk_st (cTk_16 hkA (Or.inr rfl)) (Or.inr rfl), cFm_up (Or.inr rfl) (cFm_up (Or.inr rfl) (cFm_tr (cFm_r hf) (pr_fm (Or.inr rfl) hA)) (by first | decide | omega) (Or.inl (by omega)) (by first | decide | omega)) (by first | decide | omega) (Or.inl (by omega)) (by first | decide | omega)⟩
end Wib
