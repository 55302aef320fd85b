/-! PART bm: the Code's addSite. -/
section Wbm
variable {xs : List (Nat × List Int32)} {M : Nat → Prop} {d : Nat} {A B C S Z : wS} {Q : wO → wS → Prop} {T : Int → Int} {n : Int} {N X : List (List Int)} {c i : Nat} {f u w : Int} {I : List pz_I} {F : List pz_F}
variable {k y e fn ins s : Int}
/-- behind a table's growing -/
theorem mr_u {cnt : Int} (h : mr_ag 35 12 cnt S Z) (hl : ∀ x : Nat, x < 12 → S (35 + x) (-1) = S 35 (-1)) (hI : gI S) (hc : 0 ≤ cnt ∧ cnt ≤ 4000) (hL : 64 ≤ S 35 (-1) ∧ S 35 (-1) ≤ 8191) : (∀ x : Nat, x < 12 → Z (35 + x) (-1) = Z 35 (-1)) ∧ (cnt < Z 35 (-1) ∧ 64 ≤ Z 35 (-1) ∧ Z 35 (-1) ≤ 8191) ∧ (∀ x : Nat, x < 12 → ∀ i : Int, 0 ≤ i → i < cnt → Z (35 + x) i = S (35 + x) i) ∧ (∀ (j : Nat) (i : Int), j < 4000000 → j ≠ wG → (j < 35 ∨ 47 ≤ j) → Z j i = S j i) ∧ gI Z ∧ rmR S Z := by
  rcases h with ⟨h1, rfl⟩ | ⟨h1, ⟨h2, h3⟩, h4, h5⟩
  · exact ⟨hl, ⟨h1, hL.1, hL.2⟩, fun _ _ _ _ _ => rfl, fun _ _ _ _ _ => rfl, hI, rmR_rfl _⟩
  · have e : Z 35 (-1) = cnt * 2 := (h2 0 (by decide)).1
    exact ⟨fun x hx => (h2 x hx).1.trans e.symm, by omega, fun x hx => (h2 x hx).2, fun j i j0 j1 j2 => h3 j i j0 j1 (by omega), h4, h5⟩
/-- a site has come: its own rows -/
def as_P (k y e fn ins s : Int) (S Z : wS) : Prop := (Z 19 9 = s + 1 ∧ Z 35 s = k ∧ Z 36 s = y ∧ Z 37 s = e ∧ Z 38 s = fn ∧ Z 39 s = ins ∧ Z 46 s = -1) ∧ (∀ (j : Nat) (i : Int), 35 ≤ j → j ≤ 46 → (i ≠ s ∨ (41 ≤ j ∧ j ≤ 45)) → Z j i = S j i) ∧ (∀ (j : Nat) (i : Int), j < 4000000 → j ≠ wG → (j < 35 ∨ 46 < j) → j ≠ 58 → j ≠ 59 → j ≠ 60 → (j ≠ 19 ∨ (i ≠ 9 ∧ i ≠ 16)) → Z j i = S j i) ∧ dI (Z 35) (Z 36) (Z 37) (Z 40) (Z 58) (Z 59) (Z 60) (s + 1) (Z 19 16) ∧ ((Z 19 16 = S 19 16 ∧ ∃ o : Int, 0 ≤ o ∧ o < s ∧ dk (Z 35) (Z 36) (Z 37) o s) ∨ (Z 19 16 = S 19 16 + 1 ∧ Z 40 s = S 19 16 ∧ ∀ o : Int, 0 ≤ o → o < s → ¬ dk (Z 35) (Z 36) (Z 37) o s)) ∧ (Z 59 (-1) = Z 58 (-1) ∧ Z 19 16 ≤ Z 58 (-1) ∧ 64 ≤ Z 58 (-1) ∧ Z 58 (-1) ≤ 8191) ∧ Z 60 (-1) = 256 ∧ gI Z ∧ rmR S Z
set_option maxHeartbeats 4000000 in
theorem as_2 (hI : gI S) (h9 : S 19 9 = s) (hd : dI (S 35) (S 36) (S 37) (S 40) (S 58) (S 59) (S 60) s (S 19 16)) (hs : 0 ≤ s ∧ s < S 35 (-1) ∧ s < 4000) (hl : ∀ x : Nat, x < 12 → S (35 + x) (-1) = S 35 (-1)) (h34 : S 34 (-1) = 12) (l59 : S 59 (-1) = S 58 (-1)) (hc : S 19 16 ≤ S 58 (-1) ∧ 64 ≤ S 58 (-1) ∧ S 58 (-1) ≤ 8191) (h60 : S 60 (-1) = 256) (hk : -2147483648 ≤ k ∧ k ≤ 2147483647) (hy : -2147483648 ≤ y ∧ y ≤ 2147483647) (he : -2147483648 ≤ e ∧ e ≤ 2147483647) (hfn : -2147483648 ≤ fn ∧ fn ≤ 2147483647) (hin : -2147483648 ≤ ins ∧ ins ≤ 2147483647) : wJ (pe_GA xs) wY0 (mS [35, 36, 37, 38, 39, 40, 41, 42, 43, 44, 45, 46, 58, 59]) (d + 3) t_XC_addSite ((pe_at t_XC_addSite.bl 2).getD (0, [])).2 [(0, (2, 19)), (1, (0, k)), (2, (0, y)), (3, (0, e)), (4, (0, fn)), (5, (0, ins)), (6, (0, s))] [] S (fun o Z => o = .inl (some (0, s)) ∧ as_P k y e fn ins s S Z) := by
  have hR := rmR_rfl S
  have h0 := hd.1
  refine wa_aload_n (n := 0) rfl ?_
  refine wb_gf4 19 rfl (wy_pr rfl) wt_19 wf_0_8 (v := 34) wl_19_8 ?_
  refine wa_iconst ?_
  refine wb_aald5 34 0 rfl rfl (wy_pr rfl) wt_34 (by rw [show _ = _ from (h34)]; omega) wl_34_0 ?_
  refine wa_iload (n := 6) rfl ?_
  refine wa_iload_n (n := 1) rfl ?_
  refine wb_iast 35 rfl (wy_pr rfl) wt_35 (n := (S 35 (-1))) rfl (by omega) (by omega) ⟨(by omega), (by omega)⟩ ?_
  refine wa_aload_n (n := 0) rfl ?_
  refine wb_gf4 19 rfl (wy_pr rfl) wt_19 wf_0_8 (v := 34) wl_19_8 ?_
  refine wa_iconst ?_
  refine wb_aald5 34 1 rfl rfl (wy_pr rfl) wt_34 (by rw [show _ = _ from ((w_up_slot (by decide)).trans (h34))]; omega) wl_34_1 ?_
  refine wa_iload (n := 6) rfl ?_
  refine wa_iload_n (n := 2) rfl ?_
  refine wb_iast 36 rfl (wy_pr rfl) wt_36 (n := (S 35 (-1))) ((w_up_slot (by decide)).trans ((hl 1 (by decide)))) (by omega) (by omega) ⟨(by omega), (by omega)⟩ ?_
  refine wa_aload_n (n := 0) rfl ?_
  refine wb_gf4 19 rfl (wy_pr rfl) wt_19 wf_0_8 (v := 34) wl_19_8 ?_
  refine wa_iconst ?_
  refine wb_aald5 34 2 rfl rfl (wy_pr rfl) wt_34 (by rw [show _ = _ from ((w_up_slot (by decide)).trans ((w_up_slot (by decide)).trans (h34)))]; omega) wl_34_2 ?_
  refine wa_iload (n := 6) rfl ?_
  refine wa_iload_n (n := 3) rfl ?_
  refine wb_iast 37 rfl (wy_pr rfl) wt_37 (n := (S 35 (-1))) ((w_up_slot (by decide)).trans ((w_up_slot (by decide)).trans ((hl 2 (by decide))))) (by omega) (by omega) ⟨(by omega), (by omega)⟩ ?_
  refine wa_aload_n (n := 0) rfl ?_
  refine wb_gf4 19 rfl (wy_pr rfl) wt_19 wf_0_8 (v := 34) wl_19_8 ?_
  refine wa_iconst ?_
  refine wb_aald5 34 3 rfl rfl (wy_pr rfl) wt_34 (by rw [show _ = _ from ((w_up_slot (by decide)).trans ((w_up_slot (by decide)).trans ((w_up_slot (by decide)).trans (h34))))]; omega) wl_34_3 ?_
  refine wa_iload (n := 6) rfl ?_
  refine wa_iload (n := 4) rfl ?_
  refine wb_iast 38 rfl (wy_pr rfl) wt_38 (n := (S 35 (-1))) ((w_up_slot (by decide)).trans ((w_up_slot (by decide)).trans ((w_up_slot (by decide)).trans ((hl 3 (by decide)))))) (by omega) (by omega) ⟨(by omega), (by omega)⟩ ?_
  refine wa_aload_n (n := 0) rfl ?_
  refine wb_gf4 19 rfl (wy_pr rfl) wt_19 wf_0_8 (v := 34) wl_19_8 ?_
  refine wa_iconst ?_
  refine wb_aald5 34 4 rfl rfl (wy_pr rfl) wt_34 (by rw [show _ = _ from ((w_up_slot (by decide)).trans ((w_up_slot (by decide)).trans ((w_up_slot (by decide)).trans ((w_up_slot (by decide)).trans (h34)))))]; omega) wl_34_4 ?_
  refine wa_iload (n := 6) rfl ?_
  refine wa_iload (n := 5) rfl ?_
  refine wb_iast 39 rfl (wy_pr rfl) wt_39 (n := (S 35 (-1))) ((w_up_slot (by decide)).trans ((w_up_slot (by decide)).trans ((w_up_slot (by decide)).trans ((w_up_slot (by decide)).trans ((hl 4 (by decide))))))) (by omega) (by omega) ⟨(by omega), (by omega)⟩ ?_
  refine wa_aload_n (n := 0) rfl ?_
  refine wb_gf4 19 rfl (wy_pr rfl) wt_19 wf_0_8 (v := 34) wl_19_8 ?_
  refine wa_bipush (w_rg2 (by omega) (by omega)) ?_
  refine wb_aald5 34 11 rfl rfl (wy_pr rfl) wt_34 (by rw [show _ = _ from ((w_up_slot (by decide)).trans ((w_up_slot (by decide)).trans ((w_up_slot (by decide)).trans ((w_up_slot (by decide)).trans ((w_up_slot (by decide)).trans (h34))))))]; omega) wl_34_11 ?_
  refine wa_iload (n := 6) rfl ?_
  refine wa_iconst ?_
  refine wb_iast 46 rfl (wy_pr rfl) wt_46 (n := (S 35 (-1))) ((w_up_slot (by decide)).trans ((w_up_slot (by decide)).trans ((w_up_slot (by decide)).trans ((w_up_slot (by decide)).trans ((w_up_slot (by decide)).trans ((hl 11 (by decide)))))))) (by omega) (by omega) ⟨(by omega), (by omega)⟩ ?_
  refine wa_aload_n (n := 0) rfl ?_
  refine wa_dup (by decide) ?_
  refine wb_gfi 19 rfl (wy_pr rfl) wt_19 wf_0_9 (v := s) ((w_up_slot (by decide)).trans ((w_up_slot (by decide)).trans ((w_up_slot (by decide)).trans ((w_up_slot (by decide)).trans ((w_up_slot (by decide)).trans ((w_up_slot (by decide)).trans (h9))))))) (fun r101 => ?_)
  refine wa_iconst ?_
  refine wa_iadd ?_
  refine wb_pfi 19 rfl (wy_pr rfl) wt_19 wf_0_9 (n := 9) rfl ⟨(by omega), (by omega)⟩ ?_
  refine wa_aload_n (n := 0) rfl ?_
  refine wb_gf4 19 rfl (wy_pr rfl) wt_19 wf_0_8 (v := 34) wl_19_8 ?_
  refine wa_iconst ?_
  refine wb_aald5 34 5 rfl rfl (wy_pr rfl) wt_34 (by rw [show _ = _ from ((w_up_slot (by decide)).trans ((w_up_slot (by decide)).trans ((w_up_slot (by decide)).trans ((w_up_slot (by decide)).trans ((w_up_slot (by decide)).trans ((w_up_slot (by decide)).trans ((w_up_slot (by decide)).trans (h34))))))))]; omega) wl_34_5 ?_
  refine wa_iload (n := 6) rfl ?_
  refine wa_aload_n (n := 0) rfl ?_
  refine wa_iload (n := 6) rfl ?_
  have e16 : (w_up (w_up (w_up (w_up (w_up (w_up (w_up S 35 s k) 36 s y) 37 s e) 38 s fn) 39 s ins) 46 s (-1)) 19 9 (s + 1)) 19 16 = S 19 16 := (w_up_no (by omega)).trans ((w_up_no (by omega)).trans ((w_up_no (by omega)).trans ((w_up_no (by omega)).trans ((w_up_no (by omega)).trans ((w_up_no (by omega)).trans ((w_up_no (by omega)).trans (rfl)))))))
  have hd2 : dI ((w_up (w_up (w_up (w_up (w_up (w_up (w_up S 35 s k) 36 s y) 37 s e) 38 s fn) 39 s ins) 46 s (-1)) 19 9 (s + 1)) 35) ((w_up (w_up (w_up (w_up (w_up (w_up (w_up S 35 s k) 36 s y) 37 s e) 38 s fn) 39 s ins) 46 s (-1)) 19 9 (s + 1)) 36) ((w_up (w_up (w_up (w_up (w_up (w_up (w_up S 35 s k) 36 s y) 37 s e) 38 s fn) 39 s ins) 46 s (-1)) 19 9 (s + 1)) 37) ((w_up (w_up (w_up (w_up (w_up (w_up (w_up S 35 s k) 36 s y) 37 s e) 38 s fn) 39 s ins) 46 s (-1)) 19 9 (s + 1)) 40) ((w_up (w_up (w_up (w_up (w_up (w_up (w_up S 35 s k) 36 s y) 37 s e) 38 s fn) 39 s ins) 46 s (-1)) 19 9 (s + 1)) 58) ((w_up (w_up (w_up (w_up (w_up (w_up (w_up S 35 s k) 36 s y) 37 s e) 38 s fn) 39 s ins) 46 s (-1)) 19 9 (s + 1)) 59) ((w_up (w_up (w_up (w_up (w_up (w_up (w_up S 35 s k) 36 s y) 37 s e) 38 s fn) 39 s ins) 46 s (-1)) 19 9 (s + 1)) 60) s ((w_up (w_up (w_up (w_up (w_up (w_up (w_up S 35 s k) 36 s y) 37 s e) 38 s fn) 39 s ins) 46 s (-1)) 19 9 (s + 1)) 19 16) := by
    rw [e16]
    exact dI_cg hd (fun i i0 i1 => ⟨(w_up_no (by omega)).trans ((w_up_no (by omega)).trans ((w_up_no (by omega)).trans ((w_up_no (by omega)).trans ((w_up_no (by omega)).trans ((w_up_no (by omega)).trans ((w_up_no (by omega)).trans (rfl))))))), (w_up_no (by omega)).trans ((w_up_no (by omega)).trans ((w_up_no (by omega)).trans ((w_up_no (by omega)).trans ((w_up_no (by omega)).trans ((w_up_no (by omega)).trans ((w_up_no (by omega)).trans (rfl))))))), (w_up_no (by omega)).trans ((w_up_no (by omega)).trans ((w_up_no (by omega)).trans ((w_up_no (by omega)).trans ((w_up_no (by omega)).trans ((w_up_no (by omega)).trans ((w_up_no (by omega)).trans (rfl))))))), (w_up_no (by omega)).trans ((w_up_no (by omega)).trans ((w_up_no (by omega)).trans ((w_up_no (by omega)).trans ((w_up_no (by omega)).trans ((w_up_no (by omega)).trans ((w_up_no (by omega)).trans (rfl)))))))⟩) (fun e e0 e1 => ⟨(w_up_no (by omega)).trans ((w_up_no (by omega)).trans ((w_up_no (by omega)).trans ((w_up_no (by omega)).trans ((w_up_no (by omega)).trans ((w_up_no (by omega)).trans ((w_up_no (by omega)).trans (rfl))))))), (w_up_no (by omega)).trans ((w_up_no (by omega)).trans ((w_up_no (by omega)).trans ((w_up_no (by omega)).trans ((w_up_no (by omega)).trans ((w_up_no (by omega)).trans ((w_up_no (by omega)).trans (rfl)))))))⟩) (fun x x0 x1 => (w_up_no (by omega)).trans ((w_up_no (by omega)).trans ((w_up_no (by omega)).trans ((w_up_no (by omega)).trans ((w_up_no (by omega)).trans ((w_up_no (by omega)).trans ((w_up_no (by omega)).trans (rfl))))))))
  have e35 : (w_up (w_up (w_up (w_up (w_up (w_up (w_up S 35 s k) 36 s y) 37 s e) 38 s fn) 39 s ins) 46 s (-1)) 19 9 (s + 1)) 35 (-1) = S 35 (-1) := (w_up_no (by omega)).trans ((w_up_no (by omega)).trans ((w_up_no (by omega)).trans ((w_up_no (by omega)).trans ((w_up_no (by omega)).trans ((w_up_no (by omega)).trans ((w_up_no (by omega)).trans (rfl)))))))
  have hl2 : ∀ x : Nat, x < 12 → (w_up (w_up (w_up (w_up (w_up (w_up (w_up S 35 s k) 36 s y) 37 s e) 38 s fn) 39 s ins) 46 s (-1)) 19 9 (s + 1)) (35 + x) (-1) = (w_up (w_up (w_up (w_up (w_up (w_up (w_up S 35 s k) 36 s y) 37 s e) 38 s fn) 39 s ins) 46 s (-1)) 19 9 (s + 1)) 35 (-1) := fun x hx => ((w_up_no (by omega)).trans ((w_up_no (by omega)).trans ((w_up_no (by omega)).trans ((w_up_no (by omega)).trans ((w_up_no (by omega)).trans ((w_up_no (by omega)).trans ((w_up_no (by omega)).trans (hl x hx)))))))).trans e35.symm
  have e34 : (w_up (w_up (w_up (w_up (w_up (w_up (w_up S 35 s k) 36 s y) 37 s e) 38 s fn) 39 s ins) 46 s (-1)) 19 9 (s + 1)) 34 (-1) = 12 := (w_up_no (by omega)).trans ((w_up_no (by omega)).trans ((w_up_no (by omega)).trans ((w_up_no (by omega)).trans ((w_up_no (by omega)).trans ((w_up_no (by omega)).trans ((w_up_no (by omega)).trans (h34)))))))
  have e58 : (w_up (w_up (w_up (w_up (w_up (w_up (w_up S 35 s k) 36 s y) 37 s e) 38 s fn) 39 s ins) 46 s (-1)) 19 9 (s + 1)) 58 (-1) = S 58 (-1) := (w_up_no (by omega)).trans ((w_up_no (by omega)).trans ((w_up_no (by omega)).trans ((w_up_no (by omega)).trans ((w_up_no (by omega)).trans ((w_up_no (by omega)).trans ((w_up_no (by omega)).trans (rfl)))))))
  have e59 : (w_up (w_up (w_up (w_up (w_up (w_up (w_up S 35 s k) 36 s y) 37 s e) 38 s fn) 39 s ins) 46 s (-1)) 19 9 (s + 1)) 59 (-1) = (w_up (w_up (w_up (w_up (w_up (w_up (w_up S 35 s k) 36 s y) 37 s e) 38 s fn) 39 s ins) 46 s (-1)) 19 9 (s + 1)) 58 (-1) := ((w_up_no (by omega)).trans ((w_up_no (by omega)).trans ((w_up_no (by omega)).trans ((w_up_no (by omega)).trans ((w_up_no (by omega)).trans ((w_up_no (by omega)).trans ((w_up_no (by omega)).trans (l59)))))))).trans e58.symm
  have e60 : (w_up (w_up (w_up (w_up (w_up (w_up (w_up S 35 s k) 36 s y) 37 s e) 38 s fn) 39 s ins) 46 s (-1)) 19 9 (s + 1)) 60 (-1) = 256 := (w_up_no (by omega)).trans ((w_up_no (by omega)).trans ((w_up_no (by omega)).trans ((w_up_no (by omega)).trans ((w_up_no (by omega)).trans ((w_up_no (by omega)).trans ((w_up_no (by omega)).trans (h60)))))))
  refine wa_cv 19 rfl (wy_pr rfl) wt_19 (M2 := mS [58, 59]) rfl at_XC_descriptorOf ⟨_, rfl⟩ rfl rfl ⟨(Or.inr ⟨wy_pr rfl, mS_no rfl⟩), trivial, trivial, trivial, trivial, trivial, trivial, trivial⟩ ⟨trivial, (Or.inr ⟨wy_pr rfl, mS_no rfl⟩), trivial⟩ (fun _ _ q => mS_sub (by decide) q) (do_ok (S := (w_up (w_up (w_up (w_up (w_up (w_up (w_up S 35 s k) 36 s y) 37 s e) 38 s fn) 39 s ins) 46 s (-1)) 19 9 (s + 1))) (s := s) (gI_up (gI_up (gI_up (gI_up (gI_up (gI_up (gI_up hI (by omega) (by omega) (by omega)) (by omega) (by omega) (by omega)) (by omega) (by omega) (by omega)) (by omega) (by omega) (by omega)) (by omega) (by omega) (by omega)) (by omega) (by omega) (by omega)) (by omega) (by omega) (by omega)) hd2 ⟨by omega, by omega, by omega⟩ hl2 e34 e59 ⟨by omega, by omega, by omega⟩ e60) (fun oq102 Sq102 hp103 q102 => ?_)
  rcases q102 with ⟨e9, rfl, rfl, hee, hkk⟩ | ⟨rfl, hno, hN⟩
  · skip
    show wJ _ _ _ _ _ _ _ _ _ _
    refine wb_iast 40 rfl (wy_pr rfl) wt_40 (n := (S 35 (-1))) ((w_up_slot (by decide)).trans ((w_up_slot (by decide)).trans ((w_up_slot (by decide)).trans ((w_up_slot (by decide)).trans ((w_up_slot (by decide)).trans ((w_up_slot (by decide)).trans ((w_up_slot (by decide)).trans ((hl 5 (by decide)))))))))) (by omega) (by omega) ⟨(by omega), (by omega)⟩ ?_
    refine wa_iload (n := 6) rfl ?_
    refine wa_ireturn rfl ?_
    have f1 := (hd2.2.1 e9 hee.1 hee.2).1
    refine ⟨rfl, ⟨((w_up_slot (by decide)).trans (w_up_same _ _ _ _)), ((w_up_slot (by decide)).trans ((w_up_slot (by decide)).trans ((w_up_slot (by decide)).trans ((w_up_slot (by decide)).trans ((w_up_slot (by decide)).trans ((w_up_slot (by decide)).trans ((w_up_slot (by decide)).trans (w_up_same _ _ _ _)))))))), ((w_up_slot (by decide)).trans ((w_up_slot (by decide)).trans ((w_up_slot (by decide)).trans ((w_up_slot (by decide)).trans ((w_up_slot (by decide)).trans ((w_up_slot (by decide)).trans (w_up_same _ _ _ _))))))), ((w_up_slot (by decide)).trans ((w_up_slot (by decide)).trans ((w_up_slot (by decide)).trans ((w_up_slot (by decide)).trans ((w_up_slot (by decide)).trans (w_up_same _ _ _ _)))))), ((w_up_slot (by decide)).trans ((w_up_slot (by decide)).trans ((w_up_slot (by decide)).trans ((w_up_slot (by decide)).trans (w_up_same _ _ _ _))))), ((w_up_slot (by decide)).trans ((w_up_slot (by decide)).trans ((w_up_slot (by decide)).trans (w_up_same _ _ _ _)))), ((w_up_slot (by decide)).trans ((w_up_slot (by decide)).trans (w_up_same _ _ _ _)))⟩, fun j i j0 j1 j2 => ?_, fun j i j0 j1 j2 j3 j4 j5 j6 => (w_up_no (by omega)).trans ((w_up_no (by omega)).trans ((w_up_no (by omega)).trans ((w_up_no (by omega)).trans ((w_up_no (by omega)).trans ((w_up_no (by omega)).trans ((w_up_no (by omega)).trans ((w_up_no (by omega)).trans (rfl)))))))), dI_old hd2 hee hkk (fun i i0 i1 => w_up_at (by omega)) (w_up_same _ _ _ _), Or.inl ⟨e16, (w_up (w_up (w_up (w_up (w_up (w_up (w_up S 35 s k) 36 s y) 37 s e) 38 s fn) 39 s ins) 46 s (-1)) 19 9 (s + 1)) 58 e9, f1.1, f1.2, hkk⟩, ⟨e59, ?_, ?_, ?_⟩, e60, (gI_up (gI_up (gI_up (gI_up (gI_up (gI_up (gI_up (gI_up hI (by omega) (by omega) (by omega)) (by omega) (by omega) (by omega)) (by omega) (by omega) (by omega)) (by omega) (by omega) (by omega)) (by omega) (by omega) (by omega)) (by omega) (by omega) (by omega)) (by omega) (by omega) (by omega)) (by omega) (by omega) (by omega)), (rmR_up (rmR_up (rmR_up (rmR_up (rmR_up (rmR_up (rmR_up (rmR_up hR (by omega) (by decide)) (by omega) (by decide)) (by omega) (by decide)) (by omega) (by decide)) (by omega) (by decide)) (by omega) (by decide)) (by omega) (by decide)) (by omega) (by decide))⟩
    · exact (w_up_no (by omega)).trans ((w_up_no (by omega)).trans ((w_up_no (by omega)).trans ((w_up_no (by omega)).trans ((w_up_no (by omega)).trans ((w_up_no (by omega)).trans ((w_up_no (by omega)).trans ((w_up_no (by omega)).trans (rfl))))))))
    · show (w_up (w_up (w_up (w_up (w_up (w_up (w_up S 35 s k) 36 s y) 37 s e) 38 s fn) 39 s ins) 46 s (-1)) 19 9 (s + 1)) 19 16 ≤ (w_up (w_up (w_up (w_up (w_up (w_up (w_up S 35 s k) 36 s y) 37 s e) 38 s fn) 39 s ins) 46 s (-1)) 19 9 (s + 1)) 58 (-1); omega
    · show 64 ≤ (w_up (w_up (w_up (w_up (w_up (w_up (w_up S 35 s k) 36 s y) 37 s e) 38 s fn) 39 s ins) 46 s (-1)) 19 9 (s + 1)) 58 (-1); omega
    · show (w_up (w_up (w_up (w_up (w_up (w_up (w_up S 35 s k) 36 s y) 37 s e) 38 s fn) 39 s ins) 46 s (-1)) 19 9 (s + 1)) 58 (-1) ≤ 8191; omega
  · skip
    show wJ _ _ _ _ _ _ _ _ _ _
    refine wb_iast 40 rfl (wy_pr rfl) wt_40 (n := (S 35 (-1))) (((hN.2.2.2.1 40 (-1) (by decide) (by decide) (by decide) (by decide) (by decide) (Or.inl (by decide))).trans ((w_up_slot (by decide)).trans ((w_up_slot (by decide)).trans ((w_up_slot (by decide)).trans ((w_up_slot (by decide)).trans ((w_up_slot (by decide)).trans ((w_up_slot (by decide)).trans ((w_up_slot (by decide)).trans ((hl 5 (by decide)))))))))))) (by omega) (by omega) ⟨(by omega), (by omega)⟩ ?_
    refine wa_iload (n := 6) rfl ?_
    refine wa_ireturn rfl ?_
    have z35 : Sq102 35 = (w_up (w_up (w_up (w_up (w_up (w_up (w_up S 35 s k) 36 s y) 37 s e) 38 s fn) 39 s ins) 46 s (-1)) 19 9 (s + 1)) 35 := funext fun i => hN.2.2.2.1 35 i (by decide) (by decide) (by decide) (by decide) (by decide) (Or.inl (by decide))
    have z36 : Sq102 36 = (w_up (w_up (w_up (w_up (w_up (w_up (w_up S 35 s k) 36 s y) 37 s e) 38 s fn) 39 s ins) 46 s (-1)) 19 9 (s + 1)) 36 := funext fun i => hN.2.2.2.1 36 i (by decide) (by decide) (by decide) (by decide) (by decide) (Or.inl (by decide))
    have z37 : Sq102 37 = (w_up (w_up (w_up (w_up (w_up (w_up (w_up S 35 s k) 36 s y) 37 s e) 38 s fn) 39 s ins) 46 s (-1)) 19 9 (s + 1)) 37 := funext fun i => hN.2.2.2.1 37 i (by decide) (by decide) (by decide) (by decide) (by decide) (Or.inl (by decide))
    have hX : dI ((w_up (w_up (w_up (w_up (w_up (w_up (w_up S 35 s k) 36 s y) 37 s e) 38 s fn) 39 s ins) 46 s (-1)) 19 9 (s + 1)) 35) ((w_up (w_up (w_up (w_up (w_up (w_up (w_up S 35 s k) 36 s y) 37 s e) 38 s fn) 39 s ins) 46 s (-1)) 19 9 (s + 1)) 36) ((w_up (w_up (w_up (w_up (w_up (w_up (w_up S 35 s k) 36 s y) 37 s e) 38 s fn) 39 s ins) 46 s (-1)) 19 9 (s + 1)) 37) ((w_up Sq102 40 s ((w_up (w_up (w_up (w_up (w_up (w_up (w_up S 35 s k) 36 s y) 37 s e) 38 s fn) 39 s ins) 46 s (-1)) 19 9 (s + 1)) 19 16)) 40) (Sq102 58) (Sq102 59) (Sq102 60) (s + 1) ((w_up (w_up (w_up (w_up (w_up (w_up (w_up S 35 s k) 36 s y) 37 s e) 38 s fn) 39 s ins) 46 s (-1)) 19 9 (s + 1)) 19 16 + 1) := dI_new hd2 hno (fun i i0 i1 => (w_up_at (by omega)).trans (hN.2.2.2.1 40 i (by decide) (by decide) (by decide) (by decide) (by decide) (Or.inl (by decide)))) (w_up_same _ _ _ _) hN.2.2.1 hN.1.1 hN.1.2.1 (fun x x0 x1 hx => hN.2.1 x hx) hN.1.2.2.1 hs.1
    obtain ⟨p1, p2, p3, p4⟩ := hN.2.2.2.2.1
    have p5 := hN.1.2.2.2
    refine ⟨rfl, ⟨((w_up_slot (by decide)).trans (((hN.2.2.2.1 19 9 (by decide) (by decide) (by decide) (by decide) (by decide) (Or.inr (by decide))).trans (w_up_same _ _ _ _)))), ((w_up_slot (by decide)).trans (((hN.2.2.2.1 35 s (by decide) (by decide) (by decide) (by decide) (by decide) (Or.inl (by decide))).trans ((w_up_slot (by decide)).trans ((w_up_slot (by decide)).trans ((w_up_slot (by decide)).trans ((w_up_slot (by decide)).trans ((w_up_slot (by decide)).trans ((w_up_slot (by decide)).trans (w_up_same _ _ _ _)))))))))), ((w_up_slot (by decide)).trans (((hN.2.2.2.1 36 s (by decide) (by decide) (by decide) (by decide) (by decide) (Or.inl (by decide))).trans ((w_up_slot (by decide)).trans ((w_up_slot (by decide)).trans ((w_up_slot (by decide)).trans ((w_up_slot (by decide)).trans ((w_up_slot (by decide)).trans (w_up_same _ _ _ _))))))))), ((w_up_slot (by decide)).trans (((hN.2.2.2.1 37 s (by decide) (by decide) (by decide) (by decide) (by decide) (Or.inl (by decide))).trans ((w_up_slot (by decide)).trans ((w_up_slot (by decide)).trans ((w_up_slot (by decide)).trans ((w_up_slot (by decide)).trans (w_up_same _ _ _ _)))))))), ((w_up_slot (by decide)).trans (((hN.2.2.2.1 38 s (by decide) (by decide) (by decide) (by decide) (by decide) (Or.inl (by decide))).trans ((w_up_slot (by decide)).trans ((w_up_slot (by decide)).trans ((w_up_slot (by decide)).trans (w_up_same _ _ _ _))))))), ((w_up_slot (by decide)).trans (((hN.2.2.2.1 39 s (by decide) (by decide) (by decide) (by decide) (by decide) (Or.inl (by decide))).trans ((w_up_slot (by decide)).trans ((w_up_slot (by decide)).trans (w_up_same _ _ _ _)))))), ((w_up_slot (by decide)).trans (((hN.2.2.2.1 46 s (by decide) (by decide) (by decide) (by decide) (by decide) (Or.inl (by decide))).trans ((w_up_slot (by decide)).trans (w_up_same _ _ _ _)))))⟩, fun j i j0 j1 j2 => ?_, fun j i j0 j1 j2 j3 j4 j5 j6 => (w_up_no (by omega)).trans ((hN.2.2.2.1 j i j0 j1 j3 j4 j5 (by omega)).trans ((w_up_no (by omega)).trans ((w_up_no (by omega)).trans ((w_up_no (by omega)).trans ((w_up_no (by omega)).trans ((w_up_no (by omega)).trans ((w_up_no (by omega)).trans ((w_up_no (by omega)).trans (rfl))))))))), ?_, Or.inr ⟨?_, (w_up_same _ _ _ _).trans e16, fun o o0 o1 q => ?_⟩, ⟨p1, ?_, p3, p4⟩, (hN.2.1 (-1) (by have := dh_rg (K := (w_up (w_up (w_up (w_up (w_up (w_up (w_up S 35 s k) 36 s y) 37 s e) 38 s fn) 39 s ins) 46 s (-1)) 19 9 (s + 1)) 35) (Y := (w_up (w_up (w_up (w_up (w_up (w_up (w_up S 35 s k) 36 s y) 37 s e) 38 s fn) 39 s ins) 46 s (-1)) 19 9 (s + 1)) 36) (E := (w_up (w_up (w_up (w_up (w_up (w_up (w_up S 35 s k) 36 s y) 37 s e) 38 s fn) 39 s ins) 46 s (-1)) 19 9 (s + 1)) 37) s; omega)).trans e60, (gI_up hN.2.2.2.2.2.1 (by omega) (by omega) (by omega)), (rmR_up (rmR_tr (rmR_up (rmR_up (rmR_up (rmR_up (rmR_up (rmR_up (rmR_up hR (by omega) (by decide)) (by omega) (by decide)) (by omega) (by decide)) (by omega) (by decide)) (by omega) (by decide)) (by omega) (by decide)) (by omega) (by decide)) hN.2.2.2.2.2.2) (by omega) (by decide))⟩
    · exact (w_up_no (by omega)).trans ((hN.2.2.2.1 j i (by omega) (by have : wG = 1000000 := rfl; omega) (by omega) (by omega) (by omega) (by omega)).trans ((w_up_no (by omega)).trans ((w_up_no (by omega)).trans ((w_up_no (by omega)).trans ((w_up_no (by omega)).trans ((w_up_no (by omega)).trans ((w_up_no (by omega)).trans ((w_up_no (by omega)).trans (rfl)))))))))
    · show dI (Sq102 35) (Sq102 36) (Sq102 37) ((w_up Sq102 40 s ((w_up (w_up (w_up (w_up (w_up (w_up (w_up S 35 s k) 36 s y) 37 s e) 38 s fn) 39 s ins) 46 s (-1)) 19 9 (s + 1)) 19 16)) 40) (Sq102 58) (Sq102 59) (Sq102 60) (s + 1) (Sq102 19 16)
      rw [z35, z36, z37, p5]; exact hX
    · show Sq102 19 16 = S 19 16 + 1; omega
    · have q2 : dk ((w_up (w_up (w_up (w_up (w_up (w_up (w_up S 35 s k) 36 s y) 37 s e) 38 s fn) 39 s ins) 46 s (-1)) 19 9 (s + 1)) 35) ((w_up (w_up (w_up (w_up (w_up (w_up (w_up S 35 s k) 36 s y) 37 s e) 38 s fn) 39 s ins) 46 s (-1)) 19 9 (s + 1)) 36) ((w_up (w_up (w_up (w_up (w_up (w_up (w_up S 35 s k) 36 s y) 37 s e) 38 s fn) 39 s ins) 46 s (-1)) 19 9 (s + 1)) 37) o s := by rw [← z35, ← z36, ← z37]; exact q
      obtain ⟨q3, q4, q5⟩ := hd2.2.2.2.2.2.1 o o0 o1
      exact hno _ q3 q4 (dk_tr q5 q2)
    · show Sq102 19 16 ≤ Sq102 58 (-1); omega
/-- what holds of the sites -/
def si_L (S : wS) : Prop := (0 ≤ S 19 9 ∧ S 19 9 ≤ 4000) ∧ (∀ x : Nat, x < 12 → S (35 + x) (-1) = S 35 (-1)) ∧ (S 19 9 ≤ S 35 (-1) ∧ 64 ≤ S 35 (-1) ∧ S 35 (-1) ≤ 8191) ∧ S 34 (-1) = 12 ∧ S 59 (-1) = S 58 (-1) ∧ (S 19 16 ≤ S 58 (-1) ∧ 64 ≤ S 58 (-1) ∧ S 58 (-1) ≤ 8191) ∧ S 60 (-1) = 256 ∧ dI (S 35) (S 36) (S 37) (S 40) (S 58) (S 59) (S 60) (S 19 9) (S 19 16)
/-- one more site -/
def as_Q (k y e fn ins : Int) (S Z : wS) : Prop := (Z 19 9 = S 19 9 + 1 ∧ Z 35 (S 19 9) = k ∧ Z 36 (S 19 9) = y ∧ Z 37 (S 19 9) = e ∧ Z 38 (S 19 9) = fn ∧ Z 39 (S 19 9) = ins ∧ Z 46 (S 19 9) = -1 ∧ ∀ j : Nat, 41 ≤ j → j ≤ 45 → Z j (S 19 9) = 0) ∧ (∀ (j : Nat) (i : Int), 35 ≤ j → j ≤ 46 → 0 ≤ i → i < S 19 9 → Z j i = S j i) ∧ (∀ (j : Nat) (i : Int), j < 4000000 → j ≠ wG → (j < 35 ∨ 46 < j) → j ≠ 58 → j ≠ 59 → j ≠ 60 → (j ≠ 19 ∨ (i ≠ 9 ∧ i ≠ 16)) → Z j i = S j i) ∧ si_L Z ∧ ((Z 19 16 = S 19 16 ∧ ∃ o : Int, 0 ≤ o ∧ o < S 19 9 ∧ dk (Z 35) (Z 36) (Z 37) o (S 19 9)) ∨ (Z 19 16 = S 19 16 + 1 ∧ Z 40 (S 19 9) = S 19 16 ∧ ∀ o : Int, 0 ≤ o → o < S 19 9 → ¬ dk (Z 35) (Z 36) (Z 37) o (S 19 9))) ∧ gI Z ∧ rmR S Z
/-- the first k rows of the new site are 0 -/
def azI (s : Int) (k : Nat) (S Z : wS) : Prop := (∀ x : Nat, x < k → Z (35 + x) s = 0) ∧ (∀ (j : Nat) (y : Int), (j < 35 ∨ 35 + k ≤ j ∨ y ≠ s) → Z j y = S j y) ∧ gI Z ∧ rmR S Z
theorem azI_s {k : Nat} (hk : k < 12) (hs : 0 ≤ s) (h : azI s k S Z) : azI s (k + 1) S (w_up Z (35 + k) s 0) := by
  obtain ⟨h1, h2, h3, h4⟩ := h
  refine ⟨fun x hx => ?_, fun j y hj => (w_up_no (by omega)).trans (h2 j y (by omega)), gI_up h3 (by omega) (by omega) (by omega), rmR_up h4 hs (by have : wG = 1000000 := rfl; omega)⟩
  by_cases e : x = k
  · subst e; exact w_up_same _ _ _ _
  · rw [w_up_slot (by omega)]; exact h1 x (by omega)
theorem wl_34 {k : Nat} (hk : k < 12) : wY0.ln 34 k = ((35 + k : Nat) : Int) ∧ wY0.ty (35 + k) = 0 := by
  have h : ∀ k : Nat, k < 12 → wY0.ln 34 k = ((35 + k : Nat) : Int) ∧ wY0.ty (35 + k) = 0 := by decide +kernel
  exact h k hk
theorem as_1 {n0 : Int} (hs : 0 ≤ s ∧ s < n0 ∧ n0 ≤ 8191) (hl : ∀ x : Nat, x < 12 → S (35 + x) (-1) = n0) (h34 : S 34 (-1) = 12) (hkk : ∀ Z, azI s 12 S Z → wJ (pe_GA xs) wY0 (mS [35, 36, 37, 38, 39, 40, 41, 42, 43, 44, 45, 46, 58, 59]) d t_XC_addSite ((pe_at t_XC_addSite.bl 2).getD (0, [])).2 [(0, (2, 19)), (1, (0, k)), (2, (0, y)), (3, (0, e)), (4, (0, fn)), (5, (0, ins)), (6, (0, s))] [] Z Q) : ∀ (fu k2 : Nat) (Z : wS), 12 - k2 < fu → k2 ≤ 12 → azI s k2 S Z → wJ (pe_GA xs) wY0 (mS [35, 36, 37, 38, 39, 40, 41, 42, 43, 44, 45, 46, 58, 59]) d t_XC_addSite ((pe_at t_XC_addSite.bl 1).getD (0, [])).2 [(0, (2, 19)), (1, (0, k)), (2, (0, y)), (3, (0, e)), (4, (0, fn)), (5, (0, ins)), (6, (0, s)), (7, (0, (k2 : Int)))] [] Z Q := by
  intro fu
  induction fu with
  | zero => intro k Z hm; exact absurd hm (Nat.not_lt_zero _)
  | succ fu ih =>
    intro k2 Z hm hk2 hz
    have z34 : Z 34 (-1) = 12 := (hz.2.1 34 (-1) (by omega)).trans h34
    refine wa_iload (n := 7) rfl ?_
    refine wa_bipush (w_rg2 (by omega) (by omega)) ?_
    refine wa_icmpge (w_rg0 (by omega) (by omega)) (w_rg0 (by omega) (by omega)) ⟨_, rfl⟩ (fun c101 => ?_) (fun c101 => ?_)
    · skip
      have ek : k2 = 12 := by omega
      subst ek
      exact wJ_S (hkk Z hz) ⟨rfl, rfl, rfl, rfl, rfl, rfl, rfl, trivial⟩
    · skip
      refine wa_aload_n (n := 0) rfl ?_
      refine wb_gf4 19 rfl (wy_pr rfl) wt_19 wf_0_8 (v := 34) wl_19_8 ?_
      refine wa_iload (n := 7) rfl ?_
      refine wb_aald5 34 k2 rfl (by omega) (wy_pr rfl) wt_34 (by rw [show _ = _ from (z34)]; omega) (wl_34 (by omega)).1 ?_
      refine wa_iload (n := 6) rfl ?_
      refine wa_iconst ?_
      refine wb_iast (35 + k2) rfl ⟨Or.inl (by show 35 + k2 < 388; omega), by unfold wG; omega⟩ (wl_34 (by omega)).2 (n := n0) (((hz.2.1 (35 + k2) (-1) (by omega)).trans (hl k2 (by omega)))) (by omega) (by omega) ⟨(by omega), (by omega)⟩ ?_
      refine wa_iinc rfl rfl ?_
      refine wa_goto ⟨_, rfl⟩ ?_
      have hq := azI_s (by omega) hs.1 hz
      rw [show ((k2 : Int) + 1) = ((k2 + 1 : Nat) : Int) by omega]
      exact wJ_S (ih (k2 + 1) _ (by omega) (by omega) hq) ⟨rfl, rfl, rfl, rfl, rfl, rfl, rfl, rfl, trivial⟩
set_option maxHeartbeats 4000000 in
theorem as_ok (hI : gI S) (hS : si_L S) (h9 : S 19 9 < 4000) (hk : -2147483648 ≤ k ∧ k ≤ 2147483647) (hy : -2147483648 ≤ y ∧ y ≤ 2147483647) (he : -2147483648 ≤ e ∧ e ≤ 2147483647) (hfn : -2147483648 ≤ fn ∧ fn ≤ 2147483647) (hin : -2147483648 ≤ ins ∧ ins ≤ 2147483647) : wJ (pe_GA xs) wY0 (mS [35, 36, 37, 38, 39, 40, 41, 42, 43, 44, 45, 46, 58, 59]) (d + 3) t_XC_addSite ((pe_at t_XC_addSite.bl 0).getD (0, [])).2 [(0, (2, 19)), (1, (0, k)), (2, (0, y)), (3, (0, e)), (4, (0, fn)), (5, (0, ins))] [] S (fun o Z => o = .inl (some (0, S 19 9)) ∧ as_Q k y e fn ins S Z) := by
  obtain ⟨s1, hl, s3, h34, l59, hc, h60, hd⟩ := hS
  refine wa_aload_n (n := 0) rfl ?_
  refine wb_gfi 19 rfl (wy_pr rfl) wt_19 wf_0_9 (v := (S 19 9)) rfl (fun r101 => ?_)
  refine wa_istore (n := 6) rfl ?_
  refine wa_aload_n (n := 0) rfl ?_
  refine wb_gf4 19 rfl (wy_pr rfl) wt_19 wf_0_8 (v := 34) wl_19_8 ?_
  refine wa_iload (n := 6) rfl ?_
  refine wa_cs (M2 := mS [35, 36, 37, 38, 39, 40, 41, 42, 43, 44, 45, 46]) rfl at_X_makeRoom ⟨_, rfl⟩ rfl rfl ⟨trivial, (Or.inr ⟨wy_pr rfl, mS_no rfl⟩), trivial, trivial, trivial, trivial, trivial, trivial⟩ trivial (fun _ _ q => mS_sub (by decide) q) (mkr_34 (S := S) (cnt := (S 19 9)) h34 hI ⟨by omega, by omega⟩ ⟨by omega, by omega⟩ hl) (fun oq102 Sq102 hp103 q102 => ?_)
  rcases q102 with ⟨rfl, hmr⟩
  show wJ _ _ _ _ _ _ _ _ _ _
  obtain ⟨m1, ⟨m2, m2b, m2c⟩, m3, m4, m5, m6⟩ := mr_u hmr hl hI ⟨by omega, by omega⟩ ⟨by omega, by omega⟩
  refine wa_iconst ?_
  refine wa_istore (n := 7) rfl ?_
  refine wa_fall ⟨_, rfl⟩ ?_
  refine wJ_S (as_1 (S := Sq102) (s := (S 19 9)) (n0 := Sq102 35 (-1)) ⟨s1.1, m2, m2c⟩ m1 ((m4 34 (-1) (by decide) (by decide) (by decide)).trans h34) (fun Z3 hz3 => ?_) 13 0 Sq102 (by decide) (by decide) ⟨fun x hx => absurd hx (Nat.not_lt_zero _), fun _ _ _ => rfl, m5, rmR_rfl _⟩) ⟨rfl, rfl, rfl, rfl, rfl, rfl, rfl, rfl, trivial⟩
  obtain ⟨y1, y2, y3, y4⟩ := hz3
  have ef : ∀ (j : Nat) (i : Int), j < 4000000 → j ≠ wG → (j < 35 ∨ 47 ≤ j) → Z3 j i = S j i := fun j i j0 j1 j2 => (y2 j i (by omega)).trans (m4 j i j0 j1 j2)
  have ep : ∀ (x : Nat) (i : Int), x < 12 → 0 ≤ i → i < (S 19 9) → Z3 (35 + x) i = S (35 + x) i := fun x i hx i0 i1 => (y2 (35 + x) i (by omega)).trans (m3 x hx i i0 i1)
  have e16 : Z3 19 16 = S 19 16 := ef 19 16 (by decide) (by decide) (by decide)
  have e9 : Z3 19 9 = S 19 9 := ef 19 9 (by decide) (by decide) (by decide)
  have hd2 : dI (Z3 35) (Z3 36) (Z3 37) (Z3 40) (Z3 58) (Z3 59) (Z3 60) (S 19 9) (Z3 19 16) := by
    rw [e16]
    exact dI_cg hd (fun i i0 i1 => ⟨ep 0 i (by decide) i0 i1, ep 1 i (by decide) i0 i1, ep 2 i (by decide) i0 i1, ep 5 i (by decide) i0 i1⟩) (fun e e0 e1 => ⟨ef 58 e (by decide) (by decide) (by decide), ef 59 e (by decide) (by decide) (by decide)⟩) (fun x x0 x1 => ef 60 x (by decide) (by decide) (by decide))
  have el : ∀ x : Nat, x < 12 → Z3 (35 + x) (-1) = Sq102 35 (-1) := fun x hx => (y2 (35 + x) (-1) (by omega)).trans (m1 x hx)
  have el0 : Z3 35 (-1) = Sq102 35 (-1) := el 0 (by decide)
  have q34 : Z3 34 (-1) = S 34 (-1) := ef 34 (-1) (by decide) (by decide) (by decide)
  have q58 : Z3 58 (-1) = S 58 (-1) := ef 58 (-1) (by decide) (by decide) (by decide)
  have q59 : Z3 59 (-1) = S 59 (-1) := ef 59 (-1) (by decide) (by decide) (by decide)
  have q60 : Z3 60 (-1) = S 60 (-1) := ef 60 (-1) (by decide) (by decide) (by decide)
  refine wJ_mono (as_2 (S := Z3) y3 e9 hd2 ⟨by omega, by omega, by omega⟩ (fun x hx => (el x hx).trans el0.symm) (q34.trans h34) (q59.trans (l59.trans q58.symm)) ⟨by omega, by omega, by omega⟩ (q60.trans h60) hk hy he hfn hin) (fun o Z hz => ?_)
  obtain ⟨a0, ⟨a1, a2⟩, a3, a4, a5, a6, ⟨a7, a8, a9, a10⟩, a11, a12, a13⟩ := hz
  rw [e16] at a6
  have aZ : ∀ x : Nat, x < 12 → Z (35 + x) (-1) = Sq102 35 (-1) := fun x hx => (a3 (35 + x) (-1) (by omega) (by omega) (Or.inl (by omega))).trans (el x hx)
  have aZ0 : Z 35 (-1) = Sq102 35 (-1) := aZ 0 (by decide)
  refine ⟨a0, ⟨a1, a2.1, a2.2.1, a2.2.2.1, a2.2.2.2.1, a2.2.2.2.2.1, a2.2.2.2.2.2, fun j j0 j1 => ?_⟩, fun j i j0 j1 i0 i1 => ?_, fun j i j0 j1 j2 j3 j4 j5 j6 => (a4 j i j0 j1 j2 j3 j4 j5 j6).trans (ef j i j0 j1 (by omega)), ⟨⟨by omega, by omega⟩, fun x hx => (aZ x hx).trans aZ0.symm, ⟨by omega, by omega, by omega⟩, ((a4 34 (-1) (by decide) (by decide) (by decide) (by decide) (by decide) (by decide) (Or.inl (by decide))).trans (q34.trans h34)), a7, ⟨a8, a9, a10⟩, a11, ?_⟩, a6, a12, rmR_tr m6 (rmR_tr y4 a13)⟩
  · obtain ⟨x, rfl⟩ : ∃ x, j = 35 + x := ⟨j - 35, by omega⟩
    exact (a3 (35 + x) _ (by omega) (by omega) (Or.inr ⟨j0, j1⟩)).trans (y1 x (by omega))
  · obtain ⟨x, rfl⟩ : ∃ x, j = 35 + x := ⟨j - 35, by omega⟩
    exact (a3 (35 + x) i (by omega) (by omega) (Or.inl (by omega))).trans (ep x i (by omega) i0 i1)
  · rw [a1]; exact a5
end Wbm
