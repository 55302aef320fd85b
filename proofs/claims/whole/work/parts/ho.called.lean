/-! PART ho: the class: callMember for methods that give a thing or a text. -/
section Who
variable {xs : List (Nat × List Int32)} {M : Nat → Prop} {d : Nat} {S Z A B C : wS} {T : Int → Int} {cs : List hCR} {ms : List hMR} {os : Int → List Int} {Th : List aO}
/-- the value that a method of a thing's type finds -/
def anX (cs : List hCR) (S : wS) (sb gk gb ty : Int) (es : List (Int × Int)) : Option (Int × Int) := if sb = 0 ∧ isB cs S gk gb ty = true then some (gk, gb) else anF cs S ty es
theorem anX_cg {sb gk gb ty : Int} {es : List (Int × Int)} (h : Z 129 = S 129) : anX cs Z sb gk gb ty es = anX cs S sb gk gb ty es := by
  unfold anX anF isB
  rw [h]
theorem anX_ok {n sb gk gb ty : Int} {es : List (Int × Int)} {e : Int × Int} (hg : okV n Th S (gk, gb)) (hev : ∀ i : Nat, i < es.length → okV n Th S (es.getD i (0, 0))) (h : anX cs S sb gk gb ty es = some e) : okV n Th S e := by
  unfold anX at h
  split at h
  · cases h; exact hg
  · obtain ⟨i, hi, e1⟩ := List.getElem_of_mem (List.mem_of_find?_eq_some h)
    have z := hev i hi
    rw [List.getD_eq_getElem?_getD, List.getElem?_eq_getElem hi] at z
    rw [← e1]
    exact z
theorem anU_cs {sb gk gb ty : Int} {es : List (Int × Int)} (h : anU S (anX cs S sb gk gb ty es) = Z) : (anX cs S sb gk gb ty es = none ∧ S = Z) ∨ ∃ e1 e2 : Int, anX cs S sb gk gb ty es = some (e1, e2) ∧ w_up (w_up S 158 16 e1) 158 17 e2 = Z := by
  cases hx : anX cs S sb gk gb ty es with
  | none => rw [hx] at h; exact Or.inl ⟨rfl, h⟩
  | some e => rw [hx] at h; exact Or.inr ⟨e.1, e.2, rfl, h⟩
/-- a text that is a host's name has been made, ahead of the value that is given -/
def txR (b : Nat) (a0 n u2 u3 : Int) (S Z : wS) : Prop := Z 2 1 = S 2 1 + n ∧ (∀ i : Int, 0 ≤ i → i < S 2 1 → Z 3 i = S 3 i) ∧ (∀ i : Int, 0 ≤ i → i < n → Z 3 (S 2 1 + i) = S b (a0 + i)) ∧ (Z 150 2 = u2 + 1 ∧ Z 150 3 = u3 + n) ∧ (∀ (j : Nat) (i : Int), j < 4000000 → j ≠ wG → j ≠ 3 → (j ≠ 2 ∨ i ≠ 1) → (j ≠ 150 ∨ (i ≠ 2 ∧ i ≠ 3)) → (j ≠ 158 ∨ (i ≠ 16 ∧ i ≠ 17)) → Z j i = S j i) ∧ (S 2 1 + n ≤ Z 3 (-1) ∧ S 3 (-1) ≤ Z 3 (-1) ∧ (Z 3 (-1) = S 3 (-1) ∨ Z 3 (-1) ≤ 2 * (S 2 1 + n))) ∧ gI Z ∧ rmR S Z
theorem txR_mk {b : Nat} {a0 n u2 u3 : Int} (hb : b ≠ 158 ∧ b ≠ 150) (hc : ap_ag (w_up (w_up (w_up (w_up (w_up A 158 16 0) 158 17 0) 150 2 (u2 + 1)) 150 3 (u3 + n)) 158 16 3) C 2 b a0 n) (hB : gvR C B) : txR b a0 n u2 u3 A B := by
  obtain ⟨X, hX⟩ : ∃ X : wS, X = w_up (w_up (w_up (w_up (w_up A 158 16 0) 158 17 0) 150 2 (u2 + 1)) 150 3 (u3 + n)) 158 16 3 := ⟨_, rfl⟩
  have hg : wG = 1000000 := rfl
  have hx1 : ∀ (j : Nat) (i : Int), (j ≠ 158 ∨ (i ≠ 16 ∧ i ≠ 17)) → (j ≠ 150 ∨ (i ≠ 2 ∧ i ≠ 3)) → X j i = A j i := fun j i a b => by
    rw [hX]
    exact (w_up_no (by omega)).trans ((w_up_no (by omega)).trans ((w_up_no (by omega)).trans ((w_up_no (by omega)).trans (w_up_no (by omega)))))
  have hx2 : X 150 2 = u2 + 1 := by rw [hX]; exact (w_up_no (by omega)).trans ((w_up_no (by omega)).trans (w_up_same _ _ _ _))
  have hx3 : X 150 3 = u3 + n := by rw [hX]; exact (w_up_no (by omega)).trans (w_up_same _ _ _ _)
  have hxr : rmR A X := rmR_ag (rmR_rfl A) (fun k _ => hx1 k (-1) (Or.inr (by first | decide | omega)) (Or.inr (by first | decide | omega))) (hx1 wG 0 (Or.inl (by omega)) (Or.inl (by omega))) (hx1 wG 1 (Or.inl (by omega)) (Or.inl (by omega)))
  rw [← hX] at hc
  obtain ⟨c1, c2, c3, c4, c5, c6, c7⟩ := hc
  have e21 : X 2 1 = A 2 1 := hx1 2 1 (Or.inl (by first | decide | omega)) (Or.inl (by first | decide | omega))
  have e3 : X 3 (-1) = A 3 (-1) := hx1 3 (-1) (Or.inl (by first | decide | omega)) (Or.inl (by first | decide | omega))
  have eB : B 3 (-1) = C 3 (-1) := hB 3 (-1) (Or.inl (by first | decide | omega))
  rw [e21] at c1 c2 c3
  refine ⟨(hB 2 1 (Or.inl (by first | decide | omega))).trans c1, fun i i0 i1 => (hB 3 i (Or.inl (by first | decide | omega))).trans ((c2 i i0 i1).trans (hx1 3 i (Or.inl (by first | decide | omega)) (Or.inl (by first | decide | omega)))), fun i i0 i1 => (hB 3 _ (Or.inl (by first | decide | omega))).trans ((c3 i i0 i1).trans (hx1 b _ (Or.inl hb.1) (Or.inl hb.2))), ⟨?_, ?_⟩, fun j i j0 j1 j2 j3 j4 j5 => (hB j i j5).trans ((c4 j i j0 j1 j2 j3).trans (hx1 j i j5 j4)), ?_, gI_ag c6 (fun j hj => funext fun i => hB j i (Or.inl (by omega))), rmR_ag (rmR_tr hxr c7) (fun k _ => hB k (-1) (Or.inr (by first | decide | omega))) (hB wG 0 (Or.inl (by omega))) (hB wG 1 (Or.inl (by omega)))⟩
  · exact (hB 150 2 (Or.inl (by first | decide | omega))).trans ((c4 150 2 (by first | decide | omega) (by first | decide | omega) (by first | decide | omega) (Or.inl (by first | decide | omega))).trans hx2)
  · exact (hB 150 3 (Or.inl (by first | decide | omega))).trans ((c4 150 3 (by first | decide | omega) (by first | decide | omega) (by first | decide | omega) (Or.inl (by first | decide | omega))).trans hx3)
  · have c8 : X 2 1 + n ≤ C 3 (-1) ∧ X 3 (-1) ≤ C 3 (-1) ∧ (C 3 (-1) = X 3 (-1) ∨ C 3 (-1) ≤ 2 * (X 2 1 + n)) := c5
    rw [e21, e3] at c8
    rw [eB]
    exact c8
theorem CL_ap2 {b : Nat} {a0 n : Int} (hC : w_CL S) (h : ap_ag S Z 2 b a0 n) : w_CL Z := by
  intro q hq
  have hg : wG = 1000000 := rfl
  have h1 : ∀ q ∈ wz_n, q.1 < 237 ∧ q.1 ≠ 3 := by decide
  obtain ⟨a1, a2⟩ := h1 q hq
  exact (h.2.2.2.1 q.1 (-1) (by omega) (by omega) a2 (Or.inr (by first | decide | omega))).trans (hC q hq)
set_option maxHeartbeats 4000000 in
theorem cmt_73_215 {c p h kd ba m en tn ky vy ty sb gk gb : Int} (hP : xP 215 c p h S) (l4 : S 158 4 = 215) (l5 : S 158 5 = 216) (l7 : S 158 7 = kd) (l8 : S 158 8 = ba) (l12 : S 158 12 = en) (hen : 0 ≤ en ∧ en ≤ 1000) (hba : 0 ≤ ba ∧ ba < h) (h72 : S 72 1 = 73) (hm : 0 ≤ m ∧ m < 400) (hso : S 98 m = 1) (ht15 : S 72 15 = tn) (ht0 : 0 ≤ tn ∧ tn ≤ S 152 (-1) ∧ tn ≤ 100000) (ht9 : 16 ≤ S 152 (-1) ∧ S 152 (-1) ≤ 131072 ∨ (16 ≤ S 152 (-1) ∧ S 152 (-1) ≤ 262143 ∧ tn + 2 ≤ S 152 (-1))) (hky : S 217 (h - 1) = ky) (hvy : S 218 (h - 1) = vy) (hkr : -128 ≤ ky ∧ ky ≤ 127) (hvr : -9223372036854775808 ≤ vy ∧ vy ≤ 9223372036854775807) {es : List (Int × Int)} (hK : KC 87 97 93 114 115 74 73 T cs ms os S) (hw : wHo cs ms os) (hlt : cLt S Th) (hT : (Th.length : Int) ≤ 8000) (hty : 8 ≤ ty ∧ ty < 9 + (cs.length : Int)) (hmt : S 100 m = ty) (hmf : S 112 m = -1) (hms : S 99 m = sb) (hsb : sb = 0 ∨ sb = 1) (hel : en = (es.length : Int)) (heb : ba + 1 + en ≤ h) (hes : ∀ i : Nat, i < es.length → S 217 (ba + 1 + (i : Int)) = (es.getD i (0, 0)).1 ∧ S 218 (ba + 1 + (i : Int)) = (es.getD i (0, 0)).2) (hev : ∀ i : Nat, i < es.length → okV (cs.length : Int) Th S (es.getD i (0, 0))) (l9 : S 158 9 = gk) (l10 : S 158 10 = gb) (hg : okV (cs.length : Int) Th S (gk, gb)) : wJ (pe_GA xs) wY0 (mS [217, 218, 152]) (d + 6) t_XL_callMember ((pe_at t_XL_callMember.bl 0).getD (0, [])).2 [(0, (2, 158)), (1, (0, m))] [] S (fun o Z => o = .inl none ∧ ((100000 < tn + 2 ∧ w_up S 215 16 99 = Z) ∨ (¬ (100000 < tn + 2) ∧ cmE 215 h c p (h - ba) kd ky vy ((anX cs S sb gk gb ty es).getD (0, 0)).1 ((anX cs S sb gk gb ty es).getD (0, 0)).2 m en gvR S Z))) := by
  obtain ⟨⟨hC, hI⟩, ⟨bc, bc0, bc1⟩, ⟨bp, bp0, bp1⟩, ⟨bh, bh0, bh1, bh2⟩, bl1, bl2, bl3⟩ := hP
  replace bp : S 220 (c - 1) = p := bp
  replace bh : S 216 2 = h := bh
  replace bh2 : h ≤ S 217 (-1) := bh2
  replace bl1 : S 218 (-1) = S 217 (-1) := bl1
  replace bl2 : 64 ≤ S 217 (-1) := bl2
  replace bl3 : S 217 (-1) ≤ 4095 := bl3
  have hn60 := (KC_n hK).2.2
  refine wa_aload_n (n := 0) rfl ?_
  refine wb_gf4 158 rfl (wy_pr rfl) wt_158 wf_5_0 (v := 72) wl_158_0 ?_
  refine wb_gf5 72 rfl (wy_pr rfl) wt_72 wf_2_1 (v := 73) (h72) (fun r1 => ?_)
  refine wa_astore_n (n := 2) rfl ?_
  refine wa_aload_n (n := 2) rfl ?_
  refine wb_gf4 73 rfl (wy_pr rfl) wt_73 wf_3_3 (v := 96) wl_73_3 ?_
  refine wa_iconst ?_
  refine wb_aald5 96 1 rfl rfl (wy_pr rfl) wt_96 (by rw [show _ = _ from ((cl_96 hC))]; omega) wl_96_1 ?_
  refine wa_iload_n (n := 1) rfl ?_
  refine wb_iald 98 rfl (wy_pr rfl) wt_98 (n := 400) ((cl_98 hC)) (by omega) (by omega) (v := 1) (hso) (fun r2 => ?_)
  refine wa_iconst ?_
  refine wa_icmpne (w_rg0 (by omega) (by omega)) (w_rg0 (by omega) (by omega)) ⟨_, rfl⟩ (fun c3 => ?_) (fun c3 => ?_)
  · skip
    refine wa_iconst ?_
    refine wa_fall ⟨_, rfl⟩ ?_
    refine wa_istore_n (n := 3) rfl ?_
    refine wa_iload_n (n := 3) rfl ?_
    refine wa_ifne (w_rg0 (by omega) (by omega)) ⟨_, rfl⟩ (fun c4 => ?_) (fun c4 => ?_)
    · skip
      exact absurd c4 (by omega)
    · skip
      refine wa_aload_n (n := 2) rfl ?_
      refine wb_gf4 73 rfl (wy_pr rfl) wt_73 wf_3_3 (v := 96) wl_73_3 ?_
      refine wa_iconst ?_
      refine wb_aald5 96 3 rfl rfl (wy_pr rfl) wt_96 (by rw [show _ = _ from ((cl_96 hC))]; omega) wl_96_3 ?_
      refine wa_iload_n (n := 1) rfl ?_
      refine wb_iald 100 rfl (wy_pr rfl) wt_100 (n := 400) ((cl_100 hC)) (by omega) (by omega) (v := ty) (hmt) (fun r5 => ?_)
      refine wa_bipush (w_rg2 (by omega) (by omega)) ?_
      refine wa_icmpne (w_rg0 (by omega) (by omega)) (w_rg0 (by omega) (by omega)) ⟨_, rfl⟩ (fun c6 => ?_) (fun c6 => ?_)
      · skip
        refine wa_iconst ?_
        refine wa_fall ⟨_, rfl⟩ ?_
        refine wa_istore (n := 4) rfl ?_
        refine wa_iload_n (n := 3) rfl ?_
        refine wa_ifeq (w_rg0 (by omega) (by omega)) ⟨_, rfl⟩ (fun c7 => ?_) (fun c7 => ?_)
        · skip
          refine wa_iconst ?_
          refine wa_fall ⟨_, rfl⟩ ?_
          refine wa_istore (n := 5) rfl ?_
          refine wa_aload_n (n := 0) rfl ?_
          refine wb_gf4 158 rfl (wy_pr rfl) wt_158 wf_5_0 (v := 72) wl_158_0 ?_
          refine wb_gfi 72 rfl (wy_pr rfl) wt_72 wf_2_15 (v := tn) (ht15) (fun r8 => ?_)
          refine wa_iconst ?_
          refine wa_iadd ?_
          refine wb_ki (n := 100000) rfl ?_
          refine wa_icmpgt (w_rg0 (by omega) (by omega)) (w_rg0 (by omega) (by omega)) ⟨_, rfl⟩ (fun c9 => ?_) (fun c9 => ?_)
          · skip
            refine wa_aload_n (n := 0) rfl ?_
            refine wb_gf5 158 rfl (wy_pr rfl) wt_158 wf_5_4 (v := 215) (l4) (fun r10 => ?_)
            refine wa_bipush (w_rg2 (by omega) (by omega)) ?_
            refine wb_pfi 215 rfl (wy_pr rfl) wt_215 wf_8_16 (n := 16) rfl ⟨(by omega), (by omega)⟩ ?_
            refine wa_return rfl ?_
            exact ⟨rfl, Or.inl ⟨by omega, rfl⟩⟩
          · skip
            refine wa_iload_n (n := 3) rfl ?_
            refine wa_ifeq (w_rg0 (by omega) (by omega)) ⟨_, rfl⟩ (fun c11 => ?_) (fun c11 => ?_)
            · skip
              refine wa_iload (n := 4) rfl ?_
              refine wa_ifeq (w_rg0 (by omega) (by omega)) ⟨_, rfl⟩ (fun c12 => ?_) (fun c12 => ?_)
              · skip
                refine wa_aload_n (n := 0) rfl ?_
                refine wb_gf4 158 rfl (wy_pr rfl) wt_158 wf_5_0 (v := 72) wl_158_0 ?_
                refine wa_iload_n (n := 1) rfl ?_
                refine wa_aload_n (n := 0) rfl ?_
                refine wb_gfi 158 rfl (wy_pr rfl) wt_158 wf_5_12 (v := en) (l12) (fun r13 => ?_)
                refine wa_cv 72 rfl (wy_pr rfl) wt_72 (M2 := mS [152]) rfl at_XH_addTrace ⟨_, rfl⟩ rfl rfl ⟨trivial, trivial, trivial, (Or.inr ⟨wy_pr rfl, mS_no rfl⟩), (Or.inr ⟨wy_pr rfl, mS_no rfl⟩), trivial, trivial⟩ trivial (fun _ _ q => mS_sub (by decide) q) (tra (S := S) (m := m) (k := en) hI ⟨by omega, by omega⟩ ⟨by omega, by omega⟩ (by rw [ht15]; exact ht0) (by rw [ht15]; exact ht9)) (fun oq14 Sq14 hp15 q14 => ?_)
                rcases q14 with ⟨rfl, tr14⟩
                show wJ _ _ _ _ _ _ _ _ _ _
                refine wa_aload_n (n := 0) rfl ?_
                refine wa_iconst ?_
                refine wb_pfi 158 rfl (wy_pr rfl) wt_158 wf_5_16 (n := 16) rfl ⟨(by omega), (by omega)⟩ ?_
                refine wa_aload_n (n := 0) rfl ?_
                refine wb_lconst (m := 0) rfl ?_
                refine wb_pfl 158 rfl (wy_pr rfl) wt_158 wf_5_17 (n := 17) rfl ⟨(by omega), (by omega)⟩ ?_
                refine wa_iload_n (n := 3) rfl ?_
                refine wa_ifeq (w_rg0 (by omega) (by omega)) ⟨_, rfl⟩ (fun c16 => ?_) (fun c16 => ?_)
                · skip
                  refine wa_aload_n (n := 2) rfl ?_
                  refine wb_gf4 73 rfl (wy_pr rfl) wt_73 wf_3_3 (v := 96) wl_73_3 ?_
                  refine wa_bipush (w_rg2 (by omega) (by omega)) ?_
                  refine wb_aald5 96 15 rfl rfl (wy_pr rfl) wt_96 (by rw [show _ = _ from ((w_up_slot (by decide)).trans ((w_up_slot (by decide)).trans (((tr14.2.2.2.1 96 (-1) (by decide) (by decide) (by decide) (Or.inl (by decide))).trans ((cl_96 hC))))))]; omega) wl_96_15 ?_
                  refine wa_iload_n (n := 1) rfl ?_
                  refine wb_iald 112 rfl (wy_pr rfl) wt_112 (n := 400) ((w_up_slot (by decide)).trans ((w_up_slot (by decide)).trans (((tr14.2.2.2.1 112 (-1) (by decide) (by decide) (by decide) (Or.inl (by decide))).trans ((cl_112 hC)))))) (by omega) (by omega) (v := (-1)) ((w_up_slot (by decide)).trans ((w_up_slot (by decide)).trans (((tr14.2.2.2.1 112 m (by decide) (by decide) (by decide) (Or.inl (by decide))).trans (hmf))))) (fun r17 => ?_)
                  refine wa_iconst ?_
                  refine wa_icmpeq (w_rg0 (by omega) (by omega)) (w_rg0 (by omega) (by omega)) ⟨_, rfl⟩ (fun c18 => ?_) (fun c18 => ?_)
                  · skip
                    refine wa_aload_n (n := 0) rfl ?_
                    refine wa_iload_n (n := 1) rfl ?_
                    have hf2 : ∀ (j : Nat) (i : Int), j < 4000000 → j ≠ wG → j ≠ 152 → j ≠ 72 → j ≠ 158 → (w_up (w_up Sq14 158 16 0) 158 17 0) j i = S j i := fun j i a b c d e => (w_up_no (fun z => e z.1)).trans ((w_up_no (fun z => e z.1)).trans (tr14.2.2.2.1 j i a b c (Or.inl d)))
                    have el : (w_up (w_up Sq14 158 16 0) 158 17 0) 217 (-1) = S 217 (-1) := (hf2 217 _ (by first | decide | omega) (by first | decide | omega) (by first | decide | omega) (by first | decide | omega) (by first | decide | omega))
                    have el2 : (w_up (w_up Sq14 158 16 0) 158 17 0) 218 (-1) = S 218 (-1) := (hf2 218 _ (by first | decide | omega) (by first | decide | omega) (by first | decide | omega) (by first | decide | omega) (by first | decide | omega))
                    have el3 : (w_up (w_up Sq14 158 16 0) 158 17 0) 127 (-1) = S 127 (-1) := (hf2 127 _ (by first | decide | omega) (by first | decide | omega) (by first | decide | omega) (by first | decide | omega) (by first | decide | omega))
                    have e129 : (w_up (w_up Sq14 158 16 0) 158 17 0) 129 = S 129 := funext fun i => (hf2 129 _ (by first | decide | omega) (by first | decide | omega) (by first | decide | omega) (by first | decide | omega) (by first | decide | omega))
                    have hwg : wG = 1000000 := rfl
                    have hK2 : KC 87 97 93 114 115 74 73 T cs ms os (w_up (w_up Sq14 158 16 0) 158 17 0) := KC_ag hK (hf2 73 _ (by first | decide | omega) (by first | decide | omega) (by first | decide | omega) (by first | decide | omega) (by first | decide | omega)) (hf2 73 _ (by first | decide | omega) (by first | decide | omega) (by first | decide | omega) (by first | decide | omega) (by first | decide | omega)) (fun j hj => funext fun i => hf2 j i (by omega) (by omega) (by omega) (by omega) (by omega))
                    have hlt2 : cLt (w_up (w_up Sq14 158 16 0) 158 17 0) Th := ⟨fun x hx => by rw [hf2 (127 + x) (-1) (by omega) (by omega) (by omega) (by omega) (by omega), el3]; exact hlt.1 x hx, by rw [el3]; exact hlt.2⟩
                    have hok : ∀ e, okV (cs.length : Int) Th S e → okV (cs.length : Int) Th (w_up (w_up Sq14 158 16 0) 158 17 0) e := fun e z => ⟨z.1, z.2.1, fun y => by rw [e129]; exact z.2.2 y⟩
                    refine wa_cv 158 rfl (wy_pr rfl) wt_158 (M2 := fun _ => False) rfl at_XL_answer ⟨_, rfl⟩ rfl rfl ⟨trivial, trivial, trivial, (Or.inr ⟨wy_pr rfl, fun q => q⟩), (Or.inr ⟨wy_pr rfl, fun q => q⟩), trivial, trivial⟩ trivial (fun _ _ q => False.elim q) (wJ_mono (ant_73_215 (Th := Th) (S := (w_up (w_up Sq14 158 16 0) 158 17 0)) (m := m) (sb := sb) (es := es) (w_CL_up (w_CL_up (CL_tr hC tr14) (by omega)) (by omega)) hK2 hw ((w_up_slot (by decide)).trans ((w_up_slot (by decide)).trans (((tr14.2.2.2.1 72 1 (by decide) (by decide) (by decide) (Or.inr (by decide))).trans (h72))))) hlt2 hT ⟨by omega, by omega⟩ ((w_up_at (by decide)).trans ((w_up_at (by decide)).trans (((tr14.2.2.2.1 158 5 (by decide) (by decide) (by decide) (Or.inl (by decide))).trans (l5))))) ((w_up_at (by decide)).trans ((w_up_at (by decide)).trans (((tr14.2.2.2.1 158 8 (by decide) (by decide) (by decide) (Or.inl (by decide))).trans (l8))))) (((w_up_at (by decide)).trans ((w_up_at (by decide)).trans (((tr14.2.2.2.1 158 12 (by decide) (by decide) (by decide) (Or.inl (by decide))).trans (l12))))).trans hel) (by rw [el, el2]; exact bl1) (by rw [el]; exact ⟨by omega, by omega, bl3⟩) (fun i hi => ⟨(hf2 217 _ (by decide) (by decide) (by decide) (by decide) (by decide)).trans (hes i hi).1, (hf2 218 _ (by decide) (by decide) (by decide) (by decide) (by decide)).trans (hes i hi).2⟩) (fun i hi => hok _ (hev i hi)) (((w_up_at (by decide)).trans ((w_up_at (by decide)).trans ((tr14.2.2.2.1 158 9 (by decide) (by decide) (by decide) (Or.inl (by decide)))))).trans l9) (((w_up_at (by decide)).trans ((w_up_at (by decide)).trans ((tr14.2.2.2.1 158 10 (by decide) (by decide) (by decide) (Or.inl (by decide)))))).trans l10) (hok _ hg) hm ((w_up_slot (by decide)).trans ((w_up_slot (by decide)).trans (((tr14.2.2.2.1 100 m (by decide) (by decide) (by decide) (Or.inl (by decide))).trans (hmt))))) ((hf2 99 _ (by decide) (by decide) (by decide) (by decide) (by decide)).trans hms) hsb (by omega)) (fun o Z hz => (⟨hz.1, by have y := anU_cs (cs := cs) (sb := sb) (gk := gk) (gb := gb) (ty := ty) (es := es) hz.2; rw [anX_cg e129] at y; exact y⟩ : o = .inl none ∧ ((anX cs S sb gk gb ty es = none ∧ (w_up (w_up Sq14 158 16 0) 158 17 0) = Z) ∨ ∃ e1 e2 : Int, anX cs S sb gk gb ty es = some (e1, e2) ∧ w_up (w_up (w_up (w_up Sq14 158 16 0) 158 17 0) 158 16 e1) 158 17 e2 = Z)))) (fun oq19 Sq19 hp20 q19 => ?_)
                    rcases q19 with ⟨rfl, ⟨hX, rfl⟩ | ⟨e1, e2, hX, rfl⟩⟩
                    · skip
                      show wJ _ _ _ _ _ _ _ _ _ _
                      refine wa_fall ⟨_, rfl⟩ ?_
                      refine wa_aload_n (n := 0) rfl ?_
                      refine wb_gfi 158 rfl (wy_pr rfl) wt_158 wf_5_7 (v := kd) ((w_up_at (by decide)).trans ((w_up_at (by decide)).trans (((tr14.2.2.2.1 158 7 (by decide) (by decide) (by decide) (Or.inl (by decide))).trans (l7))))) (fun r21 => ?_)
                      refine wa_iconst ?_
                      refine wa_icmpne (w_rg0 (by omega) (by omega)) (w_rg0 (by omega) (by omega)) ⟨_, rfl⟩ (fun c22 => ?_) (fun c22 => ?_)
                      · skip
                        refine wa_aload_n (n := 0) rfl ?_
                        refine wa_aload_n (n := 0) rfl ?_
                        refine wb_gfi 158 rfl (wy_pr rfl) wt_158 wf_5_16 (v := 0) ((w_up_at (by decide)).trans (w_up_same _ _ _ _)) (fun r23 => ?_)
                        refine wa_aload_n (n := 0) rfl ?_
                        refine wb_gfl 158 rfl (wy_pr rfl) wt_158 wf_5_17 (v := 0) (w_up_same _ _ _ _) (fun r24 => ?_)
                        refine wa_cv 158 rfl (wy_pr rfl) wt_158 (M2 := mS [217, 218]) rfl at_XL_giveValue ⟨_, rfl⟩ rfl rfl ⟨trivial, trivial, trivial, (Or.inr ⟨wy_pr rfl, mS_no rfl⟩), (Or.inr ⟨wy_pr rfl, mS_no rfl⟩), trivial, trivial⟩ trivial (fun _ _ q => mS_sub (by decide) q) (glx_215 (S := (w_up (w_up Sq14 158 16 0) 158 17 0)) (k := 0) (v := 0) (h := h) (c := c) (p := p) (ba := ba) (w_CL_up (w_CL_up (CL_tr hC tr14) (by omega)) (by omega)) (gI_up (gI_up tr14.2.2.2.2.2.1 (by omega) (by omega) (by omega)) (by omega) (by omega) (by omega)) ((w_up_at (by decide)).trans ((w_up_at (by decide)).trans (((tr14.2.2.2.1 158 4 (by decide) (by decide) (by decide) (Or.inl (by decide))).trans (l4))))) ((w_up_at (by decide)).trans ((w_up_at (by decide)).trans (((tr14.2.2.2.1 158 5 (by decide) (by decide) (by decide) (Or.inl (by decide))).trans (l5))))) ((w_up_at (by decide)).trans ((w_up_at (by decide)).trans (((tr14.2.2.2.1 158 8 (by decide) (by decide) (by decide) (Or.inl (by decide))).trans (l8))))) ((w_up_slot (by decide)).trans ((w_up_slot (by decide)).trans (((tr14.2.2.2.1 215 4 (by decide) (by decide) (by decide) (Or.inl (by decide))).trans (bc))))) ((w_up_slot (by decide)).trans ((w_up_slot (by decide)).trans (((tr14.2.2.2.1 220 (c - 1) (by decide) (by decide) (by decide) (Or.inl (by decide))).trans (bp))))) ((((w_up_slot (by decide)).trans ((w_up_slot (by decide)).trans (((tr14.2.2.2.1 218 (-1) (by decide) (by decide) (by decide) (Or.inl (by decide))).trans (bl1)))))).trans (((w_up_slot (by decide)).trans ((w_up_slot (by decide)).trans (((tr14.2.2.2.1 217 (-1) (by decide) (by decide) (by decide) (Or.inl (by decide))).trans (rfl)))))).symm) (by have e : (w_up (w_up Sq14 158 16 0) 158 17 0) 217 (-1) = S 217 (-1) := ((w_up_slot (by decide)).trans ((w_up_slot (by decide)).trans (((tr14.2.2.2.1 217 (-1) (by decide) (by decide) (by decide) (Or.inl (by decide))).trans (rfl))))); rw [e]; exact ⟨bl2, bl3⟩) (by have e : (w_up (w_up Sq14 158 16 0) 158 17 0) 217 (-1) = S 217 (-1) := ((w_up_slot (by decide)).trans ((w_up_slot (by decide)).trans (((tr14.2.2.2.1 217 (-1) (by decide) (by decide) (by decide) (Or.inl (by decide))).trans (rfl))))); omega) ⟨by omega, by omega⟩ ⟨by omega, by omega⟩ ⟨by omega, by omega⟩ ⟨by omega, by omega⟩) (fun oq25 Sq25 hp26 q25 => ?_)
                        rcases q25 with ⟨rfl, hgv25⟩
                        show wJ _ _ _ _ _ _ _ _ _ _
                        refine wa_return rfl ?_
                        refine ⟨rfl, Or.inr ⟨by omega, Sq14, (w_up (w_up Sq14 158 16 0) 158 17 0), tr14, ?_, ?_⟩⟩
                        · exact fun j i hji => (w_up_no (by omega)).trans ((w_up_no (by omega)).trans (rfl))
                        · rw [hX]; first | (rw [if_pos (show kd = 1 by omega), if_pos (show kd = 1 by omega)]; exact hgv25) | (rw [if_neg (show ¬ kd = 1 by omega), if_neg (show ¬ kd = 1 by omega)]; exact hgv25)
                      · skip
                        refine wa_aload_n (n := 0) rfl ?_
                        refine wa_aload_n (n := 0) rfl ?_
                        refine wb_gf5 158 rfl (wy_pr rfl) wt_158 wf_5_5 (v := 216) ((w_up_at (by decide)).trans ((w_up_at (by decide)).trans (((tr14.2.2.2.1 158 5 (by decide) (by decide) (by decide) (Or.inl (by decide))).trans (l5))))) (fun r27 => ?_)
                        refine wb_gf4 216 rfl (wy_pr rfl) wt_216 wf_7_0 (v := 217) wl_216_0 ?_
                        refine wa_aload_n (n := 0) rfl ?_
                        refine wb_gf5 158 rfl (wy_pr rfl) wt_158 wf_5_5 (v := 216) ((w_up_at (by decide)).trans ((w_up_at (by decide)).trans (((tr14.2.2.2.1 158 5 (by decide) (by decide) (by decide) (Or.inl (by decide))).trans (l5))))) (fun r28 => ?_)
                        refine wb_gfi 216 rfl (wy_pr rfl) wt_216 wf_7_2 (v := h) ((w_up_slot (by decide)).trans ((w_up_slot (by decide)).trans (((tr14.2.2.2.1 216 2 (by decide) (by decide) (by decide) (Or.inl (by decide))).trans (bh))))) (fun r29 => ?_)
                        refine wa_iconst ?_
                        refine wa_isub ?_
                        refine wb_bald 217 rfl (wy_pr rfl) wt_217 (n := (S 217 (-1))) ((w_up_slot (by decide)).trans ((w_up_slot (by decide)).trans (((tr14.2.2.2.1 217 (-1) (by decide) (by decide) (by decide) (Or.inl (by decide))).trans (rfl))))) (by omega) (by omega) (v := ky) ((w_up_slot (by decide)).trans ((w_up_slot (by decide)).trans (((tr14.2.2.2.1 217 (h - 1) (by decide) (by decide) (by decide) (Or.inl (by decide))).trans (hky))))) (fun r30 => ?_)
                        refine wb_pfi 158 rfl (wy_pr rfl) wt_158 wf_5_16 (n := 16) rfl ⟨(by omega), (by omega)⟩ ?_
                        refine wa_aload_n (n := 0) rfl ?_
                        refine wa_aload_n (n := 0) rfl ?_
                        refine wb_gf5 158 rfl (wy_pr rfl) wt_158 wf_5_5 (v := 216) ((w_up_at (by decide)).trans ((w_up_at (by decide)).trans ((w_up_at (by decide)).trans (((tr14.2.2.2.1 158 5 (by decide) (by decide) (by decide) (Or.inl (by decide))).trans (l5)))))) (fun r31 => ?_)
                        refine wb_gf4 216 rfl (wy_pr rfl) wt_216 wf_7_1 (v := 218) wl_216_1 ?_
                        refine wa_aload_n (n := 0) rfl ?_
                        refine wb_gf5 158 rfl (wy_pr rfl) wt_158 wf_5_5 (v := 216) ((w_up_at (by decide)).trans ((w_up_at (by decide)).trans ((w_up_at (by decide)).trans (((tr14.2.2.2.1 158 5 (by decide) (by decide) (by decide) (Or.inl (by decide))).trans (l5)))))) (fun r32 => ?_)
                        refine wb_gfi 216 rfl (wy_pr rfl) wt_216 wf_7_2 (v := h) ((w_up_slot (by decide)).trans ((w_up_slot (by decide)).trans ((w_up_slot (by decide)).trans (((tr14.2.2.2.1 216 2 (by decide) (by decide) (by decide) (Or.inl (by decide))).trans (bh)))))) (fun r33 => ?_)
                        refine wa_iconst ?_
                        refine wa_isub ?_
                        refine wb_lald 218 rfl (wy_pr rfl) wt_218 (n := (S 217 (-1))) ((w_up_slot (by decide)).trans ((w_up_slot (by decide)).trans ((w_up_slot (by decide)).trans (((tr14.2.2.2.1 218 (-1) (by decide) (by decide) (by decide) (Or.inl (by decide))).trans (bl1)))))) (by omega) (by omega) (v := vy) ((w_up_slot (by decide)).trans ((w_up_slot (by decide)).trans ((w_up_slot (by decide)).trans (((tr14.2.2.2.1 218 (h - 1) (by decide) (by decide) (by decide) (Or.inl (by decide))).trans (hvy)))))) (fun r34 => ?_)
                        refine wb_pfl 158 rfl (wy_pr rfl) wt_158 wf_5_17 (n := 17) rfl ⟨(by omega), (by omega)⟩ ?_
                        refine wa_fall ⟨_, rfl⟩ ?_
                        refine wa_aload_n (n := 0) rfl ?_
                        refine wa_aload_n (n := 0) rfl ?_
                        refine wb_gfi 158 rfl (wy_pr rfl) wt_158 wf_5_16 (v := ky) ((w_up_at (by decide)).trans (w_up_same _ _ _ _)) (fun r35 => ?_)
                        refine wa_aload_n (n := 0) rfl ?_
                        refine wb_gfl 158 rfl (wy_pr rfl) wt_158 wf_5_17 (v := vy) (w_up_same _ _ _ _) (fun r36 => ?_)
                        refine wa_cv 158 rfl (wy_pr rfl) wt_158 (M2 := mS [217, 218]) rfl at_XL_giveValue ⟨_, rfl⟩ rfl rfl ⟨trivial, trivial, trivial, (Or.inr ⟨wy_pr rfl, mS_no rfl⟩), (Or.inr ⟨wy_pr rfl, mS_no rfl⟩), trivial, trivial⟩ trivial (fun _ _ q => mS_sub (by decide) q) (glx_215 (S := (w_up (w_up (w_up (w_up Sq14 158 16 0) 158 17 0) 158 16 ky) 158 17 vy)) (k := ky) (v := vy) (h := h) (c := c) (p := p) (ba := ba) (w_CL_up (w_CL_up (w_CL_up (w_CL_up (CL_tr hC tr14) (by omega)) (by omega)) (by omega)) (by omega)) (gI_up (gI_up (gI_up (gI_up tr14.2.2.2.2.2.1 (by omega) (by omega) (by omega)) (by omega) (by omega) (by omega)) (by omega) (by omega) (by omega)) (by omega) (by omega) (by omega)) ((w_up_at (by decide)).trans ((w_up_at (by decide)).trans ((w_up_at (by decide)).trans ((w_up_at (by decide)).trans (((tr14.2.2.2.1 158 4 (by decide) (by decide) (by decide) (Or.inl (by decide))).trans (l4))))))) ((w_up_at (by decide)).trans ((w_up_at (by decide)).trans ((w_up_at (by decide)).trans ((w_up_at (by decide)).trans (((tr14.2.2.2.1 158 5 (by decide) (by decide) (by decide) (Or.inl (by decide))).trans (l5))))))) ((w_up_at (by decide)).trans ((w_up_at (by decide)).trans ((w_up_at (by decide)).trans ((w_up_at (by decide)).trans (((tr14.2.2.2.1 158 8 (by decide) (by decide) (by decide) (Or.inl (by decide))).trans (l8))))))) ((w_up_slot (by decide)).trans ((w_up_slot (by decide)).trans ((w_up_slot (by decide)).trans ((w_up_slot (by decide)).trans (((tr14.2.2.2.1 215 4 (by decide) (by decide) (by decide) (Or.inl (by decide))).trans (bc))))))) ((w_up_slot (by decide)).trans ((w_up_slot (by decide)).trans ((w_up_slot (by decide)).trans ((w_up_slot (by decide)).trans (((tr14.2.2.2.1 220 (c - 1) (by decide) (by decide) (by decide) (Or.inl (by decide))).trans (bp))))))) ((((w_up_slot (by decide)).trans ((w_up_slot (by decide)).trans ((w_up_slot (by decide)).trans ((w_up_slot (by decide)).trans (((tr14.2.2.2.1 218 (-1) (by decide) (by decide) (by decide) (Or.inl (by decide))).trans (bl1)))))))).trans (((w_up_slot (by decide)).trans ((w_up_slot (by decide)).trans ((w_up_slot (by decide)).trans ((w_up_slot (by decide)).trans (((tr14.2.2.2.1 217 (-1) (by decide) (by decide) (by decide) (Or.inl (by decide))).trans (rfl)))))))).symm) (by have e : (w_up (w_up (w_up (w_up Sq14 158 16 0) 158 17 0) 158 16 ky) 158 17 vy) 217 (-1) = S 217 (-1) := ((w_up_slot (by decide)).trans ((w_up_slot (by decide)).trans ((w_up_slot (by decide)).trans ((w_up_slot (by decide)).trans (((tr14.2.2.2.1 217 (-1) (by decide) (by decide) (by decide) (Or.inl (by decide))).trans (rfl))))))); rw [e]; exact ⟨bl2, bl3⟩) (by have e : (w_up (w_up (w_up (w_up Sq14 158 16 0) 158 17 0) 158 16 ky) 158 17 vy) 217 (-1) = S 217 (-1) := ((w_up_slot (by decide)).trans ((w_up_slot (by decide)).trans ((w_up_slot (by decide)).trans ((w_up_slot (by decide)).trans (((tr14.2.2.2.1 217 (-1) (by decide) (by decide) (by decide) (Or.inl (by decide))).trans (rfl))))))); omega) ⟨by omega, by omega⟩ ⟨by omega, by omega⟩ ⟨by omega, by omega⟩ ⟨by omega, by omega⟩) (fun oq37 Sq37 hp38 q37 => ?_)
                        rcases q37 with ⟨rfl, hgv37⟩
                        show wJ _ _ _ _ _ _ _ _ _ _
                        refine wa_return rfl ?_
                        refine ⟨rfl, Or.inr ⟨by omega, Sq14, (w_up (w_up (w_up (w_up Sq14 158 16 0) 158 17 0) 158 16 ky) 158 17 vy), tr14, ?_, ?_⟩⟩
                        · exact fun j i hji => (w_up_no (by omega)).trans ((w_up_no (by omega)).trans ((w_up_no (by omega)).trans ((w_up_no (by omega)).trans (rfl))))
                        · rw [hX]; first | (rw [if_pos (show kd = 1 by omega), if_pos (show kd = 1 by omega)]; exact hgv37) | (rw [if_neg (show ¬ kd = 1 by omega), if_neg (show ¬ kd = 1 by omega)]; exact hgv37)
                    · skip
                      show wJ _ _ _ _ _ _ _ _ _ _
                      have hokx := anX_ok hg hev hX
                      have hok1 : 0 ≤ e1 ∧ e1 ≤ 8 := hokx.1
                      have hok2 : -9223372036854775808 ≤ e2 ∧ e2 ≤ 9223372036854775807 := hokx.2.1
                      refine wa_fall ⟨_, rfl⟩ ?_
                      refine wa_aload_n (n := 0) rfl ?_
                      refine wb_gfi 158 rfl (wy_pr rfl) wt_158 wf_5_7 (v := kd) ((w_up_at (by decide)).trans ((w_up_at (by decide)).trans ((w_up_at (by decide)).trans ((w_up_at (by decide)).trans (((tr14.2.2.2.1 158 7 (by decide) (by decide) (by decide) (Or.inl (by decide))).trans (l7))))))) (fun r39 => ?_)
                      refine wa_iconst ?_
                      refine wa_icmpne (w_rg0 (by omega) (by omega)) (w_rg0 (by omega) (by omega)) ⟨_, rfl⟩ (fun c40 => ?_) (fun c40 => ?_)
                      · skip
                        refine wa_aload_n (n := 0) rfl ?_
                        refine wa_aload_n (n := 0) rfl ?_
                        refine wb_gfi 158 rfl (wy_pr rfl) wt_158 wf_5_16 (v := e1) ((w_up_at (by decide)).trans (w_up_same _ _ _ _)) (fun r41 => ?_)
                        refine wa_aload_n (n := 0) rfl ?_
                        refine wb_gfl 158 rfl (wy_pr rfl) wt_158 wf_5_17 (v := e2) (w_up_same _ _ _ _) (fun r42 => ?_)
                        refine wa_cv 158 rfl (wy_pr rfl) wt_158 (M2 := mS [217, 218]) rfl at_XL_giveValue ⟨_, rfl⟩ rfl rfl ⟨trivial, trivial, trivial, (Or.inr ⟨wy_pr rfl, mS_no rfl⟩), (Or.inr ⟨wy_pr rfl, mS_no rfl⟩), trivial, trivial⟩ trivial (fun _ _ q => mS_sub (by decide) q) (glx_215 (S := (w_up (w_up (w_up (w_up Sq14 158 16 0) 158 17 0) 158 16 e1) 158 17 e2)) (k := e1) (v := e2) (h := h) (c := c) (p := p) (ba := ba) (w_CL_up (w_CL_up (w_CL_up (w_CL_up (CL_tr hC tr14) (by omega)) (by omega)) (by omega)) (by omega)) (gI_up (gI_up (gI_up (gI_up tr14.2.2.2.2.2.1 (by omega) (by omega) (by omega)) (by omega) (by omega) (by omega)) (by omega) (by omega) (by omega)) (by omega) (by omega) (by omega)) ((w_up_at (by decide)).trans ((w_up_at (by decide)).trans ((w_up_at (by decide)).trans ((w_up_at (by decide)).trans (((tr14.2.2.2.1 158 4 (by decide) (by decide) (by decide) (Or.inl (by decide))).trans (l4))))))) ((w_up_at (by decide)).trans ((w_up_at (by decide)).trans ((w_up_at (by decide)).trans ((w_up_at (by decide)).trans (((tr14.2.2.2.1 158 5 (by decide) (by decide) (by decide) (Or.inl (by decide))).trans (l5))))))) ((w_up_at (by decide)).trans ((w_up_at (by decide)).trans ((w_up_at (by decide)).trans ((w_up_at (by decide)).trans (((tr14.2.2.2.1 158 8 (by decide) (by decide) (by decide) (Or.inl (by decide))).trans (l8))))))) ((w_up_slot (by decide)).trans ((w_up_slot (by decide)).trans ((w_up_slot (by decide)).trans ((w_up_slot (by decide)).trans (((tr14.2.2.2.1 215 4 (by decide) (by decide) (by decide) (Or.inl (by decide))).trans (bc))))))) ((w_up_slot (by decide)).trans ((w_up_slot (by decide)).trans ((w_up_slot (by decide)).trans ((w_up_slot (by decide)).trans (((tr14.2.2.2.1 220 (c - 1) (by decide) (by decide) (by decide) (Or.inl (by decide))).trans (bp))))))) ((((w_up_slot (by decide)).trans ((w_up_slot (by decide)).trans ((w_up_slot (by decide)).trans ((w_up_slot (by decide)).trans (((tr14.2.2.2.1 218 (-1) (by decide) (by decide) (by decide) (Or.inl (by decide))).trans (bl1)))))))).trans (((w_up_slot (by decide)).trans ((w_up_slot (by decide)).trans ((w_up_slot (by decide)).trans ((w_up_slot (by decide)).trans (((tr14.2.2.2.1 217 (-1) (by decide) (by decide) (by decide) (Or.inl (by decide))).trans (rfl)))))))).symm) (by have e : (w_up (w_up (w_up (w_up Sq14 158 16 0) 158 17 0) 158 16 e1) 158 17 e2) 217 (-1) = S 217 (-1) := ((w_up_slot (by decide)).trans ((w_up_slot (by decide)).trans ((w_up_slot (by decide)).trans ((w_up_slot (by decide)).trans (((tr14.2.2.2.1 217 (-1) (by decide) (by decide) (by decide) (Or.inl (by decide))).trans (rfl))))))); rw [e]; exact ⟨bl2, bl3⟩) (by have e : (w_up (w_up (w_up (w_up Sq14 158 16 0) 158 17 0) 158 16 e1) 158 17 e2) 217 (-1) = S 217 (-1) := ((w_up_slot (by decide)).trans ((w_up_slot (by decide)).trans ((w_up_slot (by decide)).trans ((w_up_slot (by decide)).trans (((tr14.2.2.2.1 217 (-1) (by decide) (by decide) (by decide) (Or.inl (by decide))).trans (rfl))))))); omega) ⟨by omega, by omega⟩ ⟨by omega, by omega⟩ ⟨by omega, by omega⟩ ⟨by omega, by omega⟩) (fun oq43 Sq43 hp44 q43 => ?_)
                        rcases q43 with ⟨rfl, hgv43⟩
                        show wJ _ _ _ _ _ _ _ _ _ _
                        refine wa_return rfl ?_
                        refine ⟨rfl, Or.inr ⟨by omega, Sq14, (w_up (w_up (w_up (w_up Sq14 158 16 0) 158 17 0) 158 16 e1) 158 17 e2), tr14, ?_, ?_⟩⟩
                        · exact fun j i hji => (w_up_no (by omega)).trans ((w_up_no (by omega)).trans ((w_up_no (by omega)).trans ((w_up_no (by omega)).trans (rfl))))
                        · rw [hX]; first | (rw [if_pos (show kd = 1 by omega), if_pos (show kd = 1 by omega)]; exact hgv43) | (rw [if_neg (show ¬ kd = 1 by omega), if_neg (show ¬ kd = 1 by omega)]; exact hgv43)
                      · skip
                        refine wa_aload_n (n := 0) rfl ?_
                        refine wa_aload_n (n := 0) rfl ?_
                        refine wb_gf5 158 rfl (wy_pr rfl) wt_158 wf_5_5 (v := 216) ((w_up_at (by decide)).trans ((w_up_at (by decide)).trans ((w_up_at (by decide)).trans ((w_up_at (by decide)).trans (((tr14.2.2.2.1 158 5 (by decide) (by decide) (by decide) (Or.inl (by decide))).trans (l5))))))) (fun r45 => ?_)
                        refine wb_gf4 216 rfl (wy_pr rfl) wt_216 wf_7_0 (v := 217) wl_216_0 ?_
                        refine wa_aload_n (n := 0) rfl ?_
                        refine wb_gf5 158 rfl (wy_pr rfl) wt_158 wf_5_5 (v := 216) ((w_up_at (by decide)).trans ((w_up_at (by decide)).trans ((w_up_at (by decide)).trans ((w_up_at (by decide)).trans (((tr14.2.2.2.1 158 5 (by decide) (by decide) (by decide) (Or.inl (by decide))).trans (l5))))))) (fun r46 => ?_)
                        refine wb_gfi 216 rfl (wy_pr rfl) wt_216 wf_7_2 (v := h) ((w_up_slot (by decide)).trans ((w_up_slot (by decide)).trans ((w_up_slot (by decide)).trans ((w_up_slot (by decide)).trans (((tr14.2.2.2.1 216 2 (by decide) (by decide) (by decide) (Or.inl (by decide))).trans (bh))))))) (fun r47 => ?_)
                        refine wa_iconst ?_
                        refine wa_isub ?_
                        refine wb_bald 217 rfl (wy_pr rfl) wt_217 (n := (S 217 (-1))) ((w_up_slot (by decide)).trans ((w_up_slot (by decide)).trans ((w_up_slot (by decide)).trans ((w_up_slot (by decide)).trans (((tr14.2.2.2.1 217 (-1) (by decide) (by decide) (by decide) (Or.inl (by decide))).trans (rfl))))))) (by omega) (by omega) (v := ky) ((w_up_slot (by decide)).trans ((w_up_slot (by decide)).trans ((w_up_slot (by decide)).trans ((w_up_slot (by decide)).trans (((tr14.2.2.2.1 217 (h - 1) (by decide) (by decide) (by decide) (Or.inl (by decide))).trans (hky))))))) (fun r48 => ?_)
                        refine wb_pfi 158 rfl (wy_pr rfl) wt_158 wf_5_16 (n := 16) rfl ⟨(by omega), (by omega)⟩ ?_
                        refine wa_aload_n (n := 0) rfl ?_
                        refine wa_aload_n (n := 0) rfl ?_
                        refine wb_gf5 158 rfl (wy_pr rfl) wt_158 wf_5_5 (v := 216) ((w_up_at (by decide)).trans ((w_up_at (by decide)).trans ((w_up_at (by decide)).trans ((w_up_at (by decide)).trans ((w_up_at (by decide)).trans (((tr14.2.2.2.1 158 5 (by decide) (by decide) (by decide) (Or.inl (by decide))).trans (l5)))))))) (fun r49 => ?_)
                        refine wb_gf4 216 rfl (wy_pr rfl) wt_216 wf_7_1 (v := 218) wl_216_1 ?_
                        refine wa_aload_n (n := 0) rfl ?_
                        refine wb_gf5 158 rfl (wy_pr rfl) wt_158 wf_5_5 (v := 216) ((w_up_at (by decide)).trans ((w_up_at (by decide)).trans ((w_up_at (by decide)).trans ((w_up_at (by decide)).trans ((w_up_at (by decide)).trans (((tr14.2.2.2.1 158 5 (by decide) (by decide) (by decide) (Or.inl (by decide))).trans (l5)))))))) (fun r50 => ?_)
                        refine wb_gfi 216 rfl (wy_pr rfl) wt_216 wf_7_2 (v := h) ((w_up_slot (by decide)).trans ((w_up_slot (by decide)).trans ((w_up_slot (by decide)).trans ((w_up_slot (by decide)).trans ((w_up_slot (by decide)).trans (((tr14.2.2.2.1 216 2 (by decide) (by decide) (by decide) (Or.inl (by decide))).trans (bh)))))))) (fun r51 => ?_)
                        refine wa_iconst ?_
                        refine wa_isub ?_
                        refine wb_lald 218 rfl (wy_pr rfl) wt_218 (n := (S 217 (-1))) ((w_up_slot (by decide)).trans ((w_up_slot (by decide)).trans ((w_up_slot (by decide)).trans ((w_up_slot (by decide)).trans ((w_up_slot (by decide)).trans (((tr14.2.2.2.1 218 (-1) (by decide) (by decide) (by decide) (Or.inl (by decide))).trans (bl1)))))))) (by omega) (by omega) (v := vy) ((w_up_slot (by decide)).trans ((w_up_slot (by decide)).trans ((w_up_slot (by decide)).trans ((w_up_slot (by decide)).trans ((w_up_slot (by decide)).trans (((tr14.2.2.2.1 218 (h - 1) (by decide) (by decide) (by decide) (Or.inl (by decide))).trans (hvy)))))))) (fun r52 => ?_)
                        refine wb_pfl 158 rfl (wy_pr rfl) wt_158 wf_5_17 (n := 17) rfl ⟨(by omega), (by omega)⟩ ?_
                        refine wa_fall ⟨_, rfl⟩ ?_
                        refine wa_aload_n (n := 0) rfl ?_
                        refine wa_aload_n (n := 0) rfl ?_
                        refine wb_gfi 158 rfl (wy_pr rfl) wt_158 wf_5_16 (v := ky) ((w_up_at (by decide)).trans (w_up_same _ _ _ _)) (fun r53 => ?_)
                        refine wa_aload_n (n := 0) rfl ?_
                        refine wb_gfl 158 rfl (wy_pr rfl) wt_158 wf_5_17 (v := vy) (w_up_same _ _ _ _) (fun r54 => ?_)
                        refine wa_cv 158 rfl (wy_pr rfl) wt_158 (M2 := mS [217, 218]) rfl at_XL_giveValue ⟨_, rfl⟩ rfl rfl ⟨trivial, trivial, trivial, (Or.inr ⟨wy_pr rfl, mS_no rfl⟩), (Or.inr ⟨wy_pr rfl, mS_no rfl⟩), trivial, trivial⟩ trivial (fun _ _ q => mS_sub (by decide) q) (glx_215 (S := (w_up (w_up (w_up (w_up (w_up (w_up Sq14 158 16 0) 158 17 0) 158 16 e1) 158 17 e2) 158 16 ky) 158 17 vy)) (k := ky) (v := vy) (h := h) (c := c) (p := p) (ba := ba) (w_CL_up (w_CL_up (w_CL_up (w_CL_up (w_CL_up (w_CL_up (CL_tr hC tr14) (by omega)) (by omega)) (by omega)) (by omega)) (by omega)) (by omega)) (gI_up (gI_up (gI_up (gI_up (gI_up (gI_up tr14.2.2.2.2.2.1 (by omega) (by omega) (by omega)) (by omega) (by omega) (by omega)) (by omega) (by omega) (by omega)) (by omega) (by omega) (by omega)) (by omega) (by omega) (by omega)) (by omega) (by omega) (by omega)) ((w_up_at (by decide)).trans ((w_up_at (by decide)).trans ((w_up_at (by decide)).trans ((w_up_at (by decide)).trans ((w_up_at (by decide)).trans ((w_up_at (by decide)).trans (((tr14.2.2.2.1 158 4 (by decide) (by decide) (by decide) (Or.inl (by decide))).trans (l4))))))))) ((w_up_at (by decide)).trans ((w_up_at (by decide)).trans ((w_up_at (by decide)).trans ((w_up_at (by decide)).trans ((w_up_at (by decide)).trans ((w_up_at (by decide)).trans (((tr14.2.2.2.1 158 5 (by decide) (by decide) (by decide) (Or.inl (by decide))).trans (l5))))))))) ((w_up_at (by decide)).trans ((w_up_at (by decide)).trans ((w_up_at (by decide)).trans ((w_up_at (by decide)).trans ((w_up_at (by decide)).trans ((w_up_at (by decide)).trans (((tr14.2.2.2.1 158 8 (by decide) (by decide) (by decide) (Or.inl (by decide))).trans (l8))))))))) ((w_up_slot (by decide)).trans ((w_up_slot (by decide)).trans ((w_up_slot (by decide)).trans ((w_up_slot (by decide)).trans ((w_up_slot (by decide)).trans ((w_up_slot (by decide)).trans (((tr14.2.2.2.1 215 4 (by decide) (by decide) (by decide) (Or.inl (by decide))).trans (bc))))))))) ((w_up_slot (by decide)).trans ((w_up_slot (by decide)).trans ((w_up_slot (by decide)).trans ((w_up_slot (by decide)).trans ((w_up_slot (by decide)).trans ((w_up_slot (by decide)).trans (((tr14.2.2.2.1 220 (c - 1) (by decide) (by decide) (by decide) (Or.inl (by decide))).trans (bp))))))))) ((((w_up_slot (by decide)).trans ((w_up_slot (by decide)).trans ((w_up_slot (by decide)).trans ((w_up_slot (by decide)).trans ((w_up_slot (by decide)).trans ((w_up_slot (by decide)).trans (((tr14.2.2.2.1 218 (-1) (by decide) (by decide) (by decide) (Or.inl (by decide))).trans (bl1)))))))))).trans (((w_up_slot (by decide)).trans ((w_up_slot (by decide)).trans ((w_up_slot (by decide)).trans ((w_up_slot (by decide)).trans ((w_up_slot (by decide)).trans ((w_up_slot (by decide)).trans (((tr14.2.2.2.1 217 (-1) (by decide) (by decide) (by decide) (Or.inl (by decide))).trans (rfl)))))))))).symm) (by have e : (w_up (w_up (w_up (w_up (w_up (w_up Sq14 158 16 0) 158 17 0) 158 16 e1) 158 17 e2) 158 16 ky) 158 17 vy) 217 (-1) = S 217 (-1) := ((w_up_slot (by decide)).trans ((w_up_slot (by decide)).trans ((w_up_slot (by decide)).trans ((w_up_slot (by decide)).trans ((w_up_slot (by decide)).trans ((w_up_slot (by decide)).trans (((tr14.2.2.2.1 217 (-1) (by decide) (by decide) (by decide) (Or.inl (by decide))).trans (rfl))))))))); rw [e]; exact ⟨bl2, bl3⟩) (by have e : (w_up (w_up (w_up (w_up (w_up (w_up Sq14 158 16 0) 158 17 0) 158 16 e1) 158 17 e2) 158 16 ky) 158 17 vy) 217 (-1) = S 217 (-1) := ((w_up_slot (by decide)).trans ((w_up_slot (by decide)).trans ((w_up_slot (by decide)).trans ((w_up_slot (by decide)).trans ((w_up_slot (by decide)).trans ((w_up_slot (by decide)).trans (((tr14.2.2.2.1 217 (-1) (by decide) (by decide) (by decide) (Or.inl (by decide))).trans (rfl))))))))); omega) ⟨by omega, by omega⟩ ⟨by omega, by omega⟩ ⟨by omega, by omega⟩ ⟨by omega, by omega⟩) (fun oq55 Sq55 hp56 q55 => ?_)
                        rcases q55 with ⟨rfl, hgv55⟩
                        show wJ _ _ _ _ _ _ _ _ _ _
                        refine wa_return rfl ?_
                        refine ⟨rfl, Or.inr ⟨by omega, Sq14, (w_up (w_up (w_up (w_up (w_up (w_up Sq14 158 16 0) 158 17 0) 158 16 e1) 158 17 e2) 158 16 ky) 158 17 vy), tr14, ?_, ?_⟩⟩
                        · exact fun j i hji => (w_up_no (by omega)).trans ((w_up_no (by omega)).trans ((w_up_no (by omega)).trans ((w_up_no (by omega)).trans ((w_up_no (by omega)).trans ((w_up_no (by omega)).trans (rfl))))))
                        · rw [hX]; first | (rw [if_pos (show kd = 1 by omega), if_pos (show kd = 1 by omega)]; exact hgv55) | (rw [if_neg (show ¬ kd = 1 by omega), if_neg (show ¬ kd = 1 by omega)]; exact hgv55)
                  · skip
                    exact absurd c18 (by omega)
                · skip
                  exact absurd c16 (by omega)
              · skip
                exact absurd c12 (by omega)
            · skip
              exact absurd c11 (by omega)
        · skip
          exact absurd c7 (by omega)
      · skip
        exact absurd c6 (by omega)
  · skip
    exact absurd c3 (by omega)
set_option maxHeartbeats 4000000 in
theorem cmx_73_215 {c p h kd ba m en tn ky vy wd a0 n u2 u3 : Int} (hP : xP 215 c p h S) (l4 : S 158 4 = 215) (l5 : S 158 5 = 216) (l7 : S 158 7 = kd) (l8 : S 158 8 = ba) (l12 : S 158 12 = en) (hen : 0 ≤ en ∧ en ≤ 1000) (hba : 0 ≤ ba ∧ ba < h) (h72 : S 72 1 = 73) (hm : 0 ≤ m ∧ m < 400) (hso : S 98 m = 1) (ht15 : S 72 15 = tn) (ht0 : 0 ≤ tn ∧ tn ≤ S 152 (-1) ∧ tn ≤ 100000) (ht9 : 16 ≤ S 152 (-1) ∧ S 152 (-1) ≤ 131072 ∨ (16 ≤ S 152 (-1) ∧ S 152 (-1) ≤ 262143 ∧ tn + 2 ≤ S 152 (-1))) (hky : S 217 (h - 1) = ky) (hvy : S 218 (h - 1) = vy) (hkr : -128 ≤ ky ∧ ky ≤ 127) (hvr : -9223372036854775808 ≤ vy ∧ vy ≤ 9223372036854775807) (hx1 : pe_at (pe_GA xs).xs 1 = some (1, tx_1)) (hmt : S 100 m = 7) (hmf : S 112 m = -1) (hmw : S 111 m = wd) (hwl : S 77 (-1) = S 76 (-1)) (hwd : 0 ≤ wd ∧ wd < S 76 (-1)) (hsz : S 77 wd = n) (hst : S 76 wd = a0) (hn : 0 ≤ n ∧ n ≤ 60) (ha : 0 ≤ a0 ∧ a0 + n ≤ S 75 (-1)) (h0 : 0 ≤ S 2 1 ∧ S 2 1 ≤ S 3 (-1) ∧ 1024 ≤ S 3 (-1) ∧ S 3 (-1) ≤ 16777216) (hu2 : S 150 2 = u2) (hu3 : S 150 3 = u3) (hu2r : 0 ≤ u2 ∧ u2 ≤ 12000) (hu3r : 0 ≤ u3 ∧ u3 ≤ 200000) : wJ (pe_GA xs) wY0 (mS [217, 218, 152, 3]) (d + 6) t_XL_callMember ((pe_at t_XL_callMember.bl 0).getD (0, [])).2 [(0, (2, 158)), (1, (0, m))] [] S (fun o Z => o = .inl none ∧ (((100000 < tn + 2 ∨ 12000 ≤ u2 ∨ 200000 < u3 + n) ∧ w_up S 215 16 99 = Z) ∨ (¬ ((100000 < tn + 2 ∨ 12000 ≤ u2 ∨ 200000 < u3 + n)) ∧ cmE 215 h c p (h - ba) kd ky vy 3 (S 2 1 * 4294967296 + n) m en (txR 75 a0 n u2 u3) S Z))) := by
  obtain ⟨⟨hC, hI⟩, ⟨bc, bc0, bc1⟩, ⟨bp, bp0, bp1⟩, ⟨bh, bh0, bh1, bh2⟩, bl1, bl2, bl3⟩ := hP
  replace bp : S 220 (c - 1) = p := bp
  replace bh : S 216 2 = h := bh
  replace bh2 : h ≤ S 217 (-1) := bh2
  replace bl1 : S 218 (-1) = S 217 (-1) := bl1
  replace bl2 : 64 ≤ S 217 (-1) := bl2
  replace bl3 : S 217 (-1) ≤ 4095 := bl3
  refine wa_aload_n (n := 0) rfl ?_
  refine wb_gf4 158 rfl (wy_pr rfl) wt_158 wf_5_0 (v := 72) wl_158_0 ?_
  refine wb_gf5 72 rfl (wy_pr rfl) wt_72 wf_2_1 (v := 73) (h72) (fun r1 => ?_)
  refine wa_astore_n (n := 2) rfl ?_
  refine wa_aload_n (n := 2) rfl ?_
  refine wb_gf4 73 rfl (wy_pr rfl) wt_73 wf_3_3 (v := 96) wl_73_3 ?_
  refine wa_iconst ?_
  refine wb_aald5 96 1 rfl rfl (wy_pr rfl) wt_96 (by rw [show _ = _ from ((cl_96 hC))]; omega) wl_96_1 ?_
  refine wa_iload_n (n := 1) rfl ?_
  refine wb_iald 98 rfl (wy_pr rfl) wt_98 (n := 400) ((cl_98 hC)) (by omega) (by omega) (v := 1) (hso) (fun r2 => ?_)
  refine wa_iconst ?_
  refine wa_icmpne (w_rg0 (by omega) (by omega)) (w_rg0 (by omega) (by omega)) ⟨_, rfl⟩ (fun c3 => ?_) (fun c3 => ?_)
  · skip
    refine wa_iconst ?_
    refine wa_fall ⟨_, rfl⟩ ?_
    refine wa_istore_n (n := 3) rfl ?_
    refine wa_iload_n (n := 3) rfl ?_
    refine wa_ifne (w_rg0 (by omega) (by omega)) ⟨_, rfl⟩ (fun c4 => ?_) (fun c4 => ?_)
    · skip
      exact absurd c4 (by omega)
    · skip
      refine wa_aload_n (n := 2) rfl ?_
      refine wb_gf4 73 rfl (wy_pr rfl) wt_73 wf_3_3 (v := 96) wl_73_3 ?_
      refine wa_iconst ?_
      refine wb_aald5 96 3 rfl rfl (wy_pr rfl) wt_96 (by rw [show _ = _ from ((cl_96 hC))]; omega) wl_96_3 ?_
      refine wa_iload_n (n := 1) rfl ?_
      refine wb_iald 100 rfl (wy_pr rfl) wt_100 (n := 400) ((cl_100 hC)) (by omega) (by omega) (v := 7) (hmt) (fun r5 => ?_)
      refine wa_bipush (w_rg2 (by omega) (by omega)) ?_
      refine wa_icmpne (w_rg0 (by omega) (by omega)) (w_rg0 (by omega) (by omega)) ⟨_, rfl⟩ (fun c6 => ?_) (fun c6 => ?_)
      · skip
        exact absurd c6 (by omega)
      · skip
        refine wa_aload_n (n := 2) rfl ?_
        refine wb_gf4 73 rfl (wy_pr rfl) wt_73 wf_3_3 (v := 96) wl_73_3 ?_
        refine wa_bipush (w_rg2 (by omega) (by omega)) ?_
        refine wb_aald5 96 15 rfl rfl (wy_pr rfl) wt_96 (by rw [show _ = _ from ((cl_96 hC))]; omega) wl_96_15 ?_
        refine wa_iload_n (n := 1) rfl ?_
        refine wb_iald 112 rfl (wy_pr rfl) wt_112 (n := 400) ((cl_112 hC)) (by omega) (by omega) (v := (-1)) (hmf) (fun r7 => ?_)
        refine wa_iconst ?_
        refine wa_icmpne (w_rg0 (by omega) (by omega)) (w_rg0 (by omega) (by omega)) ⟨_, rfl⟩ (fun c8 => ?_) (fun c8 => ?_)
        · skip
          exact absurd c8 (by omega)
        · skip
          refine wa_iconst ?_
          refine wa_goto ⟨_, rfl⟩ ?_
          refine wa_istore (n := 4) rfl ?_
          refine wa_iload_n (n := 3) rfl ?_
          refine wa_ifeq (w_rg0 (by omega) (by omega)) ⟨_, rfl⟩ (fun c9 => ?_) (fun c9 => ?_)
          · skip
            refine wa_iconst ?_
            refine wa_fall ⟨_, rfl⟩ ?_
            refine wa_istore (n := 5) rfl ?_
            refine wa_aload_n (n := 0) rfl ?_
            refine wb_gf4 158 rfl (wy_pr rfl) wt_158 wf_5_0 (v := 72) wl_158_0 ?_
            refine wb_gfi 72 rfl (wy_pr rfl) wt_72 wf_2_15 (v := tn) (ht15) (fun r10 => ?_)
            refine wa_iconst ?_
            refine wa_iadd ?_
            refine wb_ki (n := 100000) rfl ?_
            refine wa_icmpgt (w_rg0 (by omega) (by omega)) (w_rg0 (by omega) (by omega)) ⟨_, rfl⟩ (fun c11 => ?_) (fun c11 => ?_)
            · skip
              refine wa_aload_n (n := 0) rfl ?_
              refine wb_gf5 158 rfl (wy_pr rfl) wt_158 wf_5_4 (v := 215) (l4) (fun r12 => ?_)
              refine wa_bipush (w_rg2 (by omega) (by omega)) ?_
              refine wb_pfi 215 rfl (wy_pr rfl) wt_215 wf_8_16 (n := 16) rfl ⟨(by omega), (by omega)⟩ ?_
              refine wa_return rfl ?_
              exact ⟨rfl, Or.inl ⟨by omega, rfl⟩⟩
            · skip
              refine wa_iload_n (n := 3) rfl ?_
              refine wa_ifeq (w_rg0 (by omega) (by omega)) ⟨_, rfl⟩ (fun c13 => ?_) (fun c13 => ?_)
              · skip
                refine wa_iload (n := 4) rfl ?_
                refine wa_ifeq (w_rg0 (by omega) (by omega)) ⟨_, rfl⟩ (fun c14 => ?_) (fun c14 => ?_)
                · skip
                  exact absurd c14 (by omega)
                · skip
                  refine wa_aload_n (n := 0) rfl ?_
                  refine wb_gf4 158 rfl (wy_pr rfl) wt_158 wf_5_0 (v := 72) wl_158_0 ?_
                  refine wa_aload_n (n := 2) rfl ?_
                  refine wb_gf4 73 rfl (wy_pr rfl) wt_73 wf_3_0 (v := 74) wl_73_0 ?_
                  refine wb_gf4 74 rfl (wy_pr rfl) wt_74 wf_9_3 (v := 77) wl_74_3 ?_
                  refine wa_aload_n (n := 2) rfl ?_
                  refine wb_gf4 73 rfl (wy_pr rfl) wt_73 wf_3_3 (v := 96) wl_73_3 ?_
                  refine wa_bipush (w_rg2 (by omega) (by omega)) ?_
                  refine wb_aald5 96 14 rfl rfl (wy_pr rfl) wt_96 (by rw [show _ = _ from ((cl_96 hC))]; omega) wl_96_14 ?_
                  refine wa_iload_n (n := 1) rfl ?_
                  refine wb_iald 111 rfl (wy_pr rfl) wt_111 (n := 400) ((cl_111 hC)) (by omega) (by omega) (v := wd) (hmw) (fun r15 => ?_)
                  refine wb_iald 77 rfl (wy_pr rfl) wt_77 (n := (S 76 (-1))) (hwl) (by omega) (by omega) (v := n) (hsz) (fun r16 => ?_)
                  refine wa_cv 72 rfl (wy_pr rfl) wt_72 (M2 := mS [217, 218, 152, 3]) rfl at_XH_hasTextRoom ⟨_, rfl⟩ rfl rfl ⟨trivial, trivial, trivial, (Or.inr ⟨wy_pr rfl, mS_no rfl⟩), (Or.inr ⟨wy_pr rfl, mS_no rfl⟩), trivial, trivial⟩ trivial (fun _ _ q => q) ?_ (fun _ _ _ q => q)
                  refine wa_aload_n (n := 0) rfl ?_
                  refine wa_iconst ?_
                  refine wa_iconst ?_
                  refine wa_cv 72 rfl (wy_pr rfl) wt_72 (M2 := mS [217, 218, 152, 3]) rfl at_XH_hasRoom ⟨_, rfl⟩ rfl rfl ⟨(Or.inr ⟨wy_pr rfl, mS_no rfl⟩), trivial, trivial⟩ trivial (fun _ _ q => q) ?_ (fun _ _ _ q => q)
                  refine wa_aload_n (n := 0) rfl ?_
                  refine wb_gf4 72 rfl (wy_pr rfl) wt_72 wf_2_10 (v := 150) wl_72_10 ?_
                  refine wa_iload_n (n := 1) rfl ?_
                  refine wb_iald 150 rfl (wy_pr rfl) wt_150 (n := 6) ((cl_150 hC)) (by omega) (by omega) (v := u2) (hu2) (fun r17 => ?_)
                  refine wa_iload_n (n := 2) rfl ?_
                  refine wa_iadd ?_
                  refine wa_gs ?_
                  refine wa_iload_n (n := 1) rfl ?_
                  refine wb_xald 1 rfl hx1 (by decide) (by omega) (by decide) (v := 12000) (by decide) (fun r18 => ?_)
                  refine wa_icmpgt (w_rg0 (by omega) (by omega)) (w_rg0 (by omega) (by omega)) ⟨_, rfl⟩ (fun c19 => ?_) (fun c19 => ?_)
                  · skip
                    refine wa_iconst ?_
                    refine wa_fall ⟨_, rfl⟩ ?_
                    refine wa_zreturn rfl (Or.inl rfl) ?_
                    show wJ _ _ _ _ _ _ _ _ _ _
                    refine wa_ifeq (w_rg0 (by omega) (by omega)) ⟨_, rfl⟩ (fun c20 => ?_) (fun c20 => ?_)
                    · skip
                      refine wa_iconst ?_
                      refine wa_fall ⟨_, rfl⟩ ?_
                      refine wa_zreturn rfl (Or.inl rfl) ?_
                      show wJ _ _ _ _ _ _ _ _ _ _
                      refine wa_ifne (w_rg0 (by omega) (by omega)) ⟨_, rfl⟩ (fun c21 => ?_) (fun c21 => ?_)
                      · skip
                        exact absurd c21 (by omega)
                      · skip
                        refine wa_fall ⟨_, rfl⟩ ?_
                        refine wa_aload_n (n := 0) rfl ?_
                        refine wb_gf5 158 rfl (wy_pr rfl) wt_158 wf_5_4 (v := 215) (l4) (fun r22 => ?_)
                        refine wa_bipush (w_rg2 (by omega) (by omega)) ?_
                        refine wb_pfi 215 rfl (wy_pr rfl) wt_215 wf_8_16 (n := 16) rfl ⟨(by omega), (by omega)⟩ ?_
                        refine wa_return rfl ?_
                        exact ⟨rfl, Or.inl ⟨by omega, rfl⟩⟩
                    · skip
                      exact absurd c20 (by omega)
                  · skip
                    refine wa_iconst ?_
                    refine wa_goto ⟨_, rfl⟩ ?_
                    refine wa_zreturn rfl (Or.inr rfl) ?_
                    show wJ _ _ _ _ _ _ _ _ _ _
                    refine wa_ifeq (w_rg0 (by omega) (by omega)) ⟨_, rfl⟩ (fun c23 => ?_) (fun c23 => ?_)
                    · skip
                      exact absurd c23 (by omega)
                    · skip
                      refine wa_aload_n (n := 0) rfl ?_
                      refine wa_iconst ?_
                      refine wa_iload_n (n := 1) rfl ?_
                      refine wa_cv 72 rfl (wy_pr rfl) wt_72 (M2 := mS [217, 218, 152, 3]) rfl at_XH_hasRoom ⟨_, rfl⟩ rfl rfl ⟨(Or.inr ⟨wy_pr rfl, mS_no rfl⟩), trivial, trivial⟩ trivial (fun _ _ q => q) ?_ (fun _ _ _ q => q)
                      refine wa_aload_n (n := 0) rfl ?_
                      refine wb_gf4 72 rfl (wy_pr rfl) wt_72 wf_2_10 (v := 150) wl_72_10 ?_
                      refine wa_iload_n (n := 1) rfl ?_
                      refine wb_iald 150 rfl (wy_pr rfl) wt_150 (n := 6) ((cl_150 hC)) (by omega) (by omega) (v := u3) (hu3) (fun r24 => ?_)
                      refine wa_iload_n (n := 2) rfl ?_
                      refine wa_iadd ?_
                      refine wa_gs ?_
                      refine wa_iload_n (n := 1) rfl ?_
                      refine wb_xald 1 rfl hx1 (by decide) (by omega) (by decide) (v := 200000) (by decide) (fun r25 => ?_)
                      refine wa_icmpgt (w_rg0 (by omega) (by omega)) (w_rg0 (by omega) (by omega)) ⟨_, rfl⟩ (fun c26 => ?_) (fun c26 => ?_)
                      · skip
                        refine wa_iconst ?_
                        refine wa_fall ⟨_, rfl⟩ ?_
                        refine wa_zreturn rfl (Or.inl rfl) ?_
                        show wJ _ _ _ _ _ _ _ _ _ _
                        refine wa_ifeq (w_rg0 (by omega) (by omega)) ⟨_, rfl⟩ (fun c27 => ?_) (fun c27 => ?_)
                        · skip
                          refine wa_iconst ?_
                          refine wa_fall ⟨_, rfl⟩ ?_
                          refine wa_zreturn rfl (Or.inl rfl) ?_
                          show wJ _ _ _ _ _ _ _ _ _ _
                          refine wa_ifne (w_rg0 (by omega) (by omega)) ⟨_, rfl⟩ (fun c28 => ?_) (fun c28 => ?_)
                          · skip
                            exact absurd c28 (by omega)
                          · skip
                            refine wa_fall ⟨_, rfl⟩ ?_
                            refine wa_aload_n (n := 0) rfl ?_
                            refine wb_gf5 158 rfl (wy_pr rfl) wt_158 wf_5_4 (v := 215) (l4) (fun r29 => ?_)
                            refine wa_bipush (w_rg2 (by omega) (by omega)) ?_
                            refine wb_pfi 215 rfl (wy_pr rfl) wt_215 wf_8_16 (n := 16) rfl ⟨(by omega), (by omega)⟩ ?_
                            refine wa_return rfl ?_
                            exact ⟨rfl, Or.inl ⟨by omega, rfl⟩⟩
                        · skip
                          exact absurd c27 (by omega)
                      · skip
                        refine wa_iconst ?_
                        refine wa_goto ⟨_, rfl⟩ ?_
                        refine wa_zreturn rfl (Or.inr rfl) ?_
                        show wJ _ _ _ _ _ _ _ _ _ _
                        refine wa_ifeq (w_rg0 (by omega) (by omega)) ⟨_, rfl⟩ (fun c30 => ?_) (fun c30 => ?_)
                        · skip
                          exact absurd c30 (by omega)
                        · skip
                          refine wa_iconst ?_
                          refine wa_goto ⟨_, rfl⟩ ?_
                          refine wa_zreturn rfl (Or.inr rfl) ?_
                          show wJ _ _ _ _ _ _ _ _ _ _
                          refine wa_ifne (w_rg0 (by omega) (by omega)) ⟨_, rfl⟩ (fun c31 => ?_) (fun c31 => ?_)
                          · skip
                            refine wa_aload_n (n := 0) rfl ?_
                            refine wb_gf4 158 rfl (wy_pr rfl) wt_158 wf_5_0 (v := 72) wl_158_0 ?_
                            refine wa_iload_n (n := 1) rfl ?_
                            refine wa_aload_n (n := 0) rfl ?_
                            refine wb_gfi 158 rfl (wy_pr rfl) wt_158 wf_5_12 (v := en) (l12) (fun r32 => ?_)
                            refine wa_cv 72 rfl (wy_pr rfl) wt_72 (M2 := mS [152]) rfl at_XH_addTrace ⟨_, rfl⟩ rfl rfl ⟨trivial, trivial, trivial, (Or.inr ⟨wy_pr rfl, mS_no rfl⟩), (Or.inr ⟨wy_pr rfl, mS_no rfl⟩), trivial, trivial⟩ trivial (fun _ _ q => mS_sub (by decide) q) (tra (S := S) (m := m) (k := en) hI ⟨by omega, by omega⟩ ⟨by omega, by omega⟩ (by rw [ht15]; exact ht0) (by rw [ht15]; exact ht9)) (fun oq33 Sq33 hp34 q33 => ?_)
                            rcases q33 with ⟨rfl, tr33⟩
                            show wJ _ _ _ _ _ _ _ _ _ _
                            refine wa_aload_n (n := 0) rfl ?_
                            refine wa_iconst ?_
                            refine wb_pfi 158 rfl (wy_pr rfl) wt_158 wf_5_16 (n := 16) rfl ⟨(by omega), (by omega)⟩ ?_
                            refine wa_aload_n (n := 0) rfl ?_
                            refine wb_lconst (m := 0) rfl ?_
                            refine wb_pfl 158 rfl (wy_pr rfl) wt_158 wf_5_17 (n := 17) rfl ⟨(by omega), (by omega)⟩ ?_
                            refine wa_iload_n (n := 3) rfl ?_
                            refine wa_ifeq (w_rg0 (by omega) (by omega)) ⟨_, rfl⟩ (fun c35 => ?_) (fun c35 => ?_)
                            · skip
                              refine wa_aload_n (n := 2) rfl ?_
                              refine wb_gf4 73 rfl (wy_pr rfl) wt_73 wf_3_3 (v := 96) wl_73_3 ?_
                              refine wa_bipush (w_rg2 (by omega) (by omega)) ?_
                              refine wb_aald5 96 15 rfl rfl (wy_pr rfl) wt_96 (by rw [show _ = _ from ((w_up_slot (by decide)).trans ((w_up_slot (by decide)).trans (((tr33.2.2.2.1 96 (-1) (by decide) (by decide) (by decide) (Or.inl (by decide))).trans ((cl_96 hC))))))]; omega) wl_96_15 ?_
                              refine wa_iload_n (n := 1) rfl ?_
                              refine wb_iald 112 rfl (wy_pr rfl) wt_112 (n := 400) ((w_up_slot (by decide)).trans ((w_up_slot (by decide)).trans (((tr33.2.2.2.1 112 (-1) (by decide) (by decide) (by decide) (Or.inl (by decide))).trans ((cl_112 hC)))))) (by omega) (by omega) (v := (-1)) ((w_up_slot (by decide)).trans ((w_up_slot (by decide)).trans (((tr33.2.2.2.1 112 m (by decide) (by decide) (by decide) (Or.inl (by decide))).trans (hmf))))) (fun r36 => ?_)
                              refine wa_iconst ?_
                              refine wa_icmpeq (w_rg0 (by omega) (by omega)) (w_rg0 (by omega) (by omega)) ⟨_, rfl⟩ (fun c37 => ?_) (fun c37 => ?_)
                              · skip
                                refine wa_aload_n (n := 0) rfl ?_
                                refine wa_iload_n (n := 1) rfl ?_
                                have hf2 : ∀ (j : Nat) (i : Int), j < 4000000 → j ≠ wG → j ≠ 152 → j ≠ 72 → j ≠ 158 → (w_up (w_up Sq33 158 16 0) 158 17 0) j i = S j i := fun j i a b c d e => (w_up_no (fun z => e z.1)).trans ((w_up_no (fun z => e z.1)).trans (tr33.2.2.2.1 j i a b c (Or.inl d)))
                                have el : (w_up (w_up Sq33 158 16 0) 158 17 0) 76 (-1) = S 76 (-1) := (hf2 76 _ (by first | decide | omega) (by first | decide | omega) (by first | decide | omega) (by first | decide | omega) (by first | decide | omega))
                                have el2 : (w_up (w_up Sq33 158 16 0) 158 17 0) 77 (-1) = S 77 (-1) := (hf2 77 _ (by first | decide | omega) (by first | decide | omega) (by first | decide | omega) (by first | decide | omega) (by first | decide | omega))
                                have el3 : (w_up (w_up Sq33 158 16 0) 158 17 0) 75 (-1) = S 75 (-1) := (hf2 75 _ (by first | decide | omega) (by first | decide | omega) (by first | decide | omega) (by first | decide | omega) (by first | decide | omega))
                                have e21 : (w_up (w_up Sq33 158 16 0) 158 17 0) 2 1 = S 2 1 := (hf2 2 _ (by first | decide | omega) (by first | decide | omega) (by first | decide | omega) (by first | decide | omega) (by first | decide | omega))
                                have e3 : (w_up (w_up Sq33 158 16 0) 158 17 0) 3 (-1) = S 3 (-1) := (hf2 3 _ (by first | decide | omega) (by first | decide | omega) (by first | decide | omega) (by first | decide | omega) (by first | decide | omega))
                                refine wa_cv 158 rfl (wy_pr rfl) wt_158 (M2 := mS [3]) rfl at_XL_answer ⟨_, rfl⟩ rfl rfl ⟨trivial, trivial, trivial, (Or.inr ⟨wy_pr rfl, mS_no rfl⟩), (Or.inr ⟨wy_pr rfl, mS_no rfl⟩), trivial, trivial⟩ trivial (fun _ _ q => mS_sub (by decide) q) (wJ_mono (anx_73 (S := (w_up (w_up Sq33 158 16 0) 158 17 0)) (m := m) (wd := wd) (a0 := a0) (n := n) (u2 := u2) (u3 := u3) (w_CL_up (w_CL_up (CL_tr hC tr33) (by omega)) (by omega)) (gI_up (gI_up tr33.2.2.2.2.2.1 (by omega) (by omega) (by omega)) (by omega) (by omega) (by omega)) ((w_up_slot (by decide)).trans ((w_up_slot (by decide)).trans (((tr33.2.2.2.1 72 1 (by decide) (by decide) (by decide) (Or.inr (by decide))).trans (h72))))) (by rw [el, el2]; exact hwl) (by rw [el]; exact hwd) ((hf2 77 _ (by decide) (by decide) (by decide) (by decide) (by decide)).trans hsz) ((hf2 76 _ (by decide) (by decide) (by decide) (by decide) (by decide)).trans hst) hn (by rw [el3]; exact ha) (by rw [e21, e3]; exact h0) ((hf2 150 _ (by decide) (by decide) (by decide) (by decide) (by decide)).trans hu2) ((hf2 150 _ (by decide) (by decide) (by decide) (by decide) (by decide)).trans hu3) ⟨by omega, by omega⟩ ⟨by omega, by omega⟩ hm ((w_up_slot (by decide)).trans ((w_up_slot (by decide)).trans (((tr33.2.2.2.1 100 m (by decide) (by decide) (by decide) (Or.inl (by decide))).trans (hmt))))) ((w_up_slot (by decide)).trans ((w_up_slot (by decide)).trans (((tr33.2.2.2.1 111 m (by decide) (by decide) (by decide) (Or.inl (by decide))).trans (hmw)))))) (fun o Z hz => (⟨hz.1, hz.2.imp (fun C y => ⟨y.1, by rw [← e21]; exact y.2⟩)⟩ : o = .inl none ∧ ∃ C : wS, ap_ag (w_up (w_up (w_up (w_up (w_up Sq33 158 16 0) 158 17 0) 150 2 (u2 + 1)) 150 3 (u3 + n)) 158 16 3) C 2 75 a0 n ∧ w_up C 158 17 (S 2 1 * 4294967296 + n) = Z))) (fun oq38 Sq38 hp39 q38 => ?_)
                                rcases q38 with ⟨rfl, C38, hc38, rfl⟩
                                show wJ _ _ _ _ _ _ _ _ _ _
                                refine wa_fall ⟨_, rfl⟩ ?_
                                refine wa_aload_n (n := 0) rfl ?_
                                refine wb_gfi 158 rfl (wy_pr rfl) wt_158 wf_5_7 (v := kd) ((w_up_at (by decide)).trans (((hc38.2.2.2.1 158 7 (by decide) (by decide) (by decide) (Or.inl (by decide))).trans ((w_up_at (by decide)).trans ((w_up_slot (by decide)).trans ((w_up_slot (by decide)).trans ((w_up_at (by decide)).trans ((w_up_at (by decide)).trans (((tr33.2.2.2.1 158 7 (by decide) (by decide) (by decide) (Or.inl (by decide))).trans (l7))))))))))) (fun r40 => ?_)
                                refine wa_iconst ?_
                                refine wa_icmpne (w_rg0 (by omega) (by omega)) (w_rg0 (by omega) (by omega)) ⟨_, rfl⟩ (fun c41 => ?_) (fun c41 => ?_)
                                · skip
                                  refine wa_aload_n (n := 0) rfl ?_
                                  refine wa_aload_n (n := 0) rfl ?_
                                  refine wb_gfi 158 rfl (wy_pr rfl) wt_158 wf_5_16 (v := 3) ((w_up_at (by decide)).trans (((hc38.2.2.2.1 158 16 (by decide) (by decide) (by decide) (Or.inl (by decide))).trans (w_up_same _ _ _ _)))) (fun r42 => ?_)
                                  refine wa_aload_n (n := 0) rfl ?_
                                  refine wb_gfl 158 rfl (wy_pr rfl) wt_158 wf_5_17 (v := (S 2 1 * 4294967296 + n)) (w_up_same _ _ _ _) (fun r43 => ?_)
                                  refine wa_cv 158 rfl (wy_pr rfl) wt_158 (M2 := mS [217, 218]) rfl at_XL_giveValue ⟨_, rfl⟩ rfl rfl ⟨trivial, trivial, trivial, (Or.inr ⟨wy_pr rfl, mS_no rfl⟩), (Or.inr ⟨wy_pr rfl, mS_no rfl⟩), trivial, trivial⟩ trivial (fun _ _ q => mS_sub (by decide) q) (glx_215 (S := (w_up C38 158 17 (S 2 1 * 4294967296 + n))) (k := 3) (v := (S 2 1 * 4294967296 + n)) (h := h) (c := c) (p := p) (ba := ba) (w_CL_up (CL_ap2 (w_CL_up (w_CL_up (w_CL_up (w_CL_up (w_CL_up (CL_tr hC tr33) (by omega)) (by omega)) (by omega)) (by omega)) (by omega)) hc38) (by omega)) (gI_up hc38.2.2.2.2.2.1 (by omega) (by omega) (by omega)) ((w_up_at (by decide)).trans (((hc38.2.2.2.1 158 4 (by decide) (by decide) (by decide) (Or.inl (by decide))).trans ((w_up_at (by decide)).trans ((w_up_slot (by decide)).trans ((w_up_slot (by decide)).trans ((w_up_at (by decide)).trans ((w_up_at (by decide)).trans (((tr33.2.2.2.1 158 4 (by decide) (by decide) (by decide) (Or.inl (by decide))).trans (l4))))))))))) ((w_up_at (by decide)).trans (((hc38.2.2.2.1 158 5 (by decide) (by decide) (by decide) (Or.inl (by decide))).trans ((w_up_at (by decide)).trans ((w_up_slot (by decide)).trans ((w_up_slot (by decide)).trans ((w_up_at (by decide)).trans ((w_up_at (by decide)).trans (((tr33.2.2.2.1 158 5 (by decide) (by decide) (by decide) (Or.inl (by decide))).trans (l5))))))))))) ((w_up_at (by decide)).trans (((hc38.2.2.2.1 158 8 (by decide) (by decide) (by decide) (Or.inl (by decide))).trans ((w_up_at (by decide)).trans ((w_up_slot (by decide)).trans ((w_up_slot (by decide)).trans ((w_up_at (by decide)).trans ((w_up_at (by decide)).trans (((tr33.2.2.2.1 158 8 (by decide) (by decide) (by decide) (Or.inl (by decide))).trans (l8))))))))))) ((w_up_slot (by decide)).trans (((hc38.2.2.2.1 215 4 (by decide) (by decide) (by decide) (Or.inl (by decide))).trans ((w_up_slot (by decide)).trans ((w_up_slot (by decide)).trans ((w_up_slot (by decide)).trans ((w_up_slot (by decide)).trans ((w_up_slot (by decide)).trans (((tr33.2.2.2.1 215 4 (by decide) (by decide) (by decide) (Or.inl (by decide))).trans (bc))))))))))) ((w_up_slot (by decide)).trans (((hc38.2.2.2.1 220 (c - 1) (by decide) (by decide) (by decide) (Or.inl (by decide))).trans ((w_up_slot (by decide)).trans ((w_up_slot (by decide)).trans ((w_up_slot (by decide)).trans ((w_up_slot (by decide)).trans ((w_up_slot (by decide)).trans (((tr33.2.2.2.1 220 (c - 1) (by decide) (by decide) (by decide) (Or.inl (by decide))).trans (bp))))))))))) ((((w_up_slot (by decide)).trans (((hc38.2.2.2.1 218 (-1) (by decide) (by decide) (by decide) (Or.inl (by decide))).trans ((w_up_slot (by decide)).trans ((w_up_slot (by decide)).trans ((w_up_slot (by decide)).trans ((w_up_slot (by decide)).trans ((w_up_slot (by decide)).trans (((tr33.2.2.2.1 218 (-1) (by decide) (by decide) (by decide) (Or.inl (by decide))).trans (bl1)))))))))))).trans (((w_up_slot (by decide)).trans (((hc38.2.2.2.1 217 (-1) (by decide) (by decide) (by decide) (Or.inl (by decide))).trans ((w_up_slot (by decide)).trans ((w_up_slot (by decide)).trans ((w_up_slot (by decide)).trans ((w_up_slot (by decide)).trans ((w_up_slot (by decide)).trans (((tr33.2.2.2.1 217 (-1) (by decide) (by decide) (by decide) (Or.inl (by decide))).trans (rfl)))))))))))).symm) (by have e : (w_up C38 158 17 (S 2 1 * 4294967296 + n)) 217 (-1) = S 217 (-1) := ((w_up_slot (by decide)).trans (((hc38.2.2.2.1 217 (-1) (by decide) (by decide) (by decide) (Or.inl (by decide))).trans ((w_up_slot (by decide)).trans ((w_up_slot (by decide)).trans ((w_up_slot (by decide)).trans ((w_up_slot (by decide)).trans ((w_up_slot (by decide)).trans (((tr33.2.2.2.1 217 (-1) (by decide) (by decide) (by decide) (Or.inl (by decide))).trans (rfl))))))))))); rw [e]; exact ⟨bl2, bl3⟩) (by have e : (w_up C38 158 17 (S 2 1 * 4294967296 + n)) 217 (-1) = S 217 (-1) := ((w_up_slot (by decide)).trans (((hc38.2.2.2.1 217 (-1) (by decide) (by decide) (by decide) (Or.inl (by decide))).trans ((w_up_slot (by decide)).trans ((w_up_slot (by decide)).trans ((w_up_slot (by decide)).trans ((w_up_slot (by decide)).trans ((w_up_slot (by decide)).trans (((tr33.2.2.2.1 217 (-1) (by decide) (by decide) (by decide) (Or.inl (by decide))).trans (rfl))))))))))); omega) ⟨by omega, by omega⟩ ⟨by omega, by omega⟩ ⟨by omega, by omega⟩ ⟨by omega, by omega⟩) (fun oq44 Sq44 hp45 q44 => ?_)
                                  rcases q44 with ⟨rfl, hgv44⟩
                                  show wJ _ _ _ _ _ _ _ _ _ _
                                  refine wa_return rfl ?_
                                  refine ⟨rfl, Or.inr ⟨by omega, Sq33, (w_up C38 158 17 (S 2 1 * 4294967296 + n)), tr33, ?_, ?_⟩⟩
                                  · exact txR_mk ⟨by decide, by decide⟩ hc38 (fun j i hji => (w_up_no (by omega)).trans (rfl))
                                  · first | (rw [if_pos (show kd = 1 by omega), if_pos (show kd = 1 by omega)]; exact hgv44) | (rw [if_neg (show ¬ kd = 1 by omega), if_neg (show ¬ kd = 1 by omega)]; exact hgv44)
                                · skip
                                  refine wa_aload_n (n := 0) rfl ?_
                                  refine wa_aload_n (n := 0) rfl ?_
                                  refine wb_gf5 158 rfl (wy_pr rfl) wt_158 wf_5_5 (v := 216) ((w_up_at (by decide)).trans (((hc38.2.2.2.1 158 5 (by decide) (by decide) (by decide) (Or.inl (by decide))).trans ((w_up_at (by decide)).trans ((w_up_slot (by decide)).trans ((w_up_slot (by decide)).trans ((w_up_at (by decide)).trans ((w_up_at (by decide)).trans (((tr33.2.2.2.1 158 5 (by decide) (by decide) (by decide) (Or.inl (by decide))).trans (l5))))))))))) (fun r46 => ?_)
                                  refine wb_gf4 216 rfl (wy_pr rfl) wt_216 wf_7_0 (v := 217) wl_216_0 ?_
                                  refine wa_aload_n (n := 0) rfl ?_
                                  refine wb_gf5 158 rfl (wy_pr rfl) wt_158 wf_5_5 (v := 216) ((w_up_at (by decide)).trans (((hc38.2.2.2.1 158 5 (by decide) (by decide) (by decide) (Or.inl (by decide))).trans ((w_up_at (by decide)).trans ((w_up_slot (by decide)).trans ((w_up_slot (by decide)).trans ((w_up_at (by decide)).trans ((w_up_at (by decide)).trans (((tr33.2.2.2.1 158 5 (by decide) (by decide) (by decide) (Or.inl (by decide))).trans (l5))))))))))) (fun r47 => ?_)
                                  refine wb_gfi 216 rfl (wy_pr rfl) wt_216 wf_7_2 (v := h) ((w_up_slot (by decide)).trans (((hc38.2.2.2.1 216 2 (by decide) (by decide) (by decide) (Or.inl (by decide))).trans ((w_up_slot (by decide)).trans ((w_up_slot (by decide)).trans ((w_up_slot (by decide)).trans ((w_up_slot (by decide)).trans ((w_up_slot (by decide)).trans (((tr33.2.2.2.1 216 2 (by decide) (by decide) (by decide) (Or.inl (by decide))).trans (bh))))))))))) (fun r48 => ?_)
                                  refine wa_iconst ?_
                                  refine wa_isub ?_
                                  refine wb_bald 217 rfl (wy_pr rfl) wt_217 (n := (S 217 (-1))) ((w_up_slot (by decide)).trans (((hc38.2.2.2.1 217 (-1) (by decide) (by decide) (by decide) (Or.inl (by decide))).trans ((w_up_slot (by decide)).trans ((w_up_slot (by decide)).trans ((w_up_slot (by decide)).trans ((w_up_slot (by decide)).trans ((w_up_slot (by decide)).trans (((tr33.2.2.2.1 217 (-1) (by decide) (by decide) (by decide) (Or.inl (by decide))).trans (rfl))))))))))) (by omega) (by omega) (v := ky) ((w_up_slot (by decide)).trans (((hc38.2.2.2.1 217 (h - 1) (by decide) (by decide) (by decide) (Or.inl (by decide))).trans ((w_up_slot (by decide)).trans ((w_up_slot (by decide)).trans ((w_up_slot (by decide)).trans ((w_up_slot (by decide)).trans ((w_up_slot (by decide)).trans (((tr33.2.2.2.1 217 (h - 1) (by decide) (by decide) (by decide) (Or.inl (by decide))).trans (hky))))))))))) (fun r49 => ?_)
                                  refine wb_pfi 158 rfl (wy_pr rfl) wt_158 wf_5_16 (n := 16) rfl ⟨(by omega), (by omega)⟩ ?_
                                  refine wa_aload_n (n := 0) rfl ?_
                                  refine wa_aload_n (n := 0) rfl ?_
                                  refine wb_gf5 158 rfl (wy_pr rfl) wt_158 wf_5_5 (v := 216) ((w_up_at (by decide)).trans ((w_up_at (by decide)).trans (((hc38.2.2.2.1 158 5 (by decide) (by decide) (by decide) (Or.inl (by decide))).trans ((w_up_at (by decide)).trans ((w_up_slot (by decide)).trans ((w_up_slot (by decide)).trans ((w_up_at (by decide)).trans ((w_up_at (by decide)).trans (((tr33.2.2.2.1 158 5 (by decide) (by decide) (by decide) (Or.inl (by decide))).trans (l5)))))))))))) (fun r50 => ?_)
                                  refine wb_gf4 216 rfl (wy_pr rfl) wt_216 wf_7_1 (v := 218) wl_216_1 ?_
                                  refine wa_aload_n (n := 0) rfl ?_
                                  refine wb_gf5 158 rfl (wy_pr rfl) wt_158 wf_5_5 (v := 216) ((w_up_at (by decide)).trans ((w_up_at (by decide)).trans (((hc38.2.2.2.1 158 5 (by decide) (by decide) (by decide) (Or.inl (by decide))).trans ((w_up_at (by decide)).trans ((w_up_slot (by decide)).trans ((w_up_slot (by decide)).trans ((w_up_at (by decide)).trans ((w_up_at (by decide)).trans (((tr33.2.2.2.1 158 5 (by decide) (by decide) (by decide) (Or.inl (by decide))).trans (l5)))))))))))) (fun r51 => ?_)
                                  refine wb_gfi 216 rfl (wy_pr rfl) wt_216 wf_7_2 (v := h) ((w_up_slot (by decide)).trans ((w_up_slot (by decide)).trans (((hc38.2.2.2.1 216 2 (by decide) (by decide) (by decide) (Or.inl (by decide))).trans ((w_up_slot (by decide)).trans ((w_up_slot (by decide)).trans ((w_up_slot (by decide)).trans ((w_up_slot (by decide)).trans ((w_up_slot (by decide)).trans (((tr33.2.2.2.1 216 2 (by decide) (by decide) (by decide) (Or.inl (by decide))).trans (bh)))))))))))) (fun r52 => ?_)
                                  refine wa_iconst ?_
                                  refine wa_isub ?_
                                  refine wb_lald 218 rfl (wy_pr rfl) wt_218 (n := (S 217 (-1))) ((w_up_slot (by decide)).trans ((w_up_slot (by decide)).trans (((hc38.2.2.2.1 218 (-1) (by decide) (by decide) (by decide) (Or.inl (by decide))).trans ((w_up_slot (by decide)).trans ((w_up_slot (by decide)).trans ((w_up_slot (by decide)).trans ((w_up_slot (by decide)).trans ((w_up_slot (by decide)).trans (((tr33.2.2.2.1 218 (-1) (by decide) (by decide) (by decide) (Or.inl (by decide))).trans (bl1)))))))))))) (by omega) (by omega) (v := vy) ((w_up_slot (by decide)).trans ((w_up_slot (by decide)).trans (((hc38.2.2.2.1 218 (h - 1) (by decide) (by decide) (by decide) (Or.inl (by decide))).trans ((w_up_slot (by decide)).trans ((w_up_slot (by decide)).trans ((w_up_slot (by decide)).trans ((w_up_slot (by decide)).trans ((w_up_slot (by decide)).trans (((tr33.2.2.2.1 218 (h - 1) (by decide) (by decide) (by decide) (Or.inl (by decide))).trans (hvy)))))))))))) (fun r53 => ?_)
                                  refine wb_pfl 158 rfl (wy_pr rfl) wt_158 wf_5_17 (n := 17) rfl ⟨(by omega), (by omega)⟩ ?_
                                  refine wa_fall ⟨_, rfl⟩ ?_
                                  refine wa_aload_n (n := 0) rfl ?_
                                  refine wa_aload_n (n := 0) rfl ?_
                                  refine wb_gfi 158 rfl (wy_pr rfl) wt_158 wf_5_16 (v := ky) ((w_up_at (by decide)).trans (w_up_same _ _ _ _)) (fun r54 => ?_)
                                  refine wa_aload_n (n := 0) rfl ?_
                                  refine wb_gfl 158 rfl (wy_pr rfl) wt_158 wf_5_17 (v := vy) (w_up_same _ _ _ _) (fun r55 => ?_)
                                  refine wa_cv 158 rfl (wy_pr rfl) wt_158 (M2 := mS [217, 218]) rfl at_XL_giveValue ⟨_, rfl⟩ rfl rfl ⟨trivial, trivial, trivial, (Or.inr ⟨wy_pr rfl, mS_no rfl⟩), (Or.inr ⟨wy_pr rfl, mS_no rfl⟩), trivial, trivial⟩ trivial (fun _ _ q => mS_sub (by decide) q) (glx_215 (S := (w_up (w_up (w_up C38 158 17 (S 2 1 * 4294967296 + n)) 158 16 ky) 158 17 vy)) (k := ky) (v := vy) (h := h) (c := c) (p := p) (ba := ba) (w_CL_up (w_CL_up (w_CL_up (CL_ap2 (w_CL_up (w_CL_up (w_CL_up (w_CL_up (w_CL_up (CL_tr hC tr33) (by omega)) (by omega)) (by omega)) (by omega)) (by omega)) hc38) (by omega)) (by omega)) (by omega)) (gI_up (gI_up (gI_up hc38.2.2.2.2.2.1 (by omega) (by omega) (by omega)) (by omega) (by omega) (by omega)) (by omega) (by omega) (by omega)) ((w_up_at (by decide)).trans ((w_up_at (by decide)).trans ((w_up_at (by decide)).trans (((hc38.2.2.2.1 158 4 (by decide) (by decide) (by decide) (Or.inl (by decide))).trans ((w_up_at (by decide)).trans ((w_up_slot (by decide)).trans ((w_up_slot (by decide)).trans ((w_up_at (by decide)).trans ((w_up_at (by decide)).trans (((tr33.2.2.2.1 158 4 (by decide) (by decide) (by decide) (Or.inl (by decide))).trans (l4))))))))))))) ((w_up_at (by decide)).trans ((w_up_at (by decide)).trans ((w_up_at (by decide)).trans (((hc38.2.2.2.1 158 5 (by decide) (by decide) (by decide) (Or.inl (by decide))).trans ((w_up_at (by decide)).trans ((w_up_slot (by decide)).trans ((w_up_slot (by decide)).trans ((w_up_at (by decide)).trans ((w_up_at (by decide)).trans (((tr33.2.2.2.1 158 5 (by decide) (by decide) (by decide) (Or.inl (by decide))).trans (l5))))))))))))) ((w_up_at (by decide)).trans ((w_up_at (by decide)).trans ((w_up_at (by decide)).trans (((hc38.2.2.2.1 158 8 (by decide) (by decide) (by decide) (Or.inl (by decide))).trans ((w_up_at (by decide)).trans ((w_up_slot (by decide)).trans ((w_up_slot (by decide)).trans ((w_up_at (by decide)).trans ((w_up_at (by decide)).trans (((tr33.2.2.2.1 158 8 (by decide) (by decide) (by decide) (Or.inl (by decide))).trans (l8))))))))))))) ((w_up_slot (by decide)).trans ((w_up_slot (by decide)).trans ((w_up_slot (by decide)).trans (((hc38.2.2.2.1 215 4 (by decide) (by decide) (by decide) (Or.inl (by decide))).trans ((w_up_slot (by decide)).trans ((w_up_slot (by decide)).trans ((w_up_slot (by decide)).trans ((w_up_slot (by decide)).trans ((w_up_slot (by decide)).trans (((tr33.2.2.2.1 215 4 (by decide) (by decide) (by decide) (Or.inl (by decide))).trans (bc))))))))))))) ((w_up_slot (by decide)).trans ((w_up_slot (by decide)).trans ((w_up_slot (by decide)).trans (((hc38.2.2.2.1 220 (c - 1) (by decide) (by decide) (by decide) (Or.inl (by decide))).trans ((w_up_slot (by decide)).trans ((w_up_slot (by decide)).trans ((w_up_slot (by decide)).trans ((w_up_slot (by decide)).trans ((w_up_slot (by decide)).trans (((tr33.2.2.2.1 220 (c - 1) (by decide) (by decide) (by decide) (Or.inl (by decide))).trans (bp))))))))))))) ((((w_up_slot (by decide)).trans ((w_up_slot (by decide)).trans ((w_up_slot (by decide)).trans (((hc38.2.2.2.1 218 (-1) (by decide) (by decide) (by decide) (Or.inl (by decide))).trans ((w_up_slot (by decide)).trans ((w_up_slot (by decide)).trans ((w_up_slot (by decide)).trans ((w_up_slot (by decide)).trans ((w_up_slot (by decide)).trans (((tr33.2.2.2.1 218 (-1) (by decide) (by decide) (by decide) (Or.inl (by decide))).trans (bl1)))))))))))))).trans (((w_up_slot (by decide)).trans ((w_up_slot (by decide)).trans ((w_up_slot (by decide)).trans (((hc38.2.2.2.1 217 (-1) (by decide) (by decide) (by decide) (Or.inl (by decide))).trans ((w_up_slot (by decide)).trans ((w_up_slot (by decide)).trans ((w_up_slot (by decide)).trans ((w_up_slot (by decide)).trans ((w_up_slot (by decide)).trans (((tr33.2.2.2.1 217 (-1) (by decide) (by decide) (by decide) (Or.inl (by decide))).trans (rfl)))))))))))))).symm) (by have e : (w_up (w_up (w_up C38 158 17 (S 2 1 * 4294967296 + n)) 158 16 ky) 158 17 vy) 217 (-1) = S 217 (-1) := ((w_up_slot (by decide)).trans ((w_up_slot (by decide)).trans ((w_up_slot (by decide)).trans (((hc38.2.2.2.1 217 (-1) (by decide) (by decide) (by decide) (Or.inl (by decide))).trans ((w_up_slot (by decide)).trans ((w_up_slot (by decide)).trans ((w_up_slot (by decide)).trans ((w_up_slot (by decide)).trans ((w_up_slot (by decide)).trans (((tr33.2.2.2.1 217 (-1) (by decide) (by decide) (by decide) (Or.inl (by decide))).trans (rfl))))))))))))); rw [e]; exact ⟨bl2, bl3⟩) (by have e : (w_up (w_up (w_up C38 158 17 (S 2 1 * 4294967296 + n)) 158 16 ky) 158 17 vy) 217 (-1) = S 217 (-1) := ((w_up_slot (by decide)).trans ((w_up_slot (by decide)).trans ((w_up_slot (by decide)).trans (((hc38.2.2.2.1 217 (-1) (by decide) (by decide) (by decide) (Or.inl (by decide))).trans ((w_up_slot (by decide)).trans ((w_up_slot (by decide)).trans ((w_up_slot (by decide)).trans ((w_up_slot (by decide)).trans ((w_up_slot (by decide)).trans (((tr33.2.2.2.1 217 (-1) (by decide) (by decide) (by decide) (Or.inl (by decide))).trans (rfl))))))))))))); omega) ⟨by omega, by omega⟩ ⟨by omega, by omega⟩ ⟨by omega, by omega⟩ ⟨by omega, by omega⟩) (fun oq56 Sq56 hp57 q56 => ?_)
                                  rcases q56 with ⟨rfl, hgv56⟩
                                  show wJ _ _ _ _ _ _ _ _ _ _
                                  refine wa_return rfl ?_
                                  refine ⟨rfl, Or.inr ⟨by omega, Sq33, (w_up (w_up (w_up C38 158 17 (S 2 1 * 4294967296 + n)) 158 16 ky) 158 17 vy), tr33, ?_, ?_⟩⟩
                                  · exact txR_mk ⟨by decide, by decide⟩ hc38 (fun j i hji => (w_up_no (by omega)).trans ((w_up_no (by omega)).trans ((w_up_no (by omega)).trans (rfl))))
                                  · first | (rw [if_pos (show kd = 1 by omega), if_pos (show kd = 1 by omega)]; exact hgv56) | (rw [if_neg (show ¬ kd = 1 by omega), if_neg (show ¬ kd = 1 by omega)]; exact hgv56)
                              · skip
                                exact absurd c37 (by omega)
                            · skip
                              exact absurd c35 (by omega)
                          · skip
                            exact absurd c31 (by omega)
              · skip
                exact absurd c13 (by omega)
          · skip
            exact absurd c9 (by omega)
  · skip
    exact absurd c3 (by omega)
set_option maxHeartbeats 4000000 in
theorem cmt_73_226 {c p h kd ba m en tn ky vy ty sb gk gb : Int} (hP : xP 226 c p h S) (l4 : S 158 4 = 226) (l5 : S 158 5 = 227) (l7 : S 158 7 = kd) (l8 : S 158 8 = ba) (l12 : S 158 12 = en) (hen : 0 ≤ en ∧ en ≤ 1000) (hba : 0 ≤ ba ∧ ba < h) (h72 : S 72 1 = 73) (hm : 0 ≤ m ∧ m < 400) (hso : S 98 m = 1) (ht15 : S 72 15 = tn) (ht0 : 0 ≤ tn ∧ tn ≤ S 152 (-1) ∧ tn ≤ 100000) (ht9 : 16 ≤ S 152 (-1) ∧ S 152 (-1) ≤ 131072 ∨ (16 ≤ S 152 (-1) ∧ S 152 (-1) ≤ 262143 ∧ tn + 2 ≤ S 152 (-1))) (hky : S 228 (h - 1) = ky) (hvy : S 229 (h - 1) = vy) (hkr : -128 ≤ ky ∧ ky ≤ 127) (hvr : -9223372036854775808 ≤ vy ∧ vy ≤ 9223372036854775807) {es : List (Int × Int)} (hK : KC 87 97 93 114 115 74 73 T cs ms os S) (hw : wHo cs ms os) (hlt : cLt S Th) (hT : (Th.length : Int) ≤ 8000) (hty : 8 ≤ ty ∧ ty < 9 + (cs.length : Int)) (hmt : S 100 m = ty) (hmf : S 112 m = -1) (hms : S 99 m = sb) (hsb : sb = 0 ∨ sb = 1) (hel : en = (es.length : Int)) (heb : ba + 1 + en ≤ h) (hes : ∀ i : Nat, i < es.length → S 228 (ba + 1 + (i : Int)) = (es.getD i (0, 0)).1 ∧ S 229 (ba + 1 + (i : Int)) = (es.getD i (0, 0)).2) (hev : ∀ i : Nat, i < es.length → okV (cs.length : Int) Th S (es.getD i (0, 0))) (l9 : S 158 9 = gk) (l10 : S 158 10 = gb) (hg : okV (cs.length : Int) Th S (gk, gb)) : wJ (pe_GA xs) wY0 (mS [228, 229, 152]) (d + 6) t_XL_callMember ((pe_at t_XL_callMember.bl 0).getD (0, [])).2 [(0, (2, 158)), (1, (0, m))] [] S (fun o Z => o = .inl none ∧ ((100000 < tn + 2 ∧ w_up S 226 16 99 = Z) ∨ (¬ (100000 < tn + 2) ∧ cmE 226 h c p (h - ba) kd ky vy ((anX cs S sb gk gb ty es).getD (0, 0)).1 ((anX cs S sb gk gb ty es).getD (0, 0)).2 m en gvR S Z))) := by
  obtain ⟨⟨hC, hI⟩, ⟨bc, bc0, bc1⟩, ⟨bp, bp0, bp1⟩, ⟨bh, bh0, bh1, bh2⟩, bl1, bl2, bl3⟩ := hP
  replace bp : S 231 (c - 1) = p := bp
  replace bh : S 227 2 = h := bh
  replace bh2 : h ≤ S 228 (-1) := bh2
  replace bl1 : S 229 (-1) = S 228 (-1) := bl1
  replace bl2 : 64 ≤ S 228 (-1) := bl2
  replace bl3 : S 228 (-1) ≤ 4095 := bl3
  have hn60 := (KC_n hK).2.2
  refine wa_aload_n (n := 0) rfl ?_
  refine wb_gf4 158 rfl (wy_pr rfl) wt_158 wf_5_0 (v := 72) wl_158_0 ?_
  refine wb_gf5 72 rfl (wy_pr rfl) wt_72 wf_2_1 (v := 73) (h72) (fun r1 => ?_)
  refine wa_astore_n (n := 2) rfl ?_
  refine wa_aload_n (n := 2) rfl ?_
  refine wb_gf4 73 rfl (wy_pr rfl) wt_73 wf_3_3 (v := 96) wl_73_3 ?_
  refine wa_iconst ?_
  refine wb_aald5 96 1 rfl rfl (wy_pr rfl) wt_96 (by rw [show _ = _ from ((cl_96 hC))]; omega) wl_96_1 ?_
  refine wa_iload_n (n := 1) rfl ?_
  refine wb_iald 98 rfl (wy_pr rfl) wt_98 (n := 400) ((cl_98 hC)) (by omega) (by omega) (v := 1) (hso) (fun r2 => ?_)
  refine wa_iconst ?_
  refine wa_icmpne (w_rg0 (by omega) (by omega)) (w_rg0 (by omega) (by omega)) ⟨_, rfl⟩ (fun c3 => ?_) (fun c3 => ?_)
  · skip
    refine wa_iconst ?_
    refine wa_fall ⟨_, rfl⟩ ?_
    refine wa_istore_n (n := 3) rfl ?_
    refine wa_iload_n (n := 3) rfl ?_
    refine wa_ifne (w_rg0 (by omega) (by omega)) ⟨_, rfl⟩ (fun c4 => ?_) (fun c4 => ?_)
    · skip
      exact absurd c4 (by omega)
    · skip
      refine wa_aload_n (n := 2) rfl ?_
      refine wb_gf4 73 rfl (wy_pr rfl) wt_73 wf_3_3 (v := 96) wl_73_3 ?_
      refine wa_iconst ?_
      refine wb_aald5 96 3 rfl rfl (wy_pr rfl) wt_96 (by rw [show _ = _ from ((cl_96 hC))]; omega) wl_96_3 ?_
      refine wa_iload_n (n := 1) rfl ?_
      refine wb_iald 100 rfl (wy_pr rfl) wt_100 (n := 400) ((cl_100 hC)) (by omega) (by omega) (v := ty) (hmt) (fun r5 => ?_)
      refine wa_bipush (w_rg2 (by omega) (by omega)) ?_
      refine wa_icmpne (w_rg0 (by omega) (by omega)) (w_rg0 (by omega) (by omega)) ⟨_, rfl⟩ (fun c6 => ?_) (fun c6 => ?_)
      · skip
        refine wa_iconst ?_
        refine wa_fall ⟨_, rfl⟩ ?_
        refine wa_istore (n := 4) rfl ?_
        refine wa_iload_n (n := 3) rfl ?_
        refine wa_ifeq (w_rg0 (by omega) (by omega)) ⟨_, rfl⟩ (fun c7 => ?_) (fun c7 => ?_)
        · skip
          refine wa_iconst ?_
          refine wa_fall ⟨_, rfl⟩ ?_
          refine wa_istore (n := 5) rfl ?_
          refine wa_aload_n (n := 0) rfl ?_
          refine wb_gf4 158 rfl (wy_pr rfl) wt_158 wf_5_0 (v := 72) wl_158_0 ?_
          refine wb_gfi 72 rfl (wy_pr rfl) wt_72 wf_2_15 (v := tn) (ht15) (fun r8 => ?_)
          refine wa_iconst ?_
          refine wa_iadd ?_
          refine wb_ki (n := 100000) rfl ?_
          refine wa_icmpgt (w_rg0 (by omega) (by omega)) (w_rg0 (by omega) (by omega)) ⟨_, rfl⟩ (fun c9 => ?_) (fun c9 => ?_)
          · skip
            refine wa_aload_n (n := 0) rfl ?_
            refine wb_gf5 158 rfl (wy_pr rfl) wt_158 wf_5_4 (v := 226) (l4) (fun r10 => ?_)
            refine wa_bipush (w_rg2 (by omega) (by omega)) ?_
            refine wb_pfi 226 rfl (wy_pr rfl) wt_226 wf_8_16 (n := 16) rfl ⟨(by omega), (by omega)⟩ ?_
            refine wa_return rfl ?_
            exact ⟨rfl, Or.inl ⟨by omega, rfl⟩⟩
          · skip
            refine wa_iload_n (n := 3) rfl ?_
            refine wa_ifeq (w_rg0 (by omega) (by omega)) ⟨_, rfl⟩ (fun c11 => ?_) (fun c11 => ?_)
            · skip
              refine wa_iload (n := 4) rfl ?_
              refine wa_ifeq (w_rg0 (by omega) (by omega)) ⟨_, rfl⟩ (fun c12 => ?_) (fun c12 => ?_)
              · skip
                refine wa_aload_n (n := 0) rfl ?_
                refine wb_gf4 158 rfl (wy_pr rfl) wt_158 wf_5_0 (v := 72) wl_158_0 ?_
                refine wa_iload_n (n := 1) rfl ?_
                refine wa_aload_n (n := 0) rfl ?_
                refine wb_gfi 158 rfl (wy_pr rfl) wt_158 wf_5_12 (v := en) (l12) (fun r13 => ?_)
                refine wa_cv 72 rfl (wy_pr rfl) wt_72 (M2 := mS [152]) rfl at_XH_addTrace ⟨_, rfl⟩ rfl rfl ⟨trivial, trivial, trivial, (Or.inr ⟨wy_pr rfl, mS_no rfl⟩), (Or.inr ⟨wy_pr rfl, mS_no rfl⟩), trivial, trivial⟩ trivial (fun _ _ q => mS_sub (by decide) q) (tra (S := S) (m := m) (k := en) hI ⟨by omega, by omega⟩ ⟨by omega, by omega⟩ (by rw [ht15]; exact ht0) (by rw [ht15]; exact ht9)) (fun oq14 Sq14 hp15 q14 => ?_)
                rcases q14 with ⟨rfl, tr14⟩
                show wJ _ _ _ _ _ _ _ _ _ _
                refine wa_aload_n (n := 0) rfl ?_
                refine wa_iconst ?_
                refine wb_pfi 158 rfl (wy_pr rfl) wt_158 wf_5_16 (n := 16) rfl ⟨(by omega), (by omega)⟩ ?_
                refine wa_aload_n (n := 0) rfl ?_
                refine wb_lconst (m := 0) rfl ?_
                refine wb_pfl 158 rfl (wy_pr rfl) wt_158 wf_5_17 (n := 17) rfl ⟨(by omega), (by omega)⟩ ?_
                refine wa_iload_n (n := 3) rfl ?_
                refine wa_ifeq (w_rg0 (by omega) (by omega)) ⟨_, rfl⟩ (fun c16 => ?_) (fun c16 => ?_)
                · skip
                  refine wa_aload_n (n := 2) rfl ?_
                  refine wb_gf4 73 rfl (wy_pr rfl) wt_73 wf_3_3 (v := 96) wl_73_3 ?_
                  refine wa_bipush (w_rg2 (by omega) (by omega)) ?_
                  refine wb_aald5 96 15 rfl rfl (wy_pr rfl) wt_96 (by rw [show _ = _ from ((w_up_slot (by decide)).trans ((w_up_slot (by decide)).trans (((tr14.2.2.2.1 96 (-1) (by decide) (by decide) (by decide) (Or.inl (by decide))).trans ((cl_96 hC))))))]; omega) wl_96_15 ?_
                  refine wa_iload_n (n := 1) rfl ?_
                  refine wb_iald 112 rfl (wy_pr rfl) wt_112 (n := 400) ((w_up_slot (by decide)).trans ((w_up_slot (by decide)).trans (((tr14.2.2.2.1 112 (-1) (by decide) (by decide) (by decide) (Or.inl (by decide))).trans ((cl_112 hC)))))) (by omega) (by omega) (v := (-1)) ((w_up_slot (by decide)).trans ((w_up_slot (by decide)).trans (((tr14.2.2.2.1 112 m (by decide) (by decide) (by decide) (Or.inl (by decide))).trans (hmf))))) (fun r17 => ?_)
                  refine wa_iconst ?_
                  refine wa_icmpeq (w_rg0 (by omega) (by omega)) (w_rg0 (by omega) (by omega)) ⟨_, rfl⟩ (fun c18 => ?_) (fun c18 => ?_)
                  · skip
                    refine wa_aload_n (n := 0) rfl ?_
                    refine wa_iload_n (n := 1) rfl ?_
                    have hf2 : ∀ (j : Nat) (i : Int), j < 4000000 → j ≠ wG → j ≠ 152 → j ≠ 72 → j ≠ 158 → (w_up (w_up Sq14 158 16 0) 158 17 0) j i = S j i := fun j i a b c d e => (w_up_no (fun z => e z.1)).trans ((w_up_no (fun z => e z.1)).trans (tr14.2.2.2.1 j i a b c (Or.inl d)))
                    have el : (w_up (w_up Sq14 158 16 0) 158 17 0) 228 (-1) = S 228 (-1) := (hf2 228 _ (by first | decide | omega) (by first | decide | omega) (by first | decide | omega) (by first | decide | omega) (by first | decide | omega))
                    have el2 : (w_up (w_up Sq14 158 16 0) 158 17 0) 229 (-1) = S 229 (-1) := (hf2 229 _ (by first | decide | omega) (by first | decide | omega) (by first | decide | omega) (by first | decide | omega) (by first | decide | omega))
                    have el3 : (w_up (w_up Sq14 158 16 0) 158 17 0) 127 (-1) = S 127 (-1) := (hf2 127 _ (by first | decide | omega) (by first | decide | omega) (by first | decide | omega) (by first | decide | omega) (by first | decide | omega))
                    have e129 : (w_up (w_up Sq14 158 16 0) 158 17 0) 129 = S 129 := funext fun i => (hf2 129 _ (by first | decide | omega) (by first | decide | omega) (by first | decide | omega) (by first | decide | omega) (by first | decide | omega))
                    have hwg : wG = 1000000 := rfl
                    have hK2 : KC 87 97 93 114 115 74 73 T cs ms os (w_up (w_up Sq14 158 16 0) 158 17 0) := KC_ag hK (hf2 73 _ (by first | decide | omega) (by first | decide | omega) (by first | decide | omega) (by first | decide | omega) (by first | decide | omega)) (hf2 73 _ (by first | decide | omega) (by first | decide | omega) (by first | decide | omega) (by first | decide | omega) (by first | decide | omega)) (fun j hj => funext fun i => hf2 j i (by omega) (by omega) (by omega) (by omega) (by omega))
                    have hlt2 : cLt (w_up (w_up Sq14 158 16 0) 158 17 0) Th := ⟨fun x hx => by rw [hf2 (127 + x) (-1) (by omega) (by omega) (by omega) (by omega) (by omega), el3]; exact hlt.1 x hx, by rw [el3]; exact hlt.2⟩
                    have hok : ∀ e, okV (cs.length : Int) Th S e → okV (cs.length : Int) Th (w_up (w_up Sq14 158 16 0) 158 17 0) e := fun e z => ⟨z.1, z.2.1, fun y => by rw [e129]; exact z.2.2 y⟩
                    refine wa_cv 158 rfl (wy_pr rfl) wt_158 (M2 := fun _ => False) rfl at_XL_answer ⟨_, rfl⟩ rfl rfl ⟨trivial, trivial, trivial, (Or.inr ⟨wy_pr rfl, fun q => q⟩), (Or.inr ⟨wy_pr rfl, fun q => q⟩), trivial, trivial⟩ trivial (fun _ _ q => False.elim q) (wJ_mono (ant_73_226 (Th := Th) (S := (w_up (w_up Sq14 158 16 0) 158 17 0)) (m := m) (sb := sb) (es := es) (w_CL_up (w_CL_up (CL_tr hC tr14) (by omega)) (by omega)) hK2 hw ((w_up_slot (by decide)).trans ((w_up_slot (by decide)).trans (((tr14.2.2.2.1 72 1 (by decide) (by decide) (by decide) (Or.inr (by decide))).trans (h72))))) hlt2 hT ⟨by omega, by omega⟩ ((w_up_at (by decide)).trans ((w_up_at (by decide)).trans (((tr14.2.2.2.1 158 5 (by decide) (by decide) (by decide) (Or.inl (by decide))).trans (l5))))) ((w_up_at (by decide)).trans ((w_up_at (by decide)).trans (((tr14.2.2.2.1 158 8 (by decide) (by decide) (by decide) (Or.inl (by decide))).trans (l8))))) (((w_up_at (by decide)).trans ((w_up_at (by decide)).trans (((tr14.2.2.2.1 158 12 (by decide) (by decide) (by decide) (Or.inl (by decide))).trans (l12))))).trans hel) (by rw [el, el2]; exact bl1) (by rw [el]; exact ⟨by omega, by omega, bl3⟩) (fun i hi => ⟨(hf2 228 _ (by decide) (by decide) (by decide) (by decide) (by decide)).trans (hes i hi).1, (hf2 229 _ (by decide) (by decide) (by decide) (by decide) (by decide)).trans (hes i hi).2⟩) (fun i hi => hok _ (hev i hi)) (((w_up_at (by decide)).trans ((w_up_at (by decide)).trans ((tr14.2.2.2.1 158 9 (by decide) (by decide) (by decide) (Or.inl (by decide)))))).trans l9) (((w_up_at (by decide)).trans ((w_up_at (by decide)).trans ((tr14.2.2.2.1 158 10 (by decide) (by decide) (by decide) (Or.inl (by decide)))))).trans l10) (hok _ hg) hm ((w_up_slot (by decide)).trans ((w_up_slot (by decide)).trans (((tr14.2.2.2.1 100 m (by decide) (by decide) (by decide) (Or.inl (by decide))).trans (hmt))))) ((hf2 99 _ (by decide) (by decide) (by decide) (by decide) (by decide)).trans hms) hsb (by omega)) (fun o Z hz => (⟨hz.1, by have y := anU_cs (cs := cs) (sb := sb) (gk := gk) (gb := gb) (ty := ty) (es := es) hz.2; rw [anX_cg e129] at y; exact y⟩ : o = .inl none ∧ ((anX cs S sb gk gb ty es = none ∧ (w_up (w_up Sq14 158 16 0) 158 17 0) = Z) ∨ ∃ e1 e2 : Int, anX cs S sb gk gb ty es = some (e1, e2) ∧ w_up (w_up (w_up (w_up Sq14 158 16 0) 158 17 0) 158 16 e1) 158 17 e2 = Z)))) (fun oq19 Sq19 hp20 q19 => ?_)
                    rcases q19 with ⟨rfl, ⟨hX, rfl⟩ | ⟨e1, e2, hX, rfl⟩⟩
                    · skip
                      show wJ _ _ _ _ _ _ _ _ _ _
                      refine wa_fall ⟨_, rfl⟩ ?_
                      refine wa_aload_n (n := 0) rfl ?_
                      refine wb_gfi 158 rfl (wy_pr rfl) wt_158 wf_5_7 (v := kd) ((w_up_at (by decide)).trans ((w_up_at (by decide)).trans (((tr14.2.2.2.1 158 7 (by decide) (by decide) (by decide) (Or.inl (by decide))).trans (l7))))) (fun r21 => ?_)
                      refine wa_iconst ?_
                      refine wa_icmpne (w_rg0 (by omega) (by omega)) (w_rg0 (by omega) (by omega)) ⟨_, rfl⟩ (fun c22 => ?_) (fun c22 => ?_)
                      · skip
                        refine wa_aload_n (n := 0) rfl ?_
                        refine wa_aload_n (n := 0) rfl ?_
                        refine wb_gfi 158 rfl (wy_pr rfl) wt_158 wf_5_16 (v := 0) ((w_up_at (by decide)).trans (w_up_same _ _ _ _)) (fun r23 => ?_)
                        refine wa_aload_n (n := 0) rfl ?_
                        refine wb_gfl 158 rfl (wy_pr rfl) wt_158 wf_5_17 (v := 0) (w_up_same _ _ _ _) (fun r24 => ?_)
                        refine wa_cv 158 rfl (wy_pr rfl) wt_158 (M2 := mS [228, 229]) rfl at_XL_giveValue ⟨_, rfl⟩ rfl rfl ⟨trivial, trivial, trivial, (Or.inr ⟨wy_pr rfl, mS_no rfl⟩), (Or.inr ⟨wy_pr rfl, mS_no rfl⟩), trivial, trivial⟩ trivial (fun _ _ q => mS_sub (by decide) q) (glx_226 (S := (w_up (w_up Sq14 158 16 0) 158 17 0)) (k := 0) (v := 0) (h := h) (c := c) (p := p) (ba := ba) (w_CL_up (w_CL_up (CL_tr hC tr14) (by omega)) (by omega)) (gI_up (gI_up tr14.2.2.2.2.2.1 (by omega) (by omega) (by omega)) (by omega) (by omega) (by omega)) ((w_up_at (by decide)).trans ((w_up_at (by decide)).trans (((tr14.2.2.2.1 158 4 (by decide) (by decide) (by decide) (Or.inl (by decide))).trans (l4))))) ((w_up_at (by decide)).trans ((w_up_at (by decide)).trans (((tr14.2.2.2.1 158 5 (by decide) (by decide) (by decide) (Or.inl (by decide))).trans (l5))))) ((w_up_at (by decide)).trans ((w_up_at (by decide)).trans (((tr14.2.2.2.1 158 8 (by decide) (by decide) (by decide) (Or.inl (by decide))).trans (l8))))) ((w_up_slot (by decide)).trans ((w_up_slot (by decide)).trans (((tr14.2.2.2.1 226 4 (by decide) (by decide) (by decide) (Or.inl (by decide))).trans (bc))))) ((w_up_slot (by decide)).trans ((w_up_slot (by decide)).trans (((tr14.2.2.2.1 231 (c - 1) (by decide) (by decide) (by decide) (Or.inl (by decide))).trans (bp))))) ((((w_up_slot (by decide)).trans ((w_up_slot (by decide)).trans (((tr14.2.2.2.1 229 (-1) (by decide) (by decide) (by decide) (Or.inl (by decide))).trans (bl1)))))).trans (((w_up_slot (by decide)).trans ((w_up_slot (by decide)).trans (((tr14.2.2.2.1 228 (-1) (by decide) (by decide) (by decide) (Or.inl (by decide))).trans (rfl)))))).symm) (by have e : (w_up (w_up Sq14 158 16 0) 158 17 0) 228 (-1) = S 228 (-1) := ((w_up_slot (by decide)).trans ((w_up_slot (by decide)).trans (((tr14.2.2.2.1 228 (-1) (by decide) (by decide) (by decide) (Or.inl (by decide))).trans (rfl))))); rw [e]; exact ⟨bl2, bl3⟩) (by have e : (w_up (w_up Sq14 158 16 0) 158 17 0) 228 (-1) = S 228 (-1) := ((w_up_slot (by decide)).trans ((w_up_slot (by decide)).trans (((tr14.2.2.2.1 228 (-1) (by decide) (by decide) (by decide) (Or.inl (by decide))).trans (rfl))))); omega) ⟨by omega, by omega⟩ ⟨by omega, by omega⟩ ⟨by omega, by omega⟩ ⟨by omega, by omega⟩) (fun oq25 Sq25 hp26 q25 => ?_)
                        rcases q25 with ⟨rfl, hgv25⟩
                        show wJ _ _ _ _ _ _ _ _ _ _
                        refine wa_return rfl ?_
                        refine ⟨rfl, Or.inr ⟨by omega, Sq14, (w_up (w_up Sq14 158 16 0) 158 17 0), tr14, ?_, ?_⟩⟩
                        · exact fun j i hji => (w_up_no (by omega)).trans ((w_up_no (by omega)).trans (rfl))
                        · rw [hX]; first | (rw [if_pos (show kd = 1 by omega), if_pos (show kd = 1 by omega)]; exact hgv25) | (rw [if_neg (show ¬ kd = 1 by omega), if_neg (show ¬ kd = 1 by omega)]; exact hgv25)
                      · skip
                        refine wa_aload_n (n := 0) rfl ?_
                        refine wa_aload_n (n := 0) rfl ?_
                        refine wb_gf5 158 rfl (wy_pr rfl) wt_158 wf_5_5 (v := 227) ((w_up_at (by decide)).trans ((w_up_at (by decide)).trans (((tr14.2.2.2.1 158 5 (by decide) (by decide) (by decide) (Or.inl (by decide))).trans (l5))))) (fun r27 => ?_)
                        refine wb_gf4 227 rfl (wy_pr rfl) wt_227 wf_7_0 (v := 228) wl_227_0 ?_
                        refine wa_aload_n (n := 0) rfl ?_
                        refine wb_gf5 158 rfl (wy_pr rfl) wt_158 wf_5_5 (v := 227) ((w_up_at (by decide)).trans ((w_up_at (by decide)).trans (((tr14.2.2.2.1 158 5 (by decide) (by decide) (by decide) (Or.inl (by decide))).trans (l5))))) (fun r28 => ?_)
                        refine wb_gfi 227 rfl (wy_pr rfl) wt_227 wf_7_2 (v := h) ((w_up_slot (by decide)).trans ((w_up_slot (by decide)).trans (((tr14.2.2.2.1 227 2 (by decide) (by decide) (by decide) (Or.inl (by decide))).trans (bh))))) (fun r29 => ?_)
                        refine wa_iconst ?_
                        refine wa_isub ?_
                        refine wb_bald 228 rfl (wy_pr rfl) wt_228 (n := (S 228 (-1))) ((w_up_slot (by decide)).trans ((w_up_slot (by decide)).trans (((tr14.2.2.2.1 228 (-1) (by decide) (by decide) (by decide) (Or.inl (by decide))).trans (rfl))))) (by omega) (by omega) (v := ky) ((w_up_slot (by decide)).trans ((w_up_slot (by decide)).trans (((tr14.2.2.2.1 228 (h - 1) (by decide) (by decide) (by decide) (Or.inl (by decide))).trans (hky))))) (fun r30 => ?_)
                        refine wb_pfi 158 rfl (wy_pr rfl) wt_158 wf_5_16 (n := 16) rfl ⟨(by omega), (by omega)⟩ ?_
                        refine wa_aload_n (n := 0) rfl ?_
                        refine wa_aload_n (n := 0) rfl ?_
                        refine wb_gf5 158 rfl (wy_pr rfl) wt_158 wf_5_5 (v := 227) ((w_up_at (by decide)).trans ((w_up_at (by decide)).trans ((w_up_at (by decide)).trans (((tr14.2.2.2.1 158 5 (by decide) (by decide) (by decide) (Or.inl (by decide))).trans (l5)))))) (fun r31 => ?_)
                        refine wb_gf4 227 rfl (wy_pr rfl) wt_227 wf_7_1 (v := 229) wl_227_1 ?_
                        refine wa_aload_n (n := 0) rfl ?_
                        refine wb_gf5 158 rfl (wy_pr rfl) wt_158 wf_5_5 (v := 227) ((w_up_at (by decide)).trans ((w_up_at (by decide)).trans ((w_up_at (by decide)).trans (((tr14.2.2.2.1 158 5 (by decide) (by decide) (by decide) (Or.inl (by decide))).trans (l5)))))) (fun r32 => ?_)
                        refine wb_gfi 227 rfl (wy_pr rfl) wt_227 wf_7_2 (v := h) ((w_up_slot (by decide)).trans ((w_up_slot (by decide)).trans ((w_up_slot (by decide)).trans (((tr14.2.2.2.1 227 2 (by decide) (by decide) (by decide) (Or.inl (by decide))).trans (bh)))))) (fun r33 => ?_)
                        refine wa_iconst ?_
                        refine wa_isub ?_
                        refine wb_lald 229 rfl (wy_pr rfl) wt_229 (n := (S 228 (-1))) ((w_up_slot (by decide)).trans ((w_up_slot (by decide)).trans ((w_up_slot (by decide)).trans (((tr14.2.2.2.1 229 (-1) (by decide) (by decide) (by decide) (Or.inl (by decide))).trans (bl1)))))) (by omega) (by omega) (v := vy) ((w_up_slot (by decide)).trans ((w_up_slot (by decide)).trans ((w_up_slot (by decide)).trans (((tr14.2.2.2.1 229 (h - 1) (by decide) (by decide) (by decide) (Or.inl (by decide))).trans (hvy)))))) (fun r34 => ?_)
                        refine wb_pfl 158 rfl (wy_pr rfl) wt_158 wf_5_17 (n := 17) rfl ⟨(by omega), (by omega)⟩ ?_
                        refine wa_fall ⟨_, rfl⟩ ?_
                        refine wa_aload_n (n := 0) rfl ?_
                        refine wa_aload_n (n := 0) rfl ?_
                        refine wb_gfi 158 rfl (wy_pr rfl) wt_158 wf_5_16 (v := ky) ((w_up_at (by decide)).trans (w_up_same _ _ _ _)) (fun r35 => ?_)
                        refine wa_aload_n (n := 0) rfl ?_
                        refine wb_gfl 158 rfl (wy_pr rfl) wt_158 wf_5_17 (v := vy) (w_up_same _ _ _ _) (fun r36 => ?_)
                        refine wa_cv 158 rfl (wy_pr rfl) wt_158 (M2 := mS [228, 229]) rfl at_XL_giveValue ⟨_, rfl⟩ rfl rfl ⟨trivial, trivial, trivial, (Or.inr ⟨wy_pr rfl, mS_no rfl⟩), (Or.inr ⟨wy_pr rfl, mS_no rfl⟩), trivial, trivial⟩ trivial (fun _ _ q => mS_sub (by decide) q) (glx_226 (S := (w_up (w_up (w_up (w_up Sq14 158 16 0) 158 17 0) 158 16 ky) 158 17 vy)) (k := ky) (v := vy) (h := h) (c := c) (p := p) (ba := ba) (w_CL_up (w_CL_up (w_CL_up (w_CL_up (CL_tr hC tr14) (by omega)) (by omega)) (by omega)) (by omega)) (gI_up (gI_up (gI_up (gI_up tr14.2.2.2.2.2.1 (by omega) (by omega) (by omega)) (by omega) (by omega) (by omega)) (by omega) (by omega) (by omega)) (by omega) (by omega) (by omega)) ((w_up_at (by decide)).trans ((w_up_at (by decide)).trans ((w_up_at (by decide)).trans ((w_up_at (by decide)).trans (((tr14.2.2.2.1 158 4 (by decide) (by decide) (by decide) (Or.inl (by decide))).trans (l4))))))) ((w_up_at (by decide)).trans ((w_up_at (by decide)).trans ((w_up_at (by decide)).trans ((w_up_at (by decide)).trans (((tr14.2.2.2.1 158 5 (by decide) (by decide) (by decide) (Or.inl (by decide))).trans (l5))))))) ((w_up_at (by decide)).trans ((w_up_at (by decide)).trans ((w_up_at (by decide)).trans ((w_up_at (by decide)).trans (((tr14.2.2.2.1 158 8 (by decide) (by decide) (by decide) (Or.inl (by decide))).trans (l8))))))) ((w_up_slot (by decide)).trans ((w_up_slot (by decide)).trans ((w_up_slot (by decide)).trans ((w_up_slot (by decide)).trans (((tr14.2.2.2.1 226 4 (by decide) (by decide) (by decide) (Or.inl (by decide))).trans (bc))))))) ((w_up_slot (by decide)).trans ((w_up_slot (by decide)).trans ((w_up_slot (by decide)).trans ((w_up_slot (by decide)).trans (((tr14.2.2.2.1 231 (c - 1) (by decide) (by decide) (by decide) (Or.inl (by decide))).trans (bp))))))) ((((w_up_slot (by decide)).trans ((w_up_slot (by decide)).trans ((w_up_slot (by decide)).trans ((w_up_slot (by decide)).trans (((tr14.2.2.2.1 229 (-1) (by decide) (by decide) (by decide) (Or.inl (by decide))).trans (bl1)))))))).trans (((w_up_slot (by decide)).trans ((w_up_slot (by decide)).trans ((w_up_slot (by decide)).trans ((w_up_slot (by decide)).trans (((tr14.2.2.2.1 228 (-1) (by decide) (by decide) (by decide) (Or.inl (by decide))).trans (rfl)))))))).symm) (by have e : (w_up (w_up (w_up (w_up Sq14 158 16 0) 158 17 0) 158 16 ky) 158 17 vy) 228 (-1) = S 228 (-1) := ((w_up_slot (by decide)).trans ((w_up_slot (by decide)).trans ((w_up_slot (by decide)).trans ((w_up_slot (by decide)).trans (((tr14.2.2.2.1 228 (-1) (by decide) (by decide) (by decide) (Or.inl (by decide))).trans (rfl))))))); rw [e]; exact ⟨bl2, bl3⟩) (by have e : (w_up (w_up (w_up (w_up Sq14 158 16 0) 158 17 0) 158 16 ky) 158 17 vy) 228 (-1) = S 228 (-1) := ((w_up_slot (by decide)).trans ((w_up_slot (by decide)).trans ((w_up_slot (by decide)).trans ((w_up_slot (by decide)).trans (((tr14.2.2.2.1 228 (-1) (by decide) (by decide) (by decide) (Or.inl (by decide))).trans (rfl))))))); omega) ⟨by omega, by omega⟩ ⟨by omega, by omega⟩ ⟨by omega, by omega⟩ ⟨by omega, by omega⟩) (fun oq37 Sq37 hp38 q37 => ?_)
                        rcases q37 with ⟨rfl, hgv37⟩
                        show wJ _ _ _ _ _ _ _ _ _ _
                        refine wa_return rfl ?_
                        refine ⟨rfl, Or.inr ⟨by omega, Sq14, (w_up (w_up (w_up (w_up Sq14 158 16 0) 158 17 0) 158 16 ky) 158 17 vy), tr14, ?_, ?_⟩⟩
                        · exact fun j i hji => (w_up_no (by omega)).trans ((w_up_no (by omega)).trans ((w_up_no (by omega)).trans ((w_up_no (by omega)).trans (rfl))))
                        · rw [hX]; first | (rw [if_pos (show kd = 1 by omega), if_pos (show kd = 1 by omega)]; exact hgv37) | (rw [if_neg (show ¬ kd = 1 by omega), if_neg (show ¬ kd = 1 by omega)]; exact hgv37)
                    · skip
                      show wJ _ _ _ _ _ _ _ _ _ _
                      have hokx := anX_ok hg hev hX
                      have hok1 : 0 ≤ e1 ∧ e1 ≤ 8 := hokx.1
                      have hok2 : -9223372036854775808 ≤ e2 ∧ e2 ≤ 9223372036854775807 := hokx.2.1
                      refine wa_fall ⟨_, rfl⟩ ?_
                      refine wa_aload_n (n := 0) rfl ?_
                      refine wb_gfi 158 rfl (wy_pr rfl) wt_158 wf_5_7 (v := kd) ((w_up_at (by decide)).trans ((w_up_at (by decide)).trans ((w_up_at (by decide)).trans ((w_up_at (by decide)).trans (((tr14.2.2.2.1 158 7 (by decide) (by decide) (by decide) (Or.inl (by decide))).trans (l7))))))) (fun r39 => ?_)
                      refine wa_iconst ?_
                      refine wa_icmpne (w_rg0 (by omega) (by omega)) (w_rg0 (by omega) (by omega)) ⟨_, rfl⟩ (fun c40 => ?_) (fun c40 => ?_)
                      · skip
                        refine wa_aload_n (n := 0) rfl ?_
                        refine wa_aload_n (n := 0) rfl ?_
                        refine wb_gfi 158 rfl (wy_pr rfl) wt_158 wf_5_16 (v := e1) ((w_up_at (by decide)).trans (w_up_same _ _ _ _)) (fun r41 => ?_)
                        refine wa_aload_n (n := 0) rfl ?_
                        refine wb_gfl 158 rfl (wy_pr rfl) wt_158 wf_5_17 (v := e2) (w_up_same _ _ _ _) (fun r42 => ?_)
                        refine wa_cv 158 rfl (wy_pr rfl) wt_158 (M2 := mS [228, 229]) rfl at_XL_giveValue ⟨_, rfl⟩ rfl rfl ⟨trivial, trivial, trivial, (Or.inr ⟨wy_pr rfl, mS_no rfl⟩), (Or.inr ⟨wy_pr rfl, mS_no rfl⟩), trivial, trivial⟩ trivial (fun _ _ q => mS_sub (by decide) q) (glx_226 (S := (w_up (w_up (w_up (w_up Sq14 158 16 0) 158 17 0) 158 16 e1) 158 17 e2)) (k := e1) (v := e2) (h := h) (c := c) (p := p) (ba := ba) (w_CL_up (w_CL_up (w_CL_up (w_CL_up (CL_tr hC tr14) (by omega)) (by omega)) (by omega)) (by omega)) (gI_up (gI_up (gI_up (gI_up tr14.2.2.2.2.2.1 (by omega) (by omega) (by omega)) (by omega) (by omega) (by omega)) (by omega) (by omega) (by omega)) (by omega) (by omega) (by omega)) ((w_up_at (by decide)).trans ((w_up_at (by decide)).trans ((w_up_at (by decide)).trans ((w_up_at (by decide)).trans (((tr14.2.2.2.1 158 4 (by decide) (by decide) (by decide) (Or.inl (by decide))).trans (l4))))))) ((w_up_at (by decide)).trans ((w_up_at (by decide)).trans ((w_up_at (by decide)).trans ((w_up_at (by decide)).trans (((tr14.2.2.2.1 158 5 (by decide) (by decide) (by decide) (Or.inl (by decide))).trans (l5))))))) ((w_up_at (by decide)).trans ((w_up_at (by decide)).trans ((w_up_at (by decide)).trans ((w_up_at (by decide)).trans (((tr14.2.2.2.1 158 8 (by decide) (by decide) (by decide) (Or.inl (by decide))).trans (l8))))))) ((w_up_slot (by decide)).trans ((w_up_slot (by decide)).trans ((w_up_slot (by decide)).trans ((w_up_slot (by decide)).trans (((tr14.2.2.2.1 226 4 (by decide) (by decide) (by decide) (Or.inl (by decide))).trans (bc))))))) ((w_up_slot (by decide)).trans ((w_up_slot (by decide)).trans ((w_up_slot (by decide)).trans ((w_up_slot (by decide)).trans (((tr14.2.2.2.1 231 (c - 1) (by decide) (by decide) (by decide) (Or.inl (by decide))).trans (bp))))))) ((((w_up_slot (by decide)).trans ((w_up_slot (by decide)).trans ((w_up_slot (by decide)).trans ((w_up_slot (by decide)).trans (((tr14.2.2.2.1 229 (-1) (by decide) (by decide) (by decide) (Or.inl (by decide))).trans (bl1)))))))).trans (((w_up_slot (by decide)).trans ((w_up_slot (by decide)).trans ((w_up_slot (by decide)).trans ((w_up_slot (by decide)).trans (((tr14.2.2.2.1 228 (-1) (by decide) (by decide) (by decide) (Or.inl (by decide))).trans (rfl)))))))).symm) (by have e : (w_up (w_up (w_up (w_up Sq14 158 16 0) 158 17 0) 158 16 e1) 158 17 e2) 228 (-1) = S 228 (-1) := ((w_up_slot (by decide)).trans ((w_up_slot (by decide)).trans ((w_up_slot (by decide)).trans ((w_up_slot (by decide)).trans (((tr14.2.2.2.1 228 (-1) (by decide) (by decide) (by decide) (Or.inl (by decide))).trans (rfl))))))); rw [e]; exact ⟨bl2, bl3⟩) (by have e : (w_up (w_up (w_up (w_up Sq14 158 16 0) 158 17 0) 158 16 e1) 158 17 e2) 228 (-1) = S 228 (-1) := ((w_up_slot (by decide)).trans ((w_up_slot (by decide)).trans ((w_up_slot (by decide)).trans ((w_up_slot (by decide)).trans (((tr14.2.2.2.1 228 (-1) (by decide) (by decide) (by decide) (Or.inl (by decide))).trans (rfl))))))); omega) ⟨by omega, by omega⟩ ⟨by omega, by omega⟩ ⟨by omega, by omega⟩ ⟨by omega, by omega⟩) (fun oq43 Sq43 hp44 q43 => ?_)
                        rcases q43 with ⟨rfl, hgv43⟩
                        show wJ _ _ _ _ _ _ _ _ _ _
                        refine wa_return rfl ?_
                        refine ⟨rfl, Or.inr ⟨by omega, Sq14, (w_up (w_up (w_up (w_up Sq14 158 16 0) 158 17 0) 158 16 e1) 158 17 e2), tr14, ?_, ?_⟩⟩
                        · exact fun j i hji => (w_up_no (by omega)).trans ((w_up_no (by omega)).trans ((w_up_no (by omega)).trans ((w_up_no (by omega)).trans (rfl))))
                        · rw [hX]; first | (rw [if_pos (show kd = 1 by omega), if_pos (show kd = 1 by omega)]; exact hgv43) | (rw [if_neg (show ¬ kd = 1 by omega), if_neg (show ¬ kd = 1 by omega)]; exact hgv43)
                      · skip
                        refine wa_aload_n (n := 0) rfl ?_
                        refine wa_aload_n (n := 0) rfl ?_
                        refine wb_gf5 158 rfl (wy_pr rfl) wt_158 wf_5_5 (v := 227) ((w_up_at (by decide)).trans ((w_up_at (by decide)).trans ((w_up_at (by decide)).trans ((w_up_at (by decide)).trans (((tr14.2.2.2.1 158 5 (by decide) (by decide) (by decide) (Or.inl (by decide))).trans (l5))))))) (fun r45 => ?_)
                        refine wb_gf4 227 rfl (wy_pr rfl) wt_227 wf_7_0 (v := 228) wl_227_0 ?_
                        refine wa_aload_n (n := 0) rfl ?_
                        refine wb_gf5 158 rfl (wy_pr rfl) wt_158 wf_5_5 (v := 227) ((w_up_at (by decide)).trans ((w_up_at (by decide)).trans ((w_up_at (by decide)).trans ((w_up_at (by decide)).trans (((tr14.2.2.2.1 158 5 (by decide) (by decide) (by decide) (Or.inl (by decide))).trans (l5))))))) (fun r46 => ?_)
                        refine wb_gfi 227 rfl (wy_pr rfl) wt_227 wf_7_2 (v := h) ((w_up_slot (by decide)).trans ((w_up_slot (by decide)).trans ((w_up_slot (by decide)).trans ((w_up_slot (by decide)).trans (((tr14.2.2.2.1 227 2 (by decide) (by decide) (by decide) (Or.inl (by decide))).trans (bh))))))) (fun r47 => ?_)
                        refine wa_iconst ?_
                        refine wa_isub ?_
                        refine wb_bald 228 rfl (wy_pr rfl) wt_228 (n := (S 228 (-1))) ((w_up_slot (by decide)).trans ((w_up_slot (by decide)).trans ((w_up_slot (by decide)).trans ((w_up_slot (by decide)).trans (((tr14.2.2.2.1 228 (-1) (by decide) (by decide) (by decide) (Or.inl (by decide))).trans (rfl))))))) (by omega) (by omega) (v := ky) ((w_up_slot (by decide)).trans ((w_up_slot (by decide)).trans ((w_up_slot (by decide)).trans ((w_up_slot (by decide)).trans (((tr14.2.2.2.1 228 (h - 1) (by decide) (by decide) (by decide) (Or.inl (by decide))).trans (hky))))))) (fun r48 => ?_)
                        refine wb_pfi 158 rfl (wy_pr rfl) wt_158 wf_5_16 (n := 16) rfl ⟨(by omega), (by omega)⟩ ?_
                        refine wa_aload_n (n := 0) rfl ?_
                        refine wa_aload_n (n := 0) rfl ?_
                        refine wb_gf5 158 rfl (wy_pr rfl) wt_158 wf_5_5 (v := 227) ((w_up_at (by decide)).trans ((w_up_at (by decide)).trans ((w_up_at (by decide)).trans ((w_up_at (by decide)).trans ((w_up_at (by decide)).trans (((tr14.2.2.2.1 158 5 (by decide) (by decide) (by decide) (Or.inl (by decide))).trans (l5)))))))) (fun r49 => ?_)
                        refine wb_gf4 227 rfl (wy_pr rfl) wt_227 wf_7_1 (v := 229) wl_227_1 ?_
                        refine wa_aload_n (n := 0) rfl ?_
                        refine wb_gf5 158 rfl (wy_pr rfl) wt_158 wf_5_5 (v := 227) ((w_up_at (by decide)).trans ((w_up_at (by decide)).trans ((w_up_at (by decide)).trans ((w_up_at (by decide)).trans ((w_up_at (by decide)).trans (((tr14.2.2.2.1 158 5 (by decide) (by decide) (by decide) (Or.inl (by decide))).trans (l5)))))))) (fun r50 => ?_)
                        refine wb_gfi 227 rfl (wy_pr rfl) wt_227 wf_7_2 (v := h) ((w_up_slot (by decide)).trans ((w_up_slot (by decide)).trans ((w_up_slot (by decide)).trans ((w_up_slot (by decide)).trans ((w_up_slot (by decide)).trans (((tr14.2.2.2.1 227 2 (by decide) (by decide) (by decide) (Or.inl (by decide))).trans (bh)))))))) (fun r51 => ?_)
                        refine wa_iconst ?_
                        refine wa_isub ?_
                        refine wb_lald 229 rfl (wy_pr rfl) wt_229 (n := (S 228 (-1))) ((w_up_slot (by decide)).trans ((w_up_slot (by decide)).trans ((w_up_slot (by decide)).trans ((w_up_slot (by decide)).trans ((w_up_slot (by decide)).trans (((tr14.2.2.2.1 229 (-1) (by decide) (by decide) (by decide) (Or.inl (by decide))).trans (bl1)))))))) (by omega) (by omega) (v := vy) ((w_up_slot (by decide)).trans ((w_up_slot (by decide)).trans ((w_up_slot (by decide)).trans ((w_up_slot (by decide)).trans ((w_up_slot (by decide)).trans (((tr14.2.2.2.1 229 (h - 1) (by decide) (by decide) (by decide) (Or.inl (by decide))).trans (hvy)))))))) (fun r52 => ?_)
                        refine wb_pfl 158 rfl (wy_pr rfl) wt_158 wf_5_17 (n := 17) rfl ⟨(by omega), (by omega)⟩ ?_
                        refine wa_fall ⟨_, rfl⟩ ?_
                        refine wa_aload_n (n := 0) rfl ?_
                        refine wa_aload_n (n := 0) rfl ?_
                        refine wb_gfi 158 rfl (wy_pr rfl) wt_158 wf_5_16 (v := ky) ((w_up_at (by decide)).trans (w_up_same _ _ _ _)) (fun r53 => ?_)
                        refine wa_aload_n (n := 0) rfl ?_
                        refine wb_gfl 158 rfl (wy_pr rfl) wt_158 wf_5_17 (v := vy) (w_up_same _ _ _ _) (fun r54 => ?_)
                        refine wa_cv 158 rfl (wy_pr rfl) wt_158 (M2 := mS [228, 229]) rfl at_XL_giveValue ⟨_, rfl⟩ rfl rfl ⟨trivial, trivial, trivial, (Or.inr ⟨wy_pr rfl, mS_no rfl⟩), (Or.inr ⟨wy_pr rfl, mS_no rfl⟩), trivial, trivial⟩ trivial (fun _ _ q => mS_sub (by decide) q) (glx_226 (S := (w_up (w_up (w_up (w_up (w_up (w_up Sq14 158 16 0) 158 17 0) 158 16 e1) 158 17 e2) 158 16 ky) 158 17 vy)) (k := ky) (v := vy) (h := h) (c := c) (p := p) (ba := ba) (w_CL_up (w_CL_up (w_CL_up (w_CL_up (w_CL_up (w_CL_up (CL_tr hC tr14) (by omega)) (by omega)) (by omega)) (by omega)) (by omega)) (by omega)) (gI_up (gI_up (gI_up (gI_up (gI_up (gI_up tr14.2.2.2.2.2.1 (by omega) (by omega) (by omega)) (by omega) (by omega) (by omega)) (by omega) (by omega) (by omega)) (by omega) (by omega) (by omega)) (by omega) (by omega) (by omega)) (by omega) (by omega) (by omega)) ((w_up_at (by decide)).trans ((w_up_at (by decide)).trans ((w_up_at (by decide)).trans ((w_up_at (by decide)).trans ((w_up_at (by decide)).trans ((w_up_at (by decide)).trans (((tr14.2.2.2.1 158 4 (by decide) (by decide) (by decide) (Or.inl (by decide))).trans (l4))))))))) ((w_up_at (by decide)).trans ((w_up_at (by decide)).trans ((w_up_at (by decide)).trans ((w_up_at (by decide)).trans ((w_up_at (by decide)).trans ((w_up_at (by decide)).trans (((tr14.2.2.2.1 158 5 (by decide) (by decide) (by decide) (Or.inl (by decide))).trans (l5))))))))) ((w_up_at (by decide)).trans ((w_up_at (by decide)).trans ((w_up_at (by decide)).trans ((w_up_at (by decide)).trans ((w_up_at (by decide)).trans ((w_up_at (by decide)).trans (((tr14.2.2.2.1 158 8 (by decide) (by decide) (by decide) (Or.inl (by decide))).trans (l8))))))))) ((w_up_slot (by decide)).trans ((w_up_slot (by decide)).trans ((w_up_slot (by decide)).trans ((w_up_slot (by decide)).trans ((w_up_slot (by decide)).trans ((w_up_slot (by decide)).trans (((tr14.2.2.2.1 226 4 (by decide) (by decide) (by decide) (Or.inl (by decide))).trans (bc))))))))) ((w_up_slot (by decide)).trans ((w_up_slot (by decide)).trans ((w_up_slot (by decide)).trans ((w_up_slot (by decide)).trans ((w_up_slot (by decide)).trans ((w_up_slot (by decide)).trans (((tr14.2.2.2.1 231 (c - 1) (by decide) (by decide) (by decide) (Or.inl (by decide))).trans (bp))))))))) ((((w_up_slot (by decide)).trans ((w_up_slot (by decide)).trans ((w_up_slot (by decide)).trans ((w_up_slot (by decide)).trans ((w_up_slot (by decide)).trans ((w_up_slot (by decide)).trans (((tr14.2.2.2.1 229 (-1) (by decide) (by decide) (by decide) (Or.inl (by decide))).trans (bl1)))))))))).trans (((w_up_slot (by decide)).trans ((w_up_slot (by decide)).trans ((w_up_slot (by decide)).trans ((w_up_slot (by decide)).trans ((w_up_slot (by decide)).trans ((w_up_slot (by decide)).trans (((tr14.2.2.2.1 228 (-1) (by decide) (by decide) (by decide) (Or.inl (by decide))).trans (rfl)))))))))).symm) (by have e : (w_up (w_up (w_up (w_up (w_up (w_up Sq14 158 16 0) 158 17 0) 158 16 e1) 158 17 e2) 158 16 ky) 158 17 vy) 228 (-1) = S 228 (-1) := ((w_up_slot (by decide)).trans ((w_up_slot (by decide)).trans ((w_up_slot (by decide)).trans ((w_up_slot (by decide)).trans ((w_up_slot (by decide)).trans ((w_up_slot (by decide)).trans (((tr14.2.2.2.1 228 (-1) (by decide) (by decide) (by decide) (Or.inl (by decide))).trans (rfl))))))))); rw [e]; exact ⟨bl2, bl3⟩) (by have e : (w_up (w_up (w_up (w_up (w_up (w_up Sq14 158 16 0) 158 17 0) 158 16 e1) 158 17 e2) 158 16 ky) 158 17 vy) 228 (-1) = S 228 (-1) := ((w_up_slot (by decide)).trans ((w_up_slot (by decide)).trans ((w_up_slot (by decide)).trans ((w_up_slot (by decide)).trans ((w_up_slot (by decide)).trans ((w_up_slot (by decide)).trans (((tr14.2.2.2.1 228 (-1) (by decide) (by decide) (by decide) (Or.inl (by decide))).trans (rfl))))))))); omega) ⟨by omega, by omega⟩ ⟨by omega, by omega⟩ ⟨by omega, by omega⟩ ⟨by omega, by omega⟩) (fun oq55 Sq55 hp56 q55 => ?_)
                        rcases q55 with ⟨rfl, hgv55⟩
                        show wJ _ _ _ _ _ _ _ _ _ _
                        refine wa_return rfl ?_
                        refine ⟨rfl, Or.inr ⟨by omega, Sq14, (w_up (w_up (w_up (w_up (w_up (w_up Sq14 158 16 0) 158 17 0) 158 16 e1) 158 17 e2) 158 16 ky) 158 17 vy), tr14, ?_, ?_⟩⟩
                        · exact fun j i hji => (w_up_no (by omega)).trans ((w_up_no (by omega)).trans ((w_up_no (by omega)).trans ((w_up_no (by omega)).trans ((w_up_no (by omega)).trans ((w_up_no (by omega)).trans (rfl))))))
                        · rw [hX]; first | (rw [if_pos (show kd = 1 by omega), if_pos (show kd = 1 by omega)]; exact hgv55) | (rw [if_neg (show ¬ kd = 1 by omega), if_neg (show ¬ kd = 1 by omega)]; exact hgv55)
                  · skip
                    exact absurd c18 (by omega)
                · skip
                  exact absurd c16 (by omega)
              · skip
                exact absurd c12 (by omega)
            · skip
              exact absurd c11 (by omega)
        · skip
          exact absurd c7 (by omega)
      · skip
        exact absurd c6 (by omega)
  · skip
    exact absurd c3 (by omega)
set_option maxHeartbeats 4000000 in
theorem cmx_73_226 {c p h kd ba m en tn ky vy wd a0 n u2 u3 : Int} (hP : xP 226 c p h S) (l4 : S 158 4 = 226) (l5 : S 158 5 = 227) (l7 : S 158 7 = kd) (l8 : S 158 8 = ba) (l12 : S 158 12 = en) (hen : 0 ≤ en ∧ en ≤ 1000) (hba : 0 ≤ ba ∧ ba < h) (h72 : S 72 1 = 73) (hm : 0 ≤ m ∧ m < 400) (hso : S 98 m = 1) (ht15 : S 72 15 = tn) (ht0 : 0 ≤ tn ∧ tn ≤ S 152 (-1) ∧ tn ≤ 100000) (ht9 : 16 ≤ S 152 (-1) ∧ S 152 (-1) ≤ 131072 ∨ (16 ≤ S 152 (-1) ∧ S 152 (-1) ≤ 262143 ∧ tn + 2 ≤ S 152 (-1))) (hky : S 228 (h - 1) = ky) (hvy : S 229 (h - 1) = vy) (hkr : -128 ≤ ky ∧ ky ≤ 127) (hvr : -9223372036854775808 ≤ vy ∧ vy ≤ 9223372036854775807) (hx1 : pe_at (pe_GA xs).xs 1 = some (1, tx_1)) (hmt : S 100 m = 7) (hmf : S 112 m = -1) (hmw : S 111 m = wd) (hwl : S 77 (-1) = S 76 (-1)) (hwd : 0 ≤ wd ∧ wd < S 76 (-1)) (hsz : S 77 wd = n) (hst : S 76 wd = a0) (hn : 0 ≤ n ∧ n ≤ 60) (ha : 0 ≤ a0 ∧ a0 + n ≤ S 75 (-1)) (h0 : 0 ≤ S 2 1 ∧ S 2 1 ≤ S 3 (-1) ∧ 1024 ≤ S 3 (-1) ∧ S 3 (-1) ≤ 16777216) (hu2 : S 150 2 = u2) (hu3 : S 150 3 = u3) (hu2r : 0 ≤ u2 ∧ u2 ≤ 12000) (hu3r : 0 ≤ u3 ∧ u3 ≤ 200000) : wJ (pe_GA xs) wY0 (mS [228, 229, 152, 3]) (d + 6) t_XL_callMember ((pe_at t_XL_callMember.bl 0).getD (0, [])).2 [(0, (2, 158)), (1, (0, m))] [] S (fun o Z => o = .inl none ∧ (((100000 < tn + 2 ∨ 12000 ≤ u2 ∨ 200000 < u3 + n) ∧ w_up S 226 16 99 = Z) ∨ (¬ ((100000 < tn + 2 ∨ 12000 ≤ u2 ∨ 200000 < u3 + n)) ∧ cmE 226 h c p (h - ba) kd ky vy 3 (S 2 1 * 4294967296 + n) m en (txR 75 a0 n u2 u3) S Z))) := by
  obtain ⟨⟨hC, hI⟩, ⟨bc, bc0, bc1⟩, ⟨bp, bp0, bp1⟩, ⟨bh, bh0, bh1, bh2⟩, bl1, bl2, bl3⟩ := hP
  replace bp : S 231 (c - 1) = p := bp
  replace bh : S 227 2 = h := bh
  replace bh2 : h ≤ S 228 (-1) := bh2
  replace bl1 : S 229 (-1) = S 228 (-1) := bl1
  replace bl2 : 64 ≤ S 228 (-1) := bl2
  replace bl3 : S 228 (-1) ≤ 4095 := bl3
  refine wa_aload_n (n := 0) rfl ?_
  refine wb_gf4 158 rfl (wy_pr rfl) wt_158 wf_5_0 (v := 72) wl_158_0 ?_
  refine wb_gf5 72 rfl (wy_pr rfl) wt_72 wf_2_1 (v := 73) (h72) (fun r1 => ?_)
  refine wa_astore_n (n := 2) rfl ?_
  refine wa_aload_n (n := 2) rfl ?_
  refine wb_gf4 73 rfl (wy_pr rfl) wt_73 wf_3_3 (v := 96) wl_73_3 ?_
  refine wa_iconst ?_
  refine wb_aald5 96 1 rfl rfl (wy_pr rfl) wt_96 (by rw [show _ = _ from ((cl_96 hC))]; omega) wl_96_1 ?_
  refine wa_iload_n (n := 1) rfl ?_
  refine wb_iald 98 rfl (wy_pr rfl) wt_98 (n := 400) ((cl_98 hC)) (by omega) (by omega) (v := 1) (hso) (fun r2 => ?_)
  refine wa_iconst ?_
  refine wa_icmpne (w_rg0 (by omega) (by omega)) (w_rg0 (by omega) (by omega)) ⟨_, rfl⟩ (fun c3 => ?_) (fun c3 => ?_)
  · skip
    refine wa_iconst ?_
    refine wa_fall ⟨_, rfl⟩ ?_
    refine wa_istore_n (n := 3) rfl ?_
    refine wa_iload_n (n := 3) rfl ?_
    refine wa_ifne (w_rg0 (by omega) (by omega)) ⟨_, rfl⟩ (fun c4 => ?_) (fun c4 => ?_)
    · skip
      exact absurd c4 (by omega)
    · skip
      refine wa_aload_n (n := 2) rfl ?_
      refine wb_gf4 73 rfl (wy_pr rfl) wt_73 wf_3_3 (v := 96) wl_73_3 ?_
      refine wa_iconst ?_
      refine wb_aald5 96 3 rfl rfl (wy_pr rfl) wt_96 (by rw [show _ = _ from ((cl_96 hC))]; omega) wl_96_3 ?_
      refine wa_iload_n (n := 1) rfl ?_
      refine wb_iald 100 rfl (wy_pr rfl) wt_100 (n := 400) ((cl_100 hC)) (by omega) (by omega) (v := 7) (hmt) (fun r5 => ?_)
      refine wa_bipush (w_rg2 (by omega) (by omega)) ?_
      refine wa_icmpne (w_rg0 (by omega) (by omega)) (w_rg0 (by omega) (by omega)) ⟨_, rfl⟩ (fun c6 => ?_) (fun c6 => ?_)
      · skip
        exact absurd c6 (by omega)
      · skip
        refine wa_aload_n (n := 2) rfl ?_
        refine wb_gf4 73 rfl (wy_pr rfl) wt_73 wf_3_3 (v := 96) wl_73_3 ?_
        refine wa_bipush (w_rg2 (by omega) (by omega)) ?_
        refine wb_aald5 96 15 rfl rfl (wy_pr rfl) wt_96 (by rw [show _ = _ from ((cl_96 hC))]; omega) wl_96_15 ?_
        refine wa_iload_n (n := 1) rfl ?_
        refine wb_iald 112 rfl (wy_pr rfl) wt_112 (n := 400) ((cl_112 hC)) (by omega) (by omega) (v := (-1)) (hmf) (fun r7 => ?_)
        refine wa_iconst ?_
        refine wa_icmpne (w_rg0 (by omega) (by omega)) (w_rg0 (by omega) (by omega)) ⟨_, rfl⟩ (fun c8 => ?_) (fun c8 => ?_)
        · skip
          exact absurd c8 (by omega)
        · skip
          refine wa_iconst ?_
          refine wa_goto ⟨_, rfl⟩ ?_
          refine wa_istore (n := 4) rfl ?_
          refine wa_iload_n (n := 3) rfl ?_
          refine wa_ifeq (w_rg0 (by omega) (by omega)) ⟨_, rfl⟩ (fun c9 => ?_) (fun c9 => ?_)
          · skip
            refine wa_iconst ?_
            refine wa_fall ⟨_, rfl⟩ ?_
            refine wa_istore (n := 5) rfl ?_
            refine wa_aload_n (n := 0) rfl ?_
            refine wb_gf4 158 rfl (wy_pr rfl) wt_158 wf_5_0 (v := 72) wl_158_0 ?_
            refine wb_gfi 72 rfl (wy_pr rfl) wt_72 wf_2_15 (v := tn) (ht15) (fun r10 => ?_)
            refine wa_iconst ?_
            refine wa_iadd ?_
            refine wb_ki (n := 100000) rfl ?_
            refine wa_icmpgt (w_rg0 (by omega) (by omega)) (w_rg0 (by omega) (by omega)) ⟨_, rfl⟩ (fun c11 => ?_) (fun c11 => ?_)
            · skip
              refine wa_aload_n (n := 0) rfl ?_
              refine wb_gf5 158 rfl (wy_pr rfl) wt_158 wf_5_4 (v := 226) (l4) (fun r12 => ?_)
              refine wa_bipush (w_rg2 (by omega) (by omega)) ?_
              refine wb_pfi 226 rfl (wy_pr rfl) wt_226 wf_8_16 (n := 16) rfl ⟨(by omega), (by omega)⟩ ?_
              refine wa_return rfl ?_
              exact ⟨rfl, Or.inl ⟨by omega, rfl⟩⟩
            · skip
              refine wa_iload_n (n := 3) rfl ?_
              refine wa_ifeq (w_rg0 (by omega) (by omega)) ⟨_, rfl⟩ (fun c13 => ?_) (fun c13 => ?_)
              · skip
                refine wa_iload (n := 4) rfl ?_
                refine wa_ifeq (w_rg0 (by omega) (by omega)) ⟨_, rfl⟩ (fun c14 => ?_) (fun c14 => ?_)
                · skip
                  exact absurd c14 (by omega)
                · skip
                  refine wa_aload_n (n := 0) rfl ?_
                  refine wb_gf4 158 rfl (wy_pr rfl) wt_158 wf_5_0 (v := 72) wl_158_0 ?_
                  refine wa_aload_n (n := 2) rfl ?_
                  refine wb_gf4 73 rfl (wy_pr rfl) wt_73 wf_3_0 (v := 74) wl_73_0 ?_
                  refine wb_gf4 74 rfl (wy_pr rfl) wt_74 wf_9_3 (v := 77) wl_74_3 ?_
                  refine wa_aload_n (n := 2) rfl ?_
                  refine wb_gf4 73 rfl (wy_pr rfl) wt_73 wf_3_3 (v := 96) wl_73_3 ?_
                  refine wa_bipush (w_rg2 (by omega) (by omega)) ?_
                  refine wb_aald5 96 14 rfl rfl (wy_pr rfl) wt_96 (by rw [show _ = _ from ((cl_96 hC))]; omega) wl_96_14 ?_
                  refine wa_iload_n (n := 1) rfl ?_
                  refine wb_iald 111 rfl (wy_pr rfl) wt_111 (n := 400) ((cl_111 hC)) (by omega) (by omega) (v := wd) (hmw) (fun r15 => ?_)
                  refine wb_iald 77 rfl (wy_pr rfl) wt_77 (n := (S 76 (-1))) (hwl) (by omega) (by omega) (v := n) (hsz) (fun r16 => ?_)
                  refine wa_cv 72 rfl (wy_pr rfl) wt_72 (M2 := mS [228, 229, 152, 3]) rfl at_XH_hasTextRoom ⟨_, rfl⟩ rfl rfl ⟨trivial, trivial, trivial, (Or.inr ⟨wy_pr rfl, mS_no rfl⟩), (Or.inr ⟨wy_pr rfl, mS_no rfl⟩), trivial, trivial⟩ trivial (fun _ _ q => q) ?_ (fun _ _ _ q => q)
                  refine wa_aload_n (n := 0) rfl ?_
                  refine wa_iconst ?_
                  refine wa_iconst ?_
                  refine wa_cv 72 rfl (wy_pr rfl) wt_72 (M2 := mS [228, 229, 152, 3]) rfl at_XH_hasRoom ⟨_, rfl⟩ rfl rfl ⟨(Or.inr ⟨wy_pr rfl, mS_no rfl⟩), trivial, trivial⟩ trivial (fun _ _ q => q) ?_ (fun _ _ _ q => q)
                  refine wa_aload_n (n := 0) rfl ?_
                  refine wb_gf4 72 rfl (wy_pr rfl) wt_72 wf_2_10 (v := 150) wl_72_10 ?_
                  refine wa_iload_n (n := 1) rfl ?_
                  refine wb_iald 150 rfl (wy_pr rfl) wt_150 (n := 6) ((cl_150 hC)) (by omega) (by omega) (v := u2) (hu2) (fun r17 => ?_)
                  refine wa_iload_n (n := 2) rfl ?_
                  refine wa_iadd ?_
                  refine wa_gs ?_
                  refine wa_iload_n (n := 1) rfl ?_
                  refine wb_xald 1 rfl hx1 (by decide) (by omega) (by decide) (v := 12000) (by decide) (fun r18 => ?_)
                  refine wa_icmpgt (w_rg0 (by omega) (by omega)) (w_rg0 (by omega) (by omega)) ⟨_, rfl⟩ (fun c19 => ?_) (fun c19 => ?_)
                  · skip
                    refine wa_iconst ?_
                    refine wa_fall ⟨_, rfl⟩ ?_
                    refine wa_zreturn rfl (Or.inl rfl) ?_
                    show wJ _ _ _ _ _ _ _ _ _ _
                    refine wa_ifeq (w_rg0 (by omega) (by omega)) ⟨_, rfl⟩ (fun c20 => ?_) (fun c20 => ?_)
                    · skip
                      refine wa_iconst ?_
                      refine wa_fall ⟨_, rfl⟩ ?_
                      refine wa_zreturn rfl (Or.inl rfl) ?_
                      show wJ _ _ _ _ _ _ _ _ _ _
                      refine wa_ifne (w_rg0 (by omega) (by omega)) ⟨_, rfl⟩ (fun c21 => ?_) (fun c21 => ?_)
                      · skip
                        exact absurd c21 (by omega)
                      · skip
                        refine wa_fall ⟨_, rfl⟩ ?_
                        refine wa_aload_n (n := 0) rfl ?_
                        refine wb_gf5 158 rfl (wy_pr rfl) wt_158 wf_5_4 (v := 226) (l4) (fun r22 => ?_)
                        refine wa_bipush (w_rg2 (by omega) (by omega)) ?_
                        refine wb_pfi 226 rfl (wy_pr rfl) wt_226 wf_8_16 (n := 16) rfl ⟨(by omega), (by omega)⟩ ?_
                        refine wa_return rfl ?_
                        exact ⟨rfl, Or.inl ⟨by omega, rfl⟩⟩
                    · skip
                      exact absurd c20 (by omega)
                  · skip
                    refine wa_iconst ?_
                    refine wa_goto ⟨_, rfl⟩ ?_
                    refine wa_zreturn rfl (Or.inr rfl) ?_
                    show wJ _ _ _ _ _ _ _ _ _ _
                    refine wa_ifeq (w_rg0 (by omega) (by omega)) ⟨_, rfl⟩ (fun c23 => ?_) (fun c23 => ?_)
                    · skip
                      exact absurd c23 (by omega)
                    · skip
                      refine wa_aload_n (n := 0) rfl ?_
                      refine wa_iconst ?_
                      refine wa_iload_n (n := 1) rfl ?_
                      refine wa_cv 72 rfl (wy_pr rfl) wt_72 (M2 := mS [228, 229, 152, 3]) rfl at_XH_hasRoom ⟨_, rfl⟩ rfl rfl ⟨(Or.inr ⟨wy_pr rfl, mS_no rfl⟩), trivial, trivial⟩ trivial (fun _ _ q => q) ?_ (fun _ _ _ q => q)
                      refine wa_aload_n (n := 0) rfl ?_
                      refine wb_gf4 72 rfl (wy_pr rfl) wt_72 wf_2_10 (v := 150) wl_72_10 ?_
                      refine wa_iload_n (n := 1) rfl ?_
                      refine wb_iald 150 rfl (wy_pr rfl) wt_150 (n := 6) ((cl_150 hC)) (by omega) (by omega) (v := u3) (hu3) (fun r24 => ?_)
                      refine wa_iload_n (n := 2) rfl ?_
                      refine wa_iadd ?_
                      refine wa_gs ?_
                      refine wa_iload_n (n := 1) rfl ?_
                      refine wb_xald 1 rfl hx1 (by decide) (by omega) (by decide) (v := 200000) (by decide) (fun r25 => ?_)
                      refine wa_icmpgt (w_rg0 (by omega) (by omega)) (w_rg0 (by omega) (by omega)) ⟨_, rfl⟩ (fun c26 => ?_) (fun c26 => ?_)
                      · skip
                        refine wa_iconst ?_
                        refine wa_fall ⟨_, rfl⟩ ?_
                        refine wa_zreturn rfl (Or.inl rfl) ?_
                        show wJ _ _ _ _ _ _ _ _ _ _
                        refine wa_ifeq (w_rg0 (by omega) (by omega)) ⟨_, rfl⟩ (fun c27 => ?_) (fun c27 => ?_)
                        · skip
                          refine wa_iconst ?_
                          refine wa_fall ⟨_, rfl⟩ ?_
                          refine wa_zreturn rfl (Or.inl rfl) ?_
                          show wJ _ _ _ _ _ _ _ _ _ _
                          refine wa_ifne (w_rg0 (by omega) (by omega)) ⟨_, rfl⟩ (fun c28 => ?_) (fun c28 => ?_)
                          · skip
                            exact absurd c28 (by omega)
                          · skip
                            refine wa_fall ⟨_, rfl⟩ ?_
                            refine wa_aload_n (n := 0) rfl ?_
                            refine wb_gf5 158 rfl (wy_pr rfl) wt_158 wf_5_4 (v := 226) (l4) (fun r29 => ?_)
                            refine wa_bipush (w_rg2 (by omega) (by omega)) ?_
                            refine wb_pfi 226 rfl (wy_pr rfl) wt_226 wf_8_16 (n := 16) rfl ⟨(by omega), (by omega)⟩ ?_
                            refine wa_return rfl ?_
                            exact ⟨rfl, Or.inl ⟨by omega, rfl⟩⟩
                        · skip
                          exact absurd c27 (by omega)
                      · skip
                        refine wa_iconst ?_
                        refine wa_goto ⟨_, rfl⟩ ?_
                        refine wa_zreturn rfl (Or.inr rfl) ?_
                        show wJ _ _ _ _ _ _ _ _ _ _
                        refine wa_ifeq (w_rg0 (by omega) (by omega)) ⟨_, rfl⟩ (fun c30 => ?_) (fun c30 => ?_)
                        · skip
                          exact absurd c30 (by omega)
                        · skip
                          refine wa_iconst ?_
                          refine wa_goto ⟨_, rfl⟩ ?_
                          refine wa_zreturn rfl (Or.inr rfl) ?_
                          show wJ _ _ _ _ _ _ _ _ _ _
                          refine wa_ifne (w_rg0 (by omega) (by omega)) ⟨_, rfl⟩ (fun c31 => ?_) (fun c31 => ?_)
                          · skip
                            refine wa_aload_n (n := 0) rfl ?_
                            refine wb_gf4 158 rfl (wy_pr rfl) wt_158 wf_5_0 (v := 72) wl_158_0 ?_
                            refine wa_iload_n (n := 1) rfl ?_
                            refine wa_aload_n (n := 0) rfl ?_
                            refine wb_gfi 158 rfl (wy_pr rfl) wt_158 wf_5_12 (v := en) (l12) (fun r32 => ?_)
                            refine wa_cv 72 rfl (wy_pr rfl) wt_72 (M2 := mS [152]) rfl at_XH_addTrace ⟨_, rfl⟩ rfl rfl ⟨trivial, trivial, trivial, (Or.inr ⟨wy_pr rfl, mS_no rfl⟩), (Or.inr ⟨wy_pr rfl, mS_no rfl⟩), trivial, trivial⟩ trivial (fun _ _ q => mS_sub (by decide) q) (tra (S := S) (m := m) (k := en) hI ⟨by omega, by omega⟩ ⟨by omega, by omega⟩ (by rw [ht15]; exact ht0) (by rw [ht15]; exact ht9)) (fun oq33 Sq33 hp34 q33 => ?_)
                            rcases q33 with ⟨rfl, tr33⟩
                            show wJ _ _ _ _ _ _ _ _ _ _
                            refine wa_aload_n (n := 0) rfl ?_
                            refine wa_iconst ?_
                            refine wb_pfi 158 rfl (wy_pr rfl) wt_158 wf_5_16 (n := 16) rfl ⟨(by omega), (by omega)⟩ ?_
                            refine wa_aload_n (n := 0) rfl ?_
                            refine wb_lconst (m := 0) rfl ?_
                            refine wb_pfl 158 rfl (wy_pr rfl) wt_158 wf_5_17 (n := 17) rfl ⟨(by omega), (by omega)⟩ ?_
                            refine wa_iload_n (n := 3) rfl ?_
                            refine wa_ifeq (w_rg0 (by omega) (by omega)) ⟨_, rfl⟩ (fun c35 => ?_) (fun c35 => ?_)
                            · skip
                              refine wa_aload_n (n := 2) rfl ?_
                              refine wb_gf4 73 rfl (wy_pr rfl) wt_73 wf_3_3 (v := 96) wl_73_3 ?_
                              refine wa_bipush (w_rg2 (by omega) (by omega)) ?_
                              refine wb_aald5 96 15 rfl rfl (wy_pr rfl) wt_96 (by rw [show _ = _ from ((w_up_slot (by decide)).trans ((w_up_slot (by decide)).trans (((tr33.2.2.2.1 96 (-1) (by decide) (by decide) (by decide) (Or.inl (by decide))).trans ((cl_96 hC))))))]; omega) wl_96_15 ?_
                              refine wa_iload_n (n := 1) rfl ?_
                              refine wb_iald 112 rfl (wy_pr rfl) wt_112 (n := 400) ((w_up_slot (by decide)).trans ((w_up_slot (by decide)).trans (((tr33.2.2.2.1 112 (-1) (by decide) (by decide) (by decide) (Or.inl (by decide))).trans ((cl_112 hC)))))) (by omega) (by omega) (v := (-1)) ((w_up_slot (by decide)).trans ((w_up_slot (by decide)).trans (((tr33.2.2.2.1 112 m (by decide) (by decide) (by decide) (Or.inl (by decide))).trans (hmf))))) (fun r36 => ?_)
                              refine wa_iconst ?_
                              refine wa_icmpeq (w_rg0 (by omega) (by omega)) (w_rg0 (by omega) (by omega)) ⟨_, rfl⟩ (fun c37 => ?_) (fun c37 => ?_)
                              · skip
                                refine wa_aload_n (n := 0) rfl ?_
                                refine wa_iload_n (n := 1) rfl ?_
                                have hf2 : ∀ (j : Nat) (i : Int), j < 4000000 → j ≠ wG → j ≠ 152 → j ≠ 72 → j ≠ 158 → (w_up (w_up Sq33 158 16 0) 158 17 0) j i = S j i := fun j i a b c d e => (w_up_no (fun z => e z.1)).trans ((w_up_no (fun z => e z.1)).trans (tr33.2.2.2.1 j i a b c (Or.inl d)))
                                have el : (w_up (w_up Sq33 158 16 0) 158 17 0) 76 (-1) = S 76 (-1) := (hf2 76 _ (by first | decide | omega) (by first | decide | omega) (by first | decide | omega) (by first | decide | omega) (by first | decide | omega))
                                have el2 : (w_up (w_up Sq33 158 16 0) 158 17 0) 77 (-1) = S 77 (-1) := (hf2 77 _ (by first | decide | omega) (by first | decide | omega) (by first | decide | omega) (by first | decide | omega) (by first | decide | omega))
                                have el3 : (w_up (w_up Sq33 158 16 0) 158 17 0) 75 (-1) = S 75 (-1) := (hf2 75 _ (by first | decide | omega) (by first | decide | omega) (by first | decide | omega) (by first | decide | omega) (by first | decide | omega))
                                have e21 : (w_up (w_up Sq33 158 16 0) 158 17 0) 2 1 = S 2 1 := (hf2 2 _ (by first | decide | omega) (by first | decide | omega) (by first | decide | omega) (by first | decide | omega) (by first | decide | omega))
                                have e3 : (w_up (w_up Sq33 158 16 0) 158 17 0) 3 (-1) = S 3 (-1) := (hf2 3 _ (by first | decide | omega) (by first | decide | omega) (by first | decide | omega) (by first | decide | omega) (by first | decide | omega))
                                refine wa_cv 158 rfl (wy_pr rfl) wt_158 (M2 := mS [3]) rfl at_XL_answer ⟨_, rfl⟩ rfl rfl ⟨trivial, trivial, trivial, (Or.inr ⟨wy_pr rfl, mS_no rfl⟩), (Or.inr ⟨wy_pr rfl, mS_no rfl⟩), trivial, trivial⟩ trivial (fun _ _ q => mS_sub (by decide) q) (wJ_mono (anx_73 (S := (w_up (w_up Sq33 158 16 0) 158 17 0)) (m := m) (wd := wd) (a0 := a0) (n := n) (u2 := u2) (u3 := u3) (w_CL_up (w_CL_up (CL_tr hC tr33) (by omega)) (by omega)) (gI_up (gI_up tr33.2.2.2.2.2.1 (by omega) (by omega) (by omega)) (by omega) (by omega) (by omega)) ((w_up_slot (by decide)).trans ((w_up_slot (by decide)).trans (((tr33.2.2.2.1 72 1 (by decide) (by decide) (by decide) (Or.inr (by decide))).trans (h72))))) (by rw [el, el2]; exact hwl) (by rw [el]; exact hwd) ((hf2 77 _ (by decide) (by decide) (by decide) (by decide) (by decide)).trans hsz) ((hf2 76 _ (by decide) (by decide) (by decide) (by decide) (by decide)).trans hst) hn (by rw [el3]; exact ha) (by rw [e21, e3]; exact h0) ((hf2 150 _ (by decide) (by decide) (by decide) (by decide) (by decide)).trans hu2) ((hf2 150 _ (by decide) (by decide) (by decide) (by decide) (by decide)).trans hu3) ⟨by omega, by omega⟩ ⟨by omega, by omega⟩ hm ((w_up_slot (by decide)).trans ((w_up_slot (by decide)).trans (((tr33.2.2.2.1 100 m (by decide) (by decide) (by decide) (Or.inl (by decide))).trans (hmt))))) ((w_up_slot (by decide)).trans ((w_up_slot (by decide)).trans (((tr33.2.2.2.1 111 m (by decide) (by decide) (by decide) (Or.inl (by decide))).trans (hmw)))))) (fun o Z hz => (⟨hz.1, hz.2.imp (fun C y => ⟨y.1, by rw [← e21]; exact y.2⟩)⟩ : o = .inl none ∧ ∃ C : wS, ap_ag (w_up (w_up (w_up (w_up (w_up Sq33 158 16 0) 158 17 0) 150 2 (u2 + 1)) 150 3 (u3 + n)) 158 16 3) C 2 75 a0 n ∧ w_up C 158 17 (S 2 1 * 4294967296 + n) = Z))) (fun oq38 Sq38 hp39 q38 => ?_)
                                rcases q38 with ⟨rfl, C38, hc38, rfl⟩
                                show wJ _ _ _ _ _ _ _ _ _ _
                                refine wa_fall ⟨_, rfl⟩ ?_
                                refine wa_aload_n (n := 0) rfl ?_
                                refine wb_gfi 158 rfl (wy_pr rfl) wt_158 wf_5_7 (v := kd) ((w_up_at (by decide)).trans (((hc38.2.2.2.1 158 7 (by decide) (by decide) (by decide) (Or.inl (by decide))).trans ((w_up_at (by decide)).trans ((w_up_slot (by decide)).trans ((w_up_slot (by decide)).trans ((w_up_at (by decide)).trans ((w_up_at (by decide)).trans (((tr33.2.2.2.1 158 7 (by decide) (by decide) (by decide) (Or.inl (by decide))).trans (l7))))))))))) (fun r40 => ?_)
                                refine wa_iconst ?_
                                refine wa_icmpne (w_rg0 (by omega) (by omega)) (w_rg0 (by omega) (by omega)) ⟨_, rfl⟩ (fun c41 => ?_) (fun c41 => ?_)
                                · skip
                                  refine wa_aload_n (n := 0) rfl ?_
                                  refine wa_aload_n (n := 0) rfl ?_
                                  refine wb_gfi 158 rfl (wy_pr rfl) wt_158 wf_5_16 (v := 3) ((w_up_at (by decide)).trans (((hc38.2.2.2.1 158 16 (by decide) (by decide) (by decide) (Or.inl (by decide))).trans (w_up_same _ _ _ _)))) (fun r42 => ?_)
                                  refine wa_aload_n (n := 0) rfl ?_
                                  refine wb_gfl 158 rfl (wy_pr rfl) wt_158 wf_5_17 (v := (S 2 1 * 4294967296 + n)) (w_up_same _ _ _ _) (fun r43 => ?_)
                                  refine wa_cv 158 rfl (wy_pr rfl) wt_158 (M2 := mS [228, 229]) rfl at_XL_giveValue ⟨_, rfl⟩ rfl rfl ⟨trivial, trivial, trivial, (Or.inr ⟨wy_pr rfl, mS_no rfl⟩), (Or.inr ⟨wy_pr rfl, mS_no rfl⟩), trivial, trivial⟩ trivial (fun _ _ q => mS_sub (by decide) q) (glx_226 (S := (w_up C38 158 17 (S 2 1 * 4294967296 + n))) (k := 3) (v := (S 2 1 * 4294967296 + n)) (h := h) (c := c) (p := p) (ba := ba) (w_CL_up (CL_ap2 (w_CL_up (w_CL_up (w_CL_up (w_CL_up (w_CL_up (CL_tr hC tr33) (by omega)) (by omega)) (by omega)) (by omega)) (by omega)) hc38) (by omega)) (gI_up hc38.2.2.2.2.2.1 (by omega) (by omega) (by omega)) ((w_up_at (by decide)).trans (((hc38.2.2.2.1 158 4 (by decide) (by decide) (by decide) (Or.inl (by decide))).trans ((w_up_at (by decide)).trans ((w_up_slot (by decide)).trans ((w_up_slot (by decide)).trans ((w_up_at (by decide)).trans ((w_up_at (by decide)).trans (((tr33.2.2.2.1 158 4 (by decide) (by decide) (by decide) (Or.inl (by decide))).trans (l4))))))))))) ((w_up_at (by decide)).trans (((hc38.2.2.2.1 158 5 (by decide) (by decide) (by decide) (Or.inl (by decide))).trans ((w_up_at (by decide)).trans ((w_up_slot (by decide)).trans ((w_up_slot (by decide)).trans ((w_up_at (by decide)).trans ((w_up_at (by decide)).trans (((tr33.2.2.2.1 158 5 (by decide) (by decide) (by decide) (Or.inl (by decide))).trans (l5))))))))))) ((w_up_at (by decide)).trans (((hc38.2.2.2.1 158 8 (by decide) (by decide) (by decide) (Or.inl (by decide))).trans ((w_up_at (by decide)).trans ((w_up_slot (by decide)).trans ((w_up_slot (by decide)).trans ((w_up_at (by decide)).trans ((w_up_at (by decide)).trans (((tr33.2.2.2.1 158 8 (by decide) (by decide) (by decide) (Or.inl (by decide))).trans (l8))))))))))) ((w_up_slot (by decide)).trans (((hc38.2.2.2.1 226 4 (by decide) (by decide) (by decide) (Or.inl (by decide))).trans ((w_up_slot (by decide)).trans ((w_up_slot (by decide)).trans ((w_up_slot (by decide)).trans ((w_up_slot (by decide)).trans ((w_up_slot (by decide)).trans (((tr33.2.2.2.1 226 4 (by decide) (by decide) (by decide) (Or.inl (by decide))).trans (bc))))))))))) ((w_up_slot (by decide)).trans (((hc38.2.2.2.1 231 (c - 1) (by decide) (by decide) (by decide) (Or.inl (by decide))).trans ((w_up_slot (by decide)).trans ((w_up_slot (by decide)).trans ((w_up_slot (by decide)).trans ((w_up_slot (by decide)).trans ((w_up_slot (by decide)).trans (((tr33.2.2.2.1 231 (c - 1) (by decide) (by decide) (by decide) (Or.inl (by decide))).trans (bp))))))))))) ((((w_up_slot (by decide)).trans (((hc38.2.2.2.1 229 (-1) (by decide) (by decide) (by decide) (Or.inl (by decide))).trans ((w_up_slot (by decide)).trans ((w_up_slot (by decide)).trans ((w_up_slot (by decide)).trans ((w_up_slot (by decide)).trans ((w_up_slot (by decide)).trans (((tr33.2.2.2.1 229 (-1) (by decide) (by decide) (by decide) (Or.inl (by decide))).trans (bl1)))))))))))).trans (((w_up_slot (by decide)).trans (((hc38.2.2.2.1 228 (-1) (by decide) (by decide) (by decide) (Or.inl (by decide))).trans ((w_up_slot (by decide)).trans ((w_up_slot (by decide)).trans ((w_up_slot (by decide)).trans ((w_up_slot (by decide)).trans ((w_up_slot (by decide)).trans (((tr33.2.2.2.1 228 (-1) (by decide) (by decide) (by decide) (Or.inl (by decide))).trans (rfl)))))))))))).symm) (by have e : (w_up C38 158 17 (S 2 1 * 4294967296 + n)) 228 (-1) = S 228 (-1) := ((w_up_slot (by decide)).trans (((hc38.2.2.2.1 228 (-1) (by decide) (by decide) (by decide) (Or.inl (by decide))).trans ((w_up_slot (by decide)).trans ((w_up_slot (by decide)).trans ((w_up_slot (by decide)).trans ((w_up_slot (by decide)).trans ((w_up_slot (by decide)).trans (((tr33.2.2.2.1 228 (-1) (by decide) (by decide) (by decide) (Or.inl (by decide))).trans (rfl))))))))))); rw [e]; exact ⟨bl2, bl3⟩) (by have e : (w_up C38 158 17 (S 2 1 * 4294967296 + n)) 228 (-1) = S 228 (-1) := ((w_up_slot (by decide)).trans (((hc38.2.2.2.1 228 (-1) (by decide) (by decide) (by decide) (Or.inl (by decide))).trans ((w_up_slot (by decide)).trans ((w_up_slot (by decide)).trans ((w_up_slot (by decide)).trans ((w_up_slot (by decide)).trans ((w_up_slot (by decide)).trans (((tr33.2.2.2.1 228 (-1) (by decide) (by decide) (by decide) (Or.inl (by decide))).trans (rfl))))))))))); omega) ⟨by omega, by omega⟩ ⟨by omega, by omega⟩ ⟨by omega, by omega⟩ ⟨by omega, by omega⟩) (fun oq44 Sq44 hp45 q44 => ?_)
                                  rcases q44 with ⟨rfl, hgv44⟩
                                  show wJ _ _ _ _ _ _ _ _ _ _
                                  refine wa_return rfl ?_
                                  refine ⟨rfl, Or.inr ⟨by omega, Sq33, (w_up C38 158 17 (S 2 1 * 4294967296 + n)), tr33, ?_, ?_⟩⟩
                                  · exact txR_mk ⟨by decide, by decide⟩ hc38 (fun j i hji => (w_up_no (by omega)).trans (rfl))
                                  · first | (rw [if_pos (show kd = 1 by omega), if_pos (show kd = 1 by omega)]; exact hgv44) | (rw [if_neg (show ¬ kd = 1 by omega), if_neg (show ¬ kd = 1 by omega)]; exact hgv44)
                                · skip
                                  refine wa_aload_n (n := 0) rfl ?_
                                  refine wa_aload_n (n := 0) rfl ?_
                                  refine wb_gf5 158 rfl (wy_pr rfl) wt_158 wf_5_5 (v := 227) ((w_up_at (by decide)).trans (((hc38.2.2.2.1 158 5 (by decide) (by decide) (by decide) (Or.inl (by decide))).trans ((w_up_at (by decide)).trans ((w_up_slot (by decide)).trans ((w_up_slot (by decide)).trans ((w_up_at (by decide)).trans ((w_up_at (by decide)).trans (((tr33.2.2.2.1 158 5 (by decide) (by decide) (by decide) (Or.inl (by decide))).trans (l5))))))))))) (fun r46 => ?_)
                                  refine wb_gf4 227 rfl (wy_pr rfl) wt_227 wf_7_0 (v := 228) wl_227_0 ?_
                                  refine wa_aload_n (n := 0) rfl ?_
                                  refine wb_gf5 158 rfl (wy_pr rfl) wt_158 wf_5_5 (v := 227) ((w_up_at (by decide)).trans (((hc38.2.2.2.1 158 5 (by decide) (by decide) (by decide) (Or.inl (by decide))).trans ((w_up_at (by decide)).trans ((w_up_slot (by decide)).trans ((w_up_slot (by decide)).trans ((w_up_at (by decide)).trans ((w_up_at (by decide)).trans (((tr33.2.2.2.1 158 5 (by decide) (by decide) (by decide) (Or.inl (by decide))).trans (l5))))))))))) (fun r47 => ?_)
                                  refine wb_gfi 227 rfl (wy_pr rfl) wt_227 wf_7_2 (v := h) ((w_up_slot (by decide)).trans (((hc38.2.2.2.1 227 2 (by decide) (by decide) (by decide) (Or.inl (by decide))).trans ((w_up_slot (by decide)).trans ((w_up_slot (by decide)).trans ((w_up_slot (by decide)).trans ((w_up_slot (by decide)).trans ((w_up_slot (by decide)).trans (((tr33.2.2.2.1 227 2 (by decide) (by decide) (by decide) (Or.inl (by decide))).trans (bh))))))))))) (fun r48 => ?_)
                                  refine wa_iconst ?_
                                  refine wa_isub ?_
                                  refine wb_bald 228 rfl (wy_pr rfl) wt_228 (n := (S 228 (-1))) ((w_up_slot (by decide)).trans (((hc38.2.2.2.1 228 (-1) (by decide) (by decide) (by decide) (Or.inl (by decide))).trans ((w_up_slot (by decide)).trans ((w_up_slot (by decide)).trans ((w_up_slot (by decide)).trans ((w_up_slot (by decide)).trans ((w_up_slot (by decide)).trans (((tr33.2.2.2.1 228 (-1) (by decide) (by decide) (by decide) (Or.inl (by decide))).trans (rfl))))))))))) (by omega) (by omega) (v := ky) ((w_up_slot (by decide)).trans (((hc38.2.2.2.1 228 (h - 1) (by decide) (by decide) (by decide) (Or.inl (by decide))).trans ((w_up_slot (by decide)).trans ((w_up_slot (by decide)).trans ((w_up_slot (by decide)).trans ((w_up_slot (by decide)).trans ((w_up_slot (by decide)).trans (((tr33.2.2.2.1 228 (h - 1) (by decide) (by decide) (by decide) (Or.inl (by decide))).trans (hky))))))))))) (fun r49 => ?_)
                                  refine wb_pfi 158 rfl (wy_pr rfl) wt_158 wf_5_16 (n := 16) rfl ⟨(by omega), (by omega)⟩ ?_
                                  refine wa_aload_n (n := 0) rfl ?_
                                  refine wa_aload_n (n := 0) rfl ?_
                                  refine wb_gf5 158 rfl (wy_pr rfl) wt_158 wf_5_5 (v := 227) ((w_up_at (by decide)).trans ((w_up_at (by decide)).trans (((hc38.2.2.2.1 158 5 (by decide) (by decide) (by decide) (Or.inl (by decide))).trans ((w_up_at (by decide)).trans ((w_up_slot (by decide)).trans ((w_up_slot (by decide)).trans ((w_up_at (by decide)).trans ((w_up_at (by decide)).trans (((tr33.2.2.2.1 158 5 (by decide) (by decide) (by decide) (Or.inl (by decide))).trans (l5)))))))))))) (fun r50 => ?_)
                                  refine wb_gf4 227 rfl (wy_pr rfl) wt_227 wf_7_1 (v := 229) wl_227_1 ?_
                                  refine wa_aload_n (n := 0) rfl ?_
                                  refine wb_gf5 158 rfl (wy_pr rfl) wt_158 wf_5_5 (v := 227) ((w_up_at (by decide)).trans ((w_up_at (by decide)).trans (((hc38.2.2.2.1 158 5 (by decide) (by decide) (by decide) (Or.inl (by decide))).trans ((w_up_at (by decide)).trans ((w_up_slot (by decide)).trans ((w_up_slot (by decide)).trans ((w_up_at (by decide)).trans ((w_up_at (by decide)).trans (((tr33.2.2.2.1 158 5 (by decide) (by decide) (by decide) (Or.inl (by decide))).trans (l5)))))))))))) (fun r51 => ?_)
                                  refine wb_gfi 227 rfl (wy_pr rfl) wt_227 wf_7_2 (v := h) ((w_up_slot (by decide)).trans ((w_up_slot (by decide)).trans (((hc38.2.2.2.1 227 2 (by decide) (by decide) (by decide) (Or.inl (by decide))).trans ((w_up_slot (by decide)).trans ((w_up_slot (by decide)).trans ((w_up_slot (by decide)).trans ((w_up_slot (by decide)).trans ((w_up_slot (by decide)).trans (((tr33.2.2.2.1 227 2 (by decide) (by decide) (by decide) (Or.inl (by decide))).trans (bh)))))))))))) (fun r52 => ?_)
                                  refine wa_iconst ?_
                                  refine wa_isub ?_
                                  refine wb_lald 229 rfl (wy_pr rfl) wt_229 (n := (S 228 (-1))) ((w_up_slot (by decide)).trans ((w_up_slot (by decide)).trans (((hc38.2.2.2.1 229 (-1) (by decide) (by decide) (by decide) (Or.inl (by decide))).trans ((w_up_slot (by decide)).trans ((w_up_slot (by decide)).trans ((w_up_slot (by decide)).trans ((w_up_slot (by decide)).trans ((w_up_slot (by decide)).trans (((tr33.2.2.2.1 229 (-1) (by decide) (by decide) (by decide) (Or.inl (by decide))).trans (bl1)))))))))))) (by omega) (by omega) (v := vy) ((w_up_slot (by decide)).trans ((w_up_slot (by decide)).trans (((hc38.2.2.2.1 229 (h - 1) (by decide) (by decide) (by decide) (Or.inl (by decide))).trans ((w_up_slot (by decide)).trans ((w_up_slot (by decide)).trans ((w_up_slot (by decide)).trans ((w_up_slot (by decide)).trans ((w_up_slot (by decide)).trans (((tr33.2.2.2.1 229 (h - 1) (by decide) (by decide) (by decide) (Or.inl (by decide))).trans (hvy)))))))))))) (fun r53 => ?_)
                                  refine wb_pfl 158 rfl (wy_pr rfl) wt_158 wf_5_17 (n := 17) rfl ⟨(by omega), (by omega)⟩ ?_
                                  refine wa_fall ⟨_, rfl⟩ ?_
                                  refine wa_aload_n (n := 0) rfl ?_
                                  refine wa_aload_n (n := 0) rfl ?_
                                  refine wb_gfi 158 rfl (wy_pr rfl) wt_158 wf_5_16 (v := ky) ((w_up_at (by decide)).trans (w_up_same _ _ _ _)) (fun r54 => ?_)
                                  refine wa_aload_n (n := 0) rfl ?_
                                  refine wb_gfl 158 rfl (wy_pr rfl) wt_158 wf_5_17 (v := vy) (w_up_same _ _ _ _) (fun r55 => ?_)
                                  refine wa_cv 158 rfl (wy_pr rfl) wt_158 (M2 := mS [228, 229]) rfl at_XL_giveValue ⟨_, rfl⟩ rfl rfl ⟨trivial, trivial, trivial, (Or.inr ⟨wy_pr rfl, mS_no rfl⟩), (Or.inr ⟨wy_pr rfl, mS_no rfl⟩), trivial, trivial⟩ trivial (fun _ _ q => mS_sub (by decide) q) (glx_226 (S := (w_up (w_up (w_up C38 158 17 (S 2 1 * 4294967296 + n)) 158 16 ky) 158 17 vy)) (k := ky) (v := vy) (h := h) (c := c) (p := p) (ba := ba) (w_CL_up (w_CL_up (w_CL_up (CL_ap2 (w_CL_up (w_CL_up (w_CL_up (w_CL_up (w_CL_up (CL_tr hC tr33) (by omega)) (by omega)) (by omega)) (by omega)) (by omega)) hc38) (by omega)) (by omega)) (by omega)) (gI_up (gI_up (gI_up hc38.2.2.2.2.2.1 (by omega) (by omega) (by omega)) (by omega) (by omega) (by omega)) (by omega) (by omega) (by omega)) ((w_up_at (by decide)).trans ((w_up_at (by decide)).trans ((w_up_at (by decide)).trans (((hc38.2.2.2.1 158 4 (by decide) (by decide) (by decide) (Or.inl (by decide))).trans ((w_up_at (by decide)).trans ((w_up_slot (by decide)).trans ((w_up_slot (by decide)).trans ((w_up_at (by decide)).trans ((w_up_at (by decide)).trans (((tr33.2.2.2.1 158 4 (by decide) (by decide) (by decide) (Or.inl (by decide))).trans (l4))))))))))))) ((w_up_at (by decide)).trans ((w_up_at (by decide)).trans ((w_up_at (by decide)).trans (((hc38.2.2.2.1 158 5 (by decide) (by decide) (by decide) (Or.inl (by decide))).trans ((w_up_at (by decide)).trans ((w_up_slot (by decide)).trans ((w_up_slot (by decide)).trans ((w_up_at (by decide)).trans ((w_up_at (by decide)).trans (((tr33.2.2.2.1 158 5 (by decide) (by decide) (by decide) (Or.inl (by decide))).trans (l5))))))))))))) ((w_up_at (by decide)).trans ((w_up_at (by decide)).trans ((w_up_at (by decide)).trans (((hc38.2.2.2.1 158 8 (by decide) (by decide) (by decide) (Or.inl (by decide))).trans ((w_up_at (by decide)).trans ((w_up_slot (by decide)).trans ((w_up_slot (by decide)).trans ((w_up_at (by decide)).trans ((w_up_at (by decide)).trans (((tr33.2.2.2.1 158 8 (by decide) (by decide) (by decide) (Or.inl (by decide))).trans (l8))))))))))))) ((w_up_slot (by decide)).trans ((w_up_slot (by decide)).trans ((w_up_slot (by decide)).trans (((hc38.2.2.2.1 226 4 (by decide) (by decide) (by decide) (Or.inl (by decide))).trans ((w_up_slot (by decide)).trans ((w_up_slot (by decide)).trans ((w_up_slot (by decide)).trans ((w_up_slot (by decide)).trans ((w_up_slot (by decide)).trans (((tr33.2.2.2.1 226 4 (by decide) (by decide) (by decide) (Or.inl (by decide))).trans (bc))))))))))))) ((w_up_slot (by decide)).trans ((w_up_slot (by decide)).trans ((w_up_slot (by decide)).trans (((hc38.2.2.2.1 231 (c - 1) (by decide) (by decide) (by decide) (Or.inl (by decide))).trans ((w_up_slot (by decide)).trans ((w_up_slot (by decide)).trans ((w_up_slot (by decide)).trans ((w_up_slot (by decide)).trans ((w_up_slot (by decide)).trans (((tr33.2.2.2.1 231 (c - 1) (by decide) (by decide) (by decide) (Or.inl (by decide))).trans (bp))))))))))))) ((((w_up_slot (by decide)).trans ((w_up_slot (by decide)).trans ((w_up_slot (by decide)).trans (((hc38.2.2.2.1 229 (-1) (by decide) (by decide) (by decide) (Or.inl (by decide))).trans ((w_up_slot (by decide)).trans ((w_up_slot (by decide)).trans ((w_up_slot (by decide)).trans ((w_up_slot (by decide)).trans ((w_up_slot (by decide)).trans (((tr33.2.2.2.1 229 (-1) (by decide) (by decide) (by decide) (Or.inl (by decide))).trans (bl1)))))))))))))).trans (((w_up_slot (by decide)).trans ((w_up_slot (by decide)).trans ((w_up_slot (by decide)).trans (((hc38.2.2.2.1 228 (-1) (by decide) (by decide) (by decide) (Or.inl (by decide))).trans ((w_up_slot (by decide)).trans ((w_up_slot (by decide)).trans ((w_up_slot (by decide)).trans ((w_up_slot (by decide)).trans ((w_up_slot (by decide)).trans (((tr33.2.2.2.1 228 (-1) (by decide) (by decide) (by decide) (Or.inl (by decide))).trans (rfl)))))))))))))).symm) (by have e : (w_up (w_up (w_up C38 158 17 (S 2 1 * 4294967296 + n)) 158 16 ky) 158 17 vy) 228 (-1) = S 228 (-1) := ((w_up_slot (by decide)).trans ((w_up_slot (by decide)).trans ((w_up_slot (by decide)).trans (((hc38.2.2.2.1 228 (-1) (by decide) (by decide) (by decide) (Or.inl (by decide))).trans ((w_up_slot (by decide)).trans ((w_up_slot (by decide)).trans ((w_up_slot (by decide)).trans ((w_up_slot (by decide)).trans ((w_up_slot (by decide)).trans (((tr33.2.2.2.1 228 (-1) (by decide) (by decide) (by decide) (Or.inl (by decide))).trans (rfl))))))))))))); rw [e]; exact ⟨bl2, bl3⟩) (by have e : (w_up (w_up (w_up C38 158 17 (S 2 1 * 4294967296 + n)) 158 16 ky) 158 17 vy) 228 (-1) = S 228 (-1) := ((w_up_slot (by decide)).trans ((w_up_slot (by decide)).trans ((w_up_slot (by decide)).trans (((hc38.2.2.2.1 228 (-1) (by decide) (by decide) (by decide) (Or.inl (by decide))).trans ((w_up_slot (by decide)).trans ((w_up_slot (by decide)).trans ((w_up_slot (by decide)).trans ((w_up_slot (by decide)).trans ((w_up_slot (by decide)).trans (((tr33.2.2.2.1 228 (-1) (by decide) (by decide) (by decide) (Or.inl (by decide))).trans (rfl))))))))))))); omega) ⟨by omega, by omega⟩ ⟨by omega, by omega⟩ ⟨by omega, by omega⟩ ⟨by omega, by omega⟩) (fun oq56 Sq56 hp57 q56 => ?_)
                                  rcases q56 with ⟨rfl, hgv56⟩
                                  show wJ _ _ _ _ _ _ _ _ _ _
                                  refine wa_return rfl ?_
                                  refine ⟨rfl, Or.inr ⟨by omega, Sq33, (w_up (w_up (w_up C38 158 17 (S 2 1 * 4294967296 + n)) 158 16 ky) 158 17 vy), tr33, ?_, ?_⟩⟩
                                  · exact txR_mk ⟨by decide, by decide⟩ hc38 (fun j i hji => (w_up_no (by omega)).trans ((w_up_no (by omega)).trans ((w_up_no (by omega)).trans (rfl))))
                                  · first | (rw [if_pos (show kd = 1 by omega), if_pos (show kd = 1 by omega)]; exact hgv56) | (rw [if_neg (show ¬ kd = 1 by omega), if_neg (show ¬ kd = 1 by omega)]; exact hgv56)
                              · skip
                                exact absurd c37 (by omega)
                            · skip
                              exact absurd c35 (by omega)
                          · skip
                            exact absurd c31 (by omega)
              · skip
                exact absurd c13 (by omega)
          · skip
            exact absurd c9 (by omega)
  · skip
    exact absurd c3 (by omega)
set_option maxHeartbeats 4000000 in
theorem cmt_162_215 {c p h kd ba m en tn ky vy ty sb gk gb : Int} (hP : xP 215 c p h S) (l4 : S 158 4 = 215) (l5 : S 158 5 = 216) (l7 : S 158 7 = kd) (l8 : S 158 8 = ba) (l12 : S 158 12 = en) (hen : 0 ≤ en ∧ en ≤ 1000) (hba : 0 ≤ ba ∧ ba < h) (h72 : S 72 1 = 162) (hm : 0 ≤ m ∧ m < 400) (hso : S 187 m = 1) (ht15 : S 72 15 = tn) (ht0 : 0 ≤ tn ∧ tn ≤ S 152 (-1) ∧ tn ≤ 100000) (ht9 : 16 ≤ S 152 (-1) ∧ S 152 (-1) ≤ 131072 ∨ (16 ≤ S 152 (-1) ∧ S 152 (-1) ≤ 262143 ∧ tn + 2 ≤ S 152 (-1))) (hky : S 217 (h - 1) = ky) (hvy : S 218 (h - 1) = vy) (hkr : -128 ≤ ky ∧ ky ≤ 127) (hvr : -9223372036854775808 ≤ vy ∧ vy ≤ 9223372036854775807) {es : List (Int × Int)} (hK : KC 176 186 182 203 204 163 162 T cs ms os S) (hw : wHo cs ms os) (hlt : cLt S Th) (hT : (Th.length : Int) ≤ 8000) (hty : 8 ≤ ty ∧ ty < 9 + (cs.length : Int)) (hmt : S 189 m = ty) (hmf : S 201 m = -1) (hms : S 188 m = sb) (hsb : sb = 0 ∨ sb = 1) (hel : en = (es.length : Int)) (heb : ba + 1 + en ≤ h) (hes : ∀ i : Nat, i < es.length → S 217 (ba + 1 + (i : Int)) = (es.getD i (0, 0)).1 ∧ S 218 (ba + 1 + (i : Int)) = (es.getD i (0, 0)).2) (hev : ∀ i : Nat, i < es.length → okV (cs.length : Int) Th S (es.getD i (0, 0))) (l9 : S 158 9 = gk) (l10 : S 158 10 = gb) (hg : okV (cs.length : Int) Th S (gk, gb)) : wJ (pe_GA xs) wY0 (mS [217, 218, 152]) (d + 6) t_XL_callMember ((pe_at t_XL_callMember.bl 0).getD (0, [])).2 [(0, (2, 158)), (1, (0, m))] [] S (fun o Z => o = .inl none ∧ ((100000 < tn + 2 ∧ w_up S 215 16 99 = Z) ∨ (¬ (100000 < tn + 2) ∧ cmE 215 h c p (h - ba) kd ky vy ((anX cs S sb gk gb ty es).getD (0, 0)).1 ((anX cs S sb gk gb ty es).getD (0, 0)).2 m en gvR S Z))) := by
  obtain ⟨⟨hC, hI⟩, ⟨bc, bc0, bc1⟩, ⟨bp, bp0, bp1⟩, ⟨bh, bh0, bh1, bh2⟩, bl1, bl2, bl3⟩ := hP
  replace bp : S 220 (c - 1) = p := bp
  replace bh : S 216 2 = h := bh
  replace bh2 : h ≤ S 217 (-1) := bh2
  replace bl1 : S 218 (-1) = S 217 (-1) := bl1
  replace bl2 : 64 ≤ S 217 (-1) := bl2
  replace bl3 : S 217 (-1) ≤ 4095 := bl3
  have hn60 := (KC_n hK).2.2
  refine wa_aload_n (n := 0) rfl ?_
  refine wb_gf4 158 rfl (wy_pr rfl) wt_158 wf_5_0 (v := 72) wl_158_0 ?_
  refine wb_gf5 72 rfl (wy_pr rfl) wt_72 wf_2_1 (v := 162) (h72) (fun r1 => ?_)
  refine wa_astore_n (n := 2) rfl ?_
  refine wa_aload_n (n := 2) rfl ?_
  refine wb_gf4 162 rfl (wy_pr rfl) wt_162 wf_3_3 (v := 185) wl_162_3 ?_
  refine wa_iconst ?_
  refine wb_aald5 185 1 rfl rfl (wy_pr rfl) wt_185 (by rw [show _ = _ from ((cl_185 hC))]; omega) wl_185_1 ?_
  refine wa_iload_n (n := 1) rfl ?_
  refine wb_iald 187 rfl (wy_pr rfl) wt_187 (n := 400) ((cl_187 hC)) (by omega) (by omega) (v := 1) (hso) (fun r2 => ?_)
  refine wa_iconst ?_
  refine wa_icmpne (w_rg0 (by omega) (by omega)) (w_rg0 (by omega) (by omega)) ⟨_, rfl⟩ (fun c3 => ?_) (fun c3 => ?_)
  · skip
    refine wa_iconst ?_
    refine wa_fall ⟨_, rfl⟩ ?_
    refine wa_istore_n (n := 3) rfl ?_
    refine wa_iload_n (n := 3) rfl ?_
    refine wa_ifne (w_rg0 (by omega) (by omega)) ⟨_, rfl⟩ (fun c4 => ?_) (fun c4 => ?_)
    · skip
      exact absurd c4 (by omega)
    · skip
      refine wa_aload_n (n := 2) rfl ?_
      refine wb_gf4 162 rfl (wy_pr rfl) wt_162 wf_3_3 (v := 185) wl_162_3 ?_
      refine wa_iconst ?_
      refine wb_aald5 185 3 rfl rfl (wy_pr rfl) wt_185 (by rw [show _ = _ from ((cl_185 hC))]; omega) wl_185_3 ?_
      refine wa_iload_n (n := 1) rfl ?_
      refine wb_iald 189 rfl (wy_pr rfl) wt_189 (n := 400) ((cl_189 hC)) (by omega) (by omega) (v := ty) (hmt) (fun r5 => ?_)
      refine wa_bipush (w_rg2 (by omega) (by omega)) ?_
      refine wa_icmpne (w_rg0 (by omega) (by omega)) (w_rg0 (by omega) (by omega)) ⟨_, rfl⟩ (fun c6 => ?_) (fun c6 => ?_)
      · skip
        refine wa_iconst ?_
        refine wa_fall ⟨_, rfl⟩ ?_
        refine wa_istore (n := 4) rfl ?_
        refine wa_iload_n (n := 3) rfl ?_
        refine wa_ifeq (w_rg0 (by omega) (by omega)) ⟨_, rfl⟩ (fun c7 => ?_) (fun c7 => ?_)
        · skip
          refine wa_iconst ?_
          refine wa_fall ⟨_, rfl⟩ ?_
          refine wa_istore (n := 5) rfl ?_
          refine wa_aload_n (n := 0) rfl ?_
          refine wb_gf4 158 rfl (wy_pr rfl) wt_158 wf_5_0 (v := 72) wl_158_0 ?_
          refine wb_gfi 72 rfl (wy_pr rfl) wt_72 wf_2_15 (v := tn) (ht15) (fun r8 => ?_)
          refine wa_iconst ?_
          refine wa_iadd ?_
          refine wb_ki (n := 100000) rfl ?_
          refine wa_icmpgt (w_rg0 (by omega) (by omega)) (w_rg0 (by omega) (by omega)) ⟨_, rfl⟩ (fun c9 => ?_) (fun c9 => ?_)
          · skip
            refine wa_aload_n (n := 0) rfl ?_
            refine wb_gf5 158 rfl (wy_pr rfl) wt_158 wf_5_4 (v := 215) (l4) (fun r10 => ?_)
            refine wa_bipush (w_rg2 (by omega) (by omega)) ?_
            refine wb_pfi 215 rfl (wy_pr rfl) wt_215 wf_8_16 (n := 16) rfl ⟨(by omega), (by omega)⟩ ?_
            refine wa_return rfl ?_
            exact ⟨rfl, Or.inl ⟨by omega, rfl⟩⟩
          · skip
            refine wa_iload_n (n := 3) rfl ?_
            refine wa_ifeq (w_rg0 (by omega) (by omega)) ⟨_, rfl⟩ (fun c11 => ?_) (fun c11 => ?_)
            · skip
              refine wa_iload (n := 4) rfl ?_
              refine wa_ifeq (w_rg0 (by omega) (by omega)) ⟨_, rfl⟩ (fun c12 => ?_) (fun c12 => ?_)
              · skip
                refine wa_aload_n (n := 0) rfl ?_
                refine wb_gf4 158 rfl (wy_pr rfl) wt_158 wf_5_0 (v := 72) wl_158_0 ?_
                refine wa_iload_n (n := 1) rfl ?_
                refine wa_aload_n (n := 0) rfl ?_
                refine wb_gfi 158 rfl (wy_pr rfl) wt_158 wf_5_12 (v := en) (l12) (fun r13 => ?_)
                refine wa_cv 72 rfl (wy_pr rfl) wt_72 (M2 := mS [152]) rfl at_XH_addTrace ⟨_, rfl⟩ rfl rfl ⟨trivial, trivial, trivial, (Or.inr ⟨wy_pr rfl, mS_no rfl⟩), (Or.inr ⟨wy_pr rfl, mS_no rfl⟩), trivial, trivial⟩ trivial (fun _ _ q => mS_sub (by decide) q) (tra (S := S) (m := m) (k := en) hI ⟨by omega, by omega⟩ ⟨by omega, by omega⟩ (by rw [ht15]; exact ht0) (by rw [ht15]; exact ht9)) (fun oq14 Sq14 hp15 q14 => ?_)
                rcases q14 with ⟨rfl, tr14⟩
                show wJ _ _ _ _ _ _ _ _ _ _
                refine wa_aload_n (n := 0) rfl ?_
                refine wa_iconst ?_
                refine wb_pfi 158 rfl (wy_pr rfl) wt_158 wf_5_16 (n := 16) rfl ⟨(by omega), (by omega)⟩ ?_
                refine wa_aload_n (n := 0) rfl ?_
                refine wb_lconst (m := 0) rfl ?_
                refine wb_pfl 158 rfl (wy_pr rfl) wt_158 wf_5_17 (n := 17) rfl ⟨(by omega), (by omega)⟩ ?_
                refine wa_iload_n (n := 3) rfl ?_
                refine wa_ifeq (w_rg0 (by omega) (by omega)) ⟨_, rfl⟩ (fun c16 => ?_) (fun c16 => ?_)
                · skip
                  refine wa_aload_n (n := 2) rfl ?_
                  refine wb_gf4 162 rfl (wy_pr rfl) wt_162 wf_3_3 (v := 185) wl_162_3 ?_
                  refine wa_bipush (w_rg2 (by omega) (by omega)) ?_
                  refine wb_aald5 185 15 rfl rfl (wy_pr rfl) wt_185 (by rw [show _ = _ from ((w_up_slot (by decide)).trans ((w_up_slot (by decide)).trans (((tr14.2.2.2.1 185 (-1) (by decide) (by decide) (by decide) (Or.inl (by decide))).trans ((cl_185 hC))))))]; omega) wl_185_15 ?_
                  refine wa_iload_n (n := 1) rfl ?_
                  refine wb_iald 201 rfl (wy_pr rfl) wt_201 (n := 400) ((w_up_slot (by decide)).trans ((w_up_slot (by decide)).trans (((tr14.2.2.2.1 201 (-1) (by decide) (by decide) (by decide) (Or.inl (by decide))).trans ((cl_201 hC)))))) (by omega) (by omega) (v := (-1)) ((w_up_slot (by decide)).trans ((w_up_slot (by decide)).trans (((tr14.2.2.2.1 201 m (by decide) (by decide) (by decide) (Or.inl (by decide))).trans (hmf))))) (fun r17 => ?_)
                  refine wa_iconst ?_
                  refine wa_icmpeq (w_rg0 (by omega) (by omega)) (w_rg0 (by omega) (by omega)) ⟨_, rfl⟩ (fun c18 => ?_) (fun c18 => ?_)
                  · skip
                    refine wa_aload_n (n := 0) rfl ?_
                    refine wa_iload_n (n := 1) rfl ?_
                    have hf2 : ∀ (j : Nat) (i : Int), j < 4000000 → j ≠ wG → j ≠ 152 → j ≠ 72 → j ≠ 158 → (w_up (w_up Sq14 158 16 0) 158 17 0) j i = S j i := fun j i a b c d e => (w_up_no (fun z => e z.1)).trans ((w_up_no (fun z => e z.1)).trans (tr14.2.2.2.1 j i a b c (Or.inl d)))
                    have el : (w_up (w_up Sq14 158 16 0) 158 17 0) 217 (-1) = S 217 (-1) := (hf2 217 _ (by first | decide | omega) (by first | decide | omega) (by first | decide | omega) (by first | decide | omega) (by first | decide | omega))
                    have el2 : (w_up (w_up Sq14 158 16 0) 158 17 0) 218 (-1) = S 218 (-1) := (hf2 218 _ (by first | decide | omega) (by first | decide | omega) (by first | decide | omega) (by first | decide | omega) (by first | decide | omega))
                    have el3 : (w_up (w_up Sq14 158 16 0) 158 17 0) 127 (-1) = S 127 (-1) := (hf2 127 _ (by first | decide | omega) (by first | decide | omega) (by first | decide | omega) (by first | decide | omega) (by first | decide | omega))
                    have e129 : (w_up (w_up Sq14 158 16 0) 158 17 0) 129 = S 129 := funext fun i => (hf2 129 _ (by first | decide | omega) (by first | decide | omega) (by first | decide | omega) (by first | decide | omega) (by first | decide | omega))
                    have hwg : wG = 1000000 := rfl
                    have hK2 : KC 176 186 182 203 204 163 162 T cs ms os (w_up (w_up Sq14 158 16 0) 158 17 0) := KC_ag hK (hf2 162 _ (by first | decide | omega) (by first | decide | omega) (by first | decide | omega) (by first | decide | omega) (by first | decide | omega)) (hf2 162 _ (by first | decide | omega) (by first | decide | omega) (by first | decide | omega) (by first | decide | omega) (by first | decide | omega)) (fun j hj => funext fun i => hf2 j i (by omega) (by omega) (by omega) (by omega) (by omega))
                    have hlt2 : cLt (w_up (w_up Sq14 158 16 0) 158 17 0) Th := ⟨fun x hx => by rw [hf2 (127 + x) (-1) (by omega) (by omega) (by omega) (by omega) (by omega), el3]; exact hlt.1 x hx, by rw [el3]; exact hlt.2⟩
                    have hok : ∀ e, okV (cs.length : Int) Th S e → okV (cs.length : Int) Th (w_up (w_up Sq14 158 16 0) 158 17 0) e := fun e z => ⟨z.1, z.2.1, fun y => by rw [e129]; exact z.2.2 y⟩
                    refine wa_cv 158 rfl (wy_pr rfl) wt_158 (M2 := fun _ => False) rfl at_XL_answer ⟨_, rfl⟩ rfl rfl ⟨trivial, trivial, trivial, (Or.inr ⟨wy_pr rfl, fun q => q⟩), (Or.inr ⟨wy_pr rfl, fun q => q⟩), trivial, trivial⟩ trivial (fun _ _ q => False.elim q) (wJ_mono (ant_162_215 (Th := Th) (S := (w_up (w_up Sq14 158 16 0) 158 17 0)) (m := m) (sb := sb) (es := es) (w_CL_up (w_CL_up (CL_tr hC tr14) (by omega)) (by omega)) hK2 hw ((w_up_slot (by decide)).trans ((w_up_slot (by decide)).trans (((tr14.2.2.2.1 72 1 (by decide) (by decide) (by decide) (Or.inr (by decide))).trans (h72))))) hlt2 hT ⟨by omega, by omega⟩ ((w_up_at (by decide)).trans ((w_up_at (by decide)).trans (((tr14.2.2.2.1 158 5 (by decide) (by decide) (by decide) (Or.inl (by decide))).trans (l5))))) ((w_up_at (by decide)).trans ((w_up_at (by decide)).trans (((tr14.2.2.2.1 158 8 (by decide) (by decide) (by decide) (Or.inl (by decide))).trans (l8))))) (((w_up_at (by decide)).trans ((w_up_at (by decide)).trans (((tr14.2.2.2.1 158 12 (by decide) (by decide) (by decide) (Or.inl (by decide))).trans (l12))))).trans hel) (by rw [el, el2]; exact bl1) (by rw [el]; exact ⟨by omega, by omega, bl3⟩) (fun i hi => ⟨(hf2 217 _ (by decide) (by decide) (by decide) (by decide) (by decide)).trans (hes i hi).1, (hf2 218 _ (by decide) (by decide) (by decide) (by decide) (by decide)).trans (hes i hi).2⟩) (fun i hi => hok _ (hev i hi)) (((w_up_at (by decide)).trans ((w_up_at (by decide)).trans ((tr14.2.2.2.1 158 9 (by decide) (by decide) (by decide) (Or.inl (by decide)))))).trans l9) (((w_up_at (by decide)).trans ((w_up_at (by decide)).trans ((tr14.2.2.2.1 158 10 (by decide) (by decide) (by decide) (Or.inl (by decide)))))).trans l10) (hok _ hg) hm ((w_up_slot (by decide)).trans ((w_up_slot (by decide)).trans (((tr14.2.2.2.1 189 m (by decide) (by decide) (by decide) (Or.inl (by decide))).trans (hmt))))) ((hf2 188 _ (by decide) (by decide) (by decide) (by decide) (by decide)).trans hms) hsb (by omega)) (fun o Z hz => (⟨hz.1, by have y := anU_cs (cs := cs) (sb := sb) (gk := gk) (gb := gb) (ty := ty) (es := es) hz.2; rw [anX_cg e129] at y; exact y⟩ : o = .inl none ∧ ((anX cs S sb gk gb ty es = none ∧ (w_up (w_up Sq14 158 16 0) 158 17 0) = Z) ∨ ∃ e1 e2 : Int, anX cs S sb gk gb ty es = some (e1, e2) ∧ w_up (w_up (w_up (w_up Sq14 158 16 0) 158 17 0) 158 16 e1) 158 17 e2 = Z)))) (fun oq19 Sq19 hp20 q19 => ?_)
                    rcases q19 with ⟨rfl, ⟨hX, rfl⟩ | ⟨e1, e2, hX, rfl⟩⟩
                    · skip
                      show wJ _ _ _ _ _ _ _ _ _ _
                      refine wa_fall ⟨_, rfl⟩ ?_
                      refine wa_aload_n (n := 0) rfl ?_
                      refine wb_gfi 158 rfl (wy_pr rfl) wt_158 wf_5_7 (v := kd) ((w_up_at (by decide)).trans ((w_up_at (by decide)).trans (((tr14.2.2.2.1 158 7 (by decide) (by decide) (by decide) (Or.inl (by decide))).trans (l7))))) (fun r21 => ?_)
                      refine wa_iconst ?_
                      refine wa_icmpne (w_rg0 (by omega) (by omega)) (w_rg0 (by omega) (by omega)) ⟨_, rfl⟩ (fun c22 => ?_) (fun c22 => ?_)
                      · skip
                        refine wa_aload_n (n := 0) rfl ?_
                        refine wa_aload_n (n := 0) rfl ?_
                        refine wb_gfi 158 rfl (wy_pr rfl) wt_158 wf_5_16 (v := 0) ((w_up_at (by decide)).trans (w_up_same _ _ _ _)) (fun r23 => ?_)
                        refine wa_aload_n (n := 0) rfl ?_
                        refine wb_gfl 158 rfl (wy_pr rfl) wt_158 wf_5_17 (v := 0) (w_up_same _ _ _ _) (fun r24 => ?_)
                        refine wa_cv 158 rfl (wy_pr rfl) wt_158 (M2 := mS [217, 218]) rfl at_XL_giveValue ⟨_, rfl⟩ rfl rfl ⟨trivial, trivial, trivial, (Or.inr ⟨wy_pr rfl, mS_no rfl⟩), (Or.inr ⟨wy_pr rfl, mS_no rfl⟩), trivial, trivial⟩ trivial (fun _ _ q => mS_sub (by decide) q) (glx_215 (S := (w_up (w_up Sq14 158 16 0) 158 17 0)) (k := 0) (v := 0) (h := h) (c := c) (p := p) (ba := ba) (w_CL_up (w_CL_up (CL_tr hC tr14) (by omega)) (by omega)) (gI_up (gI_up tr14.2.2.2.2.2.1 (by omega) (by omega) (by omega)) (by omega) (by omega) (by omega)) ((w_up_at (by decide)).trans ((w_up_at (by decide)).trans (((tr14.2.2.2.1 158 4 (by decide) (by decide) (by decide) (Or.inl (by decide))).trans (l4))))) ((w_up_at (by decide)).trans ((w_up_at (by decide)).trans (((tr14.2.2.2.1 158 5 (by decide) (by decide) (by decide) (Or.inl (by decide))).trans (l5))))) ((w_up_at (by decide)).trans ((w_up_at (by decide)).trans (((tr14.2.2.2.1 158 8 (by decide) (by decide) (by decide) (Or.inl (by decide))).trans (l8))))) ((w_up_slot (by decide)).trans ((w_up_slot (by decide)).trans (((tr14.2.2.2.1 215 4 (by decide) (by decide) (by decide) (Or.inl (by decide))).trans (bc))))) ((w_up_slot (by decide)).trans ((w_up_slot (by decide)).trans (((tr14.2.2.2.1 220 (c - 1) (by decide) (by decide) (by decide) (Or.inl (by decide))).trans (bp))))) ((((w_up_slot (by decide)).trans ((w_up_slot (by decide)).trans (((tr14.2.2.2.1 218 (-1) (by decide) (by decide) (by decide) (Or.inl (by decide))).trans (bl1)))))).trans (((w_up_slot (by decide)).trans ((w_up_slot (by decide)).trans (((tr14.2.2.2.1 217 (-1) (by decide) (by decide) (by decide) (Or.inl (by decide))).trans (rfl)))))).symm) (by have e : (w_up (w_up Sq14 158 16 0) 158 17 0) 217 (-1) = S 217 (-1) := ((w_up_slot (by decide)).trans ((w_up_slot (by decide)).trans (((tr14.2.2.2.1 217 (-1) (by decide) (by decide) (by decide) (Or.inl (by decide))).trans (rfl))))); rw [e]; exact ⟨bl2, bl3⟩) (by have e : (w_up (w_up Sq14 158 16 0) 158 17 0) 217 (-1) = S 217 (-1) := ((w_up_slot (by decide)).trans ((w_up_slot (by decide)).trans (((tr14.2.2.2.1 217 (-1) (by decide) (by decide) (by decide) (Or.inl (by decide))).trans (rfl))))); omega) ⟨by omega, by omega⟩ ⟨by omega, by omega⟩ ⟨by omega, by omega⟩ ⟨by omega, by omega⟩) (fun oq25 Sq25 hp26 q25 => ?_)
                        rcases q25 with ⟨rfl, hgv25⟩
                        show wJ _ _ _ _ _ _ _ _ _ _
                        refine wa_return rfl ?_
                        refine ⟨rfl, Or.inr ⟨by omega, Sq14, (w_up (w_up Sq14 158 16 0) 158 17 0), tr14, ?_, ?_⟩⟩
                        · exact fun j i hji => (w_up_no (by omega)).trans ((w_up_no (by omega)).trans (rfl))
                        · rw [hX]; first | (rw [if_pos (show kd = 1 by omega), if_pos (show kd = 1 by omega)]; exact hgv25) | (rw [if_neg (show ¬ kd = 1 by omega), if_neg (show ¬ kd = 1 by omega)]; exact hgv25)
                      · skip
                        refine wa_aload_n (n := 0) rfl ?_
                        refine wa_aload_n (n := 0) rfl ?_
                        refine wb_gf5 158 rfl (wy_pr rfl) wt_158 wf_5_5 (v := 216) ((w_up_at (by decide)).trans ((w_up_at (by decide)).trans (((tr14.2.2.2.1 158 5 (by decide) (by decide) (by decide) (Or.inl (by decide))).trans (l5))))) (fun r27 => ?_)
                        refine wb_gf4 216 rfl (wy_pr rfl) wt_216 wf_7_0 (v := 217) wl_216_0 ?_
                        refine wa_aload_n (n := 0) rfl ?_
                        refine wb_gf5 158 rfl (wy_pr rfl) wt_158 wf_5_5 (v := 216) ((w_up_at (by decide)).trans ((w_up_at (by decide)).trans (((tr14.2.2.2.1 158 5 (by decide) (by decide) (by decide) (Or.inl (by decide))).trans (l5))))) (fun r28 => ?_)
                        refine wb_gfi 216 rfl (wy_pr rfl) wt_216 wf_7_2 (v := h) ((w_up_slot (by decide)).trans ((w_up_slot (by decide)).trans (((tr14.2.2.2.1 216 2 (by decide) (by decide) (by decide) (Or.inl (by decide))).trans (bh))))) (fun r29 => ?_)
                        refine wa_iconst ?_
                        refine wa_isub ?_
                        refine wb_bald 217 rfl (wy_pr rfl) wt_217 (n := (S 217 (-1))) ((w_up_slot (by decide)).trans ((w_up_slot (by decide)).trans (((tr14.2.2.2.1 217 (-1) (by decide) (by decide) (by decide) (Or.inl (by decide))).trans (rfl))))) (by omega) (by omega) (v := ky) ((w_up_slot (by decide)).trans ((w_up_slot (by decide)).trans (((tr14.2.2.2.1 217 (h - 1) (by decide) (by decide) (by decide) (Or.inl (by decide))).trans (hky))))) (fun r30 => ?_)
                        refine wb_pfi 158 rfl (wy_pr rfl) wt_158 wf_5_16 (n := 16) rfl ⟨(by omega), (by omega)⟩ ?_
                        refine wa_aload_n (n := 0) rfl ?_
                        refine wa_aload_n (n := 0) rfl ?_
                        refine wb_gf5 158 rfl (wy_pr rfl) wt_158 wf_5_5 (v := 216) ((w_up_at (by decide)).trans ((w_up_at (by decide)).trans ((w_up_at (by decide)).trans (((tr14.2.2.2.1 158 5 (by decide) (by decide) (by decide) (Or.inl (by decide))).trans (l5)))))) (fun r31 => ?_)
                        refine wb_gf4 216 rfl (wy_pr rfl) wt_216 wf_7_1 (v := 218) wl_216_1 ?_
                        refine wa_aload_n (n := 0) rfl ?_
                        refine wb_gf5 158 rfl (wy_pr rfl) wt_158 wf_5_5 (v := 216) ((w_up_at (by decide)).trans ((w_up_at (by decide)).trans ((w_up_at (by decide)).trans (((tr14.2.2.2.1 158 5 (by decide) (by decide) (by decide) (Or.inl (by decide))).trans (l5)))))) (fun r32 => ?_)
                        refine wb_gfi 216 rfl (wy_pr rfl) wt_216 wf_7_2 (v := h) ((w_up_slot (by decide)).trans ((w_up_slot (by decide)).trans ((w_up_slot (by decide)).trans (((tr14.2.2.2.1 216 2 (by decide) (by decide) (by decide) (Or.inl (by decide))).trans (bh)))))) (fun r33 => ?_)
                        refine wa_iconst ?_
                        refine wa_isub ?_
                        refine wb_lald 218 rfl (wy_pr rfl) wt_218 (n := (S 217 (-1))) ((w_up_slot (by decide)).trans ((w_up_slot (by decide)).trans ((w_up_slot (by decide)).trans (((tr14.2.2.2.1 218 (-1) (by decide) (by decide) (by decide) (Or.inl (by decide))).trans (bl1)))))) (by omega) (by omega) (v := vy) ((w_up_slot (by decide)).trans ((w_up_slot (by decide)).trans ((w_up_slot (by decide)).trans (((tr14.2.2.2.1 218 (h - 1) (by decide) (by decide) (by decide) (Or.inl (by decide))).trans (hvy)))))) (fun r34 => ?_)
                        refine wb_pfl 158 rfl (wy_pr rfl) wt_158 wf_5_17 (n := 17) rfl ⟨(by omega), (by omega)⟩ ?_
                        refine wa_fall ⟨_, rfl⟩ ?_
                        refine wa_aload_n (n := 0) rfl ?_
                        refine wa_aload_n (n := 0) rfl ?_
                        refine wb_gfi 158 rfl (wy_pr rfl) wt_158 wf_5_16 (v := ky) ((w_up_at (by decide)).trans (w_up_same _ _ _ _)) (fun r35 => ?_)
                        refine wa_aload_n (n := 0) rfl ?_
                        refine wb_gfl 158 rfl (wy_pr rfl) wt_158 wf_5_17 (v := vy) (w_up_same _ _ _ _) (fun r36 => ?_)
                        refine wa_cv 158 rfl (wy_pr rfl) wt_158 (M2 := mS [217, 218]) rfl at_XL_giveValue ⟨_, rfl⟩ rfl rfl ⟨trivial, trivial, trivial, (Or.inr ⟨wy_pr rfl, mS_no rfl⟩), (Or.inr ⟨wy_pr rfl, mS_no rfl⟩), trivial, trivial⟩ trivial (fun _ _ q => mS_sub (by decide) q) (glx_215 (S := (w_up (w_up (w_up (w_up Sq14 158 16 0) 158 17 0) 158 16 ky) 158 17 vy)) (k := ky) (v := vy) (h := h) (c := c) (p := p) (ba := ba) (w_CL_up (w_CL_up (w_CL_up (w_CL_up (CL_tr hC tr14) (by omega)) (by omega)) (by omega)) (by omega)) (gI_up (gI_up (gI_up (gI_up tr14.2.2.2.2.2.1 (by omega) (by omega) (by omega)) (by omega) (by omega) (by omega)) (by omega) (by omega) (by omega)) (by omega) (by omega) (by omega)) ((w_up_at (by decide)).trans ((w_up_at (by decide)).trans ((w_up_at (by decide)).trans ((w_up_at (by decide)).trans (((tr14.2.2.2.1 158 4 (by decide) (by decide) (by decide) (Or.inl (by decide))).trans (l4))))))) ((w_up_at (by decide)).trans ((w_up_at (by decide)).trans ((w_up_at (by decide)).trans ((w_up_at (by decide)).trans (((tr14.2.2.2.1 158 5 (by decide) (by decide) (by decide) (Or.inl (by decide))).trans (l5))))))) ((w_up_at (by decide)).trans ((w_up_at (by decide)).trans ((w_up_at (by decide)).trans ((w_up_at (by decide)).trans (((tr14.2.2.2.1 158 8 (by decide) (by decide) (by decide) (Or.inl (by decide))).trans (l8))))))) ((w_up_slot (by decide)).trans ((w_up_slot (by decide)).trans ((w_up_slot (by decide)).trans ((w_up_slot (by decide)).trans (((tr14.2.2.2.1 215 4 (by decide) (by decide) (by decide) (Or.inl (by decide))).trans (bc))))))) ((w_up_slot (by decide)).trans ((w_up_slot (by decide)).trans ((w_up_slot (by decide)).trans ((w_up_slot (by decide)).trans (((tr14.2.2.2.1 220 (c - 1) (by decide) (by decide) (by decide) (Or.inl (by decide))).trans (bp))))))) ((((w_up_slot (by decide)).trans ((w_up_slot (by decide)).trans ((w_up_slot (by decide)).trans ((w_up_slot (by decide)).trans (((tr14.2.2.2.1 218 (-1) (by decide) (by decide) (by decide) (Or.inl (by decide))).trans (bl1)))))))).trans (((w_up_slot (by decide)).trans ((w_up_slot (by decide)).trans ((w_up_slot (by decide)).trans ((w_up_slot (by decide)).trans (((tr14.2.2.2.1 217 (-1) (by decide) (by decide) (by decide) (Or.inl (by decide))).trans (rfl)))))))).symm) (by have e : (w_up (w_up (w_up (w_up Sq14 158 16 0) 158 17 0) 158 16 ky) 158 17 vy) 217 (-1) = S 217 (-1) := ((w_up_slot (by decide)).trans ((w_up_slot (by decide)).trans ((w_up_slot (by decide)).trans ((w_up_slot (by decide)).trans (((tr14.2.2.2.1 217 (-1) (by decide) (by decide) (by decide) (Or.inl (by decide))).trans (rfl))))))); rw [e]; exact ⟨bl2, bl3⟩) (by have e : (w_up (w_up (w_up (w_up Sq14 158 16 0) 158 17 0) 158 16 ky) 158 17 vy) 217 (-1) = S 217 (-1) := ((w_up_slot (by decide)).trans ((w_up_slot (by decide)).trans ((w_up_slot (by decide)).trans ((w_up_slot (by decide)).trans (((tr14.2.2.2.1 217 (-1) (by decide) (by decide) (by decide) (Or.inl (by decide))).trans (rfl))))))); omega) ⟨by omega, by omega⟩ ⟨by omega, by omega⟩ ⟨by omega, by omega⟩ ⟨by omega, by omega⟩) (fun oq37 Sq37 hp38 q37 => ?_)
                        rcases q37 with ⟨rfl, hgv37⟩
                        show wJ _ _ _ _ _ _ _ _ _ _
                        refine wa_return rfl ?_
                        refine ⟨rfl, Or.inr ⟨by omega, Sq14, (w_up (w_up (w_up (w_up Sq14 158 16 0) 158 17 0) 158 16 ky) 158 17 vy), tr14, ?_, ?_⟩⟩
                        · exact fun j i hji => (w_up_no (by omega)).trans ((w_up_no (by omega)).trans ((w_up_no (by omega)).trans ((w_up_no (by omega)).trans (rfl))))
                        · rw [hX]; first | (rw [if_pos (show kd = 1 by omega), if_pos (show kd = 1 by omega)]; exact hgv37) | (rw [if_neg (show ¬ kd = 1 by omega), if_neg (show ¬ kd = 1 by omega)]; exact hgv37)
                    · skip
                      show wJ _ _ _ _ _ _ _ _ _ _
                      have hokx := anX_ok hg hev hX
                      have hok1 : 0 ≤ e1 ∧ e1 ≤ 8 := hokx.1
                      have hok2 : -9223372036854775808 ≤ e2 ∧ e2 ≤ 9223372036854775807 := hokx.2.1
                      refine wa_fall ⟨_, rfl⟩ ?_
                      refine wa_aload_n (n := 0) rfl ?_
                      refine wb_gfi 158 rfl (wy_pr rfl) wt_158 wf_5_7 (v := kd) ((w_up_at (by decide)).trans ((w_up_at (by decide)).trans ((w_up_at (by decide)).trans ((w_up_at (by decide)).trans (((tr14.2.2.2.1 158 7 (by decide) (by decide) (by decide) (Or.inl (by decide))).trans (l7))))))) (fun r39 => ?_)
                      refine wa_iconst ?_
                      refine wa_icmpne (w_rg0 (by omega) (by omega)) (w_rg0 (by omega) (by omega)) ⟨_, rfl⟩ (fun c40 => ?_) (fun c40 => ?_)
                      · skip
                        refine wa_aload_n (n := 0) rfl ?_
                        refine wa_aload_n (n := 0) rfl ?_
                        refine wb_gfi 158 rfl (wy_pr rfl) wt_158 wf_5_16 (v := e1) ((w_up_at (by decide)).trans (w_up_same _ _ _ _)) (fun r41 => ?_)
                        refine wa_aload_n (n := 0) rfl ?_
                        refine wb_gfl 158 rfl (wy_pr rfl) wt_158 wf_5_17 (v := e2) (w_up_same _ _ _ _) (fun r42 => ?_)
                        refine wa_cv 158 rfl (wy_pr rfl) wt_158 (M2 := mS [217, 218]) rfl at_XL_giveValue ⟨_, rfl⟩ rfl rfl ⟨trivial, trivial, trivial, (Or.inr ⟨wy_pr rfl, mS_no rfl⟩), (Or.inr ⟨wy_pr rfl, mS_no rfl⟩), trivial, trivial⟩ trivial (fun _ _ q => mS_sub (by decide) q) (glx_215 (S := (w_up (w_up (w_up (w_up Sq14 158 16 0) 158 17 0) 158 16 e1) 158 17 e2)) (k := e1) (v := e2) (h := h) (c := c) (p := p) (ba := ba) (w_CL_up (w_CL_up (w_CL_up (w_CL_up (CL_tr hC tr14) (by omega)) (by omega)) (by omega)) (by omega)) (gI_up (gI_up (gI_up (gI_up tr14.2.2.2.2.2.1 (by omega) (by omega) (by omega)) (by omega) (by omega) (by omega)) (by omega) (by omega) (by omega)) (by omega) (by omega) (by omega)) ((w_up_at (by decide)).trans ((w_up_at (by decide)).trans ((w_up_at (by decide)).trans ((w_up_at (by decide)).trans (((tr14.2.2.2.1 158 4 (by decide) (by decide) (by decide) (Or.inl (by decide))).trans (l4))))))) ((w_up_at (by decide)).trans ((w_up_at (by decide)).trans ((w_up_at (by decide)).trans ((w_up_at (by decide)).trans (((tr14.2.2.2.1 158 5 (by decide) (by decide) (by decide) (Or.inl (by decide))).trans (l5))))))) ((w_up_at (by decide)).trans ((w_up_at (by decide)).trans ((w_up_at (by decide)).trans ((w_up_at (by decide)).trans (((tr14.2.2.2.1 158 8 (by decide) (by decide) (by decide) (Or.inl (by decide))).trans (l8))))))) ((w_up_slot (by decide)).trans ((w_up_slot (by decide)).trans ((w_up_slot (by decide)).trans ((w_up_slot (by decide)).trans (((tr14.2.2.2.1 215 4 (by decide) (by decide) (by decide) (Or.inl (by decide))).trans (bc))))))) ((w_up_slot (by decide)).trans ((w_up_slot (by decide)).trans ((w_up_slot (by decide)).trans ((w_up_slot (by decide)).trans (((tr14.2.2.2.1 220 (c - 1) (by decide) (by decide) (by decide) (Or.inl (by decide))).trans (bp))))))) ((((w_up_slot (by decide)).trans ((w_up_slot (by decide)).trans ((w_up_slot (by decide)).trans ((w_up_slot (by decide)).trans (((tr14.2.2.2.1 218 (-1) (by decide) (by decide) (by decide) (Or.inl (by decide))).trans (bl1)))))))).trans (((w_up_slot (by decide)).trans ((w_up_slot (by decide)).trans ((w_up_slot (by decide)).trans ((w_up_slot (by decide)).trans (((tr14.2.2.2.1 217 (-1) (by decide) (by decide) (by decide) (Or.inl (by decide))).trans (rfl)))))))).symm) (by have e : (w_up (w_up (w_up (w_up Sq14 158 16 0) 158 17 0) 158 16 e1) 158 17 e2) 217 (-1) = S 217 (-1) := ((w_up_slot (by decide)).trans ((w_up_slot (by decide)).trans ((w_up_slot (by decide)).trans ((w_up_slot (by decide)).trans (((tr14.2.2.2.1 217 (-1) (by decide) (by decide) (by decide) (Or.inl (by decide))).trans (rfl))))))); rw [e]; exact ⟨bl2, bl3⟩) (by have e : (w_up (w_up (w_up (w_up Sq14 158 16 0) 158 17 0) 158 16 e1) 158 17 e2) 217 (-1) = S 217 (-1) := ((w_up_slot (by decide)).trans ((w_up_slot (by decide)).trans ((w_up_slot (by decide)).trans ((w_up_slot (by decide)).trans (((tr14.2.2.2.1 217 (-1) (by decide) (by decide) (by decide) (Or.inl (by decide))).trans (rfl))))))); omega) ⟨by omega, by omega⟩ ⟨by omega, by omega⟩ ⟨by omega, by omega⟩ ⟨by omega, by omega⟩) (fun oq43 Sq43 hp44 q43 => ?_)
                        rcases q43 with ⟨rfl, hgv43⟩
                        show wJ _ _ _ _ _ _ _ _ _ _
                        refine wa_return rfl ?_
                        refine ⟨rfl, Or.inr ⟨by omega, Sq14, (w_up (w_up (w_up (w_up Sq14 158 16 0) 158 17 0) 158 16 e1) 158 17 e2), tr14, ?_, ?_⟩⟩
                        · exact fun j i hji => (w_up_no (by omega)).trans ((w_up_no (by omega)).trans ((w_up_no (by omega)).trans ((w_up_no (by omega)).trans (rfl))))
                        · rw [hX]; first | (rw [if_pos (show kd = 1 by omega), if_pos (show kd = 1 by omega)]; exact hgv43) | (rw [if_neg (show ¬ kd = 1 by omega), if_neg (show ¬ kd = 1 by omega)]; exact hgv43)
                      · skip
                        refine wa_aload_n (n := 0) rfl ?_
                        refine wa_aload_n (n := 0) rfl ?_
                        refine wb_gf5 158 rfl (wy_pr rfl) wt_158 wf_5_5 (v := 216) ((w_up_at (by decide)).trans ((w_up_at (by decide)).trans ((w_up_at (by decide)).trans ((w_up_at (by decide)).trans (((tr14.2.2.2.1 158 5 (by decide) (by decide) (by decide) (Or.inl (by decide))).trans (l5))))))) (fun r45 => ?_)
                        refine wb_gf4 216 rfl (wy_pr rfl) wt_216 wf_7_0 (v := 217) wl_216_0 ?_
                        refine wa_aload_n (n := 0) rfl ?_
                        refine wb_gf5 158 rfl (wy_pr rfl) wt_158 wf_5_5 (v := 216) ((w_up_at (by decide)).trans ((w_up_at (by decide)).trans ((w_up_at (by decide)).trans ((w_up_at (by decide)).trans (((tr14.2.2.2.1 158 5 (by decide) (by decide) (by decide) (Or.inl (by decide))).trans (l5))))))) (fun r46 => ?_)
                        refine wb_gfi 216 rfl (wy_pr rfl) wt_216 wf_7_2 (v := h) ((w_up_slot (by decide)).trans ((w_up_slot (by decide)).trans ((w_up_slot (by decide)).trans ((w_up_slot (by decide)).trans (((tr14.2.2.2.1 216 2 (by decide) (by decide) (by decide) (Or.inl (by decide))).trans (bh))))))) (fun r47 => ?_)
                        refine wa_iconst ?_
                        refine wa_isub ?_
                        refine wb_bald 217 rfl (wy_pr rfl) wt_217 (n := (S 217 (-1))) ((w_up_slot (by decide)).trans ((w_up_slot (by decide)).trans ((w_up_slot (by decide)).trans ((w_up_slot (by decide)).trans (((tr14.2.2.2.1 217 (-1) (by decide) (by decide) (by decide) (Or.inl (by decide))).trans (rfl))))))) (by omega) (by omega) (v := ky) ((w_up_slot (by decide)).trans ((w_up_slot (by decide)).trans ((w_up_slot (by decide)).trans ((w_up_slot (by decide)).trans (((tr14.2.2.2.1 217 (h - 1) (by decide) (by decide) (by decide) (Or.inl (by decide))).trans (hky))))))) (fun r48 => ?_)
                        refine wb_pfi 158 rfl (wy_pr rfl) wt_158 wf_5_16 (n := 16) rfl ⟨(by omega), (by omega)⟩ ?_
                        refine wa_aload_n (n := 0) rfl ?_
                        refine wa_aload_n (n := 0) rfl ?_
                        refine wb_gf5 158 rfl (wy_pr rfl) wt_158 wf_5_5 (v := 216) ((w_up_at (by decide)).trans ((w_up_at (by decide)).trans ((w_up_at (by decide)).trans ((w_up_at (by decide)).trans ((w_up_at (by decide)).trans (((tr14.2.2.2.1 158 5 (by decide) (by decide) (by decide) (Or.inl (by decide))).trans (l5)))))))) (fun r49 => ?_)
                        refine wb_gf4 216 rfl (wy_pr rfl) wt_216 wf_7_1 (v := 218) wl_216_1 ?_
                        refine wa_aload_n (n := 0) rfl ?_
                        refine wb_gf5 158 rfl (wy_pr rfl) wt_158 wf_5_5 (v := 216) ((w_up_at (by decide)).trans ((w_up_at (by decide)).trans ((w_up_at (by decide)).trans ((w_up_at (by decide)).trans ((w_up_at (by decide)).trans (((tr14.2.2.2.1 158 5 (by decide) (by decide) (by decide) (Or.inl (by decide))).trans (l5)))))))) (fun r50 => ?_)
                        refine wb_gfi 216 rfl (wy_pr rfl) wt_216 wf_7_2 (v := h) ((w_up_slot (by decide)).trans ((w_up_slot (by decide)).trans ((w_up_slot (by decide)).trans ((w_up_slot (by decide)).trans ((w_up_slot (by decide)).trans (((tr14.2.2.2.1 216 2 (by decide) (by decide) (by decide) (Or.inl (by decide))).trans (bh)))))))) (fun r51 => ?_)
                        refine wa_iconst ?_
                        refine wa_isub ?_
                        refine wb_lald 218 rfl (wy_pr rfl) wt_218 (n := (S 217 (-1))) ((w_up_slot (by decide)).trans ((w_up_slot (by decide)).trans ((w_up_slot (by decide)).trans ((w_up_slot (by decide)).trans ((w_up_slot (by decide)).trans (((tr14.2.2.2.1 218 (-1) (by decide) (by decide) (by decide) (Or.inl (by decide))).trans (bl1)))))))) (by omega) (by omega) (v := vy) ((w_up_slot (by decide)).trans ((w_up_slot (by decide)).trans ((w_up_slot (by decide)).trans ((w_up_slot (by decide)).trans ((w_up_slot (by decide)).trans (((tr14.2.2.2.1 218 (h - 1) (by decide) (by decide) (by decide) (Or.inl (by decide))).trans (hvy)))))))) (fun r52 => ?_)
                        refine wb_pfl 158 rfl (wy_pr rfl) wt_158 wf_5_17 (n := 17) rfl ⟨(by omega), (by omega)⟩ ?_
                        refine wa_fall ⟨_, rfl⟩ ?_
                        refine wa_aload_n (n := 0) rfl ?_
                        refine wa_aload_n (n := 0) rfl ?_
                        refine wb_gfi 158 rfl (wy_pr rfl) wt_158 wf_5_16 (v := ky) ((w_up_at (by decide)).trans (w_up_same _ _ _ _)) (fun r53 => ?_)
                        refine wa_aload_n (n := 0) rfl ?_
                        refine wb_gfl 158 rfl (wy_pr rfl) wt_158 wf_5_17 (v := vy) (w_up_same _ _ _ _) (fun r54 => ?_)
                        refine wa_cv 158 rfl (wy_pr rfl) wt_158 (M2 := mS [217, 218]) rfl at_XL_giveValue ⟨_, rfl⟩ rfl rfl ⟨trivial, trivial, trivial, (Or.inr ⟨wy_pr rfl, mS_no rfl⟩), (Or.inr ⟨wy_pr rfl, mS_no rfl⟩), trivial, trivial⟩ trivial (fun _ _ q => mS_sub (by decide) q) (glx_215 (S := (w_up (w_up (w_up (w_up (w_up (w_up Sq14 158 16 0) 158 17 0) 158 16 e1) 158 17 e2) 158 16 ky) 158 17 vy)) (k := ky) (v := vy) (h := h) (c := c) (p := p) (ba := ba) (w_CL_up (w_CL_up (w_CL_up (w_CL_up (w_CL_up (w_CL_up (CL_tr hC tr14) (by omega)) (by omega)) (by omega)) (by omega)) (by omega)) (by omega)) (gI_up (gI_up (gI_up (gI_up (gI_up (gI_up tr14.2.2.2.2.2.1 (by omega) (by omega) (by omega)) (by omega) (by omega) (by omega)) (by omega) (by omega) (by omega)) (by omega) (by omega) (by omega)) (by omega) (by omega) (by omega)) (by omega) (by omega) (by omega)) ((w_up_at (by decide)).trans ((w_up_at (by decide)).trans ((w_up_at (by decide)).trans ((w_up_at (by decide)).trans ((w_up_at (by decide)).trans ((w_up_at (by decide)).trans (((tr14.2.2.2.1 158 4 (by decide) (by decide) (by decide) (Or.inl (by decide))).trans (l4))))))))) ((w_up_at (by decide)).trans ((w_up_at (by decide)).trans ((w_up_at (by decide)).trans ((w_up_at (by decide)).trans ((w_up_at (by decide)).trans ((w_up_at (by decide)).trans (((tr14.2.2.2.1 158 5 (by decide) (by decide) (by decide) (Or.inl (by decide))).trans (l5))))))))) ((w_up_at (by decide)).trans ((w_up_at (by decide)).trans ((w_up_at (by decide)).trans ((w_up_at (by decide)).trans ((w_up_at (by decide)).trans ((w_up_at (by decide)).trans (((tr14.2.2.2.1 158 8 (by decide) (by decide) (by decide) (Or.inl (by decide))).trans (l8))))))))) ((w_up_slot (by decide)).trans ((w_up_slot (by decide)).trans ((w_up_slot (by decide)).trans ((w_up_slot (by decide)).trans ((w_up_slot (by decide)).trans ((w_up_slot (by decide)).trans (((tr14.2.2.2.1 215 4 (by decide) (by decide) (by decide) (Or.inl (by decide))).trans (bc))))))))) ((w_up_slot (by decide)).trans ((w_up_slot (by decide)).trans ((w_up_slot (by decide)).trans ((w_up_slot (by decide)).trans ((w_up_slot (by decide)).trans ((w_up_slot (by decide)).trans (((tr14.2.2.2.1 220 (c - 1) (by decide) (by decide) (by decide) (Or.inl (by decide))).trans (bp))))))))) ((((w_up_slot (by decide)).trans ((w_up_slot (by decide)).trans ((w_up_slot (by decide)).trans ((w_up_slot (by decide)).trans ((w_up_slot (by decide)).trans ((w_up_slot (by decide)).trans (((tr14.2.2.2.1 218 (-1) (by decide) (by decide) (by decide) (Or.inl (by decide))).trans (bl1)))))))))).trans (((w_up_slot (by decide)).trans ((w_up_slot (by decide)).trans ((w_up_slot (by decide)).trans ((w_up_slot (by decide)).trans ((w_up_slot (by decide)).trans ((w_up_slot (by decide)).trans (((tr14.2.2.2.1 217 (-1) (by decide) (by decide) (by decide) (Or.inl (by decide))).trans (rfl)))))))))).symm) (by have e : (w_up (w_up (w_up (w_up (w_up (w_up Sq14 158 16 0) 158 17 0) 158 16 e1) 158 17 e2) 158 16 ky) 158 17 vy) 217 (-1) = S 217 (-1) := ((w_up_slot (by decide)).trans ((w_up_slot (by decide)).trans ((w_up_slot (by decide)).trans ((w_up_slot (by decide)).trans ((w_up_slot (by decide)).trans ((w_up_slot (by decide)).trans (((tr14.2.2.2.1 217 (-1) (by decide) (by decide) (by decide) (Or.inl (by decide))).trans (rfl))))))))); rw [e]; exact ⟨bl2, bl3⟩) (by have e : (w_up (w_up (w_up (w_up (w_up (w_up Sq14 158 16 0) 158 17 0) 158 16 e1) 158 17 e2) 158 16 ky) 158 17 vy) 217 (-1) = S 217 (-1) := ((w_up_slot (by decide)).trans ((w_up_slot (by decide)).trans ((w_up_slot (by decide)).trans ((w_up_slot (by decide)).trans ((w_up_slot (by decide)).trans ((w_up_slot (by decide)).trans (((tr14.2.2.2.1 217 (-1) (by decide) (by decide) (by decide) (Or.inl (by decide))).trans (rfl))))))))); omega) ⟨by omega, by omega⟩ ⟨by omega, by omega⟩ ⟨by omega, by omega⟩ ⟨by omega, by omega⟩) (fun oq55 Sq55 hp56 q55 => ?_)
                        rcases q55 with ⟨rfl, hgv55⟩
                        show wJ _ _ _ _ _ _ _ _ _ _
                        refine wa_return rfl ?_
                        refine ⟨rfl, Or.inr ⟨by omega, Sq14, (w_up (w_up (w_up (w_up (w_up (w_up Sq14 158 16 0) 158 17 0) 158 16 e1) 158 17 e2) 158 16 ky) 158 17 vy), tr14, ?_, ?_⟩⟩
                        · exact fun j i hji => (w_up_no (by omega)).trans ((w_up_no (by omega)).trans ((w_up_no (by omega)).trans ((w_up_no (by omega)).trans ((w_up_no (by omega)).trans ((w_up_no (by omega)).trans (rfl))))))
                        · rw [hX]; first | (rw [if_pos (show kd = 1 by omega), if_pos (show kd = 1 by omega)]; exact hgv55) | (rw [if_neg (show ¬ kd = 1 by omega), if_neg (show ¬ kd = 1 by omega)]; exact hgv55)
                  · skip
                    exact absurd c18 (by omega)
                · skip
                  exact absurd c16 (by omega)
              · skip
                exact absurd c12 (by omega)
            · skip
              exact absurd c11 (by omega)
        · skip
          exact absurd c7 (by omega)
      · skip
        exact absurd c6 (by omega)
  · skip
    exact absurd c3 (by omega)
set_option maxHeartbeats 4000000 in
theorem cmx_162_215 {c p h kd ba m en tn ky vy wd a0 n u2 u3 : Int} (hP : xP 215 c p h S) (l4 : S 158 4 = 215) (l5 : S 158 5 = 216) (l7 : S 158 7 = kd) (l8 : S 158 8 = ba) (l12 : S 158 12 = en) (hen : 0 ≤ en ∧ en ≤ 1000) (hba : 0 ≤ ba ∧ ba < h) (h72 : S 72 1 = 162) (hm : 0 ≤ m ∧ m < 400) (hso : S 187 m = 1) (ht15 : S 72 15 = tn) (ht0 : 0 ≤ tn ∧ tn ≤ S 152 (-1) ∧ tn ≤ 100000) (ht9 : 16 ≤ S 152 (-1) ∧ S 152 (-1) ≤ 131072 ∨ (16 ≤ S 152 (-1) ∧ S 152 (-1) ≤ 262143 ∧ tn + 2 ≤ S 152 (-1))) (hky : S 217 (h - 1) = ky) (hvy : S 218 (h - 1) = vy) (hkr : -128 ≤ ky ∧ ky ≤ 127) (hvr : -9223372036854775808 ≤ vy ∧ vy ≤ 9223372036854775807) (hx1 : pe_at (pe_GA xs).xs 1 = some (1, tx_1)) (hmt : S 189 m = 7) (hmf : S 201 m = -1) (hmw : S 200 m = wd) (hwl : S 166 (-1) = S 165 (-1)) (hwd : 0 ≤ wd ∧ wd < S 165 (-1)) (hsz : S 166 wd = n) (hst : S 165 wd = a0) (hn : 0 ≤ n ∧ n ≤ 60) (ha : 0 ≤ a0 ∧ a0 + n ≤ S 164 (-1)) (h0 : 0 ≤ S 2 1 ∧ S 2 1 ≤ S 3 (-1) ∧ 1024 ≤ S 3 (-1) ∧ S 3 (-1) ≤ 16777216) (hu2 : S 150 2 = u2) (hu3 : S 150 3 = u3) (hu2r : 0 ≤ u2 ∧ u2 ≤ 12000) (hu3r : 0 ≤ u3 ∧ u3 ≤ 200000) : wJ (pe_GA xs) wY0 (mS [217, 218, 152, 3]) (d + 6) t_XL_callMember ((pe_at t_XL_callMember.bl 0).getD (0, [])).2 [(0, (2, 158)), (1, (0, m))] [] S (fun o Z => o = .inl none ∧ (((100000 < tn + 2 ∨ 12000 ≤ u2 ∨ 200000 < u3 + n) ∧ w_up S 215 16 99 = Z) ∨ (¬ ((100000 < tn + 2 ∨ 12000 ≤ u2 ∨ 200000 < u3 + n)) ∧ cmE 215 h c p (h - ba) kd ky vy 3 (S 2 1 * 4294967296 + n) m en (txR 164 a0 n u2 u3) S Z))) := by
  obtain ⟨⟨hC, hI⟩, ⟨bc, bc0, bc1⟩, ⟨bp, bp0, bp1⟩, ⟨bh, bh0, bh1, bh2⟩, bl1, bl2, bl3⟩ := hP
  replace bp : S 220 (c - 1) = p := bp
  replace bh : S 216 2 = h := bh
  replace bh2 : h ≤ S 217 (-1) := bh2
  replace bl1 : S 218 (-1) = S 217 (-1) := bl1
  replace bl2 : 64 ≤ S 217 (-1) := bl2
  replace bl3 : S 217 (-1) ≤ 4095 := bl3
  refine wa_aload_n (n := 0) rfl ?_
  refine wb_gf4 158 rfl (wy_pr rfl) wt_158 wf_5_0 (v := 72) wl_158_0 ?_
  refine wb_gf5 72 rfl (wy_pr rfl) wt_72 wf_2_1 (v := 162) (h72) (fun r1 => ?_)
  refine wa_astore_n (n := 2) rfl ?_
  refine wa_aload_n (n := 2) rfl ?_
  refine wb_gf4 162 rfl (wy_pr rfl) wt_162 wf_3_3 (v := 185) wl_162_3 ?_
  refine wa_iconst ?_
  refine wb_aald5 185 1 rfl rfl (wy_pr rfl) wt_185 (by rw [show _ = _ from ((cl_185 hC))]; omega) wl_185_1 ?_
  refine wa_iload_n (n := 1) rfl ?_
  refine wb_iald 187 rfl (wy_pr rfl) wt_187 (n := 400) ((cl_187 hC)) (by omega) (by omega) (v := 1) (hso) (fun r2 => ?_)
  refine wa_iconst ?_
  refine wa_icmpne (w_rg0 (by omega) (by omega)) (w_rg0 (by omega) (by omega)) ⟨_, rfl⟩ (fun c3 => ?_) (fun c3 => ?_)
  · skip
    refine wa_iconst ?_
    refine wa_fall ⟨_, rfl⟩ ?_
    refine wa_istore_n (n := 3) rfl ?_
    refine wa_iload_n (n := 3) rfl ?_
    refine wa_ifne (w_rg0 (by omega) (by omega)) ⟨_, rfl⟩ (fun c4 => ?_) (fun c4 => ?_)
    · skip
      exact absurd c4 (by omega)
    · skip
      refine wa_aload_n (n := 2) rfl ?_
      refine wb_gf4 162 rfl (wy_pr rfl) wt_162 wf_3_3 (v := 185) wl_162_3 ?_
      refine wa_iconst ?_
      refine wb_aald5 185 3 rfl rfl (wy_pr rfl) wt_185 (by rw [show _ = _ from ((cl_185 hC))]; omega) wl_185_3 ?_
      refine wa_iload_n (n := 1) rfl ?_
      refine wb_iald 189 rfl (wy_pr rfl) wt_189 (n := 400) ((cl_189 hC)) (by omega) (by omega) (v := 7) (hmt) (fun r5 => ?_)
      refine wa_bipush (w_rg2 (by omega) (by omega)) ?_
      refine wa_icmpne (w_rg0 (by omega) (by omega)) (w_rg0 (by omega) (by omega)) ⟨_, rfl⟩ (fun c6 => ?_) (fun c6 => ?_)
      · skip
        exact absurd c6 (by omega)
      · skip
        refine wa_aload_n (n := 2) rfl ?_
        refine wb_gf4 162 rfl (wy_pr rfl) wt_162 wf_3_3 (v := 185) wl_162_3 ?_
        refine wa_bipush (w_rg2 (by omega) (by omega)) ?_
        refine wb_aald5 185 15 rfl rfl (wy_pr rfl) wt_185 (by rw [show _ = _ from ((cl_185 hC))]; omega) wl_185_15 ?_
        refine wa_iload_n (n := 1) rfl ?_
        refine wb_iald 201 rfl (wy_pr rfl) wt_201 (n := 400) ((cl_201 hC)) (by omega) (by omega) (v := (-1)) (hmf) (fun r7 => ?_)
        refine wa_iconst ?_
        refine wa_icmpne (w_rg0 (by omega) (by omega)) (w_rg0 (by omega) (by omega)) ⟨_, rfl⟩ (fun c8 => ?_) (fun c8 => ?_)
        · skip
          exact absurd c8 (by omega)
        · skip
          refine wa_iconst ?_
          refine wa_goto ⟨_, rfl⟩ ?_
          refine wa_istore (n := 4) rfl ?_
          refine wa_iload_n (n := 3) rfl ?_
          refine wa_ifeq (w_rg0 (by omega) (by omega)) ⟨_, rfl⟩ (fun c9 => ?_) (fun c9 => ?_)
          · skip
            refine wa_iconst ?_
            refine wa_fall ⟨_, rfl⟩ ?_
            refine wa_istore (n := 5) rfl ?_
            refine wa_aload_n (n := 0) rfl ?_
            refine wb_gf4 158 rfl (wy_pr rfl) wt_158 wf_5_0 (v := 72) wl_158_0 ?_
            refine wb_gfi 72 rfl (wy_pr rfl) wt_72 wf_2_15 (v := tn) (ht15) (fun r10 => ?_)
            refine wa_iconst ?_
            refine wa_iadd ?_
            refine wb_ki (n := 100000) rfl ?_
            refine wa_icmpgt (w_rg0 (by omega) (by omega)) (w_rg0 (by omega) (by omega)) ⟨_, rfl⟩ (fun c11 => ?_) (fun c11 => ?_)
            · skip
              refine wa_aload_n (n := 0) rfl ?_
              refine wb_gf5 158 rfl (wy_pr rfl) wt_158 wf_5_4 (v := 215) (l4) (fun r12 => ?_)
              refine wa_bipush (w_rg2 (by omega) (by omega)) ?_
              refine wb_pfi 215 rfl (wy_pr rfl) wt_215 wf_8_16 (n := 16) rfl ⟨(by omega), (by omega)⟩ ?_
              refine wa_return rfl ?_
              exact ⟨rfl, Or.inl ⟨by omega, rfl⟩⟩
            · skip
              refine wa_iload_n (n := 3) rfl ?_
              refine wa_ifeq (w_rg0 (by omega) (by omega)) ⟨_, rfl⟩ (fun c13 => ?_) (fun c13 => ?_)
              · skip
                refine wa_iload (n := 4) rfl ?_
                refine wa_ifeq (w_rg0 (by omega) (by omega)) ⟨_, rfl⟩ (fun c14 => ?_) (fun c14 => ?_)
                · skip
                  exact absurd c14 (by omega)
                · skip
                  refine wa_aload_n (n := 0) rfl ?_
                  refine wb_gf4 158 rfl (wy_pr rfl) wt_158 wf_5_0 (v := 72) wl_158_0 ?_
                  refine wa_aload_n (n := 2) rfl ?_
                  refine wb_gf4 162 rfl (wy_pr rfl) wt_162 wf_3_0 (v := 163) wl_162_0 ?_
                  refine wb_gf4 163 rfl (wy_pr rfl) wt_163 wf_9_3 (v := 166) wl_163_3 ?_
                  refine wa_aload_n (n := 2) rfl ?_
                  refine wb_gf4 162 rfl (wy_pr rfl) wt_162 wf_3_3 (v := 185) wl_162_3 ?_
                  refine wa_bipush (w_rg2 (by omega) (by omega)) ?_
                  refine wb_aald5 185 14 rfl rfl (wy_pr rfl) wt_185 (by rw [show _ = _ from ((cl_185 hC))]; omega) wl_185_14 ?_
                  refine wa_iload_n (n := 1) rfl ?_
                  refine wb_iald 200 rfl (wy_pr rfl) wt_200 (n := 400) ((cl_200 hC)) (by omega) (by omega) (v := wd) (hmw) (fun r15 => ?_)
                  refine wb_iald 166 rfl (wy_pr rfl) wt_166 (n := (S 165 (-1))) (hwl) (by omega) (by omega) (v := n) (hsz) (fun r16 => ?_)
                  refine wa_cv 72 rfl (wy_pr rfl) wt_72 (M2 := mS [217, 218, 152, 3]) rfl at_XH_hasTextRoom ⟨_, rfl⟩ rfl rfl ⟨trivial, trivial, trivial, (Or.inr ⟨wy_pr rfl, mS_no rfl⟩), (Or.inr ⟨wy_pr rfl, mS_no rfl⟩), trivial, trivial⟩ trivial (fun _ _ q => q) ?_ (fun _ _ _ q => q)
                  refine wa_aload_n (n := 0) rfl ?_
                  refine wa_iconst ?_
                  refine wa_iconst ?_
                  refine wa_cv 72 rfl (wy_pr rfl) wt_72 (M2 := mS [217, 218, 152, 3]) rfl at_XH_hasRoom ⟨_, rfl⟩ rfl rfl ⟨(Or.inr ⟨wy_pr rfl, mS_no rfl⟩), trivial, trivial⟩ trivial (fun _ _ q => q) ?_ (fun _ _ _ q => q)
                  refine wa_aload_n (n := 0) rfl ?_
                  refine wb_gf4 72 rfl (wy_pr rfl) wt_72 wf_2_10 (v := 150) wl_72_10 ?_
                  refine wa_iload_n (n := 1) rfl ?_
                  refine wb_iald 150 rfl (wy_pr rfl) wt_150 (n := 6) ((cl_150 hC)) (by omega) (by omega) (v := u2) (hu2) (fun r17 => ?_)
                  refine wa_iload_n (n := 2) rfl ?_
                  refine wa_iadd ?_
                  refine wa_gs ?_
                  refine wa_iload_n (n := 1) rfl ?_
                  refine wb_xald 1 rfl hx1 (by decide) (by omega) (by decide) (v := 12000) (by decide) (fun r18 => ?_)
                  refine wa_icmpgt (w_rg0 (by omega) (by omega)) (w_rg0 (by omega) (by omega)) ⟨_, rfl⟩ (fun c19 => ?_) (fun c19 => ?_)
                  · skip
                    refine wa_iconst ?_
                    refine wa_fall ⟨_, rfl⟩ ?_
                    refine wa_zreturn rfl (Or.inl rfl) ?_
                    show wJ _ _ _ _ _ _ _ _ _ _
                    refine wa_ifeq (w_rg0 (by omega) (by omega)) ⟨_, rfl⟩ (fun c20 => ?_) (fun c20 => ?_)
                    · skip
                      refine wa_iconst ?_
                      refine wa_fall ⟨_, rfl⟩ ?_
                      refine wa_zreturn rfl (Or.inl rfl) ?_
                      show wJ _ _ _ _ _ _ _ _ _ _
                      refine wa_ifne (w_rg0 (by omega) (by omega)) ⟨_, rfl⟩ (fun c21 => ?_) (fun c21 => ?_)
                      · skip
                        exact absurd c21 (by omega)
                      · skip
                        refine wa_fall ⟨_, rfl⟩ ?_
                        refine wa_aload_n (n := 0) rfl ?_
                        refine wb_gf5 158 rfl (wy_pr rfl) wt_158 wf_5_4 (v := 215) (l4) (fun r22 => ?_)
                        refine wa_bipush (w_rg2 (by omega) (by omega)) ?_
                        refine wb_pfi 215 rfl (wy_pr rfl) wt_215 wf_8_16 (n := 16) rfl ⟨(by omega), (by omega)⟩ ?_
                        refine wa_return rfl ?_
                        exact ⟨rfl, Or.inl ⟨by omega, rfl⟩⟩
                    · skip
                      exact absurd c20 (by omega)
                  · skip
                    refine wa_iconst ?_
                    refine wa_goto ⟨_, rfl⟩ ?_
                    refine wa_zreturn rfl (Or.inr rfl) ?_
                    show wJ _ _ _ _ _ _ _ _ _ _
                    refine wa_ifeq (w_rg0 (by omega) (by omega)) ⟨_, rfl⟩ (fun c23 => ?_) (fun c23 => ?_)
                    · skip
                      exact absurd c23 (by omega)
                    · skip
                      refine wa_aload_n (n := 0) rfl ?_
                      refine wa_iconst ?_
                      refine wa_iload_n (n := 1) rfl ?_
                      refine wa_cv 72 rfl (wy_pr rfl) wt_72 (M2 := mS [217, 218, 152, 3]) rfl at_XH_hasRoom ⟨_, rfl⟩ rfl rfl ⟨(Or.inr ⟨wy_pr rfl, mS_no rfl⟩), trivial, trivial⟩ trivial (fun _ _ q => q) ?_ (fun _ _ _ q => q)
                      refine wa_aload_n (n := 0) rfl ?_
                      refine wb_gf4 72 rfl (wy_pr rfl) wt_72 wf_2_10 (v := 150) wl_72_10 ?_
                      refine wa_iload_n (n := 1) rfl ?_
                      refine wb_iald 150 rfl (wy_pr rfl) wt_150 (n := 6) ((cl_150 hC)) (by omega) (by omega) (v := u3) (hu3) (fun r24 => ?_)
                      refine wa_iload_n (n := 2) rfl ?_
                      refine wa_iadd ?_
                      refine wa_gs ?_
                      refine wa_iload_n (n := 1) rfl ?_
                      refine wb_xald 1 rfl hx1 (by decide) (by omega) (by decide) (v := 200000) (by decide) (fun r25 => ?_)
                      refine wa_icmpgt (w_rg0 (by omega) (by omega)) (w_rg0 (by omega) (by omega)) ⟨_, rfl⟩ (fun c26 => ?_) (fun c26 => ?_)
                      · skip
                        refine wa_iconst ?_
                        refine wa_fall ⟨_, rfl⟩ ?_
                        refine wa_zreturn rfl (Or.inl rfl) ?_
                        show wJ _ _ _ _ _ _ _ _ _ _
                        refine wa_ifeq (w_rg0 (by omega) (by omega)) ⟨_, rfl⟩ (fun c27 => ?_) (fun c27 => ?_)
                        · skip
                          refine wa_iconst ?_
                          refine wa_fall ⟨_, rfl⟩ ?_
                          refine wa_zreturn rfl (Or.inl rfl) ?_
                          show wJ _ _ _ _ _ _ _ _ _ _
                          refine wa_ifne (w_rg0 (by omega) (by omega)) ⟨_, rfl⟩ (fun c28 => ?_) (fun c28 => ?_)
                          · skip
                            exact absurd c28 (by omega)
                          · skip
                            refine wa_fall ⟨_, rfl⟩ ?_
                            refine wa_aload_n (n := 0) rfl ?_
                            refine wb_gf5 158 rfl (wy_pr rfl) wt_158 wf_5_4 (v := 215) (l4) (fun r29 => ?_)
                            refine wa_bipush (w_rg2 (by omega) (by omega)) ?_
                            refine wb_pfi 215 rfl (wy_pr rfl) wt_215 wf_8_16 (n := 16) rfl ⟨(by omega), (by omega)⟩ ?_
                            refine wa_return rfl ?_
                            exact ⟨rfl, Or.inl ⟨by omega, rfl⟩⟩
                        · skip
                          exact absurd c27 (by omega)
                      · skip
                        refine wa_iconst ?_
                        refine wa_goto ⟨_, rfl⟩ ?_
                        refine wa_zreturn rfl (Or.inr rfl) ?_
                        show wJ _ _ _ _ _ _ _ _ _ _
                        refine wa_ifeq (w_rg0 (by omega) (by omega)) ⟨_, rfl⟩ (fun c30 => ?_) (fun c30 => ?_)
                        · skip
                          exact absurd c30 (by omega)
                        · skip
                          refine wa_iconst ?_
                          refine wa_goto ⟨_, rfl⟩ ?_
                          refine wa_zreturn rfl (Or.inr rfl) ?_
                          show wJ _ _ _ _ _ _ _ _ _ _
                          refine wa_ifne (w_rg0 (by omega) (by omega)) ⟨_, rfl⟩ (fun c31 => ?_) (fun c31 => ?_)
                          · skip
                            refine wa_aload_n (n := 0) rfl ?_
                            refine wb_gf4 158 rfl (wy_pr rfl) wt_158 wf_5_0 (v := 72) wl_158_0 ?_
                            refine wa_iload_n (n := 1) rfl ?_
                            refine wa_aload_n (n := 0) rfl ?_
                            refine wb_gfi 158 rfl (wy_pr rfl) wt_158 wf_5_12 (v := en) (l12) (fun r32 => ?_)
                            refine wa_cv 72 rfl (wy_pr rfl) wt_72 (M2 := mS [152]) rfl at_XH_addTrace ⟨_, rfl⟩ rfl rfl ⟨trivial, trivial, trivial, (Or.inr ⟨wy_pr rfl, mS_no rfl⟩), (Or.inr ⟨wy_pr rfl, mS_no rfl⟩), trivial, trivial⟩ trivial (fun _ _ q => mS_sub (by decide) q) (tra (S := S) (m := m) (k := en) hI ⟨by omega, by omega⟩ ⟨by omega, by omega⟩ (by rw [ht15]; exact ht0) (by rw [ht15]; exact ht9)) (fun oq33 Sq33 hp34 q33 => ?_)
                            rcases q33 with ⟨rfl, tr33⟩
                            show wJ _ _ _ _ _ _ _ _ _ _
                            refine wa_aload_n (n := 0) rfl ?_
                            refine wa_iconst ?_
                            refine wb_pfi 158 rfl (wy_pr rfl) wt_158 wf_5_16 (n := 16) rfl ⟨(by omega), (by omega)⟩ ?_
                            refine wa_aload_n (n := 0) rfl ?_
                            refine wb_lconst (m := 0) rfl ?_
                            refine wb_pfl 158 rfl (wy_pr rfl) wt_158 wf_5_17 (n := 17) rfl ⟨(by omega), (by omega)⟩ ?_
                            refine wa_iload_n (n := 3) rfl ?_
                            refine wa_ifeq (w_rg0 (by omega) (by omega)) ⟨_, rfl⟩ (fun c35 => ?_) (fun c35 => ?_)
                            · skip
                              refine wa_aload_n (n := 2) rfl ?_
                              refine wb_gf4 162 rfl (wy_pr rfl) wt_162 wf_3_3 (v := 185) wl_162_3 ?_
                              refine wa_bipush (w_rg2 (by omega) (by omega)) ?_
                              refine wb_aald5 185 15 rfl rfl (wy_pr rfl) wt_185 (by rw [show _ = _ from ((w_up_slot (by decide)).trans ((w_up_slot (by decide)).trans (((tr33.2.2.2.1 185 (-1) (by decide) (by decide) (by decide) (Or.inl (by decide))).trans ((cl_185 hC))))))]; omega) wl_185_15 ?_
                              refine wa_iload_n (n := 1) rfl ?_
                              refine wb_iald 201 rfl (wy_pr rfl) wt_201 (n := 400) ((w_up_slot (by decide)).trans ((w_up_slot (by decide)).trans (((tr33.2.2.2.1 201 (-1) (by decide) (by decide) (by decide) (Or.inl (by decide))).trans ((cl_201 hC)))))) (by omega) (by omega) (v := (-1)) ((w_up_slot (by decide)).trans ((w_up_slot (by decide)).trans (((tr33.2.2.2.1 201 m (by decide) (by decide) (by decide) (Or.inl (by decide))).trans (hmf))))) (fun r36 => ?_)
                              refine wa_iconst ?_
                              refine wa_icmpeq (w_rg0 (by omega) (by omega)) (w_rg0 (by omega) (by omega)) ⟨_, rfl⟩ (fun c37 => ?_) (fun c37 => ?_)
                              · skip
                                refine wa_aload_n (n := 0) rfl ?_
                                refine wa_iload_n (n := 1) rfl ?_
                                have hf2 : ∀ (j : Nat) (i : Int), j < 4000000 → j ≠ wG → j ≠ 152 → j ≠ 72 → j ≠ 158 → (w_up (w_up Sq33 158 16 0) 158 17 0) j i = S j i := fun j i a b c d e => (w_up_no (fun z => e z.1)).trans ((w_up_no (fun z => e z.1)).trans (tr33.2.2.2.1 j i a b c (Or.inl d)))
                                have el : (w_up (w_up Sq33 158 16 0) 158 17 0) 165 (-1) = S 165 (-1) := (hf2 165 _ (by first | decide | omega) (by first | decide | omega) (by first | decide | omega) (by first | decide | omega) (by first | decide | omega))
                                have el2 : (w_up (w_up Sq33 158 16 0) 158 17 0) 166 (-1) = S 166 (-1) := (hf2 166 _ (by first | decide | omega) (by first | decide | omega) (by first | decide | omega) (by first | decide | omega) (by first | decide | omega))
                                have el3 : (w_up (w_up Sq33 158 16 0) 158 17 0) 164 (-1) = S 164 (-1) := (hf2 164 _ (by first | decide | omega) (by first | decide | omega) (by first | decide | omega) (by first | decide | omega) (by first | decide | omega))
                                have e21 : (w_up (w_up Sq33 158 16 0) 158 17 0) 2 1 = S 2 1 := (hf2 2 _ (by first | decide | omega) (by first | decide | omega) (by first | decide | omega) (by first | decide | omega) (by first | decide | omega))
                                have e3 : (w_up (w_up Sq33 158 16 0) 158 17 0) 3 (-1) = S 3 (-1) := (hf2 3 _ (by first | decide | omega) (by first | decide | omega) (by first | decide | omega) (by first | decide | omega) (by first | decide | omega))
                                refine wa_cv 158 rfl (wy_pr rfl) wt_158 (M2 := mS [3]) rfl at_XL_answer ⟨_, rfl⟩ rfl rfl ⟨trivial, trivial, trivial, (Or.inr ⟨wy_pr rfl, mS_no rfl⟩), (Or.inr ⟨wy_pr rfl, mS_no rfl⟩), trivial, trivial⟩ trivial (fun _ _ q => mS_sub (by decide) q) (wJ_mono (anx_162 (S := (w_up (w_up Sq33 158 16 0) 158 17 0)) (m := m) (wd := wd) (a0 := a0) (n := n) (u2 := u2) (u3 := u3) (w_CL_up (w_CL_up (CL_tr hC tr33) (by omega)) (by omega)) (gI_up (gI_up tr33.2.2.2.2.2.1 (by omega) (by omega) (by omega)) (by omega) (by omega) (by omega)) ((w_up_slot (by decide)).trans ((w_up_slot (by decide)).trans (((tr33.2.2.2.1 72 1 (by decide) (by decide) (by decide) (Or.inr (by decide))).trans (h72))))) (by rw [el, el2]; exact hwl) (by rw [el]; exact hwd) ((hf2 166 _ (by decide) (by decide) (by decide) (by decide) (by decide)).trans hsz) ((hf2 165 _ (by decide) (by decide) (by decide) (by decide) (by decide)).trans hst) hn (by rw [el3]; exact ha) (by rw [e21, e3]; exact h0) ((hf2 150 _ (by decide) (by decide) (by decide) (by decide) (by decide)).trans hu2) ((hf2 150 _ (by decide) (by decide) (by decide) (by decide) (by decide)).trans hu3) ⟨by omega, by omega⟩ ⟨by omega, by omega⟩ hm ((w_up_slot (by decide)).trans ((w_up_slot (by decide)).trans (((tr33.2.2.2.1 189 m (by decide) (by decide) (by decide) (Or.inl (by decide))).trans (hmt))))) ((w_up_slot (by decide)).trans ((w_up_slot (by decide)).trans (((tr33.2.2.2.1 200 m (by decide) (by decide) (by decide) (Or.inl (by decide))).trans (hmw)))))) (fun o Z hz => (⟨hz.1, hz.2.imp (fun C y => ⟨y.1, by rw [← e21]; exact y.2⟩)⟩ : o = .inl none ∧ ∃ C : wS, ap_ag (w_up (w_up (w_up (w_up (w_up Sq33 158 16 0) 158 17 0) 150 2 (u2 + 1)) 150 3 (u3 + n)) 158 16 3) C 2 164 a0 n ∧ w_up C 158 17 (S 2 1 * 4294967296 + n) = Z))) (fun oq38 Sq38 hp39 q38 => ?_)
                                rcases q38 with ⟨rfl, C38, hc38, rfl⟩
                                show wJ _ _ _ _ _ _ _ _ _ _
                                refine wa_fall ⟨_, rfl⟩ ?_
                                refine wa_aload_n (n := 0) rfl ?_
                                refine wb_gfi 158 rfl (wy_pr rfl) wt_158 wf_5_7 (v := kd) ((w_up_at (by decide)).trans (((hc38.2.2.2.1 158 7 (by decide) (by decide) (by decide) (Or.inl (by decide))).trans ((w_up_at (by decide)).trans ((w_up_slot (by decide)).trans ((w_up_slot (by decide)).trans ((w_up_at (by decide)).trans ((w_up_at (by decide)).trans (((tr33.2.2.2.1 158 7 (by decide) (by decide) (by decide) (Or.inl (by decide))).trans (l7))))))))))) (fun r40 => ?_)
                                refine wa_iconst ?_
                                refine wa_icmpne (w_rg0 (by omega) (by omega)) (w_rg0 (by omega) (by omega)) ⟨_, rfl⟩ (fun c41 => ?_) (fun c41 => ?_)
                                · skip
                                  refine wa_aload_n (n := 0) rfl ?_
                                  refine wa_aload_n (n := 0) rfl ?_
                                  refine wb_gfi 158 rfl (wy_pr rfl) wt_158 wf_5_16 (v := 3) ((w_up_at (by decide)).trans (((hc38.2.2.2.1 158 16 (by decide) (by decide) (by decide) (Or.inl (by decide))).trans (w_up_same _ _ _ _)))) (fun r42 => ?_)
                                  refine wa_aload_n (n := 0) rfl ?_
                                  refine wb_gfl 158 rfl (wy_pr rfl) wt_158 wf_5_17 (v := (S 2 1 * 4294967296 + n)) (w_up_same _ _ _ _) (fun r43 => ?_)
                                  refine wa_cv 158 rfl (wy_pr rfl) wt_158 (M2 := mS [217, 218]) rfl at_XL_giveValue ⟨_, rfl⟩ rfl rfl ⟨trivial, trivial, trivial, (Or.inr ⟨wy_pr rfl, mS_no rfl⟩), (Or.inr ⟨wy_pr rfl, mS_no rfl⟩), trivial, trivial⟩ trivial (fun _ _ q => mS_sub (by decide) q) (glx_215 (S := (w_up C38 158 17 (S 2 1 * 4294967296 + n))) (k := 3) (v := (S 2 1 * 4294967296 + n)) (h := h) (c := c) (p := p) (ba := ba) (w_CL_up (CL_ap2 (w_CL_up (w_CL_up (w_CL_up (w_CL_up (w_CL_up (CL_tr hC tr33) (by omega)) (by omega)) (by omega)) (by omega)) (by omega)) hc38) (by omega)) (gI_up hc38.2.2.2.2.2.1 (by omega) (by omega) (by omega)) ((w_up_at (by decide)).trans (((hc38.2.2.2.1 158 4 (by decide) (by decide) (by decide) (Or.inl (by decide))).trans ((w_up_at (by decide)).trans ((w_up_slot (by decide)).trans ((w_up_slot (by decide)).trans ((w_up_at (by decide)).trans ((w_up_at (by decide)).trans (((tr33.2.2.2.1 158 4 (by decide) (by decide) (by decide) (Or.inl (by decide))).trans (l4))))))))))) ((w_up_at (by decide)).trans (((hc38.2.2.2.1 158 5 (by decide) (by decide) (by decide) (Or.inl (by decide))).trans ((w_up_at (by decide)).trans ((w_up_slot (by decide)).trans ((w_up_slot (by decide)).trans ((w_up_at (by decide)).trans ((w_up_at (by decide)).trans (((tr33.2.2.2.1 158 5 (by decide) (by decide) (by decide) (Or.inl (by decide))).trans (l5))))))))))) ((w_up_at (by decide)).trans (((hc38.2.2.2.1 158 8 (by decide) (by decide) (by decide) (Or.inl (by decide))).trans ((w_up_at (by decide)).trans ((w_up_slot (by decide)).trans ((w_up_slot (by decide)).trans ((w_up_at (by decide)).trans ((w_up_at (by decide)).trans (((tr33.2.2.2.1 158 8 (by decide) (by decide) (by decide) (Or.inl (by decide))).trans (l8))))))))))) ((w_up_slot (by decide)).trans (((hc38.2.2.2.1 215 4 (by decide) (by decide) (by decide) (Or.inl (by decide))).trans ((w_up_slot (by decide)).trans ((w_up_slot (by decide)).trans ((w_up_slot (by decide)).trans ((w_up_slot (by decide)).trans ((w_up_slot (by decide)).trans (((tr33.2.2.2.1 215 4 (by decide) (by decide) (by decide) (Or.inl (by decide))).trans (bc))))))))))) ((w_up_slot (by decide)).trans (((hc38.2.2.2.1 220 (c - 1) (by decide) (by decide) (by decide) (Or.inl (by decide))).trans ((w_up_slot (by decide)).trans ((w_up_slot (by decide)).trans ((w_up_slot (by decide)).trans ((w_up_slot (by decide)).trans ((w_up_slot (by decide)).trans (((tr33.2.2.2.1 220 (c - 1) (by decide) (by decide) (by decide) (Or.inl (by decide))).trans (bp))))))))))) ((((w_up_slot (by decide)).trans (((hc38.2.2.2.1 218 (-1) (by decide) (by decide) (by decide) (Or.inl (by decide))).trans ((w_up_slot (by decide)).trans ((w_up_slot (by decide)).trans ((w_up_slot (by decide)).trans ((w_up_slot (by decide)).trans ((w_up_slot (by decide)).trans (((tr33.2.2.2.1 218 (-1) (by decide) (by decide) (by decide) (Or.inl (by decide))).trans (bl1)))))))))))).trans (((w_up_slot (by decide)).trans (((hc38.2.2.2.1 217 (-1) (by decide) (by decide) (by decide) (Or.inl (by decide))).trans ((w_up_slot (by decide)).trans ((w_up_slot (by decide)).trans ((w_up_slot (by decide)).trans ((w_up_slot (by decide)).trans ((w_up_slot (by decide)).trans (((tr33.2.2.2.1 217 (-1) (by decide) (by decide) (by decide) (Or.inl (by decide))).trans (rfl)))))))))))).symm) (by have e : (w_up C38 158 17 (S 2 1 * 4294967296 + n)) 217 (-1) = S 217 (-1) := ((w_up_slot (by decide)).trans (((hc38.2.2.2.1 217 (-1) (by decide) (by decide) (by decide) (Or.inl (by decide))).trans ((w_up_slot (by decide)).trans ((w_up_slot (by decide)).trans ((w_up_slot (by decide)).trans ((w_up_slot (by decide)).trans ((w_up_slot (by decide)).trans (((tr33.2.2.2.1 217 (-1) (by decide) (by decide) (by decide) (Or.inl (by decide))).trans (rfl))))))))))); rw [e]; exact ⟨bl2, bl3⟩) (by have e : (w_up C38 158 17 (S 2 1 * 4294967296 + n)) 217 (-1) = S 217 (-1) := ((w_up_slot (by decide)).trans (((hc38.2.2.2.1 217 (-1) (by decide) (by decide) (by decide) (Or.inl (by decide))).trans ((w_up_slot (by decide)).trans ((w_up_slot (by decide)).trans ((w_up_slot (by decide)).trans ((w_up_slot (by decide)).trans ((w_up_slot (by decide)).trans (((tr33.2.2.2.1 217 (-1) (by decide) (by decide) (by decide) (Or.inl (by decide))).trans (rfl))))))))))); omega) ⟨by omega, by omega⟩ ⟨by omega, by omega⟩ ⟨by omega, by omega⟩ ⟨by omega, by omega⟩) (fun oq44 Sq44 hp45 q44 => ?_)
                                  rcases q44 with ⟨rfl, hgv44⟩
                                  show wJ _ _ _ _ _ _ _ _ _ _
                                  refine wa_return rfl ?_
                                  refine ⟨rfl, Or.inr ⟨by omega, Sq33, (w_up C38 158 17 (S 2 1 * 4294967296 + n)), tr33, ?_, ?_⟩⟩
                                  · exact txR_mk ⟨by decide, by decide⟩ hc38 (fun j i hji => (w_up_no (by omega)).trans (rfl))
                                  · first | (rw [if_pos (show kd = 1 by omega), if_pos (show kd = 1 by omega)]; exact hgv44) | (rw [if_neg (show ¬ kd = 1 by omega), if_neg (show ¬ kd = 1 by omega)]; exact hgv44)
                                · skip
                                  refine wa_aload_n (n := 0) rfl ?_
                                  refine wa_aload_n (n := 0) rfl ?_
                                  refine wb_gf5 158 rfl (wy_pr rfl) wt_158 wf_5_5 (v := 216) ((w_up_at (by decide)).trans (((hc38.2.2.2.1 158 5 (by decide) (by decide) (by decide) (Or.inl (by decide))).trans ((w_up_at (by decide)).trans ((w_up_slot (by decide)).trans ((w_up_slot (by decide)).trans ((w_up_at (by decide)).trans ((w_up_at (by decide)).trans (((tr33.2.2.2.1 158 5 (by decide) (by decide) (by decide) (Or.inl (by decide))).trans (l5))))))))))) (fun r46 => ?_)
                                  refine wb_gf4 216 rfl (wy_pr rfl) wt_216 wf_7_0 (v := 217) wl_216_0 ?_
                                  refine wa_aload_n (n := 0) rfl ?_
                                  refine wb_gf5 158 rfl (wy_pr rfl) wt_158 wf_5_5 (v := 216) ((w_up_at (by decide)).trans (((hc38.2.2.2.1 158 5 (by decide) (by decide) (by decide) (Or.inl (by decide))).trans ((w_up_at (by decide)).trans ((w_up_slot (by decide)).trans ((w_up_slot (by decide)).trans ((w_up_at (by decide)).trans ((w_up_at (by decide)).trans (((tr33.2.2.2.1 158 5 (by decide) (by decide) (by decide) (Or.inl (by decide))).trans (l5))))))))))) (fun r47 => ?_)
                                  refine wb_gfi 216 rfl (wy_pr rfl) wt_216 wf_7_2 (v := h) ((w_up_slot (by decide)).trans (((hc38.2.2.2.1 216 2 (by decide) (by decide) (by decide) (Or.inl (by decide))).trans ((w_up_slot (by decide)).trans ((w_up_slot (by decide)).trans ((w_up_slot (by decide)).trans ((w_up_slot (by decide)).trans ((w_up_slot (by decide)).trans (((tr33.2.2.2.1 216 2 (by decide) (by decide) (by decide) (Or.inl (by decide))).trans (bh))))))))))) (fun r48 => ?_)
                                  refine wa_iconst ?_
                                  refine wa_isub ?_
                                  refine wb_bald 217 rfl (wy_pr rfl) wt_217 (n := (S 217 (-1))) ((w_up_slot (by decide)).trans (((hc38.2.2.2.1 217 (-1) (by decide) (by decide) (by decide) (Or.inl (by decide))).trans ((w_up_slot (by decide)).trans ((w_up_slot (by decide)).trans ((w_up_slot (by decide)).trans ((w_up_slot (by decide)).trans ((w_up_slot (by decide)).trans (((tr33.2.2.2.1 217 (-1) (by decide) (by decide) (by decide) (Or.inl (by decide))).trans (rfl))))))))))) (by omega) (by omega) (v := ky) ((w_up_slot (by decide)).trans (((hc38.2.2.2.1 217 (h - 1) (by decide) (by decide) (by decide) (Or.inl (by decide))).trans ((w_up_slot (by decide)).trans ((w_up_slot (by decide)).trans ((w_up_slot (by decide)).trans ((w_up_slot (by decide)).trans ((w_up_slot (by decide)).trans (((tr33.2.2.2.1 217 (h - 1) (by decide) (by decide) (by decide) (Or.inl (by decide))).trans (hky))))))))))) (fun r49 => ?_)
                                  refine wb_pfi 158 rfl (wy_pr rfl) wt_158 wf_5_16 (n := 16) rfl ⟨(by omega), (by omega)⟩ ?_
                                  refine wa_aload_n (n := 0) rfl ?_
                                  refine wa_aload_n (n := 0) rfl ?_
                                  refine wb_gf5 158 rfl (wy_pr rfl) wt_158 wf_5_5 (v := 216) ((w_up_at (by decide)).trans ((w_up_at (by decide)).trans (((hc38.2.2.2.1 158 5 (by decide) (by decide) (by decide) (Or.inl (by decide))).trans ((w_up_at (by decide)).trans ((w_up_slot (by decide)).trans ((w_up_slot (by decide)).trans ((w_up_at (by decide)).trans ((w_up_at (by decide)).trans (((tr33.2.2.2.1 158 5 (by decide) (by decide) (by decide) (Or.inl (by decide))).trans (l5)))))))))))) (fun r50 => ?_)
                                  refine wb_gf4 216 rfl (wy_pr rfl) wt_216 wf_7_1 (v := 218) wl_216_1 ?_
                                  refine wa_aload_n (n := 0) rfl ?_
                                  refine wb_gf5 158 rfl (wy_pr rfl) wt_158 wf_5_5 (v := 216) ((w_up_at (by decide)).trans ((w_up_at (by decide)).trans (((hc38.2.2.2.1 158 5 (by decide) (by decide) (by decide) (Or.inl (by decide))).trans ((w_up_at (by decide)).trans ((w_up_slot (by decide)).trans ((w_up_slot (by decide)).trans ((w_up_at (by decide)).trans ((w_up_at (by decide)).trans (((tr33.2.2.2.1 158 5 (by decide) (by decide) (by decide) (Or.inl (by decide))).trans (l5)))))))))))) (fun r51 => ?_)
                                  refine wb_gfi 216 rfl (wy_pr rfl) wt_216 wf_7_2 (v := h) ((w_up_slot (by decide)).trans ((w_up_slot (by decide)).trans (((hc38.2.2.2.1 216 2 (by decide) (by decide) (by decide) (Or.inl (by decide))).trans ((w_up_slot (by decide)).trans ((w_up_slot (by decide)).trans ((w_up_slot (by decide)).trans ((w_up_slot (by decide)).trans ((w_up_slot (by decide)).trans (((tr33.2.2.2.1 216 2 (by decide) (by decide) (by decide) (Or.inl (by decide))).trans (bh)))))))))))) (fun r52 => ?_)
                                  refine wa_iconst ?_
                                  refine wa_isub ?_
                                  refine wb_lald 218 rfl (wy_pr rfl) wt_218 (n := (S 217 (-1))) ((w_up_slot (by decide)).trans ((w_up_slot (by decide)).trans (((hc38.2.2.2.1 218 (-1) (by decide) (by decide) (by decide) (Or.inl (by decide))).trans ((w_up_slot (by decide)).trans ((w_up_slot (by decide)).trans ((w_up_slot (by decide)).trans ((w_up_slot (by decide)).trans ((w_up_slot (by decide)).trans (((tr33.2.2.2.1 218 (-1) (by decide) (by decide) (by decide) (Or.inl (by decide))).trans (bl1)))))))))))) (by omega) (by omega) (v := vy) ((w_up_slot (by decide)).trans ((w_up_slot (by decide)).trans (((hc38.2.2.2.1 218 (h - 1) (by decide) (by decide) (by decide) (Or.inl (by decide))).trans ((w_up_slot (by decide)).trans ((w_up_slot (by decide)).trans ((w_up_slot (by decide)).trans ((w_up_slot (by decide)).trans ((w_up_slot (by decide)).trans (((tr33.2.2.2.1 218 (h - 1) (by decide) (by decide) (by decide) (Or.inl (by decide))).trans (hvy)))))))))))) (fun r53 => ?_)
                                  refine wb_pfl 158 rfl (wy_pr rfl) wt_158 wf_5_17 (n := 17) rfl ⟨(by omega), (by omega)⟩ ?_
                                  refine wa_fall ⟨_, rfl⟩ ?_
                                  refine wa_aload_n (n := 0) rfl ?_
                                  refine wa_aload_n (n := 0) rfl ?_
                                  refine wb_gfi 158 rfl (wy_pr rfl) wt_158 wf_5_16 (v := ky) ((w_up_at (by decide)).trans (w_up_same _ _ _ _)) (fun r54 => ?_)
                                  refine wa_aload_n (n := 0) rfl ?_
                                  refine wb_gfl 158 rfl (wy_pr rfl) wt_158 wf_5_17 (v := vy) (w_up_same _ _ _ _) (fun r55 => ?_)
                                  refine wa_cv 158 rfl (wy_pr rfl) wt_158 (M2 := mS [217, 218]) rfl at_XL_giveValue ⟨_, rfl⟩ rfl rfl ⟨trivial, trivial, trivial, (Or.inr ⟨wy_pr rfl, mS_no rfl⟩), (Or.inr ⟨wy_pr rfl, mS_no rfl⟩), trivial, trivial⟩ trivial (fun _ _ q => mS_sub (by decide) q) (glx_215 (S := (w_up (w_up (w_up C38 158 17 (S 2 1 * 4294967296 + n)) 158 16 ky) 158 17 vy)) (k := ky) (v := vy) (h := h) (c := c) (p := p) (ba := ba) (w_CL_up (w_CL_up (w_CL_up (CL_ap2 (w_CL_up (w_CL_up (w_CL_up (w_CL_up (w_CL_up (CL_tr hC tr33) (by omega)) (by omega)) (by omega)) (by omega)) (by omega)) hc38) (by omega)) (by omega)) (by omega)) (gI_up (gI_up (gI_up hc38.2.2.2.2.2.1 (by omega) (by omega) (by omega)) (by omega) (by omega) (by omega)) (by omega) (by omega) (by omega)) ((w_up_at (by decide)).trans ((w_up_at (by decide)).trans ((w_up_at (by decide)).trans (((hc38.2.2.2.1 158 4 (by decide) (by decide) (by decide) (Or.inl (by decide))).trans ((w_up_at (by decide)).trans ((w_up_slot (by decide)).trans ((w_up_slot (by decide)).trans ((w_up_at (by decide)).trans ((w_up_at (by decide)).trans (((tr33.2.2.2.1 158 4 (by decide) (by decide) (by decide) (Or.inl (by decide))).trans (l4))))))))))))) ((w_up_at (by decide)).trans ((w_up_at (by decide)).trans ((w_up_at (by decide)).trans (((hc38.2.2.2.1 158 5 (by decide) (by decide) (by decide) (Or.inl (by decide))).trans ((w_up_at (by decide)).trans ((w_up_slot (by decide)).trans ((w_up_slot (by decide)).trans ((w_up_at (by decide)).trans ((w_up_at (by decide)).trans (((tr33.2.2.2.1 158 5 (by decide) (by decide) (by decide) (Or.inl (by decide))).trans (l5))))))))))))) ((w_up_at (by decide)).trans ((w_up_at (by decide)).trans ((w_up_at (by decide)).trans (((hc38.2.2.2.1 158 8 (by decide) (by decide) (by decide) (Or.inl (by decide))).trans ((w_up_at (by decide)).trans ((w_up_slot (by decide)).trans ((w_up_slot (by decide)).trans ((w_up_at (by decide)).trans ((w_up_at (by decide)).trans (((tr33.2.2.2.1 158 8 (by decide) (by decide) (by decide) (Or.inl (by decide))).trans (l8))))))))))))) ((w_up_slot (by decide)).trans ((w_up_slot (by decide)).trans ((w_up_slot (by decide)).trans (((hc38.2.2.2.1 215 4 (by decide) (by decide) (by decide) (Or.inl (by decide))).trans ((w_up_slot (by decide)).trans ((w_up_slot (by decide)).trans ((w_up_slot (by decide)).trans ((w_up_slot (by decide)).trans ((w_up_slot (by decide)).trans (((tr33.2.2.2.1 215 4 (by decide) (by decide) (by decide) (Or.inl (by decide))).trans (bc))))))))))))) ((w_up_slot (by decide)).trans ((w_up_slot (by decide)).trans ((w_up_slot (by decide)).trans (((hc38.2.2.2.1 220 (c - 1) (by decide) (by decide) (by decide) (Or.inl (by decide))).trans ((w_up_slot (by decide)).trans ((w_up_slot (by decide)).trans ((w_up_slot (by decide)).trans ((w_up_slot (by decide)).trans ((w_up_slot (by decide)).trans (((tr33.2.2.2.1 220 (c - 1) (by decide) (by decide) (by decide) (Or.inl (by decide))).trans (bp))))))))))))) ((((w_up_slot (by decide)).trans ((w_up_slot (by decide)).trans ((w_up_slot (by decide)).trans (((hc38.2.2.2.1 218 (-1) (by decide) (by decide) (by decide) (Or.inl (by decide))).trans ((w_up_slot (by decide)).trans ((w_up_slot (by decide)).trans ((w_up_slot (by decide)).trans ((w_up_slot (by decide)).trans ((w_up_slot (by decide)).trans (((tr33.2.2.2.1 218 (-1) (by decide) (by decide) (by decide) (Or.inl (by decide))).trans (bl1)))))))))))))).trans (((w_up_slot (by decide)).trans ((w_up_slot (by decide)).trans ((w_up_slot (by decide)).trans (((hc38.2.2.2.1 217 (-1) (by decide) (by decide) (by decide) (Or.inl (by decide))).trans ((w_up_slot (by decide)).trans ((w_up_slot (by decide)).trans ((w_up_slot (by decide)).trans ((w_up_slot (by decide)).trans ((w_up_slot (by decide)).trans (((tr33.2.2.2.1 217 (-1) (by decide) (by decide) (by decide) (Or.inl (by decide))).trans (rfl)))))))))))))).symm) (by have e : (w_up (w_up (w_up C38 158 17 (S 2 1 * 4294967296 + n)) 158 16 ky) 158 17 vy) 217 (-1) = S 217 (-1) := ((w_up_slot (by decide)).trans ((w_up_slot (by decide)).trans ((w_up_slot (by decide)).trans (((hc38.2.2.2.1 217 (-1) (by decide) (by decide) (by decide) (Or.inl (by decide))).trans ((w_up_slot (by decide)).trans ((w_up_slot (by decide)).trans ((w_up_slot (by decide)).trans ((w_up_slot (by decide)).trans ((w_up_slot (by decide)).trans (((tr33.2.2.2.1 217 (-1) (by decide) (by decide) (by decide) (Or.inl (by decide))).trans (rfl))))))))))))); rw [e]; exact ⟨bl2, bl3⟩) (by have e : (w_up (w_up (w_up C38 158 17 (S 2 1 * 4294967296 + n)) 158 16 ky) 158 17 vy) 217 (-1) = S 217 (-1) := ((w_up_slot (by decide)).trans ((w_up_slot (by decide)).trans ((w_up_slot (by decide)).trans (((hc38.2.2.2.1 217 (-1) (by decide) (by decide) (by decide) (Or.inl (by decide))).trans ((w_up_slot (by decide)).trans ((w_up_slot (by decide)).trans ((w_up_slot (by decide)).trans ((w_up_slot (by decide)).trans ((w_up_slot (by decide)).trans (((tr33.2.2.2.1 217 (-1) (by decide) (by decide) (by decide) (Or.inl (by decide))).trans (rfl))))))))))))); omega) ⟨by omega, by omega⟩ ⟨by omega, by omega⟩ ⟨by omega, by omega⟩ ⟨by omega, by omega⟩) (fun oq56 Sq56 hp57 q56 => ?_)
                                  rcases q56 with ⟨rfl, hgv56⟩
                                  show wJ _ _ _ _ _ _ _ _ _ _
                                  refine wa_return rfl ?_
                                  refine ⟨rfl, Or.inr ⟨by omega, Sq33, (w_up (w_up (w_up C38 158 17 (S 2 1 * 4294967296 + n)) 158 16 ky) 158 17 vy), tr33, ?_, ?_⟩⟩
                                  · exact txR_mk ⟨by decide, by decide⟩ hc38 (fun j i hji => (w_up_no (by omega)).trans ((w_up_no (by omega)).trans ((w_up_no (by omega)).trans (rfl))))
                                  · first | (rw [if_pos (show kd = 1 by omega), if_pos (show kd = 1 by omega)]; exact hgv56) | (rw [if_neg (show ¬ kd = 1 by omega), if_neg (show ¬ kd = 1 by omega)]; exact hgv56)
                              · skip
                                exact absurd c37 (by omega)
                            · skip
                              exact absurd c35 (by omega)
                          · skip
                            exact absurd c31 (by omega)
              · skip
                exact absurd c13 (by omega)
          · skip
            exact absurd c9 (by omega)
  · skip
    exact absurd c3 (by omega)
set_option maxHeartbeats 4000000 in
theorem cmt_162_226 {c p h kd ba m en tn ky vy ty sb gk gb : Int} (hP : xP 226 c p h S) (l4 : S 158 4 = 226) (l5 : S 158 5 = 227) (l7 : S 158 7 = kd) (l8 : S 158 8 = ba) (l12 : S 158 12 = en) (hen : 0 ≤ en ∧ en ≤ 1000) (hba : 0 ≤ ba ∧ ba < h) (h72 : S 72 1 = 162) (hm : 0 ≤ m ∧ m < 400) (hso : S 187 m = 1) (ht15 : S 72 15 = tn) (ht0 : 0 ≤ tn ∧ tn ≤ S 152 (-1) ∧ tn ≤ 100000) (ht9 : 16 ≤ S 152 (-1) ∧ S 152 (-1) ≤ 131072 ∨ (16 ≤ S 152 (-1) ∧ S 152 (-1) ≤ 262143 ∧ tn + 2 ≤ S 152 (-1))) (hky : S 228 (h - 1) = ky) (hvy : S 229 (h - 1) = vy) (hkr : -128 ≤ ky ∧ ky ≤ 127) (hvr : -9223372036854775808 ≤ vy ∧ vy ≤ 9223372036854775807) {es : List (Int × Int)} (hK : KC 176 186 182 203 204 163 162 T cs ms os S) (hw : wHo cs ms os) (hlt : cLt S Th) (hT : (Th.length : Int) ≤ 8000) (hty : 8 ≤ ty ∧ ty < 9 + (cs.length : Int)) (hmt : S 189 m = ty) (hmf : S 201 m = -1) (hms : S 188 m = sb) (hsb : sb = 0 ∨ sb = 1) (hel : en = (es.length : Int)) (heb : ba + 1 + en ≤ h) (hes : ∀ i : Nat, i < es.length → S 228 (ba + 1 + (i : Int)) = (es.getD i (0, 0)).1 ∧ S 229 (ba + 1 + (i : Int)) = (es.getD i (0, 0)).2) (hev : ∀ i : Nat, i < es.length → okV (cs.length : Int) Th S (es.getD i (0, 0))) (l9 : S 158 9 = gk) (l10 : S 158 10 = gb) (hg : okV (cs.length : Int) Th S (gk, gb)) : wJ (pe_GA xs) wY0 (mS [228, 229, 152]) (d + 6) t_XL_callMember ((pe_at t_XL_callMember.bl 0).getD (0, [])).2 [(0, (2, 158)), (1, (0, m))] [] S (fun o Z => o = .inl none ∧ ((100000 < tn + 2 ∧ w_up S 226 16 99 = Z) ∨ (¬ (100000 < tn + 2) ∧ cmE 226 h c p (h - ba) kd ky vy ((anX cs S sb gk gb ty es).getD (0, 0)).1 ((anX cs S sb gk gb ty es).getD (0, 0)).2 m en gvR S Z))) := by
  obtain ⟨⟨hC, hI⟩, ⟨bc, bc0, bc1⟩, ⟨bp, bp0, bp1⟩, ⟨bh, bh0, bh1, bh2⟩, bl1, bl2, bl3⟩ := hP
  replace bp : S 231 (c - 1) = p := bp
  replace bh : S 227 2 = h := bh
  replace bh2 : h ≤ S 228 (-1) := bh2
  replace bl1 : S 229 (-1) = S 228 (-1) := bl1
  replace bl2 : 64 ≤ S 228 (-1) := bl2
  replace bl3 : S 228 (-1) ≤ 4095 := bl3
  have hn60 := (KC_n hK).2.2
  refine wa_aload_n (n := 0) rfl ?_
  refine wb_gf4 158 rfl (wy_pr rfl) wt_158 wf_5_0 (v := 72) wl_158_0 ?_
  refine wb_gf5 72 rfl (wy_pr rfl) wt_72 wf_2_1 (v := 162) (h72) (fun r1 => ?_)
  refine wa_astore_n (n := 2) rfl ?_
  refine wa_aload_n (n := 2) rfl ?_
  refine wb_gf4 162 rfl (wy_pr rfl) wt_162 wf_3_3 (v := 185) wl_162_3 ?_
  refine wa_iconst ?_
  refine wb_aald5 185 1 rfl rfl (wy_pr rfl) wt_185 (by rw [show _ = _ from ((cl_185 hC))]; omega) wl_185_1 ?_
  refine wa_iload_n (n := 1) rfl ?_
  refine wb_iald 187 rfl (wy_pr rfl) wt_187 (n := 400) ((cl_187 hC)) (by omega) (by omega) (v := 1) (hso) (fun r2 => ?_)
  refine wa_iconst ?_
  refine wa_icmpne (w_rg0 (by omega) (by omega)) (w_rg0 (by omega) (by omega)) ⟨_, rfl⟩ (fun c3 => ?_) (fun c3 => ?_)
  · skip
    refine wa_iconst ?_
    refine wa_fall ⟨_, rfl⟩ ?_
    refine wa_istore_n (n := 3) rfl ?_
    refine wa_iload_n (n := 3) rfl ?_
    refine wa_ifne (w_rg0 (by omega) (by omega)) ⟨_, rfl⟩ (fun c4 => ?_) (fun c4 => ?_)
    · skip
      exact absurd c4 (by omega)
    · skip
      refine wa_aload_n (n := 2) rfl ?_
      refine wb_gf4 162 rfl (wy_pr rfl) wt_162 wf_3_3 (v := 185) wl_162_3 ?_
      refine wa_iconst ?_
      refine wb_aald5 185 3 rfl rfl (wy_pr rfl) wt_185 (by rw [show _ = _ from ((cl_185 hC))]; omega) wl_185_3 ?_
      refine wa_iload_n (n := 1) rfl ?_
      refine wb_iald 189 rfl (wy_pr rfl) wt_189 (n := 400) ((cl_189 hC)) (by omega) (by omega) (v := ty) (hmt) (fun r5 => ?_)
      refine wa_bipush (w_rg2 (by omega) (by omega)) ?_
      refine wa_icmpne (w_rg0 (by omega) (by omega)) (w_rg0 (by omega) (by omega)) ⟨_, rfl⟩ (fun c6 => ?_) (fun c6 => ?_)
      · skip
        refine wa_iconst ?_
        refine wa_fall ⟨_, rfl⟩ ?_
        refine wa_istore (n := 4) rfl ?_
        refine wa_iload_n (n := 3) rfl ?_
        refine wa_ifeq (w_rg0 (by omega) (by omega)) ⟨_, rfl⟩ (fun c7 => ?_) (fun c7 => ?_)
        · skip
          refine wa_iconst ?_
          refine wa_fall ⟨_, rfl⟩ ?_
          refine wa_istore (n := 5) rfl ?_
          refine wa_aload_n (n := 0) rfl ?_
          refine wb_gf4 158 rfl (wy_pr rfl) wt_158 wf_5_0 (v := 72) wl_158_0 ?_
          refine wb_gfi 72 rfl (wy_pr rfl) wt_72 wf_2_15 (v := tn) (ht15) (fun r8 => ?_)
          refine wa_iconst ?_
          refine wa_iadd ?_
          refine wb_ki (n := 100000) rfl ?_
          refine wa_icmpgt (w_rg0 (by omega) (by omega)) (w_rg0 (by omega) (by omega)) ⟨_, rfl⟩ (fun c9 => ?_) (fun c9 => ?_)
          · skip
            refine wa_aload_n (n := 0) rfl ?_
            refine wb_gf5 158 rfl (wy_pr rfl) wt_158 wf_5_4 (v := 226) (l4) (fun r10 => ?_)
            refine wa_bipush (w_rg2 (by omega) (by omega)) ?_
            refine wb_pfi 226 rfl (wy_pr rfl) wt_226 wf_8_16 (n := 16) rfl ⟨(by omega), (by omega)⟩ ?_
            refine wa_return rfl ?_
            exact ⟨rfl, Or.inl ⟨by omega, rfl⟩⟩
          · skip
            refine wa_iload_n (n := 3) rfl ?_
            refine wa_ifeq (w_rg0 (by omega) (by omega)) ⟨_, rfl⟩ (fun c11 => ?_) (fun c11 => ?_)
            · skip
              refine wa_iload (n := 4) rfl ?_
              refine wa_ifeq (w_rg0 (by omega) (by omega)) ⟨_, rfl⟩ (fun c12 => ?_) (fun c12 => ?_)
              · skip
                refine wa_aload_n (n := 0) rfl ?_
                refine wb_gf4 158 rfl (wy_pr rfl) wt_158 wf_5_0 (v := 72) wl_158_0 ?_
                refine wa_iload_n (n := 1) rfl ?_
                refine wa_aload_n (n := 0) rfl ?_
                refine wb_gfi 158 rfl (wy_pr rfl) wt_158 wf_5_12 (v := en) (l12) (fun r13 => ?_)
                refine wa_cv 72 rfl (wy_pr rfl) wt_72 (M2 := mS [152]) rfl at_XH_addTrace ⟨_, rfl⟩ rfl rfl ⟨trivial, trivial, trivial, (Or.inr ⟨wy_pr rfl, mS_no rfl⟩), (Or.inr ⟨wy_pr rfl, mS_no rfl⟩), trivial, trivial⟩ trivial (fun _ _ q => mS_sub (by decide) q) (tra (S := S) (m := m) (k := en) hI ⟨by omega, by omega⟩ ⟨by omega, by omega⟩ (by rw [ht15]; exact ht0) (by rw [ht15]; exact ht9)) (fun oq14 Sq14 hp15 q14 => ?_)
                rcases q14 with ⟨rfl, tr14⟩
                show wJ _ _ _ _ _ _ _ _ _ _
                refine wa_aload_n (n := 0) rfl ?_
                refine wa_iconst ?_
                refine wb_pfi 158 rfl (wy_pr rfl) wt_158 wf_5_16 (n := 16) rfl ⟨(by omega), (by omega)⟩ ?_
                refine wa_aload_n (n := 0) rfl ?_
                refine wb_lconst (m := 0) rfl ?_
                refine wb_pfl 158 rfl (wy_pr rfl) wt_158 wf_5_17 (n := 17) rfl ⟨(by omega), (by omega)⟩ ?_
                refine wa_iload_n (n := 3) rfl ?_
                refine wa_ifeq (w_rg0 (by omega) (by omega)) ⟨_, rfl⟩ (fun c16 => ?_) (fun c16 => ?_)
                · skip
                  refine wa_aload_n (n := 2) rfl ?_
                  refine wb_gf4 162 rfl (wy_pr rfl) wt_162 wf_3_3 (v := 185) wl_162_3 ?_
                  refine wa_bipush (w_rg2 (by omega) (by omega)) ?_
                  refine wb_aald5 185 15 rfl rfl (wy_pr rfl) wt_185 (by rw [show _ = _ from ((w_up_slot (by decide)).trans ((w_up_slot (by decide)).trans (((tr14.2.2.2.1 185 (-1) (by decide) (by decide) (by decide) (Or.inl (by decide))).trans ((cl_185 hC))))))]; omega) wl_185_15 ?_
                  refine wa_iload_n (n := 1) rfl ?_
                  refine wb_iald 201 rfl (wy_pr rfl) wt_201 (n := 400) ((w_up_slot (by decide)).trans ((w_up_slot (by decide)).trans (((tr14.2.2.2.1 201 (-1) (by decide) (by decide) (by decide) (Or.inl (by decide))).trans ((cl_201 hC)))))) (by omega) (by omega) (v := (-1)) ((w_up_slot (by decide)).trans ((w_up_slot (by decide)).trans (((tr14.2.2.2.1 201 m (by decide) (by decide) (by decide) (Or.inl (by decide))).trans (hmf))))) (fun r17 => ?_)
                  refine wa_iconst ?_
                  refine wa_icmpeq (w_rg0 (by omega) (by omega)) (w_rg0 (by omega) (by omega)) ⟨_, rfl⟩ (fun c18 => ?_) (fun c18 => ?_)
                  · skip
                    refine wa_aload_n (n := 0) rfl ?_
                    refine wa_iload_n (n := 1) rfl ?_
                    have hf2 : ∀ (j : Nat) (i : Int), j < 4000000 → j ≠ wG → j ≠ 152 → j ≠ 72 → j ≠ 158 → (w_up (w_up Sq14 158 16 0) 158 17 0) j i = S j i := fun j i a b c d e => (w_up_no (fun z => e z.1)).trans ((w_up_no (fun z => e z.1)).trans (tr14.2.2.2.1 j i a b c (Or.inl d)))
                    have el : (w_up (w_up Sq14 158 16 0) 158 17 0) 228 (-1) = S 228 (-1) := (hf2 228 _ (by first | decide | omega) (by first | decide | omega) (by first | decide | omega) (by first | decide | omega) (by first | decide | omega))
                    have el2 : (w_up (w_up Sq14 158 16 0) 158 17 0) 229 (-1) = S 229 (-1) := (hf2 229 _ (by first | decide | omega) (by first | decide | omega) (by first | decide | omega) (by first | decide | omega) (by first | decide | omega))
                    have el3 : (w_up (w_up Sq14 158 16 0) 158 17 0) 127 (-1) = S 127 (-1) := (hf2 127 _ (by first | decide | omega) (by first | decide | omega) (by first | decide | omega) (by first | decide | omega) (by first | decide | omega))
                    have e129 : (w_up (w_up Sq14 158 16 0) 158 17 0) 129 = S 129 := funext fun i => (hf2 129 _ (by first | decide | omega) (by first | decide | omega) (by first | decide | omega) (by first | decide | omega) (by first | decide | omega))
                    have hwg : wG = 1000000 := rfl
                    have hK2 : KC 176 186 182 203 204 163 162 T cs ms os (w_up (w_up Sq14 158 16 0) 158 17 0) := KC_ag hK (hf2 162 _ (by first | decide | omega) (by first | decide | omega) (by first | decide | omega) (by first | decide | omega) (by first | decide | omega)) (hf2 162 _ (by first | decide | omega) (by first | decide | omega) (by first | decide | omega) (by first | decide | omega) (by first | decide | omega)) (fun j hj => funext fun i => hf2 j i (by omega) (by omega) (by omega) (by omega) (by omega))
                    have hlt2 : cLt (w_up (w_up Sq14 158 16 0) 158 17 0) Th := ⟨fun x hx => by rw [hf2 (127 + x) (-1) (by omega) (by omega) (by omega) (by omega) (by omega), el3]; exact hlt.1 x hx, by rw [el3]; exact hlt.2⟩
                    have hok : ∀ e, okV (cs.length : Int) Th S e → okV (cs.length : Int) Th (w_up (w_up Sq14 158 16 0) 158 17 0) e := fun e z => ⟨z.1, z.2.1, fun y => by rw [e129]; exact z.2.2 y⟩
                    refine wa_cv 158 rfl (wy_pr rfl) wt_158 (M2 := fun _ => False) rfl at_XL_answer ⟨_, rfl⟩ rfl rfl ⟨trivial, trivial, trivial, (Or.inr ⟨wy_pr rfl, fun q => q⟩), (Or.inr ⟨wy_pr rfl, fun q => q⟩), trivial, trivial⟩ trivial (fun _ _ q => False.elim q) (wJ_mono (ant_162_226 (Th := Th) (S := (w_up (w_up Sq14 158 16 0) 158 17 0)) (m := m) (sb := sb) (es := es) (w_CL_up (w_CL_up (CL_tr hC tr14) (by omega)) (by omega)) hK2 hw ((w_up_slot (by decide)).trans ((w_up_slot (by decide)).trans (((tr14.2.2.2.1 72 1 (by decide) (by decide) (by decide) (Or.inr (by decide))).trans (h72))))) hlt2 hT ⟨by omega, by omega⟩ ((w_up_at (by decide)).trans ((w_up_at (by decide)).trans (((tr14.2.2.2.1 158 5 (by decide) (by decide) (by decide) (Or.inl (by decide))).trans (l5))))) ((w_up_at (by decide)).trans ((w_up_at (by decide)).trans (((tr14.2.2.2.1 158 8 (by decide) (by decide) (by decide) (Or.inl (by decide))).trans (l8))))) (((w_up_at (by decide)).trans ((w_up_at (by decide)).trans (((tr14.2.2.2.1 158 12 (by decide) (by decide) (by decide) (Or.inl (by decide))).trans (l12))))).trans hel) (by rw [el, el2]; exact bl1) (by rw [el]; exact ⟨by omega, by omega, bl3⟩) (fun i hi => ⟨(hf2 228 _ (by decide) (by decide) (by decide) (by decide) (by decide)).trans (hes i hi).1, (hf2 229 _ (by decide) (by decide) (by decide) (by decide) (by decide)).trans (hes i hi).2⟩) (fun i hi => hok _ (hev i hi)) (((w_up_at (by decide)).trans ((w_up_at (by decide)).trans ((tr14.2.2.2.1 158 9 (by decide) (by decide) (by decide) (Or.inl (by decide)))))).trans l9) (((w_up_at (by decide)).trans ((w_up_at (by decide)).trans ((tr14.2.2.2.1 158 10 (by decide) (by decide) (by decide) (Or.inl (by decide)))))).trans l10) (hok _ hg) hm ((w_up_slot (by decide)).trans ((w_up_slot (by decide)).trans (((tr14.2.2.2.1 189 m (by decide) (by decide) (by decide) (Or.inl (by decide))).trans (hmt))))) ((hf2 188 _ (by decide) (by decide) (by decide) (by decide) (by decide)).trans hms) hsb (by omega)) (fun o Z hz => (⟨hz.1, by have y := anU_cs (cs := cs) (sb := sb) (gk := gk) (gb := gb) (ty := ty) (es := es) hz.2; rw [anX_cg e129] at y; exact y⟩ : o = .inl none ∧ ((anX cs S sb gk gb ty es = none ∧ (w_up (w_up Sq14 158 16 0) 158 17 0) = Z) ∨ ∃ e1 e2 : Int, anX cs S sb gk gb ty es = some (e1, e2) ∧ w_up (w_up (w_up (w_up Sq14 158 16 0) 158 17 0) 158 16 e1) 158 17 e2 = Z)))) (fun oq19 Sq19 hp20 q19 => ?_)
                    rcases q19 with ⟨rfl, ⟨hX, rfl⟩ | ⟨e1, e2, hX, rfl⟩⟩
                    · skip
                      show wJ _ _ _ _ _ _ _ _ _ _
                      refine wa_fall ⟨_, rfl⟩ ?_
                      refine wa_aload_n (n := 0) rfl ?_
                      refine wb_gfi 158 rfl (wy_pr rfl) wt_158 wf_5_7 (v := kd) ((w_up_at (by decide)).trans ((w_up_at (by decide)).trans (((tr14.2.2.2.1 158 7 (by decide) (by decide) (by decide) (Or.inl (by decide))).trans (l7))))) (fun r21 => ?_)
                      refine wa_iconst ?_
                      refine wa_icmpne (w_rg0 (by omega) (by omega)) (w_rg0 (by omega) (by omega)) ⟨_, rfl⟩ (fun c22 => ?_) (fun c22 => ?_)
                      · skip
                        refine wa_aload_n (n := 0) rfl ?_
                        refine wa_aload_n (n := 0) rfl ?_
                        refine wb_gfi 158 rfl (wy_pr rfl) wt_158 wf_5_16 (v := 0) ((w_up_at (by decide)).trans (w_up_same _ _ _ _)) (fun r23 => ?_)
                        refine wa_aload_n (n := 0) rfl ?_
                        refine wb_gfl 158 rfl (wy_pr rfl) wt_158 wf_5_17 (v := 0) (w_up_same _ _ _ _) (fun r24 => ?_)
                        refine wa_cv 158 rfl (wy_pr rfl) wt_158 (M2 := mS [228, 229]) rfl at_XL_giveValue ⟨_, rfl⟩ rfl rfl ⟨trivial, trivial, trivial, (Or.inr ⟨wy_pr rfl, mS_no rfl⟩), (Or.inr ⟨wy_pr rfl, mS_no rfl⟩), trivial, trivial⟩ trivial (fun _ _ q => mS_sub (by decide) q) (glx_226 (S := (w_up (w_up Sq14 158 16 0) 158 17 0)) (k := 0) (v := 0) (h := h) (c := c) (p := p) (ba := ba) (w_CL_up (w_CL_up (CL_tr hC tr14) (by omega)) (by omega)) (gI_up (gI_up tr14.2.2.2.2.2.1 (by omega) (by omega) (by omega)) (by omega) (by omega) (by omega)) ((w_up_at (by decide)).trans ((w_up_at (by decide)).trans (((tr14.2.2.2.1 158 4 (by decide) (by decide) (by decide) (Or.inl (by decide))).trans (l4))))) ((w_up_at (by decide)).trans ((w_up_at (by decide)).trans (((tr14.2.2.2.1 158 5 (by decide) (by decide) (by decide) (Or.inl (by decide))).trans (l5))))) ((w_up_at (by decide)).trans ((w_up_at (by decide)).trans (((tr14.2.2.2.1 158 8 (by decide) (by decide) (by decide) (Or.inl (by decide))).trans (l8))))) ((w_up_slot (by decide)).trans ((w_up_slot (by decide)).trans (((tr14.2.2.2.1 226 4 (by decide) (by decide) (by decide) (Or.inl (by decide))).trans (bc))))) ((w_up_slot (by decide)).trans ((w_up_slot (by decide)).trans (((tr14.2.2.2.1 231 (c - 1) (by decide) (by decide) (by decide) (Or.inl (by decide))).trans (bp))))) ((((w_up_slot (by decide)).trans ((w_up_slot (by decide)).trans (((tr14.2.2.2.1 229 (-1) (by decide) (by decide) (by decide) (Or.inl (by decide))).trans (bl1)))))).trans (((w_up_slot (by decide)).trans ((w_up_slot (by decide)).trans (((tr14.2.2.2.1 228 (-1) (by decide) (by decide) (by decide) (Or.inl (by decide))).trans (rfl)))))).symm) (by have e : (w_up (w_up Sq14 158 16 0) 158 17 0) 228 (-1) = S 228 (-1) := ((w_up_slot (by decide)).trans ((w_up_slot (by decide)).trans (((tr14.2.2.2.1 228 (-1) (by decide) (by decide) (by decide) (Or.inl (by decide))).trans (rfl))))); rw [e]; exact ⟨bl2, bl3⟩) (by have e : (w_up (w_up Sq14 158 16 0) 158 17 0) 228 (-1) = S 228 (-1) := ((w_up_slot (by decide)).trans ((w_up_slot (by decide)).trans (((tr14.2.2.2.1 228 (-1) (by decide) (by decide) (by decide) (Or.inl (by decide))).trans (rfl))))); omega) ⟨by omega, by omega⟩ ⟨by omega, by omega⟩ ⟨by omega, by omega⟩ ⟨by omega, by omega⟩) (fun oq25 Sq25 hp26 q25 => ?_)
                        rcases q25 with ⟨rfl, hgv25⟩
                        show wJ _ _ _ _ _ _ _ _ _ _
                        refine wa_return rfl ?_
                        refine ⟨rfl, Or.inr ⟨by omega, Sq14, (w_up (w_up Sq14 158 16 0) 158 17 0), tr14, ?_, ?_⟩⟩
                        · exact fun j i hji => (w_up_no (by omega)).trans ((w_up_no (by omega)).trans (rfl))
                        · rw [hX]; first | (rw [if_pos (show kd = 1 by omega), if_pos (show kd = 1 by omega)]; exact hgv25) | (rw [if_neg (show ¬ kd = 1 by omega), if_neg (show ¬ kd = 1 by omega)]; exact hgv25)
                      · skip
                        refine wa_aload_n (n := 0) rfl ?_
                        refine wa_aload_n (n := 0) rfl ?_
                        refine wb_gf5 158 rfl (wy_pr rfl) wt_158 wf_5_5 (v := 227) ((w_up_at (by decide)).trans ((w_up_at (by decide)).trans (((tr14.2.2.2.1 158 5 (by decide) (by decide) (by decide) (Or.inl (by decide))).trans (l5))))) (fun r27 => ?_)
                        refine wb_gf4 227 rfl (wy_pr rfl) wt_227 wf_7_0 (v := 228) wl_227_0 ?_
                        refine wa_aload_n (n := 0) rfl ?_
                        refine wb_gf5 158 rfl (wy_pr rfl) wt_158 wf_5_5 (v := 227) ((w_up_at (by decide)).trans ((w_up_at (by decide)).trans (((tr14.2.2.2.1 158 5 (by decide) (by decide) (by decide) (Or.inl (by decide))).trans (l5))))) (fun r28 => ?_)
                        refine wb_gfi 227 rfl (wy_pr rfl) wt_227 wf_7_2 (v := h) ((w_up_slot (by decide)).trans ((w_up_slot (by decide)).trans (((tr14.2.2.2.1 227 2 (by decide) (by decide) (by decide) (Or.inl (by decide))).trans (bh))))) (fun r29 => ?_)
                        refine wa_iconst ?_
                        refine wa_isub ?_
                        refine wb_bald 228 rfl (wy_pr rfl) wt_228 (n := (S 228 (-1))) ((w_up_slot (by decide)).trans ((w_up_slot (by decide)).trans (((tr14.2.2.2.1 228 (-1) (by decide) (by decide) (by decide) (Or.inl (by decide))).trans (rfl))))) (by omega) (by omega) (v := ky) ((w_up_slot (by decide)).trans ((w_up_slot (by decide)).trans (((tr14.2.2.2.1 228 (h - 1) (by decide) (by decide) (by decide) (Or.inl (by decide))).trans (hky))))) (fun r30 => ?_)
                        refine wb_pfi 158 rfl (wy_pr rfl) wt_158 wf_5_16 (n := 16) rfl ⟨(by omega), (by omega)⟩ ?_
                        refine wa_aload_n (n := 0) rfl ?_
                        refine wa_aload_n (n := 0) rfl ?_
                        refine wb_gf5 158 rfl (wy_pr rfl) wt_158 wf_5_5 (v := 227) ((w_up_at (by decide)).trans ((w_up_at (by decide)).trans ((w_up_at (by decide)).trans (((tr14.2.2.2.1 158 5 (by decide) (by decide) (by decide) (Or.inl (by decide))).trans (l5)))))) (fun r31 => ?_)
                        refine wb_gf4 227 rfl (wy_pr rfl) wt_227 wf_7_1 (v := 229) wl_227_1 ?_
                        refine wa_aload_n (n := 0) rfl ?_
                        refine wb_gf5 158 rfl (wy_pr rfl) wt_158 wf_5_5 (v := 227) ((w_up_at (by decide)).trans ((w_up_at (by decide)).trans ((w_up_at (by decide)).trans (((tr14.2.2.2.1 158 5 (by decide) (by decide) (by decide) (Or.inl (by decide))).trans (l5)))))) (fun r32 => ?_)
                        refine wb_gfi 227 rfl (wy_pr rfl) wt_227 wf_7_2 (v := h) ((w_up_slot (by decide)).trans ((w_up_slot (by decide)).trans ((w_up_slot (by decide)).trans (((tr14.2.2.2.1 227 2 (by decide) (by decide) (by decide) (Or.inl (by decide))).trans (bh)))))) (fun r33 => ?_)
                        refine wa_iconst ?_
                        refine wa_isub ?_
                        refine wb_lald 229 rfl (wy_pr rfl) wt_229 (n := (S 228 (-1))) ((w_up_slot (by decide)).trans ((w_up_slot (by decide)).trans ((w_up_slot (by decide)).trans (((tr14.2.2.2.1 229 (-1) (by decide) (by decide) (by decide) (Or.inl (by decide))).trans (bl1)))))) (by omega) (by omega) (v := vy) ((w_up_slot (by decide)).trans ((w_up_slot (by decide)).trans ((w_up_slot (by decide)).trans (((tr14.2.2.2.1 229 (h - 1) (by decide) (by decide) (by decide) (Or.inl (by decide))).trans (hvy)))))) (fun r34 => ?_)
                        refine wb_pfl 158 rfl (wy_pr rfl) wt_158 wf_5_17 (n := 17) rfl ⟨(by omega), (by omega)⟩ ?_
                        refine wa_fall ⟨_, rfl⟩ ?_
                        refine wa_aload_n (n := 0) rfl ?_
                        refine wa_aload_n (n := 0) rfl ?_
                        refine wb_gfi 158 rfl (wy_pr rfl) wt_158 wf_5_16 (v := ky) ((w_up_at (by decide)).trans (w_up_same _ _ _ _)) (fun r35 => ?_)
                        refine wa_aload_n (n := 0) rfl ?_
                        refine wb_gfl 158 rfl (wy_pr rfl) wt_158 wf_5_17 (v := vy) (w_up_same _ _ _ _) (fun r36 => ?_)
                        refine wa_cv 158 rfl (wy_pr rfl) wt_158 (M2 := mS [228, 229]) rfl at_XL_giveValue ⟨_, rfl⟩ rfl rfl ⟨trivial, trivial, trivial, (Or.inr ⟨wy_pr rfl, mS_no rfl⟩), (Or.inr ⟨wy_pr rfl, mS_no rfl⟩), trivial, trivial⟩ trivial (fun _ _ q => mS_sub (by decide) q) (glx_226 (S := (w_up (w_up (w_up (w_up Sq14 158 16 0) 158 17 0) 158 16 ky) 158 17 vy)) (k := ky) (v := vy) (h := h) (c := c) (p := p) (ba := ba) (w_CL_up (w_CL_up (w_CL_up (w_CL_up (CL_tr hC tr14) (by omega)) (by omega)) (by omega)) (by omega)) (gI_up (gI_up (gI_up (gI_up tr14.2.2.2.2.2.1 (by omega) (by omega) (by omega)) (by omega) (by omega) (by omega)) (by omega) (by omega) (by omega)) (by omega) (by omega) (by omega)) ((w_up_at (by decide)).trans ((w_up_at (by decide)).trans ((w_up_at (by decide)).trans ((w_up_at (by decide)).trans (((tr14.2.2.2.1 158 4 (by decide) (by decide) (by decide) (Or.inl (by decide))).trans (l4))))))) ((w_up_at (by decide)).trans ((w_up_at (by decide)).trans ((w_up_at (by decide)).trans ((w_up_at (by decide)).trans (((tr14.2.2.2.1 158 5 (by decide) (by decide) (by decide) (Or.inl (by decide))).trans (l5))))))) ((w_up_at (by decide)).trans ((w_up_at (by decide)).trans ((w_up_at (by decide)).trans ((w_up_at (by decide)).trans (((tr14.2.2.2.1 158 8 (by decide) (by decide) (by decide) (Or.inl (by decide))).trans (l8))))))) ((w_up_slot (by decide)).trans ((w_up_slot (by decide)).trans ((w_up_slot (by decide)).trans ((w_up_slot (by decide)).trans (((tr14.2.2.2.1 226 4 (by decide) (by decide) (by decide) (Or.inl (by decide))).trans (bc))))))) ((w_up_slot (by decide)).trans ((w_up_slot (by decide)).trans ((w_up_slot (by decide)).trans ((w_up_slot (by decide)).trans (((tr14.2.2.2.1 231 (c - 1) (by decide) (by decide) (by decide) (Or.inl (by decide))).trans (bp))))))) ((((w_up_slot (by decide)).trans ((w_up_slot (by decide)).trans ((w_up_slot (by decide)).trans ((w_up_slot (by decide)).trans (((tr14.2.2.2.1 229 (-1) (by decide) (by decide) (by decide) (Or.inl (by decide))).trans (bl1)))))))).trans (((w_up_slot (by decide)).trans ((w_up_slot (by decide)).trans ((w_up_slot (by decide)).trans ((w_up_slot (by decide)).trans (((tr14.2.2.2.1 228 (-1) (by decide) (by decide) (by decide) (Or.inl (by decide))).trans (rfl)))))))).symm) (by have e : (w_up (w_up (w_up (w_up Sq14 158 16 0) 158 17 0) 158 16 ky) 158 17 vy) 228 (-1) = S 228 (-1) := ((w_up_slot (by decide)).trans ((w_up_slot (by decide)).trans ((w_up_slot (by decide)).trans ((w_up_slot (by decide)).trans (((tr14.2.2.2.1 228 (-1) (by decide) (by decide) (by decide) (Or.inl (by decide))).trans (rfl))))))); rw [e]; exact ⟨bl2, bl3⟩) (by have e : (w_up (w_up (w_up (w_up Sq14 158 16 0) 158 17 0) 158 16 ky) 158 17 vy) 228 (-1) = S 228 (-1) := ((w_up_slot (by decide)).trans ((w_up_slot (by decide)).trans ((w_up_slot (by decide)).trans ((w_up_slot (by decide)).trans (((tr14.2.2.2.1 228 (-1) (by decide) (by decide) (by decide) (Or.inl (by decide))).trans (rfl))))))); omega) ⟨by omega, by omega⟩ ⟨by omega, by omega⟩ ⟨by omega, by omega⟩ ⟨by omega, by omega⟩) (fun oq37 Sq37 hp38 q37 => ?_)
                        rcases q37 with ⟨rfl, hgv37⟩
                        show wJ _ _ _ _ _ _ _ _ _ _
                        refine wa_return rfl ?_
                        refine ⟨rfl, Or.inr ⟨by omega, Sq14, (w_up (w_up (w_up (w_up Sq14 158 16 0) 158 17 0) 158 16 ky) 158 17 vy), tr14, ?_, ?_⟩⟩
                        · exact fun j i hji => (w_up_no (by omega)).trans ((w_up_no (by omega)).trans ((w_up_no (by omega)).trans ((w_up_no (by omega)).trans (rfl))))
                        · rw [hX]; first | (rw [if_pos (show kd = 1 by omega), if_pos (show kd = 1 by omega)]; exact hgv37) | (rw [if_neg (show ¬ kd = 1 by omega), if_neg (show ¬ kd = 1 by omega)]; exact hgv37)
                    · skip
                      show wJ _ _ _ _ _ _ _ _ _ _
                      have hokx := anX_ok hg hev hX
                      have hok1 : 0 ≤ e1 ∧ e1 ≤ 8 := hokx.1
                      have hok2 : -9223372036854775808 ≤ e2 ∧ e2 ≤ 9223372036854775807 := hokx.2.1
                      refine wa_fall ⟨_, rfl⟩ ?_
                      refine wa_aload_n (n := 0) rfl ?_
                      refine wb_gfi 158 rfl (wy_pr rfl) wt_158 wf_5_7 (v := kd) ((w_up_at (by decide)).trans ((w_up_at (by decide)).trans ((w_up_at (by decide)).trans ((w_up_at (by decide)).trans (((tr14.2.2.2.1 158 7 (by decide) (by decide) (by decide) (Or.inl (by decide))).trans (l7))))))) (fun r39 => ?_)
                      refine wa_iconst ?_
                      refine wa_icmpne (w_rg0 (by omega) (by omega)) (w_rg0 (by omega) (by omega)) ⟨_, rfl⟩ (fun c40 => ?_) (fun c40 => ?_)
                      · skip
                        refine wa_aload_n (n := 0) rfl ?_
                        refine wa_aload_n (n := 0) rfl ?_
                        refine wb_gfi 158 rfl (wy_pr rfl) wt_158 wf_5_16 (v := e1) ((w_up_at (by decide)).trans (w_up_same _ _ _ _)) (fun r41 => ?_)
                        refine wa_aload_n (n := 0) rfl ?_
                        refine wb_gfl 158 rfl (wy_pr rfl) wt_158 wf_5_17 (v := e2) (w_up_same _ _ _ _) (fun r42 => ?_)
                        refine wa_cv 158 rfl (wy_pr rfl) wt_158 (M2 := mS [228, 229]) rfl at_XL_giveValue ⟨_, rfl⟩ rfl rfl ⟨trivial, trivial, trivial, (Or.inr ⟨wy_pr rfl, mS_no rfl⟩), (Or.inr ⟨wy_pr rfl, mS_no rfl⟩), trivial, trivial⟩ trivial (fun _ _ q => mS_sub (by decide) q) (glx_226 (S := (w_up (w_up (w_up (w_up Sq14 158 16 0) 158 17 0) 158 16 e1) 158 17 e2)) (k := e1) (v := e2) (h := h) (c := c) (p := p) (ba := ba) (w_CL_up (w_CL_up (w_CL_up (w_CL_up (CL_tr hC tr14) (by omega)) (by omega)) (by omega)) (by omega)) (gI_up (gI_up (gI_up (gI_up tr14.2.2.2.2.2.1 (by omega) (by omega) (by omega)) (by omega) (by omega) (by omega)) (by omega) (by omega) (by omega)) (by omega) (by omega) (by omega)) ((w_up_at (by decide)).trans ((w_up_at (by decide)).trans ((w_up_at (by decide)).trans ((w_up_at (by decide)).trans (((tr14.2.2.2.1 158 4 (by decide) (by decide) (by decide) (Or.inl (by decide))).trans (l4))))))) ((w_up_at (by decide)).trans ((w_up_at (by decide)).trans ((w_up_at (by decide)).trans ((w_up_at (by decide)).trans (((tr14.2.2.2.1 158 5 (by decide) (by decide) (by decide) (Or.inl (by decide))).trans (l5))))))) ((w_up_at (by decide)).trans ((w_up_at (by decide)).trans ((w_up_at (by decide)).trans ((w_up_at (by decide)).trans (((tr14.2.2.2.1 158 8 (by decide) (by decide) (by decide) (Or.inl (by decide))).trans (l8))))))) ((w_up_slot (by decide)).trans ((w_up_slot (by decide)).trans ((w_up_slot (by decide)).trans ((w_up_slot (by decide)).trans (((tr14.2.2.2.1 226 4 (by decide) (by decide) (by decide) (Or.inl (by decide))).trans (bc))))))) ((w_up_slot (by decide)).trans ((w_up_slot (by decide)).trans ((w_up_slot (by decide)).trans ((w_up_slot (by decide)).trans (((tr14.2.2.2.1 231 (c - 1) (by decide) (by decide) (by decide) (Or.inl (by decide))).trans (bp))))))) ((((w_up_slot (by decide)).trans ((w_up_slot (by decide)).trans ((w_up_slot (by decide)).trans ((w_up_slot (by decide)).trans (((tr14.2.2.2.1 229 (-1) (by decide) (by decide) (by decide) (Or.inl (by decide))).trans (bl1)))))))).trans (((w_up_slot (by decide)).trans ((w_up_slot (by decide)).trans ((w_up_slot (by decide)).trans ((w_up_slot (by decide)).trans (((tr14.2.2.2.1 228 (-1) (by decide) (by decide) (by decide) (Or.inl (by decide))).trans (rfl)))))))).symm) (by have e : (w_up (w_up (w_up (w_up Sq14 158 16 0) 158 17 0) 158 16 e1) 158 17 e2) 228 (-1) = S 228 (-1) := ((w_up_slot (by decide)).trans ((w_up_slot (by decide)).trans ((w_up_slot (by decide)).trans ((w_up_slot (by decide)).trans (((tr14.2.2.2.1 228 (-1) (by decide) (by decide) (by decide) (Or.inl (by decide))).trans (rfl))))))); rw [e]; exact ⟨bl2, bl3⟩) (by have e : (w_up (w_up (w_up (w_up Sq14 158 16 0) 158 17 0) 158 16 e1) 158 17 e2) 228 (-1) = S 228 (-1) := ((w_up_slot (by decide)).trans ((w_up_slot (by decide)).trans ((w_up_slot (by decide)).trans ((w_up_slot (by decide)).trans (((tr14.2.2.2.1 228 (-1) (by decide) (by decide) (by decide) (Or.inl (by decide))).trans (rfl))))))); omega) ⟨by omega, by omega⟩ ⟨by omega, by omega⟩ ⟨by omega, by omega⟩ ⟨by omega, by omega⟩) (fun oq43 Sq43 hp44 q43 => ?_)
                        rcases q43 with ⟨rfl, hgv43⟩
                        show wJ _ _ _ _ _ _ _ _ _ _
                        refine wa_return rfl ?_
                        refine ⟨rfl, Or.inr ⟨by omega, Sq14, (w_up (w_up (w_up (w_up Sq14 158 16 0) 158 17 0) 158 16 e1) 158 17 e2), tr14, ?_, ?_⟩⟩
                        · exact fun j i hji => (w_up_no (by omega)).trans ((w_up_no (by omega)).trans ((w_up_no (by omega)).trans ((w_up_no (by omega)).trans (rfl))))
                        · rw [hX]; first | (rw [if_pos (show kd = 1 by omega), if_pos (show kd = 1 by omega)]; exact hgv43) | (rw [if_neg (show ¬ kd = 1 by omega), if_neg (show ¬ kd = 1 by omega)]; exact hgv43)
                      · skip
                        refine wa_aload_n (n := 0) rfl ?_
                        refine wa_aload_n (n := 0) rfl ?_
                        refine wb_gf5 158 rfl (wy_pr rfl) wt_158 wf_5_5 (v := 227) ((w_up_at (by decide)).trans ((w_up_at (by decide)).trans ((w_up_at (by decide)).trans ((w_up_at (by decide)).trans (((tr14.2.2.2.1 158 5 (by decide) (by decide) (by decide) (Or.inl (by decide))).trans (l5))))))) (fun r45 => ?_)
                        refine wb_gf4 227 rfl (wy_pr rfl) wt_227 wf_7_0 (v := 228) wl_227_0 ?_
                        refine wa_aload_n (n := 0) rfl ?_
                        refine wb_gf5 158 rfl (wy_pr rfl) wt_158 wf_5_5 (v := 227) ((w_up_at (by decide)).trans ((w_up_at (by decide)).trans ((w_up_at (by decide)).trans ((w_up_at (by decide)).trans (((tr14.2.2.2.1 158 5 (by decide) (by decide) (by decide) (Or.inl (by decide))).trans (l5))))))) (fun r46 => ?_)
                        refine wb_gfi 227 rfl (wy_pr rfl) wt_227 wf_7_2 (v := h) ((w_up_slot (by decide)).trans ((w_up_slot (by decide)).trans ((w_up_slot (by decide)).trans ((w_up_slot (by decide)).trans (((tr14.2.2.2.1 227 2 (by decide) (by decide) (by decide) (Or.inl (by decide))).trans (bh))))))) (fun r47 => ?_)
                        refine wa_iconst ?_
                        refine wa_isub ?_
                        refine wb_bald 228 rfl (wy_pr rfl) wt_228 (n := (S 228 (-1))) ((w_up_slot (by decide)).trans ((w_up_slot (by decide)).trans ((w_up_slot (by decide)).trans ((w_up_slot (by decide)).trans (((tr14.2.2.2.1 228 (-1) (by decide) (by decide) (by decide) (Or.inl (by decide))).trans (rfl))))))) (by omega) (by omega) (v := ky) ((w_up_slot (by decide)).trans ((w_up_slot (by decide)).trans ((w_up_slot (by decide)).trans ((w_up_slot (by decide)).trans (((tr14.2.2.2.1 228 (h - 1) (by decide) (by decide) (by decide) (Or.inl (by decide))).trans (hky))))))) (fun r48 => ?_)
                        refine wb_pfi 158 rfl (wy_pr rfl) wt_158 wf_5_16 (n := 16) rfl ⟨(by omega), (by omega)⟩ ?_
                        refine wa_aload_n (n := 0) rfl ?_
                        refine wa_aload_n (n := 0) rfl ?_
                        refine wb_gf5 158 rfl (wy_pr rfl) wt_158 wf_5_5 (v := 227) ((w_up_at (by decide)).trans ((w_up_at (by decide)).trans ((w_up_at (by decide)).trans ((w_up_at (by decide)).trans ((w_up_at (by decide)).trans (((tr14.2.2.2.1 158 5 (by decide) (by decide) (by decide) (Or.inl (by decide))).trans (l5)))))))) (fun r49 => ?_)
                        refine wb_gf4 227 rfl (wy_pr rfl) wt_227 wf_7_1 (v := 229) wl_227_1 ?_
                        refine wa_aload_n (n := 0) rfl ?_
                        refine wb_gf5 158 rfl (wy_pr rfl) wt_158 wf_5_5 (v := 227) ((w_up_at (by decide)).trans ((w_up_at (by decide)).trans ((w_up_at (by decide)).trans ((w_up_at (by decide)).trans ((w_up_at (by decide)).trans (((tr14.2.2.2.1 158 5 (by decide) (by decide) (by decide) (Or.inl (by decide))).trans (l5)))))))) (fun r50 => ?_)
                        refine wb_gfi 227 rfl (wy_pr rfl) wt_227 wf_7_2 (v := h) ((w_up_slot (by decide)).trans ((w_up_slot (by decide)).trans ((w_up_slot (by decide)).trans ((w_up_slot (by decide)).trans ((w_up_slot (by decide)).trans (((tr14.2.2.2.1 227 2 (by decide) (by decide) (by decide) (Or.inl (by decide))).trans (bh)))))))) (fun r51 => ?_)
                        refine wa_iconst ?_
                        refine wa_isub ?_
                        refine wb_lald 229 rfl (wy_pr rfl) wt_229 (n := (S 228 (-1))) ((w_up_slot (by decide)).trans ((w_up_slot (by decide)).trans ((w_up_slot (by decide)).trans ((w_up_slot (by decide)).trans ((w_up_slot (by decide)).trans (((tr14.2.2.2.1 229 (-1) (by decide) (by decide) (by decide) (Or.inl (by decide))).trans (bl1)))))))) (by omega) (by omega) (v := vy) ((w_up_slot (by decide)).trans ((w_up_slot (by decide)).trans ((w_up_slot (by decide)).trans ((w_up_slot (by decide)).trans ((w_up_slot (by decide)).trans (((tr14.2.2.2.1 229 (h - 1) (by decide) (by decide) (by decide) (Or.inl (by decide))).trans (hvy)))))))) (fun r52 => ?_)
                        refine wb_pfl 158 rfl (wy_pr rfl) wt_158 wf_5_17 (n := 17) rfl ⟨(by omega), (by omega)⟩ ?_
                        refine wa_fall ⟨_, rfl⟩ ?_
                        refine wa_aload_n (n := 0) rfl ?_
                        refine wa_aload_n (n := 0) rfl ?_
                        refine wb_gfi 158 rfl (wy_pr rfl) wt_158 wf_5_16 (v := ky) ((w_up_at (by decide)).trans (w_up_same _ _ _ _)) (fun r53 => ?_)
                        refine wa_aload_n (n := 0) rfl ?_
                        refine wb_gfl 158 rfl (wy_pr rfl) wt_158 wf_5_17 (v := vy) (w_up_same _ _ _ _) (fun r54 => ?_)
                        refine wa_cv 158 rfl (wy_pr rfl) wt_158 (M2 := mS [228, 229]) rfl at_XL_giveValue ⟨_, rfl⟩ rfl rfl ⟨trivial, trivial, trivial, (Or.inr ⟨wy_pr rfl, mS_no rfl⟩), (Or.inr ⟨wy_pr rfl, mS_no rfl⟩), trivial, trivial⟩ trivial (fun _ _ q => mS_sub (by decide) q) (glx_226 (S := (w_up (w_up (w_up (w_up (w_up (w_up Sq14 158 16 0) 158 17 0) 158 16 e1) 158 17 e2) 158 16 ky) 158 17 vy)) (k := ky) (v := vy) (h := h) (c := c) (p := p) (ba := ba) (w_CL_up (w_CL_up (w_CL_up (w_CL_up (w_CL_up (w_CL_up (CL_tr hC tr14) (by omega)) (by omega)) (by omega)) (by omega)) (by omega)) (by omega)) (gI_up (gI_up (gI_up (gI_up (gI_up (gI_up tr14.2.2.2.2.2.1 (by omega) (by omega) (by omega)) (by omega) (by omega) (by omega)) (by omega) (by omega) (by omega)) (by omega) (by omega) (by omega)) (by omega) (by omega) (by omega)) (by omega) (by omega) (by omega)) ((w_up_at (by decide)).trans ((w_up_at (by decide)).trans ((w_up_at (by decide)).trans ((w_up_at (by decide)).trans ((w_up_at (by decide)).trans ((w_up_at (by decide)).trans (((tr14.2.2.2.1 158 4 (by decide) (by decide) (by decide) (Or.inl (by decide))).trans (l4))))))))) ((w_up_at (by decide)).trans ((w_up_at (by decide)).trans ((w_up_at (by decide)).trans ((w_up_at (by decide)).trans ((w_up_at (by decide)).trans ((w_up_at (by decide)).trans (((tr14.2.2.2.1 158 5 (by decide) (by decide) (by decide) (Or.inl (by decide))).trans (l5))))))))) ((w_up_at (by decide)).trans ((w_up_at (by decide)).trans ((w_up_at (by decide)).trans ((w_up_at (by decide)).trans ((w_up_at (by decide)).trans ((w_up_at (by decide)).trans (((tr14.2.2.2.1 158 8 (by decide) (by decide) (by decide) (Or.inl (by decide))).trans (l8))))))))) ((w_up_slot (by decide)).trans ((w_up_slot (by decide)).trans ((w_up_slot (by decide)).trans ((w_up_slot (by decide)).trans ((w_up_slot (by decide)).trans ((w_up_slot (by decide)).trans (((tr14.2.2.2.1 226 4 (by decide) (by decide) (by decide) (Or.inl (by decide))).trans (bc))))))))) ((w_up_slot (by decide)).trans ((w_up_slot (by decide)).trans ((w_up_slot (by decide)).trans ((w_up_slot (by decide)).trans ((w_up_slot (by decide)).trans ((w_up_slot (by decide)).trans (((tr14.2.2.2.1 231 (c - 1) (by decide) (by decide) (by decide) (Or.inl (by decide))).trans (bp))))))))) ((((w_up_slot (by decide)).trans ((w_up_slot (by decide)).trans ((w_up_slot (by decide)).trans ((w_up_slot (by decide)).trans ((w_up_slot (by decide)).trans ((w_up_slot (by decide)).trans (((tr14.2.2.2.1 229 (-1) (by decide) (by decide) (by decide) (Or.inl (by decide))).trans (bl1)))))))))).trans (((w_up_slot (by decide)).trans ((w_up_slot (by decide)).trans ((w_up_slot (by decide)).trans ((w_up_slot (by decide)).trans ((w_up_slot (by decide)).trans ((w_up_slot (by decide)).trans (((tr14.2.2.2.1 228 (-1) (by decide) (by decide) (by decide) (Or.inl (by decide))).trans (rfl)))))))))).symm) (by have e : (w_up (w_up (w_up (w_up (w_up (w_up Sq14 158 16 0) 158 17 0) 158 16 e1) 158 17 e2) 158 16 ky) 158 17 vy) 228 (-1) = S 228 (-1) := ((w_up_slot (by decide)).trans ((w_up_slot (by decide)).trans ((w_up_slot (by decide)).trans ((w_up_slot (by decide)).trans ((w_up_slot (by decide)).trans ((w_up_slot (by decide)).trans (((tr14.2.2.2.1 228 (-1) (by decide) (by decide) (by decide) (Or.inl (by decide))).trans (rfl))))))))); rw [e]; exact ⟨bl2, bl3⟩) (by have e : (w_up (w_up (w_up (w_up (w_up (w_up Sq14 158 16 0) 158 17 0) 158 16 e1) 158 17 e2) 158 16 ky) 158 17 vy) 228 (-1) = S 228 (-1) := ((w_up_slot (by decide)).trans ((w_up_slot (by decide)).trans ((w_up_slot (by decide)).trans ((w_up_slot (by decide)).trans ((w_up_slot (by decide)).trans ((w_up_slot (by decide)).trans (((tr14.2.2.2.1 228 (-1) (by decide) (by decide) (by decide) (Or.inl (by decide))).trans (rfl))))))))); omega) ⟨by omega, by omega⟩ ⟨by omega, by omega⟩ ⟨by omega, by omega⟩ ⟨by omega, by omega⟩) (fun oq55 Sq55 hp56 q55 => ?_)
                        rcases q55 with ⟨rfl, hgv55⟩
                        show wJ _ _ _ _ _ _ _ _ _ _
                        refine wa_return rfl ?_
                        refine ⟨rfl, Or.inr ⟨by omega, Sq14, (w_up (w_up (w_up (w_up (w_up (w_up Sq14 158 16 0) 158 17 0) 158 16 e1) 158 17 e2) 158 16 ky) 158 17 vy), tr14, ?_, ?_⟩⟩
                        · exact fun j i hji => (w_up_no (by omega)).trans ((w_up_no (by omega)).trans ((w_up_no (by omega)).trans ((w_up_no (by omega)).trans ((w_up_no (by omega)).trans ((w_up_no (by omega)).trans (rfl))))))
                        · rw [hX]; first | (rw [if_pos (show kd = 1 by omega), if_pos (show kd = 1 by omega)]; exact hgv55) | (rw [if_neg (show ¬ kd = 1 by omega), if_neg (show ¬ kd = 1 by omega)]; exact hgv55)
                  · skip
                    exact absurd c18 (by omega)
                · skip
                  exact absurd c16 (by omega)
              · skip
                exact absurd c12 (by omega)
            · skip
              exact absurd c11 (by omega)
        · skip
          exact absurd c7 (by omega)
      · skip
        exact absurd c6 (by omega)
  · skip
    exact absurd c3 (by omega)
set_option maxHeartbeats 4000000 in
theorem cmx_162_226 {c p h kd ba m en tn ky vy wd a0 n u2 u3 : Int} (hP : xP 226 c p h S) (l4 : S 158 4 = 226) (l5 : S 158 5 = 227) (l7 : S 158 7 = kd) (l8 : S 158 8 = ba) (l12 : S 158 12 = en) (hen : 0 ≤ en ∧ en ≤ 1000) (hba : 0 ≤ ba ∧ ba < h) (h72 : S 72 1 = 162) (hm : 0 ≤ m ∧ m < 400) (hso : S 187 m = 1) (ht15 : S 72 15 = tn) (ht0 : 0 ≤ tn ∧ tn ≤ S 152 (-1) ∧ tn ≤ 100000) (ht9 : 16 ≤ S 152 (-1) ∧ S 152 (-1) ≤ 131072 ∨ (16 ≤ S 152 (-1) ∧ S 152 (-1) ≤ 262143 ∧ tn + 2 ≤ S 152 (-1))) (hky : S 228 (h - 1) = ky) (hvy : S 229 (h - 1) = vy) (hkr : -128 ≤ ky ∧ ky ≤ 127) (hvr : -9223372036854775808 ≤ vy ∧ vy ≤ 9223372036854775807) (hx1 : pe_at (pe_GA xs).xs 1 = some (1, tx_1)) (hmt : S 189 m = 7) (hmf : S 201 m = -1) (hmw : S 200 m = wd) (hwl : S 166 (-1) = S 165 (-1)) (hwd : 0 ≤ wd ∧ wd < S 165 (-1)) (hsz : S 166 wd = n) (hst : S 165 wd = a0) (hn : 0 ≤ n ∧ n ≤ 60) (ha : 0 ≤ a0 ∧ a0 + n ≤ S 164 (-1)) (h0 : 0 ≤ S 2 1 ∧ S 2 1 ≤ S 3 (-1) ∧ 1024 ≤ S 3 (-1) ∧ S 3 (-1) ≤ 16777216) (hu2 : S 150 2 = u2) (hu3 : S 150 3 = u3) (hu2r : 0 ≤ u2 ∧ u2 ≤ 12000) (hu3r : 0 ≤ u3 ∧ u3 ≤ 200000) : wJ (pe_GA xs) wY0 (mS [228, 229, 152, 3]) (d + 6) t_XL_callMember ((pe_at t_XL_callMember.bl 0).getD (0, [])).2 [(0, (2, 158)), (1, (0, m))] [] S (fun o Z => o = .inl none ∧ (((100000 < tn + 2 ∨ 12000 ≤ u2 ∨ 200000 < u3 + n) ∧ w_up S 226 16 99 = Z) ∨ (¬ ((100000 < tn + 2 ∨ 12000 ≤ u2 ∨ 200000 < u3 + n)) ∧ cmE 226 h c p (h - ba) kd ky vy 3 (S 2 1 * 4294967296 + n) m en (txR 164 a0 n u2 u3) S Z))) := by
  obtain ⟨⟨hC, hI⟩, ⟨bc, bc0, bc1⟩, ⟨bp, bp0, bp1⟩, ⟨bh, bh0, bh1, bh2⟩, bl1, bl2, bl3⟩ := hP
  replace bp : S 231 (c - 1) = p := bp
  replace bh : S 227 2 = h := bh
  replace bh2 : h ≤ S 228 (-1) := bh2
  replace bl1 : S 229 (-1) = S 228 (-1) := bl1
  replace bl2 : 64 ≤ S 228 (-1) := bl2
  replace bl3 : S 228 (-1) ≤ 4095 := bl3
  refine wa_aload_n (n := 0) rfl ?_
  refine wb_gf4 158 rfl (wy_pr rfl) wt_158 wf_5_0 (v := 72) wl_158_0 ?_
  refine wb_gf5 72 rfl (wy_pr rfl) wt_72 wf_2_1 (v := 162) (h72) (fun r1 => ?_)
  refine wa_astore_n (n := 2) rfl ?_
  refine wa_aload_n (n := 2) rfl ?_
  refine wb_gf4 162 rfl (wy_pr rfl) wt_162 wf_3_3 (v := 185) wl_162_3 ?_
  refine wa_iconst ?_
  refine wb_aald5 185 1 rfl rfl (wy_pr rfl) wt_185 (by rw [show _ = _ from ((cl_185 hC))]; omega) wl_185_1 ?_
  refine wa_iload_n (n := 1) rfl ?_
  refine wb_iald 187 rfl (wy_pr rfl) wt_187 (n := 400) ((cl_187 hC)) (by omega) (by omega) (v := 1) (hso) (fun r2 => ?_)
  refine wa_iconst ?_
  refine wa_icmpne (w_rg0 (by omega) (by omega)) (w_rg0 (by omega) (by omega)) ⟨_, rfl⟩ (fun c3 => ?_) (fun c3 => ?_)
  · skip
    refine wa_iconst ?_
    refine wa_fall ⟨_, rfl⟩ ?_
    refine wa_istore_n (n := 3) rfl ?_
    refine wa_iload_n (n := 3) rfl ?_
    refine wa_ifne (w_rg0 (by omega) (by omega)) ⟨_, rfl⟩ (fun c4 => ?_) (fun c4 => ?_)
    · skip
      exact absurd c4 (by omega)
    · skip
      refine wa_aload_n (n := 2) rfl ?_
      refine wb_gf4 162 rfl (wy_pr rfl) wt_162 wf_3_3 (v := 185) wl_162_3 ?_
      refine wa_iconst ?_
      refine wb_aald5 185 3 rfl rfl (wy_pr rfl) wt_185 (by rw [show _ = _ from ((cl_185 hC))]; omega) wl_185_3 ?_
      refine wa_iload_n (n := 1) rfl ?_
      refine wb_iald 189 rfl (wy_pr rfl) wt_189 (n := 400) ((cl_189 hC)) (by omega) (by omega) (v := 7) (hmt) (fun r5 => ?_)
      refine wa_bipush (w_rg2 (by omega) (by omega)) ?_
      refine wa_icmpne (w_rg0 (by omega) (by omega)) (w_rg0 (by omega) (by omega)) ⟨_, rfl⟩ (fun c6 => ?_) (fun c6 => ?_)
      · skip
        exact absurd c6 (by omega)
      · skip
        refine wa_aload_n (n := 2) rfl ?_
        refine wb_gf4 162 rfl (wy_pr rfl) wt_162 wf_3_3 (v := 185) wl_162_3 ?_
        refine wa_bipush (w_rg2 (by omega) (by omega)) ?_
        refine wb_aald5 185 15 rfl rfl (wy_pr rfl) wt_185 (by rw [show _ = _ from ((cl_185 hC))]; omega) wl_185_15 ?_
        refine wa_iload_n (n := 1) rfl ?_
        refine wb_iald 201 rfl (wy_pr rfl) wt_201 (n := 400) ((cl_201 hC)) (by omega) (by omega) (v := (-1)) (hmf) (fun r7 => ?_)
        refine wa_iconst ?_
        refine wa_icmpne (w_rg0 (by omega) (by omega)) (w_rg0 (by omega) (by omega)) ⟨_, rfl⟩ (fun c8 => ?_) (fun c8 => ?_)
        · skip
          exact absurd c8 (by omega)
        · skip
          refine wa_iconst ?_
          refine wa_goto ⟨_, rfl⟩ ?_
          refine wa_istore (n := 4) rfl ?_
          refine wa_iload_n (n := 3) rfl ?_
          refine wa_ifeq (w_rg0 (by omega) (by omega)) ⟨_, rfl⟩ (fun c9 => ?_) (fun c9 => ?_)
          · skip
            refine wa_iconst ?_
            refine wa_fall ⟨_, rfl⟩ ?_
            refine wa_istore (n := 5) rfl ?_
            refine wa_aload_n (n := 0) rfl ?_
            refine wb_gf4 158 rfl (wy_pr rfl) wt_158 wf_5_0 (v := 72) wl_158_0 ?_
            refine wb_gfi 72 rfl (wy_pr rfl) wt_72 wf_2_15 (v := tn) (ht15) (fun r10 => ?_)
            refine wa_iconst ?_
            refine wa_iadd ?_
            refine wb_ki (n := 100000) rfl ?_
            refine wa_icmpgt (w_rg0 (by omega) (by omega)) (w_rg0 (by omega) (by omega)) ⟨_, rfl⟩ (fun c11 => ?_) (fun c11 => ?_)
            · skip
              refine wa_aload_n (n := 0) rfl ?_
              refine wb_gf5 158 rfl (wy_pr rfl) wt_158 wf_5_4 (v := 226) (l4) (fun r12 => ?_)
              refine wa_bipush (w_rg2 (by omega) (by omega)) ?_
              refine wb_pfi 226 rfl (wy_pr rfl) wt_226 wf_8_16 (n := 16) rfl ⟨(by omega), (by omega)⟩ ?_
              refine wa_return rfl ?_
              exact ⟨rfl, Or.inl ⟨by omega, rfl⟩⟩
            · skip
              refine wa_iload_n (n := 3) rfl ?_
              refine wa_ifeq (w_rg0 (by omega) (by omega)) ⟨_, rfl⟩ (fun c13 => ?_) (fun c13 => ?_)
              · skip
                refine wa_iload (n := 4) rfl ?_
                refine wa_ifeq (w_rg0 (by omega) (by omega)) ⟨_, rfl⟩ (fun c14 => ?_) (fun c14 => ?_)
                · skip
                  exact absurd c14 (by omega)
                · skip
                  refine wa_aload_n (n := 0) rfl ?_
                  refine wb_gf4 158 rfl (wy_pr rfl) wt_158 wf_5_0 (v := 72) wl_158_0 ?_
                  refine wa_aload_n (n := 2) rfl ?_
                  refine wb_gf4 162 rfl (wy_pr rfl) wt_162 wf_3_0 (v := 163) wl_162_0 ?_
                  refine wb_gf4 163 rfl (wy_pr rfl) wt_163 wf_9_3 (v := 166) wl_163_3 ?_
                  refine wa_aload_n (n := 2) rfl ?_
                  refine wb_gf4 162 rfl (wy_pr rfl) wt_162 wf_3_3 (v := 185) wl_162_3 ?_
                  refine wa_bipush (w_rg2 (by omega) (by omega)) ?_
                  refine wb_aald5 185 14 rfl rfl (wy_pr rfl) wt_185 (by rw [show _ = _ from ((cl_185 hC))]; omega) wl_185_14 ?_
                  refine wa_iload_n (n := 1) rfl ?_
                  refine wb_iald 200 rfl (wy_pr rfl) wt_200 (n := 400) ((cl_200 hC)) (by omega) (by omega) (v := wd) (hmw) (fun r15 => ?_)
                  refine wb_iald 166 rfl (wy_pr rfl) wt_166 (n := (S 165 (-1))) (hwl) (by omega) (by omega) (v := n) (hsz) (fun r16 => ?_)
                  refine wa_cv 72 rfl (wy_pr rfl) wt_72 (M2 := mS [228, 229, 152, 3]) rfl at_XH_hasTextRoom ⟨_, rfl⟩ rfl rfl ⟨trivial, trivial, trivial, (Or.inr ⟨wy_pr rfl, mS_no rfl⟩), (Or.inr ⟨wy_pr rfl, mS_no rfl⟩), trivial, trivial⟩ trivial (fun _ _ q => q) ?_ (fun _ _ _ q => q)
                  refine wa_aload_n (n := 0) rfl ?_
                  refine wa_iconst ?_
                  refine wa_iconst ?_
                  refine wa_cv 72 rfl (wy_pr rfl) wt_72 (M2 := mS [228, 229, 152, 3]) rfl at_XH_hasRoom ⟨_, rfl⟩ rfl rfl ⟨(Or.inr ⟨wy_pr rfl, mS_no rfl⟩), trivial, trivial⟩ trivial (fun _ _ q => q) ?_ (fun _ _ _ q => q)
                  refine wa_aload_n (n := 0) rfl ?_
                  refine wb_gf4 72 rfl (wy_pr rfl) wt_72 wf_2_10 (v := 150) wl_72_10 ?_
                  refine wa_iload_n (n := 1) rfl ?_
                  refine wb_iald 150 rfl (wy_pr rfl) wt_150 (n := 6) ((cl_150 hC)) (by omega) (by omega) (v := u2) (hu2) (fun r17 => ?_)
                  refine wa_iload_n (n := 2) rfl ?_
                  refine wa_iadd ?_
                  refine wa_gs ?_
                  refine wa_iload_n (n := 1) rfl ?_
                  refine wb_xald 1 rfl hx1 (by decide) (by omega) (by decide) (v := 12000) (by decide) (fun r18 => ?_)
                  refine wa_icmpgt (w_rg0 (by omega) (by omega)) (w_rg0 (by omega) (by omega)) ⟨_, rfl⟩ (fun c19 => ?_) (fun c19 => ?_)
                  · skip
                    refine wa_iconst ?_
                    refine wa_fall ⟨_, rfl⟩ ?_
                    refine wa_zreturn rfl (Or.inl rfl) ?_
                    show wJ _ _ _ _ _ _ _ _ _ _
                    refine wa_ifeq (w_rg0 (by omega) (by omega)) ⟨_, rfl⟩ (fun c20 => ?_) (fun c20 => ?_)
                    · skip
                      refine wa_iconst ?_
                      refine wa_fall ⟨_, rfl⟩ ?_
                      refine wa_zreturn rfl (Or.inl rfl) ?_
                      show wJ _ _ _ _ _ _ _ _ _ _
                      refine wa_ifne (w_rg0 (by omega) (by omega)) ⟨_, rfl⟩ (fun c21 => ?_) (fun c21 => ?_)
                      · skip
                        exact absurd c21 (by omega)
                      · skip
                        refine wa_fall ⟨_, rfl⟩ ?_
                        refine wa_aload_n (n := 0) rfl ?_
                        refine wb_gf5 158 rfl (wy_pr rfl) wt_158 wf_5_4 (v := 226) (l4) (fun r22 => ?_)
                        refine wa_bipush (w_rg2 (by omega) (by omega)) ?_
                        refine wb_pfi 226 rfl (wy_pr rfl) wt_226 wf_8_16 (n := 16) rfl ⟨(by omega), (by omega)⟩ ?_
                        refine wa_return rfl ?_
                        exact ⟨rfl, Or.inl ⟨by omega, rfl⟩⟩
                    · skip
                      exact absurd c20 (by omega)
                  · skip
                    refine wa_iconst ?_
                    refine wa_goto ⟨_, rfl⟩ ?_
                    refine wa_zreturn rfl (Or.inr rfl) ?_
                    show wJ _ _ _ _ _ _ _ _ _ _
                    refine wa_ifeq (w_rg0 (by omega) (by omega)) ⟨_, rfl⟩ (fun c23 => ?_) (fun c23 => ?_)
                    · skip
                      exact absurd c23 (by omega)
                    · skip
                      refine wa_aload_n (n := 0) rfl ?_
                      refine wa_iconst ?_
                      refine wa_iload_n (n := 1) rfl ?_
                      refine wa_cv 72 rfl (wy_pr rfl) wt_72 (M2 := mS [228, 229, 152, 3]) rfl at_XH_hasRoom ⟨_, rfl⟩ rfl rfl ⟨(Or.inr ⟨wy_pr rfl, mS_no rfl⟩), trivial, trivial⟩ trivial (fun _ _ q => q) ?_ (fun _ _ _ q => q)
                      refine wa_aload_n (n := 0) rfl ?_
                      refine wb_gf4 72 rfl (wy_pr rfl) wt_72 wf_2_10 (v := 150) wl_72_10 ?_
                      refine wa_iload_n (n := 1) rfl ?_
                      refine wb_iald 150 rfl (wy_pr rfl) wt_150 (n := 6) ((cl_150 hC)) (by omega) (by omega) (v := u3) (hu3) (fun r24 => ?_)
                      refine wa_iload_n (n := 2) rfl ?_
                      refine wa_iadd ?_
                      refine wa_gs ?_
                      refine wa_iload_n (n := 1) rfl ?_
                      refine wb_xald 1 rfl hx1 (by decide) (by omega) (by decide) (v := 200000) (by decide) (fun r25 => ?_)
                      refine wa_icmpgt (w_rg0 (by omega) (by omega)) (w_rg0 (by omega) (by omega)) ⟨_, rfl⟩ (fun c26 => ?_) (fun c26 => ?_)
                      · skip
                        refine wa_iconst ?_
                        refine wa_fall ⟨_, rfl⟩ ?_
                        refine wa_zreturn rfl (Or.inl rfl) ?_
                        show wJ _ _ _ _ _ _ _ _ _ _
                        refine wa_ifeq (w_rg0 (by omega) (by omega)) ⟨_, rfl⟩ (fun c27 => ?_) (fun c27 => ?_)
                        · skip
                          refine wa_iconst ?_
                          refine wa_fall ⟨_, rfl⟩ ?_
                          refine wa_zreturn rfl (Or.inl rfl) ?_
                          show wJ _ _ _ _ _ _ _ _ _ _
                          refine wa_ifne (w_rg0 (by omega) (by omega)) ⟨_, rfl⟩ (fun c28 => ?_) (fun c28 => ?_)
                          · skip
                            exact absurd c28 (by omega)
                          · skip
                            refine wa_fall ⟨_, rfl⟩ ?_
                            refine wa_aload_n (n := 0) rfl ?_
                            refine wb_gf5 158 rfl (wy_pr rfl) wt_158 wf_5_4 (v := 226) (l4) (fun r29 => ?_)
                            refine wa_bipush (w_rg2 (by omega) (by omega)) ?_
                            refine wb_pfi 226 rfl (wy_pr rfl) wt_226 wf_8_16 (n := 16) rfl ⟨(by omega), (by omega)⟩ ?_
                            refine wa_return rfl ?_
                            exact ⟨rfl, Or.inl ⟨by omega, rfl⟩⟩
                        · skip
                          exact absurd c27 (by omega)
                      · skip
                        refine wa_iconst ?_
                        refine wa_goto ⟨_, rfl⟩ ?_
                        refine wa_zreturn rfl (Or.inr rfl) ?_
                        show wJ _ _ _ _ _ _ _ _ _ _
                        refine wa_ifeq (w_rg0 (by omega) (by omega)) ⟨_, rfl⟩ (fun c30 => ?_) (fun c30 => ?_)
                        · skip
                          exact absurd c30 (by omega)
                        · skip
                          refine wa_iconst ?_
                          refine wa_goto ⟨_, rfl⟩ ?_
                          refine wa_zreturn rfl (Or.inr rfl) ?_
                          show wJ _ _ _ _ _ _ _ _ _ _
                          refine wa_ifne (w_rg0 (by omega) (by omega)) ⟨_, rfl⟩ (fun c31 => ?_) (fun c31 => ?_)
                          · skip
                            refine wa_aload_n (n := 0) rfl ?_
                            refine wb_gf4 158 rfl (wy_pr rfl) wt_158 wf_5_0 (v := 72) wl_158_0 ?_
                            refine wa_iload_n (n := 1) rfl ?_
                            refine wa_aload_n (n := 0) rfl ?_
                            refine wb_gfi 158 rfl (wy_pr rfl) wt_158 wf_5_12 (v := en) (l12) (fun r32 => ?_)
                            refine wa_cv 72 rfl (wy_pr rfl) wt_72 (M2 := mS [152]) rfl at_XH_addTrace ⟨_, rfl⟩ rfl rfl ⟨trivial, trivial, trivial, (Or.inr ⟨wy_pr rfl, mS_no rfl⟩), (Or.inr ⟨wy_pr rfl, mS_no rfl⟩), trivial, trivial⟩ trivial (fun _ _ q => mS_sub (by decide) q) (tra (S := S) (m := m) (k := en) hI ⟨by omega, by omega⟩ ⟨by omega, by omega⟩ (by rw [ht15]; exact ht0) (by rw [ht15]; exact ht9)) (fun oq33 Sq33 hp34 q33 => ?_)
                            rcases q33 with ⟨rfl, tr33⟩
                            show wJ _ _ _ _ _ _ _ _ _ _
                            refine wa_aload_n (n := 0) rfl ?_
                            refine wa_iconst ?_
                            refine wb_pfi 158 rfl (wy_pr rfl) wt_158 wf_5_16 (n := 16) rfl ⟨(by omega), (by omega)⟩ ?_
                            refine wa_aload_n (n := 0) rfl ?_
                            refine wb_lconst (m := 0) rfl ?_
                            refine wb_pfl 158 rfl (wy_pr rfl) wt_158 wf_5_17 (n := 17) rfl ⟨(by omega), (by omega)⟩ ?_
                            refine wa_iload_n (n := 3) rfl ?_
                            refine wa_ifeq (w_rg0 (by omega) (by omega)) ⟨_, rfl⟩ (fun c35 => ?_) (fun c35 => ?_)
                            · skip
                              refine wa_aload_n (n := 2) rfl ?_
                              refine wb_gf4 162 rfl (wy_pr rfl) wt_162 wf_3_3 (v := 185) wl_162_3 ?_
                              refine wa_bipush (w_rg2 (by omega) (by omega)) ?_
                              refine wb_aald5 185 15 rfl rfl (wy_pr rfl) wt_185 (by rw [show _ = _ from ((w_up_slot (by decide)).trans ((w_up_slot (by decide)).trans (((tr33.2.2.2.1 185 (-1) (by decide) (by decide) (by decide) (Or.inl (by decide))).trans ((cl_185 hC))))))]; omega) wl_185_15 ?_
                              refine wa_iload_n (n := 1) rfl ?_
                              refine wb_iald 201 rfl (wy_pr rfl) wt_201 (n := 400) ((w_up_slot (by decide)).trans ((w_up_slot (by decide)).trans (((tr33.2.2.2.1 201 (-1) (by decide) (by decide) (by decide) (Or.inl (by decide))).trans ((cl_201 hC)))))) (by omega) (by omega) (v := (-1)) ((w_up_slot (by decide)).trans ((w_up_slot (by decide)).trans (((tr33.2.2.2.1 201 m (by decide) (by decide) (by decide) (Or.inl (by decide))).trans (hmf))))) (fun r36 => ?_)
                              refine wa_iconst ?_
                              refine wa_icmpeq (w_rg0 (by omega) (by omega)) (w_rg0 (by omega) (by omega)) ⟨_, rfl⟩ (fun c37 => ?_) (fun c37 => ?_)
                              · skip
                                refine wa_aload_n (n := 0) rfl ?_
                                refine wa_iload_n (n := 1) rfl ?_
                                have hf2 : ∀ (j : Nat) (i : Int), j < 4000000 → j ≠ wG → j ≠ 152 → j ≠ 72 → j ≠ 158 → (w_up (w_up Sq33 158 16 0) 158 17 0) j i = S j i := fun j i a b c d e => (w_up_no (fun z => e z.1)).trans ((w_up_no (fun z => e z.1)).trans (tr33.2.2.2.1 j i a b c (Or.inl d)))
                                have el : (w_up (w_up Sq33 158 16 0) 158 17 0) 165 (-1) = S 165 (-1) := (hf2 165 _ (by first | decide | omega) (by first | decide | omega) (by first | decide | omega) (by first | decide | omega) (by first | decide | omega))
                                have el2 : (w_up (w_up Sq33 158 16 0) 158 17 0) 166 (-1) = S 166 (-1) := (hf2 166 _ (by first | decide | omega) (by first | decide | omega) (by first | decide | omega) (by first | decide | omega) (by first | decide | omega))
                                have el3 : (w_up (w_up Sq33 158 16 0) 158 17 0) 164 (-1) = S 164 (-1) := (hf2 164 _ (by first | decide | omega) (by first | decide | omega) (by first | decide | omega) (by first | decide | omega) (by first | decide | omega))
                                have e21 : (w_up (w_up Sq33 158 16 0) 158 17 0) 2 1 = S 2 1 := (hf2 2 _ (by first | decide | omega) (by first | decide | omega) (by first | decide | omega) (by first | decide | omega) (by first | decide | omega))
                                have e3 : (w_up (w_up Sq33 158 16 0) 158 17 0) 3 (-1) = S 3 (-1) := (hf2 3 _ (by first | decide | omega) (by first | decide | omega) (by first | decide | omega) (by first | decide | omega) (by first | decide | omega))
                                refine wa_cv 158 rfl (wy_pr rfl) wt_158 (M2 := mS [3]) rfl at_XL_answer ⟨_, rfl⟩ rfl rfl ⟨trivial, trivial, trivial, (Or.inr ⟨wy_pr rfl, mS_no rfl⟩), (Or.inr ⟨wy_pr rfl, mS_no rfl⟩), trivial, trivial⟩ trivial (fun _ _ q => mS_sub (by decide) q) (wJ_mono (anx_162 (S := (w_up (w_up Sq33 158 16 0) 158 17 0)) (m := m) (wd := wd) (a0 := a0) (n := n) (u2 := u2) (u3 := u3) (w_CL_up (w_CL_up (CL_tr hC tr33) (by omega)) (by omega)) (gI_up (gI_up tr33.2.2.2.2.2.1 (by omega) (by omega) (by omega)) (by omega) (by omega) (by omega)) ((w_up_slot (by decide)).trans ((w_up_slot (by decide)).trans (((tr33.2.2.2.1 72 1 (by decide) (by decide) (by decide) (Or.inr (by decide))).trans (h72))))) (by rw [el, el2]; exact hwl) (by rw [el]; exact hwd) ((hf2 166 _ (by decide) (by decide) (by decide) (by decide) (by decide)).trans hsz) ((hf2 165 _ (by decide) (by decide) (by decide) (by decide) (by decide)).trans hst) hn (by rw [el3]; exact ha) (by rw [e21, e3]; exact h0) ((hf2 150 _ (by decide) (by decide) (by decide) (by decide) (by decide)).trans hu2) ((hf2 150 _ (by decide) (by decide) (by decide) (by decide) (by decide)).trans hu3) ⟨by omega, by omega⟩ ⟨by omega, by omega⟩ hm ((w_up_slot (by decide)).trans ((w_up_slot (by decide)).trans (((tr33.2.2.2.1 189 m (by decide) (by decide) (by decide) (Or.inl (by decide))).trans (hmt))))) ((w_up_slot (by decide)).trans ((w_up_slot (by decide)).trans (((tr33.2.2.2.1 200 m (by decide) (by decide) (by decide) (Or.inl (by decide))).trans (hmw)))))) (fun o Z hz => (⟨hz.1, hz.2.imp (fun C y => ⟨y.1, by rw [← e21]; exact y.2⟩)⟩ : o = .inl none ∧ ∃ C : wS, ap_ag (w_up (w_up (w_up (w_up (w_up Sq33 158 16 0) 158 17 0) 150 2 (u2 + 1)) 150 3 (u3 + n)) 158 16 3) C 2 164 a0 n ∧ w_up C 158 17 (S 2 1 * 4294967296 + n) = Z))) (fun oq38 Sq38 hp39 q38 => ?_)
                                rcases q38 with ⟨rfl, C38, hc38, rfl⟩
                                show wJ _ _ _ _ _ _ _ _ _ _
                                refine wa_fall ⟨_, rfl⟩ ?_
                                refine wa_aload_n (n := 0) rfl ?_
                                refine wb_gfi 158 rfl (wy_pr rfl) wt_158 wf_5_7 (v := kd) ((w_up_at (by decide)).trans (((hc38.2.2.2.1 158 7 (by decide) (by decide) (by decide) (Or.inl (by decide))).trans ((w_up_at (by decide)).trans ((w_up_slot (by decide)).trans ((w_up_slot (by decide)).trans ((w_up_at (by decide)).trans ((w_up_at (by decide)).trans (((tr33.2.2.2.1 158 7 (by decide) (by decide) (by decide) (Or.inl (by decide))).trans (l7))))))))))) (fun r40 => ?_)
                                refine wa_iconst ?_
                                refine wa_icmpne (w_rg0 (by omega) (by omega)) (w_rg0 (by omega) (by omega)) ⟨_, rfl⟩ (fun c41 => ?_) (fun c41 => ?_)
                                · skip
                                  refine wa_aload_n (n := 0) rfl ?_
                                  refine wa_aload_n (n := 0) rfl ?_
                                  refine wb_gfi 158 rfl (wy_pr rfl) wt_158 wf_5_16 (v := 3) ((w_up_at (by decide)).trans (((hc38.2.2.2.1 158 16 (by decide) (by decide) (by decide) (Or.inl (by decide))).trans (w_up_same _ _ _ _)))) (fun r42 => ?_)
                                  refine wa_aload_n (n := 0) rfl ?_
                                  refine wb_gfl 158 rfl (wy_pr rfl) wt_158 wf_5_17 (v := (S 2 1 * 4294967296 + n)) (w_up_same _ _ _ _) (fun r43 => ?_)
                                  refine wa_cv 158 rfl (wy_pr rfl) wt_158 (M2 := mS [228, 229]) rfl at_XL_giveValue ⟨_, rfl⟩ rfl rfl ⟨trivial, trivial, trivial, (Or.inr ⟨wy_pr rfl, mS_no rfl⟩), (Or.inr ⟨wy_pr rfl, mS_no rfl⟩), trivial, trivial⟩ trivial (fun _ _ q => mS_sub (by decide) q) (glx_226 (S := (w_up C38 158 17 (S 2 1 * 4294967296 + n))) (k := 3) (v := (S 2 1 * 4294967296 + n)) (h := h) (c := c) (p := p) (ba := ba) (w_CL_up (CL_ap2 (w_CL_up (w_CL_up (w_CL_up (w_CL_up (w_CL_up (CL_tr hC tr33) (by omega)) (by omega)) (by omega)) (by omega)) (by omega)) hc38) (by omega)) (gI_up hc38.2.2.2.2.2.1 (by omega) (by omega) (by omega)) ((w_up_at (by decide)).trans (((hc38.2.2.2.1 158 4 (by decide) (by decide) (by decide) (Or.inl (by decide))).trans ((w_up_at (by decide)).trans ((w_up_slot (by decide)).trans ((w_up_slot (by decide)).trans ((w_up_at (by decide)).trans ((w_up_at (by decide)).trans (((tr33.2.2.2.1 158 4 (by decide) (by decide) (by decide) (Or.inl (by decide))).trans (l4))))))))))) ((w_up_at (by decide)).trans (((hc38.2.2.2.1 158 5 (by decide) (by decide) (by decide) (Or.inl (by decide))).trans ((w_up_at (by decide)).trans ((w_up_slot (by decide)).trans ((w_up_slot (by decide)).trans ((w_up_at (by decide)).trans ((w_up_at (by decide)).trans (((tr33.2.2.2.1 158 5 (by decide) (by decide) (by decide) (Or.inl (by decide))).trans (l5))))))))))) ((w_up_at (by decide)).trans (((hc38.2.2.2.1 158 8 (by decide) (by decide) (by decide) (Or.inl (by decide))).trans ((w_up_at (by decide)).trans ((w_up_slot (by decide)).trans ((w_up_slot (by decide)).trans ((w_up_at (by decide)).trans ((w_up_at (by decide)).trans (((tr33.2.2.2.1 158 8 (by decide) (by decide) (by decide) (Or.inl (by decide))).trans (l8))))))))))) ((w_up_slot (by decide)).trans (((hc38.2.2.2.1 226 4 (by decide) (by decide) (by decide) (Or.inl (by decide))).trans ((w_up_slot (by decide)).trans ((w_up_slot (by decide)).trans ((w_up_slot (by decide)).trans ((w_up_slot (by decide)).trans ((w_up_slot (by decide)).trans (((tr33.2.2.2.1 226 4 (by decide) (by decide) (by decide) (Or.inl (by decide))).trans (bc))))))))))) ((w_up_slot (by decide)).trans (((hc38.2.2.2.1 231 (c - 1) (by decide) (by decide) (by decide) (Or.inl (by decide))).trans ((w_up_slot (by decide)).trans ((w_up_slot (by decide)).trans ((w_up_slot (by decide)).trans ((w_up_slot (by decide)).trans ((w_up_slot (by decide)).trans (((tr33.2.2.2.1 231 (c - 1) (by decide) (by decide) (by decide) (Or.inl (by decide))).trans (bp))))))))))) ((((w_up_slot (by decide)).trans (((hc38.2.2.2.1 229 (-1) (by decide) (by decide) (by decide) (Or.inl (by decide))).trans ((w_up_slot (by decide)).trans ((w_up_slot (by decide)).trans ((w_up_slot (by decide)).trans ((w_up_slot (by decide)).trans ((w_up_slot (by decide)).trans (((tr33.2.2.2.1 229 (-1) (by decide) (by decide) (by decide) (Or.inl (by decide))).trans (bl1)))))))))))).trans (((w_up_slot (by decide)).trans (((hc38.2.2.2.1 228 (-1) (by decide) (by decide) (by decide) (Or.inl (by decide))).trans ((w_up_slot (by decide)).trans ((w_up_slot (by decide)).trans ((w_up_slot (by decide)).trans ((w_up_slot (by decide)).trans ((w_up_slot (by decide)).trans (((tr33.2.2.2.1 228 (-1) (by decide) (by decide) (by decide) (Or.inl (by decide))).trans (rfl)))))))))))).symm) (by have e : (w_up C38 158 17 (S 2 1 * 4294967296 + n)) 228 (-1) = S 228 (-1) := ((w_up_slot (by decide)).trans (((hc38.2.2.2.1 228 (-1) (by decide) (by decide) (by decide) (Or.inl (by decide))).trans ((w_up_slot (by decide)).trans ((w_up_slot (by decide)).trans ((w_up_slot (by decide)).trans ((w_up_slot (by decide)).trans ((w_up_slot (by decide)).trans (((tr33.2.2.2.1 228 (-1) (by decide) (by decide) (by decide) (Or.inl (by decide))).trans (rfl))))))))))); rw [e]; exact ⟨bl2, bl3⟩) (by have e : (w_up C38 158 17 (S 2 1 * 4294967296 + n)) 228 (-1) = S 228 (-1) := ((w_up_slot (by decide)).trans (((hc38.2.2.2.1 228 (-1) (by decide) (by decide) (by decide) (Or.inl (by decide))).trans ((w_up_slot (by decide)).trans ((w_up_slot (by decide)).trans ((w_up_slot (by decide)).trans ((w_up_slot (by decide)).trans ((w_up_slot (by decide)).trans (((tr33.2.2.2.1 228 (-1) (by decide) (by decide) (by decide) (Or.inl (by decide))).trans (rfl))))))))))); omega) ⟨by omega, by omega⟩ ⟨by omega, by omega⟩ ⟨by omega, by omega⟩ ⟨by omega, by omega⟩) (fun oq44 Sq44 hp45 q44 => ?_)
                                  rcases q44 with ⟨rfl, hgv44⟩
                                  show wJ _ _ _ _ _ _ _ _ _ _
                                  refine wa_return rfl ?_
                                  refine ⟨rfl, Or.inr ⟨by omega, Sq33, (w_up C38 158 17 (S 2 1 * 4294967296 + n)), tr33, ?_, ?_⟩⟩
                                  · exact txR_mk ⟨by decide, by decide⟩ hc38 (fun j i hji => (w_up_no (by omega)).trans (rfl))
                                  · first | (rw [if_pos (show kd = 1 by omega), if_pos (show kd = 1 by omega)]; exact hgv44) | (rw [if_neg (show ¬ kd = 1 by omega), if_neg (show ¬ kd = 1 by omega)]; exact hgv44)
                                · skip
                                  refine wa_aload_n (n := 0) rfl ?_
                                  refine wa_aload_n (n := 0) rfl ?_
                                  refine wb_gf5 158 rfl (wy_pr rfl) wt_158 wf_5_5 (v := 227) ((w_up_at (by decide)).trans (((hc38.2.2.2.1 158 5 (by decide) (by decide) (by decide) (Or.inl (by decide))).trans ((w_up_at (by decide)).trans ((w_up_slot (by decide)).trans ((w_up_slot (by decide)).trans ((w_up_at (by decide)).trans ((w_up_at (by decide)).trans (((tr33.2.2.2.1 158 5 (by decide) (by decide) (by decide) (Or.inl (by decide))).trans (l5))))))))))) (fun r46 => ?_)
                                  refine wb_gf4 227 rfl (wy_pr rfl) wt_227 wf_7_0 (v := 228) wl_227_0 ?_
                                  refine wa_aload_n (n := 0) rfl ?_
                                  refine wb_gf5 158 rfl (wy_pr rfl) wt_158 wf_5_5 (v := 227) ((w_up_at (by decide)).trans (((hc38.2.2.2.1 158 5 (by decide) (by decide) (by decide) (Or.inl (by decide))).trans ((w_up_at (by decide)).trans ((w_up_slot (by decide)).trans ((w_up_slot (by decide)).trans ((w_up_at (by decide)).trans ((w_up_at (by decide)).trans (((tr33.2.2.2.1 158 5 (by decide) (by decide) (by decide) (Or.inl (by decide))).trans (l5))))))))))) (fun r47 => ?_)
                                  refine wb_gfi 227 rfl (wy_pr rfl) wt_227 wf_7_2 (v := h) ((w_up_slot (by decide)).trans (((hc38.2.2.2.1 227 2 (by decide) (by decide) (by decide) (Or.inl (by decide))).trans ((w_up_slot (by decide)).trans ((w_up_slot (by decide)).trans ((w_up_slot (by decide)).trans ((w_up_slot (by decide)).trans ((w_up_slot (by decide)).trans (((tr33.2.2.2.1 227 2 (by decide) (by decide) (by decide) (Or.inl (by decide))).trans (bh))))))))))) (fun r48 => ?_)
                                  refine wa_iconst ?_
                                  refine wa_isub ?_
                                  refine wb_bald 228 rfl (wy_pr rfl) wt_228 (n := (S 228 (-1))) ((w_up_slot (by decide)).trans (((hc38.2.2.2.1 228 (-1) (by decide) (by decide) (by decide) (Or.inl (by decide))).trans ((w_up_slot (by decide)).trans ((w_up_slot (by decide)).trans ((w_up_slot (by decide)).trans ((w_up_slot (by decide)).trans ((w_up_slot (by decide)).trans (((tr33.2.2.2.1 228 (-1) (by decide) (by decide) (by decide) (Or.inl (by decide))).trans (rfl))))))))))) (by omega) (by omega) (v := ky) ((w_up_slot (by decide)).trans (((hc38.2.2.2.1 228 (h - 1) (by decide) (by decide) (by decide) (Or.inl (by decide))).trans ((w_up_slot (by decide)).trans ((w_up_slot (by decide)).trans ((w_up_slot (by decide)).trans ((w_up_slot (by decide)).trans ((w_up_slot (by decide)).trans (((tr33.2.2.2.1 228 (h - 1) (by decide) (by decide) (by decide) (Or.inl (by decide))).trans (hky))))))))))) (fun r49 => ?_)
                                  refine wb_pfi 158 rfl (wy_pr rfl) wt_158 wf_5_16 (n := 16) rfl ⟨(by omega), (by omega)⟩ ?_
                                  refine wa_aload_n (n := 0) rfl ?_
                                  refine wa_aload_n (n := 0) rfl ?_
                                  refine wb_gf5 158 rfl (wy_pr rfl) wt_158 wf_5_5 (v := 227) ((w_up_at (by decide)).trans ((w_up_at (by decide)).trans (((hc38.2.2.2.1 158 5 (by decide) (by decide) (by decide) (Or.inl (by decide))).trans ((w_up_at (by decide)).trans ((w_up_slot (by decide)).trans ((w_up_slot (by decide)).trans ((w_up_at (by decide)).trans ((w_up_at (by decide)).trans (((tr33.2.2.2.1 158 5 (by decide) (by decide) (by decide) (Or.inl (by decide))).trans (l5)))))))))))) (fun r50 => ?_)
                                  refine wb_gf4 227 rfl (wy_pr rfl) wt_227 wf_7_1 (v := 229) wl_227_1 ?_
                                  refine wa_aload_n (n := 0) rfl ?_
                                  refine wb_gf5 158 rfl (wy_pr rfl) wt_158 wf_5_5 (v := 227) ((w_up_at (by decide)).trans ((w_up_at (by decide)).trans (((hc38.2.2.2.1 158 5 (by decide) (by decide) (by decide) (Or.inl (by decide))).trans ((w_up_at (by decide)).trans ((w_up_slot (by decide)).trans ((w_up_slot (by decide)).trans ((w_up_at (by decide)).trans ((w_up_at (by decide)).trans (((tr33.2.2.2.1 158 5 (by decide) (by decide) (by decide) (Or.inl (by decide))).trans (l5)))))))))))) (fun r51 => ?_)
                                  refine wb_gfi 227 rfl (wy_pr rfl) wt_227 wf_7_2 (v := h) ((w_up_slot (by decide)).trans ((w_up_slot (by decide)).trans (((hc38.2.2.2.1 227 2 (by decide) (by decide) (by decide) (Or.inl (by decide))).trans ((w_up_slot (by decide)).trans ((w_up_slot (by decide)).trans ((w_up_slot (by decide)).trans ((w_up_slot (by decide)).trans ((w_up_slot (by decide)).trans (((tr33.2.2.2.1 227 2 (by decide) (by decide) (by decide) (Or.inl (by decide))).trans (bh)))))))))))) (fun r52 => ?_)
                                  refine wa_iconst ?_
                                  refine wa_isub ?_
                                  refine wb_lald 229 rfl (wy_pr rfl) wt_229 (n := (S 228 (-1))) ((w_up_slot (by decide)).trans ((w_up_slot (by decide)).trans (((hc38.2.2.2.1 229 (-1) (by decide) (by decide) (by decide) (Or.inl (by decide))).trans ((w_up_slot (by decide)).trans ((w_up_slot (by decide)).trans ((w_up_slot (by decide)).trans ((w_up_slot (by decide)).trans ((w_up_slot (by decide)).trans (((tr33.2.2.2.1 229 (-1) (by decide) (by decide) (by decide) (Or.inl (by decide))).trans (bl1)))))))))))) (by omega) (by omega) (v := vy) ((w_up_slot (by decide)).trans ((w_up_slot (by decide)).trans (((hc38.2.2.2.1 229 (h - 1) (by decide) (by decide) (by decide) (Or.inl (by decide))).trans ((w_up_slot (by decide)).trans ((w_up_slot (by decide)).trans ((w_up_slot (by decide)).trans ((w_up_slot (by decide)).trans ((w_up_slot (by decide)).trans (((tr33.2.2.2.1 229 (h - 1) (by decide) (by decide) (by decide) (Or.inl (by decide))).trans (hvy)))))))))))) (fun r53 => ?_)
                                  refine wb_pfl 158 rfl (wy_pr rfl) wt_158 wf_5_17 (n := 17) rfl ⟨(by omega), (by omega)⟩ ?_
                                  refine wa_fall ⟨_, rfl⟩ ?_
                                  refine wa_aload_n (n := 0) rfl ?_
                                  refine wa_aload_n (n := 0) rfl ?_
                                  refine wb_gfi 158 rfl (wy_pr rfl) wt_158 wf_5_16 (v := ky) ((w_up_at (by decide)).trans (w_up_same _ _ _ _)) (fun r54 => ?_)
                                  refine wa_aload_n (n := 0) rfl ?_
                                  refine wb_gfl 158 rfl (wy_pr rfl) wt_158 wf_5_17 (v := vy) (w_up_same _ _ _ _) (fun r55 => ?_)
                                  refine wa_cv 158 rfl (wy_pr rfl) wt_158 (M2 := mS [228, 229]) rfl at_XL_giveValue ⟨_, rfl⟩ rfl rfl ⟨trivial, trivial, trivial, (Or.inr ⟨wy_pr rfl, mS_no rfl⟩), (Or.inr ⟨wy_pr rfl, mS_no rfl⟩), trivial, trivial⟩ trivial (fun _ _ q => mS_sub (by decide) q) (glx_226 (S := (w_up (w_up (w_up C38 158 17 (S 2 1 * 4294967296 + n)) 158 16 ky) 158 17 vy)) (k := ky) (v := vy) (h := h) (c := c) (p := p) (ba := ba) (w_CL_up (w_CL_up (w_CL_up (CL_ap2 (w_CL_up (w_CL_up (w_CL_up (w_CL_up (w_CL_up (CL_tr hC tr33) (by omega)) (by omega)) (by omega)) (by omega)) (by omega)) hc38) (by omega)) (by omega)) (by omega)) (gI_up (gI_up (gI_up hc38.2.2.2.2.2.1 (by omega) (by omega) (by omega)) (by omega) (by omega) (by omega)) (by omega) (by omega) (by omega)) ((w_up_at (by decide)).trans ((w_up_at (by decide)).trans ((w_up_at (by decide)).trans (((hc38.2.2.2.1 158 4 (by decide) (by decide) (by decide) (Or.inl (by decide))).trans ((w_up_at (by decide)).trans ((w_up_slot (by decide)).trans ((w_up_slot (by decide)).trans ((w_up_at (by decide)).trans ((w_up_at (by decide)).trans (((tr33.2.2.2.1 158 4 (by decide) (by decide) (by decide) (Or.inl (by decide))).trans (l4))))))))))))) ((w_up_at (by decide)).trans ((w_up_at (by decide)).trans ((w_up_at (by decide)).trans (((hc38.2.2.2.1 158 5 (by decide) (by decide) (by decide) (Or.inl (by decide))).trans ((w_up_at (by decide)).trans ((w_up_slot (by decide)).trans ((w_up_slot (by decide)).trans ((w_up_at (by decide)).trans ((w_up_at (by decide)).trans (((tr33.2.2.2.1 158 5 (by decide) (by decide) (by decide) (Or.inl (by decide))).trans (l5))))))))))))) ((w_up_at (by decide)).trans ((w_up_at (by decide)).trans ((w_up_at (by decide)).trans (((hc38.2.2.2.1 158 8 (by decide) (by decide) (by decide) (Or.inl (by decide))).trans ((w_up_at (by decide)).trans ((w_up_slot (by decide)).trans ((w_up_slot (by decide)).trans ((w_up_at (by decide)).trans ((w_up_at (by decide)).trans (((tr33.2.2.2.1 158 8 (by decide) (by decide) (by decide) (Or.inl (by decide))).trans (l8))))))))))))) ((w_up_slot (by decide)).trans ((w_up_slot (by decide)).trans ((w_up_slot (by decide)).trans (((hc38.2.2.2.1 226 4 (by decide) (by decide) (by decide) (Or.inl (by decide))).trans ((w_up_slot (by decide)).trans ((w_up_slot (by decide)).trans ((w_up_slot (by decide)).trans ((w_up_slot (by decide)).trans ((w_up_slot (by decide)).trans (((tr33.2.2.2.1 226 4 (by decide) (by decide) (by decide) (Or.inl (by decide))).trans (bc))))))))))))) ((w_up_slot (by decide)).trans ((w_up_slot (by decide)).trans ((w_up_slot (by decide)).trans (((hc38.2.2.2.1 231 (c - 1) (by decide) (by decide) (by decide) (Or.inl (by decide))).trans ((w_up_slot (by decide)).trans ((w_up_slot (by decide)).trans ((w_up_slot (by decide)).trans ((w_up_slot (by decide)).trans ((w_up_slot (by decide)).trans (((tr33.2.2.2.1 231 (c - 1) (by decide) (by decide) (by decide) (Or.inl (by decide))).trans (bp))))))))))))) ((((w_up_slot (by decide)).trans ((w_up_slot (by decide)).trans ((w_up_slot (by decide)).trans (((hc38.2.2.2.1 229 (-1) (by decide) (by decide) (by decide) (Or.inl (by decide))).trans ((w_up_slot (by decide)).trans ((w_up_slot (by decide)).trans ((w_up_slot (by decide)).trans ((w_up_slot (by decide)).trans ((w_up_slot (by decide)).trans (((tr33.2.2.2.1 229 (-1) (by decide) (by decide) (by decide) (Or.inl (by decide))).trans (bl1)))))))))))))).trans (((w_up_slot (by decide)).trans ((w_up_slot (by decide)).trans ((w_up_slot (by decide)).trans (((hc38.2.2.2.1 228 (-1) (by decide) (by decide) (by decide) (Or.inl (by decide))).trans ((w_up_slot (by decide)).trans ((w_up_slot (by decide)).trans ((w_up_slot (by decide)).trans ((w_up_slot (by decide)).trans ((w_up_slot (by decide)).trans (((tr33.2.2.2.1 228 (-1) (by decide) (by decide) (by decide) (Or.inl (by decide))).trans (rfl)))))))))))))).symm) (by have e : (w_up (w_up (w_up C38 158 17 (S 2 1 * 4294967296 + n)) 158 16 ky) 158 17 vy) 228 (-1) = S 228 (-1) := ((w_up_slot (by decide)).trans ((w_up_slot (by decide)).trans ((w_up_slot (by decide)).trans (((hc38.2.2.2.1 228 (-1) (by decide) (by decide) (by decide) (Or.inl (by decide))).trans ((w_up_slot (by decide)).trans ((w_up_slot (by decide)).trans ((w_up_slot (by decide)).trans ((w_up_slot (by decide)).trans ((w_up_slot (by decide)).trans (((tr33.2.2.2.1 228 (-1) (by decide) (by decide) (by decide) (Or.inl (by decide))).trans (rfl))))))))))))); rw [e]; exact ⟨bl2, bl3⟩) (by have e : (w_up (w_up (w_up C38 158 17 (S 2 1 * 4294967296 + n)) 158 16 ky) 158 17 vy) 228 (-1) = S 228 (-1) := ((w_up_slot (by decide)).trans ((w_up_slot (by decide)).trans ((w_up_slot (by decide)).trans (((hc38.2.2.2.1 228 (-1) (by decide) (by decide) (by decide) (Or.inl (by decide))).trans ((w_up_slot (by decide)).trans ((w_up_slot (by decide)).trans ((w_up_slot (by decide)).trans ((w_up_slot (by decide)).trans ((w_up_slot (by decide)).trans (((tr33.2.2.2.1 228 (-1) (by decide) (by decide) (by decide) (Or.inl (by decide))).trans (rfl))))))))))))); omega) ⟨by omega, by omega⟩ ⟨by omega, by omega⟩ ⟨by omega, by omega⟩ ⟨by omega, by omega⟩) (fun oq56 Sq56 hp57 q56 => ?_)
                                  rcases q56 with ⟨rfl, hgv56⟩
                                  show wJ _ _ _ _ _ _ _ _ _ _
                                  refine wa_return rfl ?_
                                  refine ⟨rfl, Or.inr ⟨by omega, Sq33, (w_up (w_up (w_up C38 158 17 (S 2 1 * 4294967296 + n)) 158 16 ky) 158 17 vy), tr33, ?_, ?_⟩⟩
                                  · exact txR_mk ⟨by decide, by decide⟩ hc38 (fun j i hji => (w_up_no (by omega)).trans ((w_up_no (by omega)).trans ((w_up_no (by omega)).trans (rfl))))
                                  · first | (rw [if_pos (show kd = 1 by omega), if_pos (show kd = 1 by omega)]; exact hgv56) | (rw [if_neg (show ¬ kd = 1 by omega), if_neg (show ¬ kd = 1 by omega)]; exact hgv56)
                              · skip
                                exact absurd c37 (by omega)
                            · skip
                              exact absurd c35 (by omega)
                          · skip
                            exact absurd c31 (by omega)
              · skip
                exact absurd c13 (by omega)
          · skip
            exact absurd c9 (by omega)
  · skip
    exact absurd c3 (by omega)
end Who
