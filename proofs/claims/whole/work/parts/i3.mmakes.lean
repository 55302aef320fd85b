/-! PART i3: the reference: makes whole, doesMember of constructors. -/
section Wi3
variable {xs : List (Nat × List Int32)} {M : Nat → Prop} {d : Nat} {S Z A : wS} {T : Int → Int} {n : Int} {cs : List hCR} {ms : List hMR} {os : Int → List Int} {Q : wO → wS → Prop} {es : List (Int × Int)} {g s0 v0 u0 c m r tn en : Int}
/-- the type of a class's i-th field -/
def ftO (cs : List hCR) (ms : List hMR) (c : Int) (i : Nat) : Int := (hmR ms ((flA cs ms c).getD i 0)).2.2.2.1
/-- an instance has been made, with its arguments -/
def maR (g s0 v0 u0 c tn m en : Int) (nf : Nat) (ty pt : Nat → Int) (es : List (Int × Int)) (B Z : wS) : Prop := ∃ D E : wS, mvR g s0 v0 ty nf (w_up (ntZ 7 g u0 (w_up (w_up (w_up B 343 tn m) 343 (tn + 1) en) 237 106 (tn + 2))) 321 g c) D ∧ afL g ty nf 0 (w_up (ntZ 7 g u0 (w_up (w_up (w_up B 343 tn m) 343 (tn + 1) en) 237 106 (tn + 2))) 321 g c) D ∧ muR s0 nf ty (csF nf ty pt 0 es (fun _ => (-1, 0))) D E ∧ isQ 7 g E Z
def trM (tn : Int) (j : Nat) (x : Int) : Prop := (j = 237 ∧ x = 106) ∨ (j = 343 ∧ (x = tn ∨ x = tn + 1))
def mkM (g tn : Int) (j : Nat) (x : Int) : Prop := trM tn j x ∨ (314 ≤ j ∧ j ≤ 324 ∧ x = g) ∨ (j = 237 ∧ (x = 68 ∨ x = 62))
theorem mk_fr (j : Nat) (x : Int) (hj : ¬ mkM g tn j x) : (w_up (ntZ 7 g u0 (w_up (w_up (w_up A 343 tn m) 343 (tn + 1) en) 237 106 (tn + 2))) 321 g c) j x = A j x := by
  unfold mkM trM at hj
  unfold ntZ
  repeat first | rfl | refine (w_up_no (by omega)).trans ?_
theorem mk_82 (hM : A 237 82 = s0) (h63 : A 237 63 = v0) : mvR g s0 v0 (fun _ => 0) 0 (w_up (ntZ 7 g u0 A) 321 g c) (w_up (ntZ 7 g u0 A) 321 g c) := by
  refine ⟨⟨?_, ?_, ?_, fun z => absurd z (by omega)⟩, fun i hi => absurd hi (Nat.not_lt_zero _), fun _ _ _ => rfl⟩
  · rw [show s0 + ((0 : Nat) : Int) = s0 by omega, ← hM]; unfold ntZ; repeat first | rfl | refine (w_up_no (by omega)).trans ?_
  · rw [show v0 + ((0 : Nat) : Int) = v0 by omega, ← h63]; unfold ntZ; repeat first | rfl | refine (w_up_no (by omega)).trans ?_
  · unfold ntZ
    refine (w_up_no (by omega)).trans ?_
    repeat first | exact w_up_same _ _ _ _ | refine (w_up_no (by omega)).trans ?_
theorem mv_ty {ty ty2 : Nat → Int} (h : mvR g s0 v0 ty 0 A Z) : mvR g s0 v0 ty2 0 A Z := ⟨h.1, fun i hi => absurd hi (Nat.not_lt_zero _), h.2.2⟩
set_option maxHeartbeats 4000000 in
theorem rmm_241 (hM : w_ML S) (hK : KR 241 T n cs ms S) (hw : wHo cs ms os) (hm : 0 ≤ m ∧ m < (ms.length : Int)) (hc : (hmR ms m).1 = c) (hF : (flA cs ms c).length ≤ 400) (h106 : S 237 106 = tn) (ht : 0 ≤ tn ∧ tn + 2 ≤ 100000) (h68 : S 237 68 = g) (hg : 0 ≤ g ∧ g ≤ u0) (h62 : S 237 62 = u0) (hu0 : u0 ≤ 8000) (h63 : S 237 63 = v0) (h82 : S 237 82 = s0) (hs0 : 0 ≤ s0 ∧ s0 ≤ v0 ∧ v0 ≤ 60000) (hpn : 0 < es.length → 1 ≤ (hmR ms m).2.2.2.2.1.length) (he8 : es.length ≤ 1000) (h73 : S 237 173 = r) (h76 : S 237 176 = (es.length : Int)) (hr : 0 ≤ r ∧ r + 1 + (es.length : Int) ≤ 4200) (hes : ∀ i : Nat, i < es.length → S 363 (r + 1 + (i : Int)) = (es.getD i (0, 0)).1 ∧ S 364 (r + 1 + (i : Int)) = (es.getD i (0, 0)).2) (hev : ∀ i : Nat, i < es.length → (0 ≤ (es.getD i (0, 0)).1 ∧ (es.getD i (0, 0)).1 ≤ 8) ∧ (-9223372036854775808 ≤ (es.getD i (0, 0)).2 ∧ (es.getD i (0, 0)).2 ≤ 9223372036854775807)) : wJ (pe_GA xs) wY0 M (d + 7) t_M_makes ((pe_at t_M_makes.bl 0).getD (0, [])).2 [(0, (2, 237)), (1, (0, m))] [] S (fun o Z => ∃ B : wS, (∀ (j : Nat) (x : Int), ¬ flM j x → B j x = S j x) ∧ (((8000 < u0 + 1 ∨ 60000 < v0 + ((flA cs ms c).length : Int)) ∧ o = .inr 238 ∧ hZ 99 B = Z) ∨ (u0 + 1 ≤ 8000 ∧ v0 + ((flA cs ms c).length : Int) ≤ 60000 ∧ o = .inl none ∧ maR g s0 v0 u0 c tn m (es.length : Int) (flA cs ms c).length (ftO cs ms c) (fun i => prT (hmR ms m) i) es B Z))) := by
  have h13 : S 237 13 = 241 := hK.1
  have h400 := hw.1
  have uM := KR_m hK (m := m) (by omega) (by omega)
  have uW := hw.2.2.2 m (by omega) (by omega)
  have u0c : S 252 m = c := uM.1.1.trans hc
  have hcv := uW.1.1
  rw [hc] at hcv
  refine wa_aload_n (n := 0) rfl ?_
  refine wb_gf5 237 rfl (wy_pr rfl) wt_237 wf_15_13 (v := 241) (h13) (fun r1 => ?_)
  refine wb_gf4 241 rfl (wy_pr rfl) wt_241 wf_12_12 (v := 252) wl_241_12 ?_
  refine wa_iload_n (n := 1) rfl ?_
  refine wb_iald 252 rfl (wy_pr rfl) wt_252 (n := 400) ((ml_252 hM)) (by omega) (by omega) (v := c) (u0c) (fun r2 => ?_)
  refine wa_istore_n (n := 2) rfl ?_
  refine wa_aload_n (n := 0) rfl ?_
  refine wa_iload_n (n := 2) rfl ?_
  refine wa_cv 237 rfl (wy_pr rfl) wt_237 (M2 := fun _ => False) rfl at_M_listsFields ⟨_, rfl⟩ rfl rfl ⟨trivial, (Or.inr ⟨wy_pr rfl, fun q => q⟩), trivial, trivial⟩ trivial (fun _ _ q => False.elim q) (rlf_241 (c := c) hM hK hw hcv hF) (fun oq3 Sq3 hp4 q3 => ?_)
  rcases q3 with ⟨rfl, hFI, hfb⟩
  show wJ _ _ _ _ _ _ _ _ _ _
  have hMB := ML_w hM hfb (fun j z => by unfold flM at z; omega)
  refine wa_aload_n (n := 0) rfl ?_
  refine wb_gfi 237 rfl (wy_pr rfl) wt_237 wf_15_130 (v := ((flA cs ms c).length : Int)) (hFI.1) (fun r5 => ?_)
  refine wa_istore_n (n := 3) rfl ?_
  refine wa_aload_n (n := 0) rfl ?_
  refine wa_aload_n (n := 0) rfl ?_
  refine wa_iconst ?_
  refine wa_cv 237 rfl (wy_pr rfl) wt_237 (M2 := fun _ => False) rfl at_M_hasRoomFor ⟨_, rfl⟩ rfl rfl ⟨trivial, trivial, (Or.inr ⟨wy_pr rfl, fun q => q⟩), trivial, trivial⟩ ⟨(Or.inr ⟨wy_pr rfl, fun q => q⟩), trivial⟩ (fun _ _ q => False.elim q) ?_ (fun _ _ _ q => q)
  refine wa_aload_n (n := 0) rfl ?_
  refine wb_gfi 237 rfl (wy_pr rfl) wt_237 wf_15_62 (v := u0) (((hfb 237 62 (by unfold flM; omega)).trans (h62))) (fun r6 => ?_)
  refine wa_iload_n (n := 1) rfl ?_
  refine wa_iadd ?_
  refine wa_sipush (by omega) ?_
  refine wa_icmpgt (w_rg0 (by omega) (by omega)) (w_rg0 (by omega) (by omega)) ⟨_, rfl⟩ (fun c7 => ?_) (fun c7 => ?_)
  · skip
    refine wa_iconst ?_
    refine wa_fall ⟨_, rfl⟩ ?_
    refine wa_zreturn rfl (Or.inl rfl) ?_
    show wJ _ _ _ _ _ _ _ _ _ _
    refine wa_ifeq (w_rg0 (by omega) (by omega)) ⟨_, rfl⟩ (fun c8 => ?_) (fun c8 => ?_)
    · skip
      refine wa_iconst ?_
      refine wa_fall ⟨_, rfl⟩ ?_
      refine wa_cv 237 rfl (wy_pr rfl) wt_237 (M2 := fun _ => False) rfl at_M_room ⟨_, rfl⟩ rfl rfl ⟨trivial, trivial, (Or.inr ⟨wy_pr rfl, fun q => q⟩), trivial, trivial⟩ trivial (fun _ _ q => False.elim q) ?_ (fun _ _ _ q => q)
      refine wa_iload_n (n := 1) rfl ?_
      refine wa_ifne (w_rg0 (by omega) (by omega)) ⟨_, rfl⟩ (fun c9 => ?_) (fun c9 => ?_)
      · skip
        exact absurd c9 (by omega)
      · skip
        refine wa_aload_n (n := 0) rfl ?_
        refine wb_gf4 237 rfl (wy_pr rfl) wt_237 wf_15_1 (v := 238) wl_237_1 ?_
        refine wa_bipush (w_rg2 (by omega) (by omega)) ?_
        refine wa_iconst ?_
        refine wa_cv 238 rfl (wy_pr rfl) wt_238 (M2 := fun _ => False) rfl at_MH_of ⟨_, rfl⟩ rfl rfl ⟨(Or.inr ⟨wy_pr rfl, fun q => q⟩), trivial, trivial⟩ trivial (fun _ _ q => False.elim q) ?_ (fun _ _ _ q => q)
        refine wa_aload_n (n := 0) rfl ?_
        refine wa_iload_n (n := 1) rfl ?_
        refine wb_pfi 238 rfl (wy_pr rfl) wt_238 wf_11_5 (n := 5) rfl ⟨(by omega), (by omega)⟩ ?_
        refine wa_aload_n (n := 0) rfl ?_
        refine wa_iload_n (n := 2) rfl ?_
        refine wb_pfi 238 rfl (wy_pr rfl) wt_238 wf_11_6 (n := 6) rfl ⟨(by omega), (by omega)⟩ ?_
        refine wa_aload_n (n := 0) rfl ?_
        refine wa_oreturn rfl ?_
        show wJ _ _ _ _ _ _ _ _ _ _
        refine wa_th (j := 238) ?_
        refine ⟨rfl, ?_⟩
        exact ⟨_, hfb, Or.inl ⟨by omega, rfl, rfl⟩⟩
    · skip
      exact absurd c8 (by omega)
  · skip
    refine wa_iconst ?_
    refine wa_goto ⟨_, rfl⟩ ?_
    refine wa_zreturn rfl (Or.inr rfl) ?_
    show wJ _ _ _ _ _ _ _ _ _ _
    refine wa_ifeq (w_rg0 (by omega) (by omega)) ⟨_, rfl⟩ (fun c10 => ?_) (fun c10 => ?_)
    · skip
      exact absurd c10 (by omega)
    · skip
      refine wa_aload_n (n := 0) rfl ?_
      refine wb_gfi 237 rfl (wy_pr rfl) wt_237 wf_15_63 (v := v0) (((hfb 237 63 (by unfold flM; omega)).trans (h63))) (fun r11 => ?_)
      refine wa_iload_n (n := 3) rfl ?_
      refine wa_iadd ?_
      refine wb_ki (n := 60000) rfl ?_
      refine wa_icmpgt (w_rg0 (by omega) (by omega)) (w_rg0 (by omega) (by omega)) ⟨_, rfl⟩ (fun c12 => ?_) (fun c12 => ?_)
      · skip
        refine wa_iconst ?_
        refine wa_fall ⟨_, rfl⟩ ?_
        refine wa_cv 237 rfl (wy_pr rfl) wt_237 (M2 := fun _ => False) rfl at_M_room ⟨_, rfl⟩ rfl rfl ⟨trivial, trivial, (Or.inr ⟨wy_pr rfl, fun q => q⟩), trivial, trivial⟩ trivial (fun _ _ q => False.elim q) ?_ (fun _ _ _ q => q)
        refine wa_iload_n (n := 1) rfl ?_
        refine wa_ifne (w_rg0 (by omega) (by omega)) ⟨_, rfl⟩ (fun c13 => ?_) (fun c13 => ?_)
        · skip
          exact absurd c13 (by omega)
        · skip
          refine wa_aload_n (n := 0) rfl ?_
          refine wb_gf4 237 rfl (wy_pr rfl) wt_237 wf_15_1 (v := 238) wl_237_1 ?_
          refine wa_bipush (w_rg2 (by omega) (by omega)) ?_
          refine wa_iconst ?_
          refine wa_cv 238 rfl (wy_pr rfl) wt_238 (M2 := fun _ => False) rfl at_MH_of ⟨_, rfl⟩ rfl rfl ⟨(Or.inr ⟨wy_pr rfl, fun q => q⟩), trivial, trivial⟩ trivial (fun _ _ q => False.elim q) ?_ (fun _ _ _ q => q)
          refine wa_aload_n (n := 0) rfl ?_
          refine wa_iload_n (n := 1) rfl ?_
          refine wb_pfi 238 rfl (wy_pr rfl) wt_238 wf_11_5 (n := 5) rfl ⟨(by omega), (by omega)⟩ ?_
          refine wa_aload_n (n := 0) rfl ?_
          refine wa_iload_n (n := 2) rfl ?_
          refine wb_pfi 238 rfl (wy_pr rfl) wt_238 wf_11_6 (n := 6) rfl ⟨(by omega), (by omega)⟩ ?_
          refine wa_aload_n (n := 0) rfl ?_
          refine wa_oreturn rfl ?_
          show wJ _ _ _ _ _ _ _ _ _ _
          refine wa_th (j := 238) ?_
          refine ⟨rfl, ?_⟩
          exact ⟨_, hfb, Or.inl ⟨by omega, rfl, rfl⟩⟩
      · skip
        refine wa_iconst ?_
        refine wa_goto ⟨_, rfl⟩ ?_
        refine wa_cv 237 rfl (wy_pr rfl) wt_237 (M2 := fun _ => False) rfl at_M_room ⟨_, rfl⟩ rfl rfl ⟨trivial, trivial, (Or.inr ⟨wy_pr rfl, fun q => q⟩), trivial, trivial⟩ trivial (fun _ _ q => False.elim q) ?_ (fun _ _ _ q => q)
        refine wa_iload_n (n := 1) rfl ?_
        refine wa_ifne (w_rg0 (by omega) (by omega)) ⟨_, rfl⟩ (fun c14 => ?_) (fun c14 => ?_)
        · skip
          refine wa_return rfl ?_
          show wJ _ _ _ _ _ _ _ _ _ _
          refine wa_aload_n (n := 0) rfl ?_
          refine wa_iload_n (n := 1) rfl ?_
          refine wa_cv 237 rfl (wy_pr rfl) wt_237 (M2 := fun _ => False) rfl at_M_traces ⟨_, rfl⟩ rfl rfl ⟨trivial, trivial, (Or.inr ⟨wy_pr rfl, fun q => q⟩), trivial, trivial⟩ trivial (fun _ _ q => False.elim q) (rtc (S := Sq3) (m := m) (tn := tn) (en := (es.length : Int)) hMB (((hfb 237 106 (by unfold flM; omega)).trans (h106))) (((hfb 237 176 (by unfold flM; omega)).trans (h76))) ⟨by omega, by omega⟩ ⟨by omega, by omega⟩ ⟨by omega, by omega⟩) (fun oq15 Sq15 hp16 q15 => ?_)
          rcases q15 with ⟨rfl, rfl⟩
          show wJ _ _ _ _ _ _ _ _ _ _
          refine wa_aload_n (n := 0) rfl ?_
          refine wa_bipush (w_rg2 (by omega) (by omega)) ?_
          refine wa_cv 237 rfl (wy_pr rfl) wt_237 (M2 := fun _ => False) rfl at_M_newThing ⟨_, rfl⟩ rfl rfl ⟨trivial, trivial, (Or.inr ⟨wy_pr rfl, fun q => q⟩), trivial, trivial⟩ trivial (fun _ _ q => False.elim q) ?_ (fun _ _ _ q => q)
          refine wa_aload_n (n := 0) rfl ?_
          refine wb_gfi 237 rfl (wy_pr rfl) wt_237 wf_15_68 (v := g) ((w_up_at (by decide)).trans ((w_up_slot (by decide)).trans ((w_up_slot (by decide)).trans (((hfb 237 68 (by unfold flM; omega)).trans (h68)))))) (fun r17 => ?_)
          refine wa_istore_n (n := 2) rfl ?_
          refine wa_aload_n (n := 0) rfl ?_
          refine wb_gf4 237 rfl (wy_pr rfl) wt_237 wf_15_70 (v := 314) wl_237_70 ?_
          refine wa_iload_n (n := 2) rfl ?_
          refine wa_iload_n (n := 1) rfl ?_
          refine wb_iast 314 rfl (wy_pr rfl) wt_314 (n := 8000) ((w_up_slot (by decide)).trans ((w_up_slot (by decide)).trans ((w_up_slot (by decide)).trans (((hfb 314 (-1) (by unfold flM; omega)).trans ((ml_314 hM))))))) (by omega) (by omega) ⟨(by omega), (by omega)⟩ ?_
          refine wa_aload_n (n := 0) rfl ?_
          refine wb_gf4 237 rfl (wy_pr rfl) wt_237 wf_15_71 (v := 315) wl_237_71 ?_
          refine wa_iload_n (n := 2) rfl ?_
          refine wa_iconst ?_
          refine wb_iast 315 rfl (wy_pr rfl) wt_315 (n := 8000) ((w_up_slot (by decide)).trans ((w_up_slot (by decide)).trans ((w_up_slot (by decide)).trans ((w_up_slot (by decide)).trans (((hfb 315 (-1) (by unfold flM; omega)).trans ((ml_315 hM)))))))) (by omega) (by omega) ⟨(by omega), (by omega)⟩ ?_
          refine wa_aload_n (n := 0) rfl ?_
          refine wb_gf4 237 rfl (wy_pr rfl) wt_237 wf_15_72 (v := 316) wl_237_72 ?_
          refine wa_iload_n (n := 2) rfl ?_
          refine wa_iconst ?_
          refine wb_iast 316 rfl (wy_pr rfl) wt_316 (n := 8000) ((w_up_slot (by decide)).trans ((w_up_slot (by decide)).trans ((w_up_slot (by decide)).trans ((w_up_slot (by decide)).trans ((w_up_slot (by decide)).trans (((hfb 316 (-1) (by unfold flM; omega)).trans ((ml_316 hM))))))))) (by omega) (by omega) ⟨(by omega), (by omega)⟩ ?_
          refine wa_aload_n (n := 0) rfl ?_
          refine wb_gf4 237 rfl (wy_pr rfl) wt_237 wf_15_73 (v := 317) wl_237_73 ?_
          refine wa_iload_n (n := 2) rfl ?_
          refine wa_iconst ?_
          refine wb_iast 317 rfl (wy_pr rfl) wt_317 (n := 8000) ((w_up_slot (by decide)).trans ((w_up_slot (by decide)).trans ((w_up_slot (by decide)).trans ((w_up_slot (by decide)).trans ((w_up_slot (by decide)).trans ((w_up_slot (by decide)).trans (((hfb 317 (-1) (by unfold flM; omega)).trans ((ml_317 hM)))))))))) (by omega) (by omega) ⟨(by omega), (by omega)⟩ ?_
          refine wa_aload_n (n := 0) rfl ?_
          refine wb_gf4 237 rfl (wy_pr rfl) wt_237 wf_15_75 (v := 319) wl_237_75 ?_
          refine wa_iload_n (n := 2) rfl ?_
          refine wa_iconst ?_
          refine wb_iast 319 rfl (wy_pr rfl) wt_319 (n := 8000) ((w_up_slot (by decide)).trans ((w_up_slot (by decide)).trans ((w_up_slot (by decide)).trans ((w_up_slot (by decide)).trans ((w_up_slot (by decide)).trans ((w_up_slot (by decide)).trans ((w_up_slot (by decide)).trans (((hfb 319 (-1) (by unfold flM; omega)).trans ((ml_319 hM))))))))))) (by omega) (by omega) ⟨(by omega), (by omega)⟩ ?_
          refine wa_aload_n (n := 0) rfl ?_
          refine wb_gf4 237 rfl (wy_pr rfl) wt_237 wf_15_76 (v := 320) wl_237_76 ?_
          refine wa_iload_n (n := 2) rfl ?_
          refine wa_iconst ?_
          refine wb_iast 320 rfl (wy_pr rfl) wt_320 (n := 8000) ((w_up_slot (by decide)).trans ((w_up_slot (by decide)).trans ((w_up_slot (by decide)).trans ((w_up_slot (by decide)).trans ((w_up_slot (by decide)).trans ((w_up_slot (by decide)).trans ((w_up_slot (by decide)).trans ((w_up_slot (by decide)).trans (((hfb 320 (-1) (by unfold flM; omega)).trans ((ml_320 hM)))))))))))) (by omega) (by omega) ⟨(by omega), (by omega)⟩ ?_
          refine wa_aload_n (n := 0) rfl ?_
          refine wb_gf4 237 rfl (wy_pr rfl) wt_237 wf_15_77 (v := 321) wl_237_77 ?_
          refine wa_iload_n (n := 2) rfl ?_
          refine wa_iconst ?_
          refine wb_iast 321 rfl (wy_pr rfl) wt_321 (n := 8000) ((w_up_slot (by decide)).trans ((w_up_slot (by decide)).trans ((w_up_slot (by decide)).trans ((w_up_slot (by decide)).trans ((w_up_slot (by decide)).trans ((w_up_slot (by decide)).trans ((w_up_slot (by decide)).trans ((w_up_slot (by decide)).trans ((w_up_slot (by decide)).trans (((hfb 321 (-1) (by unfold flM; omega)).trans ((ml_321 hM))))))))))))) (by omega) (by omega) ⟨(by omega), (by omega)⟩ ?_
          refine wa_aload_n (n := 0) rfl ?_
          refine wb_gf4 237 rfl (wy_pr rfl) wt_237 wf_15_78 (v := 322) wl_237_78 ?_
          refine wa_iload_n (n := 2) rfl ?_
          refine wa_iconst ?_
          refine wb_zast 322 rfl (wy_pr rfl) wt_322 (n := 8000) ((w_up_slot (by decide)).trans ((w_up_slot (by decide)).trans ((w_up_slot (by decide)).trans ((w_up_slot (by decide)).trans ((w_up_slot (by decide)).trans ((w_up_slot (by decide)).trans ((w_up_slot (by decide)).trans ((w_up_slot (by decide)).trans ((w_up_slot (by decide)).trans ((w_up_slot (by decide)).trans (((hfb 322 (-1) (by unfold flM; omega)).trans ((ml_322 hM)))))))))))))) (by omega) (by omega) ⟨(by omega), (by omega)⟩ ?_
          refine wa_aload_n (n := 0) rfl ?_
          refine wb_gf4 237 rfl (wy_pr rfl) wt_237 wf_15_79 (v := 323) wl_237_79 ?_
          refine wa_iload_n (n := 2) rfl ?_
          refine wa_iconst ?_
          refine wb_iast 323 rfl (wy_pr rfl) wt_323 (n := 8000) ((w_up_slot (by decide)).trans ((w_up_slot (by decide)).trans ((w_up_slot (by decide)).trans ((w_up_slot (by decide)).trans ((w_up_slot (by decide)).trans ((w_up_slot (by decide)).trans ((w_up_slot (by decide)).trans ((w_up_slot (by decide)).trans ((w_up_slot (by decide)).trans ((w_up_slot (by decide)).trans ((w_up_slot (by decide)).trans (((hfb 323 (-1) (by unfold flM; omega)).trans ((ml_323 hM))))))))))))))) (by omega) (by omega) ⟨(by omega), (by omega)⟩ ?_
          refine wa_aload_n (n := 0) rfl ?_
          refine wb_gf4 237 rfl (wy_pr rfl) wt_237 wf_15_80 (v := 324) wl_237_80 ?_
          refine wa_iload_n (n := 2) rfl ?_
          refine wa_iconst ?_
          refine wb_iast 324 rfl (wy_pr rfl) wt_324 (n := 8000) ((w_up_slot (by decide)).trans ((w_up_slot (by decide)).trans ((w_up_slot (by decide)).trans ((w_up_slot (by decide)).trans ((w_up_slot (by decide)).trans ((w_up_slot (by decide)).trans ((w_up_slot (by decide)).trans ((w_up_slot (by decide)).trans ((w_up_slot (by decide)).trans ((w_up_slot (by decide)).trans ((w_up_slot (by decide)).trans ((w_up_slot (by decide)).trans (((hfb 324 (-1) (by unfold flM; omega)).trans ((ml_324 hM)))))))))))))))) (by omega) (by omega) ⟨(by omega), (by omega)⟩ ?_
          refine wa_aload_n (n := 0) rfl ?_
          refine wa_dup (by decide) ?_
          refine wb_gfi 237 rfl (wy_pr rfl) wt_237 wf_15_68 (v := g) ((w_up_slot (by decide)).trans ((w_up_slot (by decide)).trans ((w_up_slot (by decide)).trans ((w_up_slot (by decide)).trans ((w_up_slot (by decide)).trans ((w_up_slot (by decide)).trans ((w_up_slot (by decide)).trans ((w_up_slot (by decide)).trans ((w_up_slot (by decide)).trans ((w_up_slot (by decide)).trans ((w_up_at (by decide)).trans ((w_up_slot (by decide)).trans ((w_up_slot (by decide)).trans (((hfb 237 68 (by unfold flM; omega)).trans (h68)))))))))))))))) (fun r18 => ?_)
          refine wa_iconst ?_
          refine wa_iadd ?_
          refine wb_pfi 237 rfl (wy_pr rfl) wt_237 wf_15_68 (n := 68) rfl ⟨(by omega), (by omega)⟩ ?_
          refine wa_aload_n (n := 0) rfl ?_
          refine wa_dup (by decide) ?_
          refine wb_gfi 237 rfl (wy_pr rfl) wt_237 wf_15_62 (v := u0) ((w_up_at (by decide)).trans ((w_up_slot (by decide)).trans ((w_up_slot (by decide)).trans ((w_up_slot (by decide)).trans ((w_up_slot (by decide)).trans ((w_up_slot (by decide)).trans ((w_up_slot (by decide)).trans ((w_up_slot (by decide)).trans ((w_up_slot (by decide)).trans ((w_up_slot (by decide)).trans ((w_up_slot (by decide)).trans ((w_up_at (by decide)).trans ((w_up_slot (by decide)).trans ((w_up_slot (by decide)).trans (((hfb 237 62 (by unfold flM; omega)).trans (h62))))))))))))))))) (fun r19 => ?_)
          refine wa_iconst ?_
          refine wa_iadd ?_
          refine wb_pfi 237 rfl (wy_pr rfl) wt_237 wf_15_62 (n := 62) rfl ⟨(by omega), (by omega)⟩ ?_
          refine wa_iload_n (n := 2) rfl ?_
          refine wa_ireturn rfl ?_
          show wJ _ _ _ _ _ _ _ _ _ _
          refine wa_istore (n := 4) rfl ?_
          refine wa_aload_n (n := 0) rfl ?_
          refine wb_gf4 237 rfl (wy_pr rfl) wt_237 wf_15_77 (v := 321) wl_237_77 ?_
          refine wa_iload (n := 4) rfl ?_
          refine wa_iload_n (n := 2) rfl ?_
          refine wb_iast 321 rfl (wy_pr rfl) wt_321 (n := 8000) ((w_up_slot (by decide)).trans ((w_up_slot (by decide)).trans ((w_up_slot (by decide)).trans ((w_up_slot (by decide)).trans ((w_up_slot (by decide)).trans ((w_up_at (by omega)).trans ((w_up_slot (by decide)).trans ((w_up_slot (by decide)).trans ((w_up_slot (by decide)).trans ((w_up_slot (by decide)).trans ((w_up_slot (by decide)).trans ((w_up_slot (by decide)).trans ((w_up_slot (by decide)).trans ((w_up_slot (by decide)).trans ((w_up_slot (by decide)).trans (((hfb 321 (-1) (by unfold flM; omega)).trans ((ml_321 hM))))))))))))))))))) (by omega) (by omega) ⟨(by omega), (by omega)⟩ ?_
          refine wa_iconst ?_
          refine wa_istore (n := 5) rfl ?_
          refine wa_fall ⟨_, rfl⟩ ?_
          obtain ⟨X, hXe⟩ : ∃ X : wS, X = (w_up (ntZ 7 g u0 (w_up (w_up (w_up Sq3 343 tn m) 343 (tn + 1) (es.length : Int)) 237 106 (tn + 2))) 321 g c) := ⟨_, rfl⟩
          rw [show (w_up (w_up (w_up (w_up (w_up (w_up (w_up (w_up (w_up (w_up (w_up (w_up (w_up (w_up (w_up (w_up Sq3 343 tn m) 343 (tn + 1) (es.length : Int)) 237 106 (tn + 2)) 314 g 7) 315 g (-1)) 316 g (-1)) 317 g 0) 319 g (-1)) 320 g (-1)) 321 g (-1)) 322 g 0) 323 g 0) 324 g 0) 237 68 (g + 1)) 237 62 (u0 + 1)) 321 g c) = X from hXe.symm]
          have hfx : ∀ (j : Nat) (x : Int), ¬ mkM g tn j x → X j x = Sq3 j x := fun j x hj => by rw [hXe]; exact mk_fr j x hj
          have hfs : ∀ (j : Nat) (x : Int), ¬ mkM g tn j x → ¬ flM j x → X j x = S j x := fun j x hj hk => (hfx j x hj).trans (hfb j x hk)
          have hMX : w_ML X := ML_w hMB hfx (fun j z => by unfold mkM trM at z; omega)
          have hKX : KR 241 T n cs ms X := KR_ag hK (fun j x hj => hfs j x (by unfold mkM trM; omega) (by unfold flM; omega))
          have hFX : flI (flA cs ms c) X := ⟨(hfx 237 130 (by unfold mkM trM; omega)).trans hFI.1, fun q hq => (hfx 356 _ (by unfold mkM trM; omega)).trans (hFI.2.1 q hq), hFI.2.2⟩
          have hv0 : mvR g s0 v0 (ftO cs ms c) 0 X X := by rw [hXe]; exact mv_ty (mk_82 ((w_up_at (by first | decide | omega)).trans ((w_up_slot (by first | decide | omega)).trans ((w_up_slot (by first | decide | omega)).trans ((hfb 237 82 (by unfold flM; omega)).trans h82)))) ((w_up_at (by first | decide | omega)).trans ((w_up_slot (by first | decide | omega)).trans ((w_up_slot (by first | decide | omega)).trans ((hfb 237 63 (by unfold flM; omega)).trans h63)))))
          refine wJ_S (rma_241 (m := m) (F := (flA cs ms c)) (ty := ftO cs ms c) (nf := (flA cs ms c).length) (g := g) (s0 := s0) (v0 := v0) (c := c) hMX hKX hw hFX rfl hF (flA_rg hw hcv) (fun _ _ => rfl) ⟨by omega, by omega⟩ ⟨by omega, by omega, by omega⟩ (fun D hmv haf => ?_) (flA cs ms c).length 0 X (by omega) hv0 rfl) ⟨rfl, rfl, rfl, rfl, rfl, rfl, trivial⟩
          have hMD : w_ML D := mvR_ML hMX hmv hg.1 hs0.1
          have hfd : ∀ (j : Nat) (x : Int), ¬ mvM g s0 (flA cs ms c).length j x → D j x = X j x := hmv.2.2
          refine wa_aload_n (n := 0) rfl ?_
          refine wb_gf4 237 rfl (wy_pr rfl) wt_237 wf_15_178 (v := 386) wl_237_178 ?_
          refine wa_astore (n := 5) rfl ?_
          refine wa_iconst ?_
          refine wa_istore (n := 6) rfl ?_
          refine wa_fall ⟨_, rfl⟩ ?_
          refine wJ_S (rmu (A := D) (nf := (flA cs ms c).length) (m := m) (c := c) (g := g) hMD hF (fun D2 hz hfz => ?_) (flA cs ms c).length 0 D (by omega) (fun q hq => absurd hq (Nat.not_lt_zero _)) (fun _ _ _ => rfl)) ⟨rfl, rfl, rfl, rfl, rfl, rfl, rfl, trivial⟩
          have hMD2 : w_ML D2 := ML_w (P := fun j x => j = 386 ∧ 0 ≤ x) hMD hfz (fun j z => by omega)
          have hmu0 : muR s0 (flA cs ms c).length (ftO cs ms c) (fun _ => (-1, 0)) D D2 := ⟨fun i hi => ⟨hz i hi, (hfz 325 _ (by omega)).trans (hmv.2.1 i hi).1, (hfz 326 _ (by omega)).trans (hmv.2.1 i hi).2.1⟩, fun j x hj => hfz j x (fun z => hj (Or.inl z))⟩
          have hfD : ∀ (j : Nat) (x : Int), ¬ mvM g s0 (flA cs ms c).length j x → ¬ mkM g tn j x → ¬ flM j x → D j x = S j x := fun j x h1 h2 h3 => (hfd j x h1).trans (hfs j x h2 h3)
          have hKD : KR 241 T n cs ms D := KR_ag hK (fun j x hj => hfD j x (by unfold mvM; omega) (by unfold mkM trM; omega) (by unfold flM; omega))
          have hFD : flI (flA cs ms c) D := ⟨(hfd 237 130 (by unfold mvM; omega)).trans hFX.1, fun q hq => (hfd 356 _ (by unfold mvM; omega)).trans (hFX.2.1 q hq), hFX.2.2⟩
          have hslD : slC D g (ivl s0 (flA cs ms c).length) := ⟨hmv.1.2.2.1.trans (by rw [ivl_len]), fun z => by rw [ivl_len] at z; rw [ivl_get _ _ 0 z, (hmv.1.2.2.2 z).1]; omega, fun i hi => by rw [ivl_len] at hi ⊢; rw [ivl_get _ _ i hi]; exact ⟨⟨by omega, by omega⟩, fun z => by rw [ivl_get _ _ (i + 1) z, (hmv.2.1 i hi).2.2 z]; omega⟩⟩
          refine wa_iconst ?_
          refine wa_istore (n := 6) rfl ?_
          refine wa_fall ⟨_, rfl⟩ ?_
          refine wJ_S (rmg_241 (A := D) (F := (flA cs ms c)) (ty := ftO cs ms c) (nf := (flA cs ms c).length) (m := m) (c := c) (g := g) (s0 := s0) (r := r) (es := es) hMD hKD hw hFD rfl hF (flA_rg hw hcv) (fun _ _ => rfl) hm hpn he8 ((hfD 237 173 (by unfold mvM; omega) (by unfold mkM trM; omega) (by unfold flM; omega)).trans h73) ((hfD 237 176 (by unfold mvM; omega) (by unfold mkM trM; omega) (by unfold flM; omega)).trans h76) hr (fun i hi => ⟨(hfD 363 _ (by unfold mvM; omega) (by unfold mkM trM; omega) (by unfold flM; omega)).trans (hes i hi).1, (hfD 364 _ (by unfold mvM; omega) (by unfold mkM trM; omega) (by unfold flM; omega)).trans (hes i hi).2⟩) hev hslD ⟨by omega, by omega⟩ ⟨by omega, by omega⟩ (fun E hmu => ?_) es.length 0 (fun _ => (-1, 0)) D2 (by omega) hmu0 rfl) ⟨rfl, rfl, rfl, rfl, rfl, rfl, rfl, trivial⟩
          have hME : w_ML E := ML_w hMD hmu.2 (fun j z => by unfold muM at z; omega)
          refine wa_aload_n (n := 0) rfl ?_
          refine wa_bipush (w_rg2 (by omega) (by omega)) ?_
          refine wa_iload (n := 4) rfl ?_
          refine wa_i2l (w_rg0 (by omega) (by omega)) ?_
          refine wa_cv 237 rfl (wy_pr rfl) wt_237 (M2 := fun _ => False) rfl at_M_is ⟨_, rfl⟩ rfl rfl ⟨(Or.inr ⟨wy_pr rfl, fun q => q⟩), trivial, trivial, trivial, trivial, (Or.inr ⟨wy_pr rfl, fun q => q⟩), trivial⟩ trivial (fun _ _ q => False.elim q) ?_ (fun _ _ _ q => q)
          refine wa_aload_n (n := 0) rfl ?_
          refine wa_iload_n (n := 1) rfl ?_
          refine wb_pfi 237 rfl (wy_pr rfl) wt_237 wf_15_110 (n := 110) rfl ⟨(by omega), (by omega)⟩ ?_
          refine wa_aload_n (n := 0) rfl ?_
          refine wa_lload_n (n := 2) rfl ?_
          refine wb_pfl 237 rfl (wy_pr rfl) wt_237 wf_15_111 (n := 111) rfl ⟨(by omega), (by omega)⟩ ?_
          refine wa_return rfl ?_
          show wJ _ _ _ _ _ _ _ _ _ _
          refine wa_return rfl ?_
          exact ⟨_, hfb, Or.inr ⟨by omega, by omega, rfl, D, E, by rw [← hXe]; exact hmv, by rw [← hXe]; exact haf, hmu, isQ_u (fun _ _ _ => rfl)⟩⟩
        · skip
          exact absurd c14 (by omega)
theorem rdk_241 (hM : w_ML S) (hK : KR 241 T n cs ms S) (hw : wHo cs ms os) (hm : 0 ≤ m ∧ m < (ms.length : Int)) (hc : (hmR ms m).1 = c) (hF : (flA cs ms c).length ≤ 400) (h106 : S 237 106 = tn) (ht : 0 ≤ tn ∧ tn ≤ 100000) (h68 : S 237 68 = g) (hg : 0 ≤ g ∧ g ≤ u0) (h62 : S 237 62 = u0) (hu0 : u0 ≤ 8000) (h63 : S 237 63 = v0) (h82 : S 237 82 = s0) (hs0 : 0 ≤ s0 ∧ s0 ≤ v0 ∧ v0 ≤ 60000) (hpn : 0 < es.length → 1 ≤ (hmR ms m).2.2.2.2.1.length) (he8 : es.length ≤ 1000) (h73 : S 237 173 = r) (h76 : S 237 176 = (es.length : Int)) (hr : 0 ≤ r ∧ r + 1 + (es.length : Int) ≤ 4200) (hes : ∀ i : Nat, i < es.length → S 363 (r + 1 + (i : Int)) = (es.getD i (0, 0)).1 ∧ S 364 (r + 1 + (i : Int)) = (es.getD i (0, 0)).2) (hev : ∀ i : Nat, i < es.length → (0 ≤ (es.getD i (0, 0)).1 ∧ (es.getD i (0, 0)).1 ≤ 8) ∧ (-9223372036854775808 ≤ (es.getD i (0, 0)).2 ∧ (es.getD i (0, 0)).2 ≤ 9223372036854775807)) (hso : (hmR ms m).2.1 = 2) : wJ (pe_GA xs) wY0 M (d + 8) t_M_doesMember ((pe_at t_M_doesMember.bl 0).getD (0, [])).2 [(0, (2, 237)), (1, (0, m))] [] S (fun o Z => (100000 < tn + 2 ∧ o = .inr 238 ∧ hZ 99 S = Z) ∨ (tn + 2 ≤ 100000 ∧ ∃ B : wS, (∀ (j : Nat) (x : Int), ¬ flM j x → B j x = S j x) ∧ (((8000 < u0 + 1 ∨ 60000 < v0 + ((flA cs ms c).length : Int)) ∧ o = .inr 238 ∧ hZ 99 B = Z) ∨ (u0 + 1 ≤ 8000 ∧ v0 + ((flA cs ms c).length : Int) ≤ 60000 ∧ o = .inl none ∧ maR g s0 v0 u0 c tn m (es.length : Int) (flA cs ms c).length (ftO cs ms c) (fun i => prT (hmR ms m) i) es B Z)))) := by
  have h13 : S 237 13 = 241 := hK.1
  have h400 := hw.1
  have uuM := KR_m hK (m := m) (by omega) (by omega)
  have uuW := hw.2.2.2 m (by omega) (by omega)
  have uu1 : S 253 m = (hmR ms m).2.1 := uuM.1.2.1
  have uu2 : S 254 m = (hmR ms m).2.2.1 := uuM.1.2.2.1
  have uu3 : S 255 m = (hmR ms m).2.2.2.1 := uuM.1.2.2.2.1
  have uu4 : S 256 m = ((hmR ms m).2.2.2.2.1.length : Int) := uuM.2.1.1
  have uu5 : S 257 m = (hmR ms m).2.2.2.2.2.1 := uuM.2.1.2.1
  have uuf : S 259 m = (hmR ms m).2.2.2.2.2.2.1 := uuM.1.2.2.2.2.1
  have uut : S 260 m = (hmR ms m).2.2.2.2.2.2.2 := uuM.1.2.2.2.2.2
  have uuq := uuW.1.2.1
  have uus := uuW.1.2.2.1
  have uuy := uuW.1.2.2.2
  have uuv := uuW.2.1
  have uul := uuW.2.2.1
  have uuft := hK.2.2.2.2.2.2.1 m (by omega) (by omega)
  refine wa_aload_n (n := 0) rfl ?_
  refine wa_aload_n (n := 0) rfl ?_
  refine wb_gfi 237 rfl (wy_pr rfl) wt_237 wf_15_106 (v := tn) (h106) (fun r1 => ?_)
  refine wa_iconst ?_
  refine wa_iadd ?_
  refine wb_ki (n := 100000) rfl ?_
  refine wa_icmpgt (w_rg0 (by omega) (by omega)) (w_rg0 (by omega) (by omega)) ⟨_, rfl⟩ (fun c2 => ?_) (fun c2 => ?_)
  · skip
    refine wa_iconst ?_
    refine wa_fall ⟨_, rfl⟩ ?_
    refine wa_cv 237 rfl (wy_pr rfl) wt_237 (M2 := fun _ => False) rfl at_M_room ⟨_, rfl⟩ rfl rfl ⟨(Or.inr ⟨wy_pr rfl, fun q => q⟩), trivial, trivial⟩ trivial (fun _ _ q => False.elim q) ?_ (fun _ _ _ q => q)
    refine wa_iload_n (n := 1) rfl ?_
    refine wa_ifne (w_rg0 (by omega) (by omega)) ⟨_, rfl⟩ (fun c3 => ?_) (fun c3 => ?_)
    · skip
      exact absurd c3 (by omega)
    · skip
      refine wa_aload_n (n := 0) rfl ?_
      refine wb_gf4 237 rfl (wy_pr rfl) wt_237 wf_15_1 (v := 238) wl_237_1 ?_
      refine wa_bipush (w_rg2 (by omega) (by omega)) ?_
      refine wa_iconst ?_
      refine wa_cv 238 rfl (wy_pr rfl) wt_238 (M2 := fun _ => False) rfl at_MH_of ⟨_, rfl⟩ rfl rfl ⟨(Or.inr ⟨wy_pr rfl, fun q => q⟩), trivial, trivial⟩ trivial (fun _ _ q => False.elim q) ?_ (fun _ _ _ q => q)
      refine wa_aload_n (n := 0) rfl ?_
      refine wa_iload_n (n := 1) rfl ?_
      refine wb_pfi 238 rfl (wy_pr rfl) wt_238 wf_11_5 (n := 5) rfl ⟨(by omega), (by omega)⟩ ?_
      refine wa_aload_n (n := 0) rfl ?_
      refine wa_iload_n (n := 2) rfl ?_
      refine wb_pfi 238 rfl (wy_pr rfl) wt_238 wf_11_6 (n := 6) rfl ⟨(by omega), (by omega)⟩ ?_
      refine wa_aload_n (n := 0) rfl ?_
      refine wa_oreturn rfl ?_
      show wJ _ _ _ _ _ _ _ _ _ _
      refine wa_th (j := 238) ?_
      refine ⟨rfl, ?_⟩
      exact Or.inl ⟨by omega, rfl, rfl⟩
  · skip
    refine wa_iconst ?_
    refine wa_goto ⟨_, rfl⟩ ?_
    refine wa_cv 237 rfl (wy_pr rfl) wt_237 (M2 := fun _ => False) rfl at_M_room ⟨_, rfl⟩ rfl rfl ⟨(Or.inr ⟨wy_pr rfl, fun q => q⟩), trivial, trivial⟩ trivial (fun _ _ q => False.elim q) ?_ (fun _ _ _ q => q)
    refine wa_iload_n (n := 1) rfl ?_
    refine wa_ifne (w_rg0 (by omega) (by omega)) ⟨_, rfl⟩ (fun c4 => ?_) (fun c4 => ?_)
    · skip
      refine wa_return rfl ?_
      show wJ _ _ _ _ _ _ _ _ _ _
      refine wa_aload_n (n := 0) rfl ?_
      refine wb_gf5 237 rfl (wy_pr rfl) wt_237 wf_15_13 (v := 241) (h13) (fun r5 => ?_)
      refine wb_gf4 241 rfl (wy_pr rfl) wt_241 wf_12_13 (v := 253) wl_241_13 ?_
      refine wa_iload_n (n := 1) rfl ?_
      refine wb_iald 253 rfl (wy_pr rfl) wt_253 (n := 400) ((ml_253 hM)) (by omega) (by omega) (v := (hmR ms m).2.1) (uu1) (fun r6 => ?_)
      refine wa_iconst ?_
      refine wa_icmpne (w_rg0 (by omega) (by omega)) (w_rg0 (by omega) (by omega)) ⟨_, rfl⟩ (fun c7 => ?_) (fun c7 => ?_)
      · skip
        exfalso; omega
      · skip
        refine wa_aload_n (n := 0) rfl ?_
        refine wa_iload_n (n := 1) rfl ?_
        refine wa_cv 237 rfl (wy_pr rfl) wt_237 (M2 := fun _ => False) rfl at_M_makes ⟨_, rfl⟩ rfl rfl ⟨(Or.inr ⟨wy_pr rfl, fun q => q⟩), trivial, trivial⟩ trivial (fun _ _ q => False.elim q) (rmm_241 (c := c) hM hK hw hm hc hF h106 ⟨by omega, by omega⟩ h68 hg h62 hu0 h63 h82 hs0 hpn he8 h73 h76 hr hes hev) (fun oq8 Sq8 hp9 q8 => ?_)
        rcases q8 with ⟨B, hfb, ⟨hno, rfl, rfl⟩ | ⟨hy1, hy2, rfl, hma⟩⟩
        · skip
          refine ⟨rfl, ?_⟩
          exact Or.inr ⟨by omega, B, hfb, Or.inl ⟨hno, rfl, rfl⟩⟩
        · skip
          show wJ _ _ _ _ _ _ _ _ _ _
          refine wa_return rfl ?_
          exact Or.inr ⟨by omega, B, hfb, Or.inr ⟨hy1, hy2, rfl, hma⟩⟩
    · skip
      exact absurd c4 (by omega)
set_option maxHeartbeats 4000000 in
theorem rmm_261 (hM : w_ML S) (hK : KR 261 T n cs ms S) (hw : wHo cs ms os) (hm : 0 ≤ m ∧ m < (ms.length : Int)) (hc : (hmR ms m).1 = c) (hF : (flA cs ms c).length ≤ 400) (h106 : S 237 106 = tn) (ht : 0 ≤ tn ∧ tn + 2 ≤ 100000) (h68 : S 237 68 = g) (hg : 0 ≤ g ∧ g ≤ u0) (h62 : S 237 62 = u0) (hu0 : u0 ≤ 8000) (h63 : S 237 63 = v0) (h82 : S 237 82 = s0) (hs0 : 0 ≤ s0 ∧ s0 ≤ v0 ∧ v0 ≤ 60000) (hpn : 0 < es.length → 1 ≤ (hmR ms m).2.2.2.2.1.length) (he8 : es.length ≤ 1000) (h73 : S 237 173 = r) (h76 : S 237 176 = (es.length : Int)) (hr : 0 ≤ r ∧ r + 1 + (es.length : Int) ≤ 4200) (hes : ∀ i : Nat, i < es.length → S 363 (r + 1 + (i : Int)) = (es.getD i (0, 0)).1 ∧ S 364 (r + 1 + (i : Int)) = (es.getD i (0, 0)).2) (hev : ∀ i : Nat, i < es.length → (0 ≤ (es.getD i (0, 0)).1 ∧ (es.getD i (0, 0)).1 ≤ 8) ∧ (-9223372036854775808 ≤ (es.getD i (0, 0)).2 ∧ (es.getD i (0, 0)).2 ≤ 9223372036854775807)) : wJ (pe_GA xs) wY0 M (d + 7) t_M_makes ((pe_at t_M_makes.bl 0).getD (0, [])).2 [(0, (2, 237)), (1, (0, m))] [] S (fun o Z => ∃ B : wS, (∀ (j : Nat) (x : Int), ¬ flM j x → B j x = S j x) ∧ (((8000 < u0 + 1 ∨ 60000 < v0 + ((flA cs ms c).length : Int)) ∧ o = .inr 238 ∧ hZ 99 B = Z) ∨ (u0 + 1 ≤ 8000 ∧ v0 + ((flA cs ms c).length : Int) ≤ 60000 ∧ o = .inl none ∧ maR g s0 v0 u0 c tn m (es.length : Int) (flA cs ms c).length (ftO cs ms c) (fun i => prT (hmR ms m) i) es B Z))) := by
  have h13 : S 237 13 = 261 := hK.1
  have h400 := hw.1
  have uM := KR_m hK (m := m) (by omega) (by omega)
  have uW := hw.2.2.2 m (by omega) (by omega)
  have u0c : S 272 m = c := uM.1.1.trans hc
  have hcv := uW.1.1
  rw [hc] at hcv
  refine wa_aload_n (n := 0) rfl ?_
  refine wb_gf5 237 rfl (wy_pr rfl) wt_237 wf_15_13 (v := 261) (h13) (fun r1 => ?_)
  refine wb_gf4 261 rfl (wy_pr rfl) wt_261 wf_12_12 (v := 272) wl_261_12 ?_
  refine wa_iload_n (n := 1) rfl ?_
  refine wb_iald 272 rfl (wy_pr rfl) wt_272 (n := 400) ((ml_272 hM)) (by omega) (by omega) (v := c) (u0c) (fun r2 => ?_)
  refine wa_istore_n (n := 2) rfl ?_
  refine wa_aload_n (n := 0) rfl ?_
  refine wa_iload_n (n := 2) rfl ?_
  refine wa_cv 237 rfl (wy_pr rfl) wt_237 (M2 := fun _ => False) rfl at_M_listsFields ⟨_, rfl⟩ rfl rfl ⟨trivial, (Or.inr ⟨wy_pr rfl, fun q => q⟩), trivial, trivial⟩ trivial (fun _ _ q => False.elim q) (rlf_261 (c := c) hM hK hw hcv hF) (fun oq3 Sq3 hp4 q3 => ?_)
  rcases q3 with ⟨rfl, hFI, hfb⟩
  show wJ _ _ _ _ _ _ _ _ _ _
  have hMB := ML_w hM hfb (fun j z => by unfold flM at z; omega)
  refine wa_aload_n (n := 0) rfl ?_
  refine wb_gfi 237 rfl (wy_pr rfl) wt_237 wf_15_130 (v := ((flA cs ms c).length : Int)) (hFI.1) (fun r5 => ?_)
  refine wa_istore_n (n := 3) rfl ?_
  refine wa_aload_n (n := 0) rfl ?_
  refine wa_aload_n (n := 0) rfl ?_
  refine wa_iconst ?_
  refine wa_cv 237 rfl (wy_pr rfl) wt_237 (M2 := fun _ => False) rfl at_M_hasRoomFor ⟨_, rfl⟩ rfl rfl ⟨trivial, trivial, (Or.inr ⟨wy_pr rfl, fun q => q⟩), trivial, trivial⟩ ⟨(Or.inr ⟨wy_pr rfl, fun q => q⟩), trivial⟩ (fun _ _ q => False.elim q) ?_ (fun _ _ _ q => q)
  refine wa_aload_n (n := 0) rfl ?_
  refine wb_gfi 237 rfl (wy_pr rfl) wt_237 wf_15_62 (v := u0) (((hfb 237 62 (by unfold flM; omega)).trans (h62))) (fun r6 => ?_)
  refine wa_iload_n (n := 1) rfl ?_
  refine wa_iadd ?_
  refine wa_sipush (by omega) ?_
  refine wa_icmpgt (w_rg0 (by omega) (by omega)) (w_rg0 (by omega) (by omega)) ⟨_, rfl⟩ (fun c7 => ?_) (fun c7 => ?_)
  · skip
    refine wa_iconst ?_
    refine wa_fall ⟨_, rfl⟩ ?_
    refine wa_zreturn rfl (Or.inl rfl) ?_
    show wJ _ _ _ _ _ _ _ _ _ _
    refine wa_ifeq (w_rg0 (by omega) (by omega)) ⟨_, rfl⟩ (fun c8 => ?_) (fun c8 => ?_)
    · skip
      refine wa_iconst ?_
      refine wa_fall ⟨_, rfl⟩ ?_
      refine wa_cv 237 rfl (wy_pr rfl) wt_237 (M2 := fun _ => False) rfl at_M_room ⟨_, rfl⟩ rfl rfl ⟨trivial, trivial, (Or.inr ⟨wy_pr rfl, fun q => q⟩), trivial, trivial⟩ trivial (fun _ _ q => False.elim q) ?_ (fun _ _ _ q => q)
      refine wa_iload_n (n := 1) rfl ?_
      refine wa_ifne (w_rg0 (by omega) (by omega)) ⟨_, rfl⟩ (fun c9 => ?_) (fun c9 => ?_)
      · skip
        exact absurd c9 (by omega)
      · skip
        refine wa_aload_n (n := 0) rfl ?_
        refine wb_gf4 237 rfl (wy_pr rfl) wt_237 wf_15_1 (v := 238) wl_237_1 ?_
        refine wa_bipush (w_rg2 (by omega) (by omega)) ?_
        refine wa_iconst ?_
        refine wa_cv 238 rfl (wy_pr rfl) wt_238 (M2 := fun _ => False) rfl at_MH_of ⟨_, rfl⟩ rfl rfl ⟨(Or.inr ⟨wy_pr rfl, fun q => q⟩), trivial, trivial⟩ trivial (fun _ _ q => False.elim q) ?_ (fun _ _ _ q => q)
        refine wa_aload_n (n := 0) rfl ?_
        refine wa_iload_n (n := 1) rfl ?_
        refine wb_pfi 238 rfl (wy_pr rfl) wt_238 wf_11_5 (n := 5) rfl ⟨(by omega), (by omega)⟩ ?_
        refine wa_aload_n (n := 0) rfl ?_
        refine wa_iload_n (n := 2) rfl ?_
        refine wb_pfi 238 rfl (wy_pr rfl) wt_238 wf_11_6 (n := 6) rfl ⟨(by omega), (by omega)⟩ ?_
        refine wa_aload_n (n := 0) rfl ?_
        refine wa_oreturn rfl ?_
        show wJ _ _ _ _ _ _ _ _ _ _
        refine wa_th (j := 238) ?_
        refine ⟨rfl, ?_⟩
        exact ⟨_, hfb, Or.inl ⟨by omega, rfl, rfl⟩⟩
    · skip
      exact absurd c8 (by omega)
  · skip
    refine wa_iconst ?_
    refine wa_goto ⟨_, rfl⟩ ?_
    refine wa_zreturn rfl (Or.inr rfl) ?_
    show wJ _ _ _ _ _ _ _ _ _ _
    refine wa_ifeq (w_rg0 (by omega) (by omega)) ⟨_, rfl⟩ (fun c10 => ?_) (fun c10 => ?_)
    · skip
      exact absurd c10 (by omega)
    · skip
      refine wa_aload_n (n := 0) rfl ?_
      refine wb_gfi 237 rfl (wy_pr rfl) wt_237 wf_15_63 (v := v0) (((hfb 237 63 (by unfold flM; omega)).trans (h63))) (fun r11 => ?_)
      refine wa_iload_n (n := 3) rfl ?_
      refine wa_iadd ?_
      refine wb_ki (n := 60000) rfl ?_
      refine wa_icmpgt (w_rg0 (by omega) (by omega)) (w_rg0 (by omega) (by omega)) ⟨_, rfl⟩ (fun c12 => ?_) (fun c12 => ?_)
      · skip
        refine wa_iconst ?_
        refine wa_fall ⟨_, rfl⟩ ?_
        refine wa_cv 237 rfl (wy_pr rfl) wt_237 (M2 := fun _ => False) rfl at_M_room ⟨_, rfl⟩ rfl rfl ⟨trivial, trivial, (Or.inr ⟨wy_pr rfl, fun q => q⟩), trivial, trivial⟩ trivial (fun _ _ q => False.elim q) ?_ (fun _ _ _ q => q)
        refine wa_iload_n (n := 1) rfl ?_
        refine wa_ifne (w_rg0 (by omega) (by omega)) ⟨_, rfl⟩ (fun c13 => ?_) (fun c13 => ?_)
        · skip
          exact absurd c13 (by omega)
        · skip
          refine wa_aload_n (n := 0) rfl ?_
          refine wb_gf4 237 rfl (wy_pr rfl) wt_237 wf_15_1 (v := 238) wl_237_1 ?_
          refine wa_bipush (w_rg2 (by omega) (by omega)) ?_
          refine wa_iconst ?_
          refine wa_cv 238 rfl (wy_pr rfl) wt_238 (M2 := fun _ => False) rfl at_MH_of ⟨_, rfl⟩ rfl rfl ⟨(Or.inr ⟨wy_pr rfl, fun q => q⟩), trivial, trivial⟩ trivial (fun _ _ q => False.elim q) ?_ (fun _ _ _ q => q)
          refine wa_aload_n (n := 0) rfl ?_
          refine wa_iload_n (n := 1) rfl ?_
          refine wb_pfi 238 rfl (wy_pr rfl) wt_238 wf_11_5 (n := 5) rfl ⟨(by omega), (by omega)⟩ ?_
          refine wa_aload_n (n := 0) rfl ?_
          refine wa_iload_n (n := 2) rfl ?_
          refine wb_pfi 238 rfl (wy_pr rfl) wt_238 wf_11_6 (n := 6) rfl ⟨(by omega), (by omega)⟩ ?_
          refine wa_aload_n (n := 0) rfl ?_
          refine wa_oreturn rfl ?_
          show wJ _ _ _ _ _ _ _ _ _ _
          refine wa_th (j := 238) ?_
          refine ⟨rfl, ?_⟩
          exact ⟨_, hfb, Or.inl ⟨by omega, rfl, rfl⟩⟩
      · skip
        refine wa_iconst ?_
        refine wa_goto ⟨_, rfl⟩ ?_
        refine wa_cv 237 rfl (wy_pr rfl) wt_237 (M2 := fun _ => False) rfl at_M_room ⟨_, rfl⟩ rfl rfl ⟨trivial, trivial, (Or.inr ⟨wy_pr rfl, fun q => q⟩), trivial, trivial⟩ trivial (fun _ _ q => False.elim q) ?_ (fun _ _ _ q => q)
        refine wa_iload_n (n := 1) rfl ?_
        refine wa_ifne (w_rg0 (by omega) (by omega)) ⟨_, rfl⟩ (fun c14 => ?_) (fun c14 => ?_)
        · skip
          refine wa_return rfl ?_
          show wJ _ _ _ _ _ _ _ _ _ _
          refine wa_aload_n (n := 0) rfl ?_
          refine wa_iload_n (n := 1) rfl ?_
          refine wa_cv 237 rfl (wy_pr rfl) wt_237 (M2 := fun _ => False) rfl at_M_traces ⟨_, rfl⟩ rfl rfl ⟨trivial, trivial, (Or.inr ⟨wy_pr rfl, fun q => q⟩), trivial, trivial⟩ trivial (fun _ _ q => False.elim q) (rtc (S := Sq3) (m := m) (tn := tn) (en := (es.length : Int)) hMB (((hfb 237 106 (by unfold flM; omega)).trans (h106))) (((hfb 237 176 (by unfold flM; omega)).trans (h76))) ⟨by omega, by omega⟩ ⟨by omega, by omega⟩ ⟨by omega, by omega⟩) (fun oq15 Sq15 hp16 q15 => ?_)
          rcases q15 with ⟨rfl, rfl⟩
          show wJ _ _ _ _ _ _ _ _ _ _
          refine wa_aload_n (n := 0) rfl ?_
          refine wa_bipush (w_rg2 (by omega) (by omega)) ?_
          refine wa_cv 237 rfl (wy_pr rfl) wt_237 (M2 := fun _ => False) rfl at_M_newThing ⟨_, rfl⟩ rfl rfl ⟨trivial, trivial, (Or.inr ⟨wy_pr rfl, fun q => q⟩), trivial, trivial⟩ trivial (fun _ _ q => False.elim q) ?_ (fun _ _ _ q => q)
          refine wa_aload_n (n := 0) rfl ?_
          refine wb_gfi 237 rfl (wy_pr rfl) wt_237 wf_15_68 (v := g) ((w_up_at (by decide)).trans ((w_up_slot (by decide)).trans ((w_up_slot (by decide)).trans (((hfb 237 68 (by unfold flM; omega)).trans (h68)))))) (fun r17 => ?_)
          refine wa_istore_n (n := 2) rfl ?_
          refine wa_aload_n (n := 0) rfl ?_
          refine wb_gf4 237 rfl (wy_pr rfl) wt_237 wf_15_70 (v := 314) wl_237_70 ?_
          refine wa_iload_n (n := 2) rfl ?_
          refine wa_iload_n (n := 1) rfl ?_
          refine wb_iast 314 rfl (wy_pr rfl) wt_314 (n := 8000) ((w_up_slot (by decide)).trans ((w_up_slot (by decide)).trans ((w_up_slot (by decide)).trans (((hfb 314 (-1) (by unfold flM; omega)).trans ((ml_314 hM))))))) (by omega) (by omega) ⟨(by omega), (by omega)⟩ ?_
          refine wa_aload_n (n := 0) rfl ?_
          refine wb_gf4 237 rfl (wy_pr rfl) wt_237 wf_15_71 (v := 315) wl_237_71 ?_
          refine wa_iload_n (n := 2) rfl ?_
          refine wa_iconst ?_
          refine wb_iast 315 rfl (wy_pr rfl) wt_315 (n := 8000) ((w_up_slot (by decide)).trans ((w_up_slot (by decide)).trans ((w_up_slot (by decide)).trans ((w_up_slot (by decide)).trans (((hfb 315 (-1) (by unfold flM; omega)).trans ((ml_315 hM)))))))) (by omega) (by omega) ⟨(by omega), (by omega)⟩ ?_
          refine wa_aload_n (n := 0) rfl ?_
          refine wb_gf4 237 rfl (wy_pr rfl) wt_237 wf_15_72 (v := 316) wl_237_72 ?_
          refine wa_iload_n (n := 2) rfl ?_
          refine wa_iconst ?_
          refine wb_iast 316 rfl (wy_pr rfl) wt_316 (n := 8000) ((w_up_slot (by decide)).trans ((w_up_slot (by decide)).trans ((w_up_slot (by decide)).trans ((w_up_slot (by decide)).trans ((w_up_slot (by decide)).trans (((hfb 316 (-1) (by unfold flM; omega)).trans ((ml_316 hM))))))))) (by omega) (by omega) ⟨(by omega), (by omega)⟩ ?_
          refine wa_aload_n (n := 0) rfl ?_
          refine wb_gf4 237 rfl (wy_pr rfl) wt_237 wf_15_73 (v := 317) wl_237_73 ?_
          refine wa_iload_n (n := 2) rfl ?_
          refine wa_iconst ?_
          refine wb_iast 317 rfl (wy_pr rfl) wt_317 (n := 8000) ((w_up_slot (by decide)).trans ((w_up_slot (by decide)).trans ((w_up_slot (by decide)).trans ((w_up_slot (by decide)).trans ((w_up_slot (by decide)).trans ((w_up_slot (by decide)).trans (((hfb 317 (-1) (by unfold flM; omega)).trans ((ml_317 hM)))))))))) (by omega) (by omega) ⟨(by omega), (by omega)⟩ ?_
          refine wa_aload_n (n := 0) rfl ?_
          refine wb_gf4 237 rfl (wy_pr rfl) wt_237 wf_15_75 (v := 319) wl_237_75 ?_
          refine wa_iload_n (n := 2) rfl ?_
          refine wa_iconst ?_
          refine wb_iast 319 rfl (wy_pr rfl) wt_319 (n := 8000) ((w_up_slot (by decide)).trans ((w_up_slot (by decide)).trans ((w_up_slot (by decide)).trans ((w_up_slot (by decide)).trans ((w_up_slot (by decide)).trans ((w_up_slot (by decide)).trans ((w_up_slot (by decide)).trans (((hfb 319 (-1) (by unfold flM; omega)).trans ((ml_319 hM))))))))))) (by omega) (by omega) ⟨(by omega), (by omega)⟩ ?_
          refine wa_aload_n (n := 0) rfl ?_
          refine wb_gf4 237 rfl (wy_pr rfl) wt_237 wf_15_76 (v := 320) wl_237_76 ?_
          refine wa_iload_n (n := 2) rfl ?_
          refine wa_iconst ?_
          refine wb_iast 320 rfl (wy_pr rfl) wt_320 (n := 8000) ((w_up_slot (by decide)).trans ((w_up_slot (by decide)).trans ((w_up_slot (by decide)).trans ((w_up_slot (by decide)).trans ((w_up_slot (by decide)).trans ((w_up_slot (by decide)).trans ((w_up_slot (by decide)).trans ((w_up_slot (by decide)).trans (((hfb 320 (-1) (by unfold flM; omega)).trans ((ml_320 hM)))))))))))) (by omega) (by omega) ⟨(by omega), (by omega)⟩ ?_
          refine wa_aload_n (n := 0) rfl ?_
          refine wb_gf4 237 rfl (wy_pr rfl) wt_237 wf_15_77 (v := 321) wl_237_77 ?_
          refine wa_iload_n (n := 2) rfl ?_
          refine wa_iconst ?_
          refine wb_iast 321 rfl (wy_pr rfl) wt_321 (n := 8000) ((w_up_slot (by decide)).trans ((w_up_slot (by decide)).trans ((w_up_slot (by decide)).trans ((w_up_slot (by decide)).trans ((w_up_slot (by decide)).trans ((w_up_slot (by decide)).trans ((w_up_slot (by decide)).trans ((w_up_slot (by decide)).trans ((w_up_slot (by decide)).trans (((hfb 321 (-1) (by unfold flM; omega)).trans ((ml_321 hM))))))))))))) (by omega) (by omega) ⟨(by omega), (by omega)⟩ ?_
          refine wa_aload_n (n := 0) rfl ?_
          refine wb_gf4 237 rfl (wy_pr rfl) wt_237 wf_15_78 (v := 322) wl_237_78 ?_
          refine wa_iload_n (n := 2) rfl ?_
          refine wa_iconst ?_
          refine wb_zast 322 rfl (wy_pr rfl) wt_322 (n := 8000) ((w_up_slot (by decide)).trans ((w_up_slot (by decide)).trans ((w_up_slot (by decide)).trans ((w_up_slot (by decide)).trans ((w_up_slot (by decide)).trans ((w_up_slot (by decide)).trans ((w_up_slot (by decide)).trans ((w_up_slot (by decide)).trans ((w_up_slot (by decide)).trans ((w_up_slot (by decide)).trans (((hfb 322 (-1) (by unfold flM; omega)).trans ((ml_322 hM)))))))))))))) (by omega) (by omega) ⟨(by omega), (by omega)⟩ ?_
          refine wa_aload_n (n := 0) rfl ?_
          refine wb_gf4 237 rfl (wy_pr rfl) wt_237 wf_15_79 (v := 323) wl_237_79 ?_
          refine wa_iload_n (n := 2) rfl ?_
          refine wa_iconst ?_
          refine wb_iast 323 rfl (wy_pr rfl) wt_323 (n := 8000) ((w_up_slot (by decide)).trans ((w_up_slot (by decide)).trans ((w_up_slot (by decide)).trans ((w_up_slot (by decide)).trans ((w_up_slot (by decide)).trans ((w_up_slot (by decide)).trans ((w_up_slot (by decide)).trans ((w_up_slot (by decide)).trans ((w_up_slot (by decide)).trans ((w_up_slot (by decide)).trans ((w_up_slot (by decide)).trans (((hfb 323 (-1) (by unfold flM; omega)).trans ((ml_323 hM))))))))))))))) (by omega) (by omega) ⟨(by omega), (by omega)⟩ ?_
          refine wa_aload_n (n := 0) rfl ?_
          refine wb_gf4 237 rfl (wy_pr rfl) wt_237 wf_15_80 (v := 324) wl_237_80 ?_
          refine wa_iload_n (n := 2) rfl ?_
          refine wa_iconst ?_
          refine wb_iast 324 rfl (wy_pr rfl) wt_324 (n := 8000) ((w_up_slot (by decide)).trans ((w_up_slot (by decide)).trans ((w_up_slot (by decide)).trans ((w_up_slot (by decide)).trans ((w_up_slot (by decide)).trans ((w_up_slot (by decide)).trans ((w_up_slot (by decide)).trans ((w_up_slot (by decide)).trans ((w_up_slot (by decide)).trans ((w_up_slot (by decide)).trans ((w_up_slot (by decide)).trans ((w_up_slot (by decide)).trans (((hfb 324 (-1) (by unfold flM; omega)).trans ((ml_324 hM)))))))))))))))) (by omega) (by omega) ⟨(by omega), (by omega)⟩ ?_
          refine wa_aload_n (n := 0) rfl ?_
          refine wa_dup (by decide) ?_
          refine wb_gfi 237 rfl (wy_pr rfl) wt_237 wf_15_68 (v := g) ((w_up_slot (by decide)).trans ((w_up_slot (by decide)).trans ((w_up_slot (by decide)).trans ((w_up_slot (by decide)).trans ((w_up_slot (by decide)).trans ((w_up_slot (by decide)).trans ((w_up_slot (by decide)).trans ((w_up_slot (by decide)).trans ((w_up_slot (by decide)).trans ((w_up_slot (by decide)).trans ((w_up_at (by decide)).trans ((w_up_slot (by decide)).trans ((w_up_slot (by decide)).trans (((hfb 237 68 (by unfold flM; omega)).trans (h68)))))))))))))))) (fun r18 => ?_)
          refine wa_iconst ?_
          refine wa_iadd ?_
          refine wb_pfi 237 rfl (wy_pr rfl) wt_237 wf_15_68 (n := 68) rfl ⟨(by omega), (by omega)⟩ ?_
          refine wa_aload_n (n := 0) rfl ?_
          refine wa_dup (by decide) ?_
          refine wb_gfi 237 rfl (wy_pr rfl) wt_237 wf_15_62 (v := u0) ((w_up_at (by decide)).trans ((w_up_slot (by decide)).trans ((w_up_slot (by decide)).trans ((w_up_slot (by decide)).trans ((w_up_slot (by decide)).trans ((w_up_slot (by decide)).trans ((w_up_slot (by decide)).trans ((w_up_slot (by decide)).trans ((w_up_slot (by decide)).trans ((w_up_slot (by decide)).trans ((w_up_slot (by decide)).trans ((w_up_at (by decide)).trans ((w_up_slot (by decide)).trans ((w_up_slot (by decide)).trans (((hfb 237 62 (by unfold flM; omega)).trans (h62))))))))))))))))) (fun r19 => ?_)
          refine wa_iconst ?_
          refine wa_iadd ?_
          refine wb_pfi 237 rfl (wy_pr rfl) wt_237 wf_15_62 (n := 62) rfl ⟨(by omega), (by omega)⟩ ?_
          refine wa_iload_n (n := 2) rfl ?_
          refine wa_ireturn rfl ?_
          show wJ _ _ _ _ _ _ _ _ _ _
          refine wa_istore (n := 4) rfl ?_
          refine wa_aload_n (n := 0) rfl ?_
          refine wb_gf4 237 rfl (wy_pr rfl) wt_237 wf_15_77 (v := 321) wl_237_77 ?_
          refine wa_iload (n := 4) rfl ?_
          refine wa_iload_n (n := 2) rfl ?_
          refine wb_iast 321 rfl (wy_pr rfl) wt_321 (n := 8000) ((w_up_slot (by decide)).trans ((w_up_slot (by decide)).trans ((w_up_slot (by decide)).trans ((w_up_slot (by decide)).trans ((w_up_slot (by decide)).trans ((w_up_at (by omega)).trans ((w_up_slot (by decide)).trans ((w_up_slot (by decide)).trans ((w_up_slot (by decide)).trans ((w_up_slot (by decide)).trans ((w_up_slot (by decide)).trans ((w_up_slot (by decide)).trans ((w_up_slot (by decide)).trans ((w_up_slot (by decide)).trans ((w_up_slot (by decide)).trans (((hfb 321 (-1) (by unfold flM; omega)).trans ((ml_321 hM))))))))))))))))))) (by omega) (by omega) ⟨(by omega), (by omega)⟩ ?_
          refine wa_iconst ?_
          refine wa_istore (n := 5) rfl ?_
          refine wa_fall ⟨_, rfl⟩ ?_
          obtain ⟨X, hXe⟩ : ∃ X : wS, X = (w_up (ntZ 7 g u0 (w_up (w_up (w_up Sq3 343 tn m) 343 (tn + 1) (es.length : Int)) 237 106 (tn + 2))) 321 g c) := ⟨_, rfl⟩
          rw [show (w_up (w_up (w_up (w_up (w_up (w_up (w_up (w_up (w_up (w_up (w_up (w_up (w_up (w_up (w_up (w_up Sq3 343 tn m) 343 (tn + 1) (es.length : Int)) 237 106 (tn + 2)) 314 g 7) 315 g (-1)) 316 g (-1)) 317 g 0) 319 g (-1)) 320 g (-1)) 321 g (-1)) 322 g 0) 323 g 0) 324 g 0) 237 68 (g + 1)) 237 62 (u0 + 1)) 321 g c) = X from hXe.symm]
          have hfx : ∀ (j : Nat) (x : Int), ¬ mkM g tn j x → X j x = Sq3 j x := fun j x hj => by rw [hXe]; exact mk_fr j x hj
          have hfs : ∀ (j : Nat) (x : Int), ¬ mkM g tn j x → ¬ flM j x → X j x = S j x := fun j x hj hk => (hfx j x hj).trans (hfb j x hk)
          have hMX : w_ML X := ML_w hMB hfx (fun j z => by unfold mkM trM at z; omega)
          have hKX : KR 261 T n cs ms X := KR_ag hK (fun j x hj => hfs j x (by unfold mkM trM; omega) (by unfold flM; omega))
          have hFX : flI (flA cs ms c) X := ⟨(hfx 237 130 (by unfold mkM trM; omega)).trans hFI.1, fun q hq => (hfx 356 _ (by unfold mkM trM; omega)).trans (hFI.2.1 q hq), hFI.2.2⟩
          have hv0 : mvR g s0 v0 (ftO cs ms c) 0 X X := by rw [hXe]; exact mv_ty (mk_82 ((w_up_at (by first | decide | omega)).trans ((w_up_slot (by first | decide | omega)).trans ((w_up_slot (by first | decide | omega)).trans ((hfb 237 82 (by unfold flM; omega)).trans h82)))) ((w_up_at (by first | decide | omega)).trans ((w_up_slot (by first | decide | omega)).trans ((w_up_slot (by first | decide | omega)).trans ((hfb 237 63 (by unfold flM; omega)).trans h63)))))
          refine wJ_S (rma_261 (m := m) (F := (flA cs ms c)) (ty := ftO cs ms c) (nf := (flA cs ms c).length) (g := g) (s0 := s0) (v0 := v0) (c := c) hMX hKX hw hFX rfl hF (flA_rg hw hcv) (fun _ _ => rfl) ⟨by omega, by omega⟩ ⟨by omega, by omega, by omega⟩ (fun D hmv haf => ?_) (flA cs ms c).length 0 X (by omega) hv0 rfl) ⟨rfl, rfl, rfl, rfl, rfl, rfl, trivial⟩
          have hMD : w_ML D := mvR_ML hMX hmv hg.1 hs0.1
          have hfd : ∀ (j : Nat) (x : Int), ¬ mvM g s0 (flA cs ms c).length j x → D j x = X j x := hmv.2.2
          refine wa_aload_n (n := 0) rfl ?_
          refine wb_gf4 237 rfl (wy_pr rfl) wt_237 wf_15_178 (v := 386) wl_237_178 ?_
          refine wa_astore (n := 5) rfl ?_
          refine wa_iconst ?_
          refine wa_istore (n := 6) rfl ?_
          refine wa_fall ⟨_, rfl⟩ ?_
          refine wJ_S (rmu (A := D) (nf := (flA cs ms c).length) (m := m) (c := c) (g := g) hMD hF (fun D2 hz hfz => ?_) (flA cs ms c).length 0 D (by omega) (fun q hq => absurd hq (Nat.not_lt_zero _)) (fun _ _ _ => rfl)) ⟨rfl, rfl, rfl, rfl, rfl, rfl, rfl, trivial⟩
          have hMD2 : w_ML D2 := ML_w (P := fun j x => j = 386 ∧ 0 ≤ x) hMD hfz (fun j z => by omega)
          have hmu0 : muR s0 (flA cs ms c).length (ftO cs ms c) (fun _ => (-1, 0)) D D2 := ⟨fun i hi => ⟨hz i hi, (hfz 325 _ (by omega)).trans (hmv.2.1 i hi).1, (hfz 326 _ (by omega)).trans (hmv.2.1 i hi).2.1⟩, fun j x hj => hfz j x (fun z => hj (Or.inl z))⟩
          have hfD : ∀ (j : Nat) (x : Int), ¬ mvM g s0 (flA cs ms c).length j x → ¬ mkM g tn j x → ¬ flM j x → D j x = S j x := fun j x h1 h2 h3 => (hfd j x h1).trans (hfs j x h2 h3)
          have hKD : KR 261 T n cs ms D := KR_ag hK (fun j x hj => hfD j x (by unfold mvM; omega) (by unfold mkM trM; omega) (by unfold flM; omega))
          have hFD : flI (flA cs ms c) D := ⟨(hfd 237 130 (by unfold mvM; omega)).trans hFX.1, fun q hq => (hfd 356 _ (by unfold mvM; omega)).trans (hFX.2.1 q hq), hFX.2.2⟩
          have hslD : slC D g (ivl s0 (flA cs ms c).length) := ⟨hmv.1.2.2.1.trans (by rw [ivl_len]), fun z => by rw [ivl_len] at z; rw [ivl_get _ _ 0 z, (hmv.1.2.2.2 z).1]; omega, fun i hi => by rw [ivl_len] at hi ⊢; rw [ivl_get _ _ i hi]; exact ⟨⟨by omega, by omega⟩, fun z => by rw [ivl_get _ _ (i + 1) z, (hmv.2.1 i hi).2.2 z]; omega⟩⟩
          refine wa_iconst ?_
          refine wa_istore (n := 6) rfl ?_
          refine wa_fall ⟨_, rfl⟩ ?_
          refine wJ_S (rmg_261 (A := D) (F := (flA cs ms c)) (ty := ftO cs ms c) (nf := (flA cs ms c).length) (m := m) (c := c) (g := g) (s0 := s0) (r := r) (es := es) hMD hKD hw hFD rfl hF (flA_rg hw hcv) (fun _ _ => rfl) hm hpn he8 ((hfD 237 173 (by unfold mvM; omega) (by unfold mkM trM; omega) (by unfold flM; omega)).trans h73) ((hfD 237 176 (by unfold mvM; omega) (by unfold mkM trM; omega) (by unfold flM; omega)).trans h76) hr (fun i hi => ⟨(hfD 363 _ (by unfold mvM; omega) (by unfold mkM trM; omega) (by unfold flM; omega)).trans (hes i hi).1, (hfD 364 _ (by unfold mvM; omega) (by unfold mkM trM; omega) (by unfold flM; omega)).trans (hes i hi).2⟩) hev hslD ⟨by omega, by omega⟩ ⟨by omega, by omega⟩ (fun E hmu => ?_) es.length 0 (fun _ => (-1, 0)) D2 (by omega) hmu0 rfl) ⟨rfl, rfl, rfl, rfl, rfl, rfl, rfl, trivial⟩
          have hME : w_ML E := ML_w hMD hmu.2 (fun j z => by unfold muM at z; omega)
          refine wa_aload_n (n := 0) rfl ?_
          refine wa_bipush (w_rg2 (by omega) (by omega)) ?_
          refine wa_iload (n := 4) rfl ?_
          refine wa_i2l (w_rg0 (by omega) (by omega)) ?_
          refine wa_cv 237 rfl (wy_pr rfl) wt_237 (M2 := fun _ => False) rfl at_M_is ⟨_, rfl⟩ rfl rfl ⟨(Or.inr ⟨wy_pr rfl, fun q => q⟩), trivial, trivial, trivial, trivial, (Or.inr ⟨wy_pr rfl, fun q => q⟩), trivial⟩ trivial (fun _ _ q => False.elim q) ?_ (fun _ _ _ q => q)
          refine wa_aload_n (n := 0) rfl ?_
          refine wa_iload_n (n := 1) rfl ?_
          refine wb_pfi 237 rfl (wy_pr rfl) wt_237 wf_15_110 (n := 110) rfl ⟨(by omega), (by omega)⟩ ?_
          refine wa_aload_n (n := 0) rfl ?_
          refine wa_lload_n (n := 2) rfl ?_
          refine wb_pfl 237 rfl (wy_pr rfl) wt_237 wf_15_111 (n := 111) rfl ⟨(by omega), (by omega)⟩ ?_
          refine wa_return rfl ?_
          show wJ _ _ _ _ _ _ _ _ _ _
          refine wa_return rfl ?_
          exact ⟨_, hfb, Or.inr ⟨by omega, by omega, rfl, D, E, by rw [← hXe]; exact hmv, by rw [← hXe]; exact haf, hmu, isQ_u (fun _ _ _ => rfl)⟩⟩
        · skip
          exact absurd c14 (by omega)
theorem rdk_261 (hM : w_ML S) (hK : KR 261 T n cs ms S) (hw : wHo cs ms os) (hm : 0 ≤ m ∧ m < (ms.length : Int)) (hc : (hmR ms m).1 = c) (hF : (flA cs ms c).length ≤ 400) (h106 : S 237 106 = tn) (ht : 0 ≤ tn ∧ tn ≤ 100000) (h68 : S 237 68 = g) (hg : 0 ≤ g ∧ g ≤ u0) (h62 : S 237 62 = u0) (hu0 : u0 ≤ 8000) (h63 : S 237 63 = v0) (h82 : S 237 82 = s0) (hs0 : 0 ≤ s0 ∧ s0 ≤ v0 ∧ v0 ≤ 60000) (hpn : 0 < es.length → 1 ≤ (hmR ms m).2.2.2.2.1.length) (he8 : es.length ≤ 1000) (h73 : S 237 173 = r) (h76 : S 237 176 = (es.length : Int)) (hr : 0 ≤ r ∧ r + 1 + (es.length : Int) ≤ 4200) (hes : ∀ i : Nat, i < es.length → S 363 (r + 1 + (i : Int)) = (es.getD i (0, 0)).1 ∧ S 364 (r + 1 + (i : Int)) = (es.getD i (0, 0)).2) (hev : ∀ i : Nat, i < es.length → (0 ≤ (es.getD i (0, 0)).1 ∧ (es.getD i (0, 0)).1 ≤ 8) ∧ (-9223372036854775808 ≤ (es.getD i (0, 0)).2 ∧ (es.getD i (0, 0)).2 ≤ 9223372036854775807)) (hso : (hmR ms m).2.1 = 2) : wJ (pe_GA xs) wY0 M (d + 8) t_M_doesMember ((pe_at t_M_doesMember.bl 0).getD (0, [])).2 [(0, (2, 237)), (1, (0, m))] [] S (fun o Z => (100000 < tn + 2 ∧ o = .inr 238 ∧ hZ 99 S = Z) ∨ (tn + 2 ≤ 100000 ∧ ∃ B : wS, (∀ (j : Nat) (x : Int), ¬ flM j x → B j x = S j x) ∧ (((8000 < u0 + 1 ∨ 60000 < v0 + ((flA cs ms c).length : Int)) ∧ o = .inr 238 ∧ hZ 99 B = Z) ∨ (u0 + 1 ≤ 8000 ∧ v0 + ((flA cs ms c).length : Int) ≤ 60000 ∧ o = .inl none ∧ maR g s0 v0 u0 c tn m (es.length : Int) (flA cs ms c).length (ftO cs ms c) (fun i => prT (hmR ms m) i) es B Z)))) := by
  have h13 : S 237 13 = 261 := hK.1
  have h400 := hw.1
  have uuM := KR_m hK (m := m) (by omega) (by omega)
  have uuW := hw.2.2.2 m (by omega) (by omega)
  have uu1 : S 273 m = (hmR ms m).2.1 := uuM.1.2.1
  have uu2 : S 274 m = (hmR ms m).2.2.1 := uuM.1.2.2.1
  have uu3 : S 275 m = (hmR ms m).2.2.2.1 := uuM.1.2.2.2.1
  have uu4 : S 276 m = ((hmR ms m).2.2.2.2.1.length : Int) := uuM.2.1.1
  have uu5 : S 277 m = (hmR ms m).2.2.2.2.2.1 := uuM.2.1.2.1
  have uuf : S 279 m = (hmR ms m).2.2.2.2.2.2.1 := uuM.1.2.2.2.2.1
  have uut : S 280 m = (hmR ms m).2.2.2.2.2.2.2 := uuM.1.2.2.2.2.2
  have uuq := uuW.1.2.1
  have uus := uuW.1.2.2.1
  have uuy := uuW.1.2.2.2
  have uuv := uuW.2.1
  have uul := uuW.2.2.1
  have uuft := hK.2.2.2.2.2.2.1 m (by omega) (by omega)
  refine wa_aload_n (n := 0) rfl ?_
  refine wa_aload_n (n := 0) rfl ?_
  refine wb_gfi 237 rfl (wy_pr rfl) wt_237 wf_15_106 (v := tn) (h106) (fun r1 => ?_)
  refine wa_iconst ?_
  refine wa_iadd ?_
  refine wb_ki (n := 100000) rfl ?_
  refine wa_icmpgt (w_rg0 (by omega) (by omega)) (w_rg0 (by omega) (by omega)) ⟨_, rfl⟩ (fun c2 => ?_) (fun c2 => ?_)
  · skip
    refine wa_iconst ?_
    refine wa_fall ⟨_, rfl⟩ ?_
    refine wa_cv 237 rfl (wy_pr rfl) wt_237 (M2 := fun _ => False) rfl at_M_room ⟨_, rfl⟩ rfl rfl ⟨(Or.inr ⟨wy_pr rfl, fun q => q⟩), trivial, trivial⟩ trivial (fun _ _ q => False.elim q) ?_ (fun _ _ _ q => q)
    refine wa_iload_n (n := 1) rfl ?_
    refine wa_ifne (w_rg0 (by omega) (by omega)) ⟨_, rfl⟩ (fun c3 => ?_) (fun c3 => ?_)
    · skip
      exact absurd c3 (by omega)
    · skip
      refine wa_aload_n (n := 0) rfl ?_
      refine wb_gf4 237 rfl (wy_pr rfl) wt_237 wf_15_1 (v := 238) wl_237_1 ?_
      refine wa_bipush (w_rg2 (by omega) (by omega)) ?_
      refine wa_iconst ?_
      refine wa_cv 238 rfl (wy_pr rfl) wt_238 (M2 := fun _ => False) rfl at_MH_of ⟨_, rfl⟩ rfl rfl ⟨(Or.inr ⟨wy_pr rfl, fun q => q⟩), trivial, trivial⟩ trivial (fun _ _ q => False.elim q) ?_ (fun _ _ _ q => q)
      refine wa_aload_n (n := 0) rfl ?_
      refine wa_iload_n (n := 1) rfl ?_
      refine wb_pfi 238 rfl (wy_pr rfl) wt_238 wf_11_5 (n := 5) rfl ⟨(by omega), (by omega)⟩ ?_
      refine wa_aload_n (n := 0) rfl ?_
      refine wa_iload_n (n := 2) rfl ?_
      refine wb_pfi 238 rfl (wy_pr rfl) wt_238 wf_11_6 (n := 6) rfl ⟨(by omega), (by omega)⟩ ?_
      refine wa_aload_n (n := 0) rfl ?_
      refine wa_oreturn rfl ?_
      show wJ _ _ _ _ _ _ _ _ _ _
      refine wa_th (j := 238) ?_
      refine ⟨rfl, ?_⟩
      exact Or.inl ⟨by omega, rfl, rfl⟩
  · skip
    refine wa_iconst ?_
    refine wa_goto ⟨_, rfl⟩ ?_
    refine wa_cv 237 rfl (wy_pr rfl) wt_237 (M2 := fun _ => False) rfl at_M_room ⟨_, rfl⟩ rfl rfl ⟨(Or.inr ⟨wy_pr rfl, fun q => q⟩), trivial, trivial⟩ trivial (fun _ _ q => False.elim q) ?_ (fun _ _ _ q => q)
    refine wa_iload_n (n := 1) rfl ?_
    refine wa_ifne (w_rg0 (by omega) (by omega)) ⟨_, rfl⟩ (fun c4 => ?_) (fun c4 => ?_)
    · skip
      refine wa_return rfl ?_
      show wJ _ _ _ _ _ _ _ _ _ _
      refine wa_aload_n (n := 0) rfl ?_
      refine wb_gf5 237 rfl (wy_pr rfl) wt_237 wf_15_13 (v := 261) (h13) (fun r5 => ?_)
      refine wb_gf4 261 rfl (wy_pr rfl) wt_261 wf_12_13 (v := 273) wl_261_13 ?_
      refine wa_iload_n (n := 1) rfl ?_
      refine wb_iald 273 rfl (wy_pr rfl) wt_273 (n := 400) ((ml_273 hM)) (by omega) (by omega) (v := (hmR ms m).2.1) (uu1) (fun r6 => ?_)
      refine wa_iconst ?_
      refine wa_icmpne (w_rg0 (by omega) (by omega)) (w_rg0 (by omega) (by omega)) ⟨_, rfl⟩ (fun c7 => ?_) (fun c7 => ?_)
      · skip
        exfalso; omega
      · skip
        refine wa_aload_n (n := 0) rfl ?_
        refine wa_iload_n (n := 1) rfl ?_
        refine wa_cv 237 rfl (wy_pr rfl) wt_237 (M2 := fun _ => False) rfl at_M_makes ⟨_, rfl⟩ rfl rfl ⟨(Or.inr ⟨wy_pr rfl, fun q => q⟩), trivial, trivial⟩ trivial (fun _ _ q => False.elim q) (rmm_261 (c := c) hM hK hw hm hc hF h106 ⟨by omega, by omega⟩ h68 hg h62 hu0 h63 h82 hs0 hpn he8 h73 h76 hr hes hev) (fun oq8 Sq8 hp9 q8 => ?_)
        rcases q8 with ⟨B, hfb, ⟨hno, rfl, rfl⟩ | ⟨hy1, hy2, rfl, hma⟩⟩
        · skip
          refine ⟨rfl, ?_⟩
          exact Or.inr ⟨by omega, B, hfb, Or.inl ⟨hno, rfl, rfl⟩⟩
        · skip
          show wJ _ _ _ _ _ _ _ _ _ _
          refine wa_return rfl ?_
          exact Or.inr ⟨by omega, B, hfb, Or.inr ⟨hy1, hy2, rfl, hma⟩⟩
    · skip
      exact absurd c4 (by omega)
end Wi3
