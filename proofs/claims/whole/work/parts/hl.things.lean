/-! PART hl: the class: isOf, answerThing, answer of things. -/
section Whl
variable {xs : List (Nat × List Int32)} {M : Nat → Prop} {d : Nat} {S Z A : wS} {T : Int → Int} {cs : List hCR} {ms : List hMR} {os : Int → List Int} {Q : wO → wS → Prop} {Th : List aO}
/-- a value is of a class, or of any -/
def isB (cs : List hCR) (S : wS) (k b ty : Int) : Bool := decide (ty = 8) || (decide (k = 7) && sbB cs (9 + S 129 b) ty)
theorem is_1 {k b ty : Int} (h : ty = 8) : bI (isB cs S k b ty) = 1 := bI_t (by unfold isB; rw [decide_eq_true h]; rfl)
theorem is_2 {k b ty : Int} (h : k = 7) (h2 : bI (sbB cs (9 + S 129 b) ty) ≠ 0) : bI (isB cs S k b ty) = 1 := bI_t (by unfold isB; rw [decide_eq_true h, bI_1 h2, Bool.and_true, Bool.or_true])
theorem is_3 {k b ty : Int} (h : ty ≠ 8) (h2 : k ≠ 7 ∨ bI (sbB cs (9 + S 129 b) ty) = 0) : bI (isB cs S k b ty) = 0 := bI_f (by
  unfold isB
  rw [decide_eq_false h, Bool.false_or]
  rcases h2 with z | z
  · rw [decide_eq_false z, Bool.false_and]
  · rw [bI_0 z, Bool.and_false])
/-- what a method that gives a thing finds among the ES -/
def anF (cs : List hCR) (S : wS) (ty : Int) (es : List (Int × Int)) : Option (Int × Int) := es.find? (fun e => decide (e.1 ≠ 0) && isB cs S e.1 e.2 ty)
def anU (S : wS) : Option (Int × Int) → wS
  | none => S
  | some e => w_up (w_up S 158 16 e.1) 158 17 e.2
/-- a value's kind and bits that isOf may ask for -/
def okV (n : Int) (Th : List aO) (S : wS) (e : Int × Int) : Prop := (0 ≤ e.1 ∧ e.1 ≤ 8) ∧ (-9223372036854775808 ≤ e.2 ∧ e.2 ≤ 9223372036854775807) ∧ (e.1 = 7 → 0 ≤ e.2 ∧ e.2 < (Th.length : Int) ∧ 0 ≤ S 129 e.2 ∧ S 129 e.2 < n)
theorem iso_73 {k v ty : Int} (hC : w_CL S) (hK : KC 87 97 93 114 115 74 73 T cs ms os S) (hw : wHo cs ms os) (h72 : S 72 1 = 73) (hlt : cLt S Th) (hT : (Th.length : Int) ≤ 8000) (hty : 0 ≤ ty ∧ ty < 9 + (cs.length : Int)) (hv : okV (cs.length : Int) Th S (k, v)) : wJ (pe_GA xs) wY0 M (d + 1) t_XL_isOf ((pe_at t_XL_isOf.bl 0).getD (0, [])).2 [(0, (2, 158)), (1, (0, k)), (2, (1, v)), (4, (0, ty))] [] S (fun o Z => S = Z ∧ o = .inl (some (0, bI (isB cs S k v ty)))) := by
  have hn := KC_n hK
  have hn2 := hn.2.2
  have q1 : 0 ≤ k ∧ k ≤ 8 := hv.1
  have q2 : -9223372036854775808 ≤ v ∧ v ≤ 9223372036854775807 := hv.2.1
  have q3 : k = 7 → 0 ≤ v ∧ v < (Th.length : Int) ∧ 0 ≤ S 129 v ∧ S 129 v < (cs.length : Int) := hv.2.2
  refine wa_iload (n := 4) rfl ?_
  refine wa_bipush (w_rg2 (by omega) (by omega)) ?_
  refine wa_icmpeq (w_rg0 (by omega) (by omega)) (w_rg0 (by omega) (by omega)) ⟨_, rfl⟩ (fun c1 => ?_) (fun c1 => ?_)
  · skip
    refine wa_iconst ?_
    refine wa_goto ⟨_, rfl⟩ ?_
    refine wa_zreturn rfl (Or.inr rfl) ?_
    refine ⟨rfl, congrArg (fun z => Sum.inl (some (0, z))) ?_⟩
    first | exact (is_1 (by omega)).symm | exact (is_2 (by omega) (by omega)).symm
  · skip
    refine wa_iload_n (n := 1) rfl ?_
    refine wa_bipush (w_rg2 (by omega) (by omega)) ?_
    refine wa_icmpne (w_rg0 (by omega) (by omega)) (w_rg0 (by omega) (by omega)) ⟨_, rfl⟩ (fun c2 => ?_) (fun c2 => ?_)
    · skip
      refine wa_iconst ?_
      refine wa_fall ⟨_, rfl⟩ ?_
      refine wa_zreturn rfl (Or.inl rfl) ?_
      refine ⟨rfl, congrArg (fun z => Sum.inl (some (0, z))) ?_⟩
      exact (is_3 (by omega) (by omega)).symm
    · skip
      refine wa_aload_n (n := 0) rfl ?_
      refine wb_gf4 158 rfl (wy_pr rfl) wt_158 wf_5_0 (v := 72) wl_158_0 ?_
      refine wb_gf5 72 rfl (wy_pr rfl) wt_72 wf_2_1 (v := 73) (h72) (fun r3 => ?_)
      refine wa_aload_n (n := 0) rfl ?_
      refine wb_gf4 158 rfl (wy_pr rfl) wt_158 wf_5_0 (v := 72) wl_158_0 ?_
      refine wa_iload_n (n := 1) rfl ?_
      refine wa_lload_n (n := 2) rfl ?_
      have q4 := q3 (by omega)
      have hcz : clS S k v = 9 + S 129 v := by unfold clS; rw [if_neg (by omega), if_neg (by omega), if_neg (by omega), if_neg (by omega), if_pos (by omega)]
      refine wa_cv 72 rfl (wy_pr rfl) wt_72 (M2 := fun _ => False) rfl at_XH_classOf ⟨_, rfl⟩ rfl rfl ⟨(Or.inr ⟨wy_pr rfl, fun q => q⟩), trivial, trivial, trivial, trivial⟩ ⟨(Or.inr ⟨wy_pr rfl, fun q => q⟩), trivial⟩ (fun _ _ q => False.elim q) (wJ_mono (co_ok (T := Th) hC hlt hT q1 (fun z => ⟨(q3 z).1, (q3 z).2.1, (q3 z).2.2.1, by have := q3 z; omega⟩) q2) (fun o Z hz => (⟨hz.1, by rw [← hcz]; exact hz.2⟩ : S = Z ∧ o = .inl (some (0, 9 + S 129 v))))) (fun oq4 Sq4 hp5 q4 => ?_)
      rcases q4 with ⟨rfl, rfl⟩
      show wJ _ _ _ _ _ _ _ _ _ _
      refine wa_iload (n := 4) rfl ?_
      refine wa_cv 73 rfl (wy_pr rfl) wt_73 (M2 := fun _ => False) rfl at_XO_isSubtype ⟨_, rfl⟩ rfl rfl ⟨(Or.inr ⟨wy_pr rfl, fun q => q⟩), trivial, trivial, trivial, trivial⟩ trivial (fun _ _ q => False.elim q) (sub_73 (S := S) (a := (9 + S 129 v)) (o := ty) hC hK hw ⟨by omega, by omega⟩ ⟨by omega, by omega⟩) (fun oq6 Sq6 hp7 q6 => ?_)
      rcases q6 with ⟨rfl, rfl⟩
      show wJ _ _ _ _ _ _ _ _ _ _
      have hbr5 := bI_rg (sbB cs (9 + S 129 v) ty)
      refine wa_ifeq (w_rg0 (by omega) (by omega)) ⟨_, rfl⟩ (fun c8 => ?_) (fun c8 => ?_)
      · skip
        refine wa_iconst ?_
        refine wa_fall ⟨_, rfl⟩ ?_
        refine wa_zreturn rfl (Or.inl rfl) ?_
        refine ⟨rfl, congrArg (fun z => Sum.inl (some (0, z))) ?_⟩
        exact (is_3 (by omega) (by omega)).symm
      · skip
        refine wa_fall ⟨_, rfl⟩ ?_
        refine wa_iconst ?_
        refine wa_goto ⟨_, rfl⟩ ?_
        refine wa_zreturn rfl (Or.inr rfl) ?_
        refine ⟨rfl, congrArg (fun z => Sum.inl (some (0, z))) ?_⟩
        first | exact (is_1 (by omega)).symm | exact (is_2 (by omega) (by omega)).symm
theorem atl_73_215 {sb ty ba : Int} {es : List (Int × Int)} (hC : w_CL S) (hK : KC 87 97 93 114 115 74 73 T cs ms os S) (hw : wHo cs ms os) (h72 : S 72 1 = 73) (hlt : cLt S Th) (hT : (Th.length : Int) ≤ 8000) (hty : 0 ≤ ty ∧ ty < 9 + (cs.length : Int)) (l5 : S 158 5 = 216) (l8 : S 158 8 = ba) (l12 : S 158 12 = (es.length : Int)) (hpl : S 218 (-1) = S 217 (-1)) (hpb : 0 ≤ ba ∧ ba + 1 + (es.length : Int) ≤ S 217 (-1) ∧ S 217 (-1) ≤ 4095) (hes : ∀ i : Nat, i < es.length → S 217 (ba + 1 + (i : Int)) = (es.getD i (0, 0)).1 ∧ S 218 (ba + 1 + (i : Int)) = (es.getD i (0, 0)).2) (hev : ∀ i : Nat, i < es.length → okV (cs.length : Int) Th S (es.getD i (0, 0))) : ∀ (f i : Nat), i + f = es.length → wJ (pe_GA xs) wY0 M (d + 2) t_XL_answerThing ((pe_at t_XL_answerThing.bl 2).getD (0, [])).2 [(0, (2, 158)), (1, (0, sb)), (2, (0, ty)), (3, (0, (i : Int)))] [] S (fun o Z => o = .inl none ∧ anU S (anF cs S ty (es.drop i)) = Z) := by
  intro f
  induction f with
  | zero =>
    intro i hi
    rw [List.drop_of_length_le (by omega)]
    refine wa_iload_n (n := 3) rfl ?_
    refine wa_aload_n (n := 0) rfl ?_
    refine wb_gfi 158 rfl (wy_pr rfl) wt_158 wf_5_12 (v := (es.length : Int)) (l12) (fun r1 => ?_)
    refine wa_icmpge (w_rg0 (by omega) (by omega)) (w_rg0 (by omega) (by omega)) ⟨_, rfl⟩ (fun c2 => ?_) (fun c2 => ?_)
    · skip
      refine wa_return rfl ?_
      exact ⟨rfl, rfl⟩
    · skip
      exfalso; omega
  | succ f ih =>
    intro i hi
    have hil : i < es.length := by omega
    have he := hes i hil
    have he1 : S 217 (ba + 1 + (i : Int)) = (es.getD i (0, 0)).1 := he.1
    have he2 : S 218 (ba + 1 + (i : Int)) = (es.getD i (0, 0)).2 := he.2
    have heo : okV (cs.length : Int) Th S (es.getD i (0, 0)) := hev i hil
    have hek := heo.1
    have heb := heo.2.1
    have hdr : es.drop i = es.getD i (0, 0) :: es.drop (i + 1) := by rw [List.drop_eq_getElem_cons hil, List.getD_eq_getElem?_getD, List.getElem?_eq_getElem hil]; rfl
    rw [hdr]
    refine wa_iload_n (n := 3) rfl ?_
    refine wa_aload_n (n := 0) rfl ?_
    refine wb_gfi 158 rfl (wy_pr rfl) wt_158 wf_5_12 (v := (es.length : Int)) (l12) (fun r51 => ?_)
    refine wa_icmpge (w_rg0 (by omega) (by omega)) (w_rg0 (by omega) (by omega)) ⟨_, rfl⟩ (fun c52 => ?_) (fun c52 => ?_)
    · skip
      exfalso; omega
    · skip
      refine wa_aload_n (n := 0) rfl ?_
      refine wb_gfi 158 rfl (wy_pr rfl) wt_158 wf_5_8 (v := ba) (l8) (fun r53 => ?_)
      refine wa_iconst ?_
      refine wa_iadd ?_
      refine wa_iload_n (n := 3) rfl ?_
      refine wa_iadd ?_
      refine wa_istore (n := 4) rfl ?_
      refine wa_aload_n (n := 0) rfl ?_
      refine wb_gf5 158 rfl (wy_pr rfl) wt_158 wf_5_5 (v := 216) (l5) (fun r54 => ?_)
      refine wb_gf4 216 rfl (wy_pr rfl) wt_216 wf_7_0 (v := 217) wl_216_0 ?_
      refine wa_iload (n := 4) rfl ?_
      refine wb_bald 217 rfl (wy_pr rfl) wt_217 (n := (S 217 (-1))) (rfl) (by omega) (by omega) (v := (es.getD i (0, 0)).1) (he1) (fun r55 => ?_)
      refine wa_ifeq (w_rg0 (by omega) (by omega)) ⟨_, rfl⟩ (fun c56 => ?_) (fun c56 => ?_)
      · skip
        refine wa_iinc rfl rfl ?_
        refine wa_goto ⟨_, rfl⟩ ?_
        have ea : anF cs S ty (es.getD i (0, 0) :: es.drop (i + 1)) = anF cs S ty (es.drop (i + 1)) := by
          refine List.find?_cons_of_neg ?_
          intro y
          rw [Bool.and_eq_true] at y
          have y1 := of_decide_eq_true y.1
          have y2 := bI_t y.2
          omega
        rw [ea]
        exact wJ_S (ih (i + 1) (by omega)) ⟨rfl, rfl, rfl, rfl, trivial⟩
      · skip
        refine wa_aload_n (n := 0) rfl ?_
        refine wa_aload_n (n := 0) rfl ?_
        refine wb_gf5 158 rfl (wy_pr rfl) wt_158 wf_5_5 (v := 216) (l5) (fun r57 => ?_)
        refine wb_gf4 216 rfl (wy_pr rfl) wt_216 wf_7_0 (v := 217) wl_216_0 ?_
        refine wa_iload (n := 4) rfl ?_
        refine wb_bald 217 rfl (wy_pr rfl) wt_217 (n := (S 217 (-1))) (rfl) (by omega) (by omega) (v := (es.getD i (0, 0)).1) (he1) (fun r58 => ?_)
        refine wa_aload_n (n := 0) rfl ?_
        refine wb_gf5 158 rfl (wy_pr rfl) wt_158 wf_5_5 (v := 216) (l5) (fun r59 => ?_)
        refine wb_gf4 216 rfl (wy_pr rfl) wt_216 wf_7_1 (v := 218) wl_216_1 ?_
        refine wa_iload (n := 4) rfl ?_
        refine wb_lald 218 rfl (wy_pr rfl) wt_218 (n := (S 217 (-1))) (hpl) (by omega) (by omega) (v := (es.getD i (0, 0)).2) (he2) (fun r60 => ?_)
        refine wa_iload_n (n := 2) rfl ?_
        refine wa_cv 158 rfl (wy_pr rfl) wt_158 (M2 := fun _ => False) rfl at_XL_isOf ⟨_, rfl⟩ rfl rfl ⟨trivial, (Or.inr ⟨wy_pr rfl, fun q => q⟩), trivial, trivial, trivial, trivial⟩ trivial (fun _ _ q => False.elim q) (iso_73 (Th := Th) (S := S) (k := (es.getD i (0, 0)).1) (v := (es.getD i (0, 0)).2) (ty := ty) hC hK hw h72 hlt hT hty heo) (fun oq61 Sq61 hp62 q61 => ?_)
        rcases q61 with ⟨rfl, rfl⟩
        show wJ _ _ _ _ _ _ _ _ _ _
        have hbz60 := bI_rg (isB cs S (es.getD i (0, 0)).1 (es.getD i (0, 0)).2 ty)
        refine wa_ifeq (w_rg0 (by omega) (by omega)) ⟨_, rfl⟩ (fun c63 => ?_) (fun c63 => ?_)
        · skip
          refine wa_iinc rfl rfl ?_
          refine wa_goto ⟨_, rfl⟩ ?_
          have ea : anF cs S ty (es.getD i (0, 0) :: es.drop (i + 1)) = anF cs S ty (es.drop (i + 1)) := by
            refine List.find?_cons_of_neg ?_
            intro y
            rw [Bool.and_eq_true] at y
            have y1 := of_decide_eq_true y.1
            have y2 := bI_t y.2
            omega
          rw [ea]
          exact wJ_S (ih (i + 1) (by omega)) ⟨rfl, rfl, rfl, rfl, trivial⟩
        · skip
          refine wa_aload_n (n := 0) rfl ?_
          refine wa_aload_n (n := 0) rfl ?_
          refine wb_gf5 158 rfl (wy_pr rfl) wt_158 wf_5_5 (v := 216) (l5) (fun r64 => ?_)
          refine wb_gf4 216 rfl (wy_pr rfl) wt_216 wf_7_0 (v := 217) wl_216_0 ?_
          refine wa_iload (n := 4) rfl ?_
          refine wb_bald 217 rfl (wy_pr rfl) wt_217 (n := (S 217 (-1))) (rfl) (by omega) (by omega) (v := (es.getD i (0, 0)).1) (he1) (fun r65 => ?_)
          refine wb_pfi 158 rfl (wy_pr rfl) wt_158 wf_5_16 (n := 16) rfl ⟨(by omega), (by omega)⟩ ?_
          refine wa_aload_n (n := 0) rfl ?_
          refine wa_aload_n (n := 0) rfl ?_
          refine wb_gf5 158 rfl (wy_pr rfl) wt_158 wf_5_5 (v := 216) ((w_up_at (by decide)).trans (l5)) (fun r66 => ?_)
          refine wb_gf4 216 rfl (wy_pr rfl) wt_216 wf_7_1 (v := 218) wl_216_1 ?_
          refine wa_iload (n := 4) rfl ?_
          refine wb_lald 218 rfl (wy_pr rfl) wt_218 (n := (S 217 (-1))) ((w_up_slot (by decide)).trans (hpl)) (by omega) (by omega) (v := (es.getD i (0, 0)).2) ((w_up_slot (by decide)).trans (he2)) (fun r67 => ?_)
          refine wb_pfl 158 rfl (wy_pr rfl) wt_158 wf_5_17 (n := 17) rfl ⟨(by omega), (by omega)⟩ ?_
          refine wa_return rfl ?_
          have ea : anF cs S ty (es.getD i (0, 0) :: es.drop (i + 1)) = some (es.getD i (0, 0)) := by
            refine List.find?_cons_of_pos ?_
            rw [Bool.and_eq_true]
            exact ⟨decide_eq_true (by omega), bI_1 (by omega)⟩
          rw [ea]
          exact ⟨rfl, rfl⟩
theorem ath_73_215 {sb ty ba gk gb : Int} {es : List (Int × Int)} (hC : w_CL S) (hK : KC 87 97 93 114 115 74 73 T cs ms os S) (hw : wHo cs ms os) (h72 : S 72 1 = 73) (hlt : cLt S Th) (hT : (Th.length : Int) ≤ 8000) (hty : 0 ≤ ty ∧ ty < 9 + (cs.length : Int)) (l5 : S 158 5 = 216) (l8 : S 158 8 = ba) (l12 : S 158 12 = (es.length : Int)) (hpl : S 218 (-1) = S 217 (-1)) (hpb : 0 ≤ ba ∧ ba + 1 + (es.length : Int) ≤ S 217 (-1) ∧ S 217 (-1) ≤ 4095) (hes : ∀ i : Nat, i < es.length → S 217 (ba + 1 + (i : Int)) = (es.getD i (0, 0)).1 ∧ S 218 (ba + 1 + (i : Int)) = (es.getD i (0, 0)).2) (hev : ∀ i : Nat, i < es.length → okV (cs.length : Int) Th S (es.getD i (0, 0))) (l9 : S 158 9 = gk) (l10 : S 158 10 = gb) (hg : okV (cs.length : Int) Th S (gk, gb)) (hsb : sb = 0 ∨ sb = 1) : wJ (pe_GA xs) wY0 M (d + 2) t_XL_answerThing ((pe_at t_XL_answerThing.bl 0).getD (0, [])).2 [(0, (2, 158)), (1, (0, sb)), (2, (0, ty))] [] S (fun o Z => o = .inl none ∧ anU S (if sb = 0 ∧ isB cs S gk gb ty = true then some (gk, gb) else anF cs S ty es) = Z) := by
  have hgk := hg.1
  have hgb := hg.2.1
  refine wa_iload_n (n := 1) rfl ?_
  refine wa_ifne (w_rg0 (by omega) (by omega)) ⟨_, rfl⟩ (fun c1 => ?_) (fun c1 => ?_)
  · skip
    refine wa_iconst ?_
    refine wa_istore_n (n := 3) rfl ?_
    refine wa_fall ⟨_, rfl⟩ ?_
    rw [if_neg (by rintro ⟨z1, z2⟩; have y := bI_t z2; omega)]
    exact wJ_S (atl_73_215 hC hK hw h72 hlt hT hty l5 l8 l12 hpl hpb hes hev es.length 0 (by omega)) ⟨rfl, rfl, rfl, rfl, trivial⟩
  · skip
    refine wa_aload_n (n := 0) rfl ?_
    refine wa_aload_n (n := 0) rfl ?_
    refine wb_gfi 158 rfl (wy_pr rfl) wt_158 wf_5_9 (v := gk) (l9) (fun r2 => ?_)
    refine wa_aload_n (n := 0) rfl ?_
    refine wb_gfl 158 rfl (wy_pr rfl) wt_158 wf_5_10 (v := gb) (l10) (fun r3 => ?_)
    refine wa_iload_n (n := 2) rfl ?_
    refine wa_cv 158 rfl (wy_pr rfl) wt_158 (M2 := fun _ => False) rfl at_XL_isOf ⟨_, rfl⟩ rfl rfl ⟨(Or.inr ⟨wy_pr rfl, fun q => q⟩), trivial, trivial, trivial⟩ trivial (fun _ _ q => False.elim q) (iso_73 (Th := Th) (S := S) (k := gk) (v := gb) (ty := ty) hC hK hw h72 hlt hT hty hg) (fun oq4 Sq4 hp5 q4 => ?_)
    rcases q4 with ⟨rfl, rfl⟩
    show wJ _ _ _ _ _ _ _ _ _ _
    have hbz3 := bI_rg (isB cs S gk gb ty)
    refine wa_ifeq (w_rg0 (by omega) (by omega)) ⟨_, rfl⟩ (fun c6 => ?_) (fun c6 => ?_)
    · skip
      refine wa_iconst ?_
      refine wa_istore_n (n := 3) rfl ?_
      refine wa_fall ⟨_, rfl⟩ ?_
      rw [if_neg (by rintro ⟨z1, z2⟩; have y := bI_t z2; omega)]
      exact wJ_S (atl_73_215 hC hK hw h72 hlt hT hty l5 l8 l12 hpl hpb hes hev es.length 0 (by omega)) ⟨rfl, rfl, rfl, rfl, trivial⟩
    · skip
      refine wa_aload_n (n := 0) rfl ?_
      refine wa_aload_n (n := 0) rfl ?_
      refine wb_gfi 158 rfl (wy_pr rfl) wt_158 wf_5_9 (v := gk) (l9) (fun r7 => ?_)
      refine wb_pfi 158 rfl (wy_pr rfl) wt_158 wf_5_16 (n := 16) rfl ⟨(by omega), (by omega)⟩ ?_
      refine wa_aload_n (n := 0) rfl ?_
      refine wa_aload_n (n := 0) rfl ?_
      refine wb_gfl 158 rfl (wy_pr rfl) wt_158 wf_5_10 (v := gb) ((w_up_at (by decide)).trans (l10)) (fun r8 => ?_)
      refine wb_pfl 158 rfl (wy_pr rfl) wt_158 wf_5_17 (n := 17) rfl ⟨(by omega), (by omega)⟩ ?_
      refine wa_return rfl ?_
      rw [if_pos ⟨by omega, bI_1 (by omega)⟩]
      exact ⟨rfl, rfl⟩
theorem ant_73_215 {m sb ty ba gk gb : Int} {es : List (Int × Int)} (hC : w_CL S) (hK : KC 87 97 93 114 115 74 73 T cs ms os S) (hw : wHo cs ms os) (h72 : S 72 1 = 73) (hlt : cLt S Th) (hT : (Th.length : Int) ≤ 8000) (hty : 0 ≤ ty ∧ ty < 9 + (cs.length : Int)) (l5 : S 158 5 = 216) (l8 : S 158 8 = ba) (l12 : S 158 12 = (es.length : Int)) (hpl : S 218 (-1) = S 217 (-1)) (hpb : 0 ≤ ba ∧ ba + 1 + (es.length : Int) ≤ S 217 (-1) ∧ S 217 (-1) ≤ 4095) (hes : ∀ i : Nat, i < es.length → S 217 (ba + 1 + (i : Int)) = (es.getD i (0, 0)).1 ∧ S 218 (ba + 1 + (i : Int)) = (es.getD i (0, 0)).2) (hev : ∀ i : Nat, i < es.length → okV (cs.length : Int) Th S (es.getD i (0, 0))) (l9 : S 158 9 = gk) (l10 : S 158 10 = gb) (hg : okV (cs.length : Int) Th S (gk, gb)) (hm : 0 ≤ m ∧ m < 400) (hmt : S 100 m = ty) (hms : S 99 m = sb) (hsb : sb = 0 ∨ sb = 1) (ht8 : 8 ≤ ty) : wJ (pe_GA xs) wY0 M (d + 3) t_XL_answer ((pe_at t_XL_answer.bl 0).getD (0, [])).2 [(0, (2, 158)), (1, (0, m))] [] S (fun o Z => o = .inl none ∧ anU S (if sb = 0 ∧ isB cs S gk gb ty = true then some (gk, gb) else anF cs S ty es) = Z) := by
  have hn := KC_n hK
  have hn2 := hn.2.2
  refine wa_aload_n (n := 0) rfl ?_
  refine wb_gf4 158 rfl (wy_pr rfl) wt_158 wf_5_0 (v := 72) wl_158_0 ?_
  refine wb_gf5 72 rfl (wy_pr rfl) wt_72 wf_2_1 (v := 73) (h72) (fun r1 => ?_)
  refine wb_gf4 73 rfl (wy_pr rfl) wt_73 wf_3_3 (v := 96) wl_73_3 ?_
  refine wa_iconst ?_
  refine wb_aald5 96 3 rfl rfl (wy_pr rfl) wt_96 (by rw [show _ = _ from ((cl_96 hC))]; omega) wl_96_3 ?_
  refine wa_iload_n (n := 1) rfl ?_
  refine wb_iald 100 rfl (wy_pr rfl) wt_100 (n := 400) ((cl_100 hC)) (by omega) (by omega) (v := ty) (hmt) (fun r2 => ?_)
  refine wa_istore_n (n := 2) rfl ?_
  refine wa_iload_n (n := 2) rfl ?_
  refine wa_bipush (w_rg2 (by omega) (by omega)) ?_
  refine wa_icmpne (w_rg0 (by omega) (by omega)) (w_rg0 (by omega) (by omega)) ⟨_, rfl⟩ (fun c3 => ?_) (fun c3 => ?_)
  · skip
    refine wa_iload_n (n := 2) rfl ?_
    refine wa_bipush (w_rg2 (by omega) (by omega)) ?_
    refine wa_icmplt (w_rg0 (by omega) (by omega)) (w_rg0 (by omega) (by omega)) ⟨_, rfl⟩ (fun c4 => ?_) (fun c4 => ?_)
    · skip
      exact absurd c4 (by omega)
    · skip
      refine wa_aload_n (n := 0) rfl ?_
      refine wa_aload_n (n := 0) rfl ?_
      refine wb_gf4 158 rfl (wy_pr rfl) wt_158 wf_5_0 (v := 72) wl_158_0 ?_
      refine wb_gf5 72 rfl (wy_pr rfl) wt_72 wf_2_1 (v := 73) (h72) (fun r5 => ?_)
      refine wb_gf4 73 rfl (wy_pr rfl) wt_73 wf_3_3 (v := 96) wl_73_3 ?_
      refine wa_iconst ?_
      refine wb_aald5 96 2 rfl rfl (wy_pr rfl) wt_96 (by rw [show _ = _ from ((cl_96 hC))]; omega) wl_96_2 ?_
      refine wa_iload_n (n := 1) rfl ?_
      refine wb_iald 99 rfl (wy_pr rfl) wt_99 (n := 400) ((cl_99 hC)) (by omega) (by omega) (v := sb) (hms) (fun r6 => ?_)
      refine wa_iconst ?_
      refine wa_icmpne (w_rg0 (by omega) (by omega)) (w_rg0 (by omega) (by omega)) ⟨_, rfl⟩ (fun c7 => ?_) (fun c7 => ?_)
      · skip
        refine wa_iconst ?_
        refine wa_fall ⟨_, rfl⟩ ?_
        refine wa_iload_n (n := 2) rfl ?_
        refine wa_cv 158 rfl (wy_pr rfl) wt_158 (M2 := fun _ => False) rfl at_XL_answerThing ⟨_, rfl⟩ rfl rfl ⟨trivial, (Or.inr ⟨wy_pr rfl, fun q => q⟩), trivial, trivial⟩ trivial (fun _ _ q => False.elim q) (ath_73_215 (sb := 0) hC hK hw h72 hlt hT hty l5 l8 l12 hpl hpb hes hev l9 l10 hg (by omega)) (fun oq8 Sq8 hp9 q8 => ?_)
        rcases q8 with ⟨rfl, rfl⟩
        show wJ _ _ _ _ _ _ _ _ _ _
        refine wa_goto ⟨_, rfl⟩ ?_
        refine wa_return rfl ?_
        have esb : sb = 0 := by omega
        rw [esb]
        exact ⟨rfl, rfl⟩
      · skip
        refine wa_iconst ?_
        refine wa_goto ⟨_, rfl⟩ ?_
        refine wa_iload_n (n := 2) rfl ?_
        refine wa_cv 158 rfl (wy_pr rfl) wt_158 (M2 := fun _ => False) rfl at_XL_answerThing ⟨_, rfl⟩ rfl rfl ⟨trivial, (Or.inr ⟨wy_pr rfl, fun q => q⟩), trivial, trivial⟩ trivial (fun _ _ q => False.elim q) (ath_73_215 (sb := 1) hC hK hw h72 hlt hT hty l5 l8 l12 hpl hpb hes hev l9 l10 hg (by omega)) (fun oq10 Sq10 hp11 q10 => ?_)
        rcases q10 with ⟨rfl, rfl⟩
        show wJ _ _ _ _ _ _ _ _ _ _
        refine wa_goto ⟨_, rfl⟩ ?_
        refine wa_return rfl ?_
        have esb : sb = 1 := by omega
        rw [esb]
        exact ⟨rfl, rfl⟩
  · skip
    exact absurd c3 (by omega)
theorem atl_73_226 {sb ty ba : Int} {es : List (Int × Int)} (hC : w_CL S) (hK : KC 87 97 93 114 115 74 73 T cs ms os S) (hw : wHo cs ms os) (h72 : S 72 1 = 73) (hlt : cLt S Th) (hT : (Th.length : Int) ≤ 8000) (hty : 0 ≤ ty ∧ ty < 9 + (cs.length : Int)) (l5 : S 158 5 = 227) (l8 : S 158 8 = ba) (l12 : S 158 12 = (es.length : Int)) (hpl : S 229 (-1) = S 228 (-1)) (hpb : 0 ≤ ba ∧ ba + 1 + (es.length : Int) ≤ S 228 (-1) ∧ S 228 (-1) ≤ 4095) (hes : ∀ i : Nat, i < es.length → S 228 (ba + 1 + (i : Int)) = (es.getD i (0, 0)).1 ∧ S 229 (ba + 1 + (i : Int)) = (es.getD i (0, 0)).2) (hev : ∀ i : Nat, i < es.length → okV (cs.length : Int) Th S (es.getD i (0, 0))) : ∀ (f i : Nat), i + f = es.length → wJ (pe_GA xs) wY0 M (d + 2) t_XL_answerThing ((pe_at t_XL_answerThing.bl 2).getD (0, [])).2 [(0, (2, 158)), (1, (0, sb)), (2, (0, ty)), (3, (0, (i : Int)))] [] S (fun o Z => o = .inl none ∧ anU S (anF cs S ty (es.drop i)) = Z) := by
  intro f
  induction f with
  | zero =>
    intro i hi
    rw [List.drop_of_length_le (by omega)]
    refine wa_iload_n (n := 3) rfl ?_
    refine wa_aload_n (n := 0) rfl ?_
    refine wb_gfi 158 rfl (wy_pr rfl) wt_158 wf_5_12 (v := (es.length : Int)) (l12) (fun r1 => ?_)
    refine wa_icmpge (w_rg0 (by omega) (by omega)) (w_rg0 (by omega) (by omega)) ⟨_, rfl⟩ (fun c2 => ?_) (fun c2 => ?_)
    · skip
      refine wa_return rfl ?_
      exact ⟨rfl, rfl⟩
    · skip
      exfalso; omega
  | succ f ih =>
    intro i hi
    have hil : i < es.length := by omega
    have he := hes i hil
    have he1 : S 228 (ba + 1 + (i : Int)) = (es.getD i (0, 0)).1 := he.1
    have he2 : S 229 (ba + 1 + (i : Int)) = (es.getD i (0, 0)).2 := he.2
    have heo : okV (cs.length : Int) Th S (es.getD i (0, 0)) := hev i hil
    have hek := heo.1
    have heb := heo.2.1
    have hdr : es.drop i = es.getD i (0, 0) :: es.drop (i + 1) := by rw [List.drop_eq_getElem_cons hil, List.getD_eq_getElem?_getD, List.getElem?_eq_getElem hil]; rfl
    rw [hdr]
    refine wa_iload_n (n := 3) rfl ?_
    refine wa_aload_n (n := 0) rfl ?_
    refine wb_gfi 158 rfl (wy_pr rfl) wt_158 wf_5_12 (v := (es.length : Int)) (l12) (fun r51 => ?_)
    refine wa_icmpge (w_rg0 (by omega) (by omega)) (w_rg0 (by omega) (by omega)) ⟨_, rfl⟩ (fun c52 => ?_) (fun c52 => ?_)
    · skip
      exfalso; omega
    · skip
      refine wa_aload_n (n := 0) rfl ?_
      refine wb_gfi 158 rfl (wy_pr rfl) wt_158 wf_5_8 (v := ba) (l8) (fun r53 => ?_)
      refine wa_iconst ?_
      refine wa_iadd ?_
      refine wa_iload_n (n := 3) rfl ?_
      refine wa_iadd ?_
      refine wa_istore (n := 4) rfl ?_
      refine wa_aload_n (n := 0) rfl ?_
      refine wb_gf5 158 rfl (wy_pr rfl) wt_158 wf_5_5 (v := 227) (l5) (fun r54 => ?_)
      refine wb_gf4 227 rfl (wy_pr rfl) wt_227 wf_7_0 (v := 228) wl_227_0 ?_
      refine wa_iload (n := 4) rfl ?_
      refine wb_bald 228 rfl (wy_pr rfl) wt_228 (n := (S 228 (-1))) (rfl) (by omega) (by omega) (v := (es.getD i (0, 0)).1) (he1) (fun r55 => ?_)
      refine wa_ifeq (w_rg0 (by omega) (by omega)) ⟨_, rfl⟩ (fun c56 => ?_) (fun c56 => ?_)
      · skip
        refine wa_iinc rfl rfl ?_
        refine wa_goto ⟨_, rfl⟩ ?_
        have ea : anF cs S ty (es.getD i (0, 0) :: es.drop (i + 1)) = anF cs S ty (es.drop (i + 1)) := by
          refine List.find?_cons_of_neg ?_
          intro y
          rw [Bool.and_eq_true] at y
          have y1 := of_decide_eq_true y.1
          have y2 := bI_t y.2
          omega
        rw [ea]
        exact wJ_S (ih (i + 1) (by omega)) ⟨rfl, rfl, rfl, rfl, trivial⟩
      · skip
        refine wa_aload_n (n := 0) rfl ?_
        refine wa_aload_n (n := 0) rfl ?_
        refine wb_gf5 158 rfl (wy_pr rfl) wt_158 wf_5_5 (v := 227) (l5) (fun r57 => ?_)
        refine wb_gf4 227 rfl (wy_pr rfl) wt_227 wf_7_0 (v := 228) wl_227_0 ?_
        refine wa_iload (n := 4) rfl ?_
        refine wb_bald 228 rfl (wy_pr rfl) wt_228 (n := (S 228 (-1))) (rfl) (by omega) (by omega) (v := (es.getD i (0, 0)).1) (he1) (fun r58 => ?_)
        refine wa_aload_n (n := 0) rfl ?_
        refine wb_gf5 158 rfl (wy_pr rfl) wt_158 wf_5_5 (v := 227) (l5) (fun r59 => ?_)
        refine wb_gf4 227 rfl (wy_pr rfl) wt_227 wf_7_1 (v := 229) wl_227_1 ?_
        refine wa_iload (n := 4) rfl ?_
        refine wb_lald 229 rfl (wy_pr rfl) wt_229 (n := (S 228 (-1))) (hpl) (by omega) (by omega) (v := (es.getD i (0, 0)).2) (he2) (fun r60 => ?_)
        refine wa_iload_n (n := 2) rfl ?_
        refine wa_cv 158 rfl (wy_pr rfl) wt_158 (M2 := fun _ => False) rfl at_XL_isOf ⟨_, rfl⟩ rfl rfl ⟨trivial, (Or.inr ⟨wy_pr rfl, fun q => q⟩), trivial, trivial, trivial, trivial⟩ trivial (fun _ _ q => False.elim q) (iso_73 (Th := Th) (S := S) (k := (es.getD i (0, 0)).1) (v := (es.getD i (0, 0)).2) (ty := ty) hC hK hw h72 hlt hT hty heo) (fun oq61 Sq61 hp62 q61 => ?_)
        rcases q61 with ⟨rfl, rfl⟩
        show wJ _ _ _ _ _ _ _ _ _ _
        have hbz60 := bI_rg (isB cs S (es.getD i (0, 0)).1 (es.getD i (0, 0)).2 ty)
        refine wa_ifeq (w_rg0 (by omega) (by omega)) ⟨_, rfl⟩ (fun c63 => ?_) (fun c63 => ?_)
        · skip
          refine wa_iinc rfl rfl ?_
          refine wa_goto ⟨_, rfl⟩ ?_
          have ea : anF cs S ty (es.getD i (0, 0) :: es.drop (i + 1)) = anF cs S ty (es.drop (i + 1)) := by
            refine List.find?_cons_of_neg ?_
            intro y
            rw [Bool.and_eq_true] at y
            have y1 := of_decide_eq_true y.1
            have y2 := bI_t y.2
            omega
          rw [ea]
          exact wJ_S (ih (i + 1) (by omega)) ⟨rfl, rfl, rfl, rfl, trivial⟩
        · skip
          refine wa_aload_n (n := 0) rfl ?_
          refine wa_aload_n (n := 0) rfl ?_
          refine wb_gf5 158 rfl (wy_pr rfl) wt_158 wf_5_5 (v := 227) (l5) (fun r64 => ?_)
          refine wb_gf4 227 rfl (wy_pr rfl) wt_227 wf_7_0 (v := 228) wl_227_0 ?_
          refine wa_iload (n := 4) rfl ?_
          refine wb_bald 228 rfl (wy_pr rfl) wt_228 (n := (S 228 (-1))) (rfl) (by omega) (by omega) (v := (es.getD i (0, 0)).1) (he1) (fun r65 => ?_)
          refine wb_pfi 158 rfl (wy_pr rfl) wt_158 wf_5_16 (n := 16) rfl ⟨(by omega), (by omega)⟩ ?_
          refine wa_aload_n (n := 0) rfl ?_
          refine wa_aload_n (n := 0) rfl ?_
          refine wb_gf5 158 rfl (wy_pr rfl) wt_158 wf_5_5 (v := 227) ((w_up_at (by decide)).trans (l5)) (fun r66 => ?_)
          refine wb_gf4 227 rfl (wy_pr rfl) wt_227 wf_7_1 (v := 229) wl_227_1 ?_
          refine wa_iload (n := 4) rfl ?_
          refine wb_lald 229 rfl (wy_pr rfl) wt_229 (n := (S 228 (-1))) ((w_up_slot (by decide)).trans (hpl)) (by omega) (by omega) (v := (es.getD i (0, 0)).2) ((w_up_slot (by decide)).trans (he2)) (fun r67 => ?_)
          refine wb_pfl 158 rfl (wy_pr rfl) wt_158 wf_5_17 (n := 17) rfl ⟨(by omega), (by omega)⟩ ?_
          refine wa_return rfl ?_
          have ea : anF cs S ty (es.getD i (0, 0) :: es.drop (i + 1)) = some (es.getD i (0, 0)) := by
            refine List.find?_cons_of_pos ?_
            rw [Bool.and_eq_true]
            exact ⟨decide_eq_true (by omega), bI_1 (by omega)⟩
          rw [ea]
          exact ⟨rfl, rfl⟩
theorem ath_73_226 {sb ty ba gk gb : Int} {es : List (Int × Int)} (hC : w_CL S) (hK : KC 87 97 93 114 115 74 73 T cs ms os S) (hw : wHo cs ms os) (h72 : S 72 1 = 73) (hlt : cLt S Th) (hT : (Th.length : Int) ≤ 8000) (hty : 0 ≤ ty ∧ ty < 9 + (cs.length : Int)) (l5 : S 158 5 = 227) (l8 : S 158 8 = ba) (l12 : S 158 12 = (es.length : Int)) (hpl : S 229 (-1) = S 228 (-1)) (hpb : 0 ≤ ba ∧ ba + 1 + (es.length : Int) ≤ S 228 (-1) ∧ S 228 (-1) ≤ 4095) (hes : ∀ i : Nat, i < es.length → S 228 (ba + 1 + (i : Int)) = (es.getD i (0, 0)).1 ∧ S 229 (ba + 1 + (i : Int)) = (es.getD i (0, 0)).2) (hev : ∀ i : Nat, i < es.length → okV (cs.length : Int) Th S (es.getD i (0, 0))) (l9 : S 158 9 = gk) (l10 : S 158 10 = gb) (hg : okV (cs.length : Int) Th S (gk, gb)) (hsb : sb = 0 ∨ sb = 1) : wJ (pe_GA xs) wY0 M (d + 2) t_XL_answerThing ((pe_at t_XL_answerThing.bl 0).getD (0, [])).2 [(0, (2, 158)), (1, (0, sb)), (2, (0, ty))] [] S (fun o Z => o = .inl none ∧ anU S (if sb = 0 ∧ isB cs S gk gb ty = true then some (gk, gb) else anF cs S ty es) = Z) := by
  have hgk := hg.1
  have hgb := hg.2.1
  refine wa_iload_n (n := 1) rfl ?_
  refine wa_ifne (w_rg0 (by omega) (by omega)) ⟨_, rfl⟩ (fun c1 => ?_) (fun c1 => ?_)
  · skip
    refine wa_iconst ?_
    refine wa_istore_n (n := 3) rfl ?_
    refine wa_fall ⟨_, rfl⟩ ?_
    rw [if_neg (by rintro ⟨z1, z2⟩; have y := bI_t z2; omega)]
    exact wJ_S (atl_73_226 hC hK hw h72 hlt hT hty l5 l8 l12 hpl hpb hes hev es.length 0 (by omega)) ⟨rfl, rfl, rfl, rfl, trivial⟩
  · skip
    refine wa_aload_n (n := 0) rfl ?_
    refine wa_aload_n (n := 0) rfl ?_
    refine wb_gfi 158 rfl (wy_pr rfl) wt_158 wf_5_9 (v := gk) (l9) (fun r2 => ?_)
    refine wa_aload_n (n := 0) rfl ?_
    refine wb_gfl 158 rfl (wy_pr rfl) wt_158 wf_5_10 (v := gb) (l10) (fun r3 => ?_)
    refine wa_iload_n (n := 2) rfl ?_
    refine wa_cv 158 rfl (wy_pr rfl) wt_158 (M2 := fun _ => False) rfl at_XL_isOf ⟨_, rfl⟩ rfl rfl ⟨(Or.inr ⟨wy_pr rfl, fun q => q⟩), trivial, trivial, trivial⟩ trivial (fun _ _ q => False.elim q) (iso_73 (Th := Th) (S := S) (k := gk) (v := gb) (ty := ty) hC hK hw h72 hlt hT hty hg) (fun oq4 Sq4 hp5 q4 => ?_)
    rcases q4 with ⟨rfl, rfl⟩
    show wJ _ _ _ _ _ _ _ _ _ _
    have hbz3 := bI_rg (isB cs S gk gb ty)
    refine wa_ifeq (w_rg0 (by omega) (by omega)) ⟨_, rfl⟩ (fun c6 => ?_) (fun c6 => ?_)
    · skip
      refine wa_iconst ?_
      refine wa_istore_n (n := 3) rfl ?_
      refine wa_fall ⟨_, rfl⟩ ?_
      rw [if_neg (by rintro ⟨z1, z2⟩; have y := bI_t z2; omega)]
      exact wJ_S (atl_73_226 hC hK hw h72 hlt hT hty l5 l8 l12 hpl hpb hes hev es.length 0 (by omega)) ⟨rfl, rfl, rfl, rfl, trivial⟩
    · skip
      refine wa_aload_n (n := 0) rfl ?_
      refine wa_aload_n (n := 0) rfl ?_
      refine wb_gfi 158 rfl (wy_pr rfl) wt_158 wf_5_9 (v := gk) (l9) (fun r7 => ?_)
      refine wb_pfi 158 rfl (wy_pr rfl) wt_158 wf_5_16 (n := 16) rfl ⟨(by omega), (by omega)⟩ ?_
      refine wa_aload_n (n := 0) rfl ?_
      refine wa_aload_n (n := 0) rfl ?_
      refine wb_gfl 158 rfl (wy_pr rfl) wt_158 wf_5_10 (v := gb) ((w_up_at (by decide)).trans (l10)) (fun r8 => ?_)
      refine wb_pfl 158 rfl (wy_pr rfl) wt_158 wf_5_17 (n := 17) rfl ⟨(by omega), (by omega)⟩ ?_
      refine wa_return rfl ?_
      rw [if_pos ⟨by omega, bI_1 (by omega)⟩]
      exact ⟨rfl, rfl⟩
theorem ant_73_226 {m sb ty ba gk gb : Int} {es : List (Int × Int)} (hC : w_CL S) (hK : KC 87 97 93 114 115 74 73 T cs ms os S) (hw : wHo cs ms os) (h72 : S 72 1 = 73) (hlt : cLt S Th) (hT : (Th.length : Int) ≤ 8000) (hty : 0 ≤ ty ∧ ty < 9 + (cs.length : Int)) (l5 : S 158 5 = 227) (l8 : S 158 8 = ba) (l12 : S 158 12 = (es.length : Int)) (hpl : S 229 (-1) = S 228 (-1)) (hpb : 0 ≤ ba ∧ ba + 1 + (es.length : Int) ≤ S 228 (-1) ∧ S 228 (-1) ≤ 4095) (hes : ∀ i : Nat, i < es.length → S 228 (ba + 1 + (i : Int)) = (es.getD i (0, 0)).1 ∧ S 229 (ba + 1 + (i : Int)) = (es.getD i (0, 0)).2) (hev : ∀ i : Nat, i < es.length → okV (cs.length : Int) Th S (es.getD i (0, 0))) (l9 : S 158 9 = gk) (l10 : S 158 10 = gb) (hg : okV (cs.length : Int) Th S (gk, gb)) (hm : 0 ≤ m ∧ m < 400) (hmt : S 100 m = ty) (hms : S 99 m = sb) (hsb : sb = 0 ∨ sb = 1) (ht8 : 8 ≤ ty) : wJ (pe_GA xs) wY0 M (d + 3) t_XL_answer ((pe_at t_XL_answer.bl 0).getD (0, [])).2 [(0, (2, 158)), (1, (0, m))] [] S (fun o Z => o = .inl none ∧ anU S (if sb = 0 ∧ isB cs S gk gb ty = true then some (gk, gb) else anF cs S ty es) = Z) := by
  have hn := KC_n hK
  have hn2 := hn.2.2
  refine wa_aload_n (n := 0) rfl ?_
  refine wb_gf4 158 rfl (wy_pr rfl) wt_158 wf_5_0 (v := 72) wl_158_0 ?_
  refine wb_gf5 72 rfl (wy_pr rfl) wt_72 wf_2_1 (v := 73) (h72) (fun r1 => ?_)
  refine wb_gf4 73 rfl (wy_pr rfl) wt_73 wf_3_3 (v := 96) wl_73_3 ?_
  refine wa_iconst ?_
  refine wb_aald5 96 3 rfl rfl (wy_pr rfl) wt_96 (by rw [show _ = _ from ((cl_96 hC))]; omega) wl_96_3 ?_
  refine wa_iload_n (n := 1) rfl ?_
  refine wb_iald 100 rfl (wy_pr rfl) wt_100 (n := 400) ((cl_100 hC)) (by omega) (by omega) (v := ty) (hmt) (fun r2 => ?_)
  refine wa_istore_n (n := 2) rfl ?_
  refine wa_iload_n (n := 2) rfl ?_
  refine wa_bipush (w_rg2 (by omega) (by omega)) ?_
  refine wa_icmpne (w_rg0 (by omega) (by omega)) (w_rg0 (by omega) (by omega)) ⟨_, rfl⟩ (fun c3 => ?_) (fun c3 => ?_)
  · skip
    refine wa_iload_n (n := 2) rfl ?_
    refine wa_bipush (w_rg2 (by omega) (by omega)) ?_
    refine wa_icmplt (w_rg0 (by omega) (by omega)) (w_rg0 (by omega) (by omega)) ⟨_, rfl⟩ (fun c4 => ?_) (fun c4 => ?_)
    · skip
      exact absurd c4 (by omega)
    · skip
      refine wa_aload_n (n := 0) rfl ?_
      refine wa_aload_n (n := 0) rfl ?_
      refine wb_gf4 158 rfl (wy_pr rfl) wt_158 wf_5_0 (v := 72) wl_158_0 ?_
      refine wb_gf5 72 rfl (wy_pr rfl) wt_72 wf_2_1 (v := 73) (h72) (fun r5 => ?_)
      refine wb_gf4 73 rfl (wy_pr rfl) wt_73 wf_3_3 (v := 96) wl_73_3 ?_
      refine wa_iconst ?_
      refine wb_aald5 96 2 rfl rfl (wy_pr rfl) wt_96 (by rw [show _ = _ from ((cl_96 hC))]; omega) wl_96_2 ?_
      refine wa_iload_n (n := 1) rfl ?_
      refine wb_iald 99 rfl (wy_pr rfl) wt_99 (n := 400) ((cl_99 hC)) (by omega) (by omega) (v := sb) (hms) (fun r6 => ?_)
      refine wa_iconst ?_
      refine wa_icmpne (w_rg0 (by omega) (by omega)) (w_rg0 (by omega) (by omega)) ⟨_, rfl⟩ (fun c7 => ?_) (fun c7 => ?_)
      · skip
        refine wa_iconst ?_
        refine wa_fall ⟨_, rfl⟩ ?_
        refine wa_iload_n (n := 2) rfl ?_
        refine wa_cv 158 rfl (wy_pr rfl) wt_158 (M2 := fun _ => False) rfl at_XL_answerThing ⟨_, rfl⟩ rfl rfl ⟨trivial, (Or.inr ⟨wy_pr rfl, fun q => q⟩), trivial, trivial⟩ trivial (fun _ _ q => False.elim q) (ath_73_226 (sb := 0) hC hK hw h72 hlt hT hty l5 l8 l12 hpl hpb hes hev l9 l10 hg (by omega)) (fun oq8 Sq8 hp9 q8 => ?_)
        rcases q8 with ⟨rfl, rfl⟩
        show wJ _ _ _ _ _ _ _ _ _ _
        refine wa_goto ⟨_, rfl⟩ ?_
        refine wa_return rfl ?_
        have esb : sb = 0 := by omega
        rw [esb]
        exact ⟨rfl, rfl⟩
      · skip
        refine wa_iconst ?_
        refine wa_goto ⟨_, rfl⟩ ?_
        refine wa_iload_n (n := 2) rfl ?_
        refine wa_cv 158 rfl (wy_pr rfl) wt_158 (M2 := fun _ => False) rfl at_XL_answerThing ⟨_, rfl⟩ rfl rfl ⟨trivial, (Or.inr ⟨wy_pr rfl, fun q => q⟩), trivial, trivial⟩ trivial (fun _ _ q => False.elim q) (ath_73_226 (sb := 1) hC hK hw h72 hlt hT hty l5 l8 l12 hpl hpb hes hev l9 l10 hg (by omega)) (fun oq10 Sq10 hp11 q10 => ?_)
        rcases q10 with ⟨rfl, rfl⟩
        show wJ _ _ _ _ _ _ _ _ _ _
        refine wa_goto ⟨_, rfl⟩ ?_
        refine wa_return rfl ?_
        have esb : sb = 1 := by omega
        rw [esb]
        exact ⟨rfl, rfl⟩
  · skip
    exact absurd c3 (by omega)
theorem iso_162 {k v ty : Int} (hC : w_CL S) (hK : KC 176 186 182 203 204 163 162 T cs ms os S) (hw : wHo cs ms os) (h72 : S 72 1 = 162) (hlt : cLt S Th) (hT : (Th.length : Int) ≤ 8000) (hty : 0 ≤ ty ∧ ty < 9 + (cs.length : Int)) (hv : okV (cs.length : Int) Th S (k, v)) : wJ (pe_GA xs) wY0 M (d + 1) t_XL_isOf ((pe_at t_XL_isOf.bl 0).getD (0, [])).2 [(0, (2, 158)), (1, (0, k)), (2, (1, v)), (4, (0, ty))] [] S (fun o Z => S = Z ∧ o = .inl (some (0, bI (isB cs S k v ty)))) := by
  have hn := KC_n hK
  have hn2 := hn.2.2
  have q1 : 0 ≤ k ∧ k ≤ 8 := hv.1
  have q2 : -9223372036854775808 ≤ v ∧ v ≤ 9223372036854775807 := hv.2.1
  have q3 : k = 7 → 0 ≤ v ∧ v < (Th.length : Int) ∧ 0 ≤ S 129 v ∧ S 129 v < (cs.length : Int) := hv.2.2
  refine wa_iload (n := 4) rfl ?_
  refine wa_bipush (w_rg2 (by omega) (by omega)) ?_
  refine wa_icmpeq (w_rg0 (by omega) (by omega)) (w_rg0 (by omega) (by omega)) ⟨_, rfl⟩ (fun c1 => ?_) (fun c1 => ?_)
  · skip
    refine wa_iconst ?_
    refine wa_goto ⟨_, rfl⟩ ?_
    refine wa_zreturn rfl (Or.inr rfl) ?_
    refine ⟨rfl, congrArg (fun z => Sum.inl (some (0, z))) ?_⟩
    first | exact (is_1 (by omega)).symm | exact (is_2 (by omega) (by omega)).symm
  · skip
    refine wa_iload_n (n := 1) rfl ?_
    refine wa_bipush (w_rg2 (by omega) (by omega)) ?_
    refine wa_icmpne (w_rg0 (by omega) (by omega)) (w_rg0 (by omega) (by omega)) ⟨_, rfl⟩ (fun c2 => ?_) (fun c2 => ?_)
    · skip
      refine wa_iconst ?_
      refine wa_fall ⟨_, rfl⟩ ?_
      refine wa_zreturn rfl (Or.inl rfl) ?_
      refine ⟨rfl, congrArg (fun z => Sum.inl (some (0, z))) ?_⟩
      exact (is_3 (by omega) (by omega)).symm
    · skip
      refine wa_aload_n (n := 0) rfl ?_
      refine wb_gf4 158 rfl (wy_pr rfl) wt_158 wf_5_0 (v := 72) wl_158_0 ?_
      refine wb_gf5 72 rfl (wy_pr rfl) wt_72 wf_2_1 (v := 162) (h72) (fun r3 => ?_)
      refine wa_aload_n (n := 0) rfl ?_
      refine wb_gf4 158 rfl (wy_pr rfl) wt_158 wf_5_0 (v := 72) wl_158_0 ?_
      refine wa_iload_n (n := 1) rfl ?_
      refine wa_lload_n (n := 2) rfl ?_
      have q4 := q3 (by omega)
      have hcz : clS S k v = 9 + S 129 v := by unfold clS; rw [if_neg (by omega), if_neg (by omega), if_neg (by omega), if_neg (by omega), if_pos (by omega)]
      refine wa_cv 72 rfl (wy_pr rfl) wt_72 (M2 := fun _ => False) rfl at_XH_classOf ⟨_, rfl⟩ rfl rfl ⟨(Or.inr ⟨wy_pr rfl, fun q => q⟩), trivial, trivial, trivial, trivial⟩ ⟨(Or.inr ⟨wy_pr rfl, fun q => q⟩), trivial⟩ (fun _ _ q => False.elim q) (wJ_mono (co_ok (T := Th) hC hlt hT q1 (fun z => ⟨(q3 z).1, (q3 z).2.1, (q3 z).2.2.1, by have := q3 z; omega⟩) q2) (fun o Z hz => (⟨hz.1, by rw [← hcz]; exact hz.2⟩ : S = Z ∧ o = .inl (some (0, 9 + S 129 v))))) (fun oq4 Sq4 hp5 q4 => ?_)
      rcases q4 with ⟨rfl, rfl⟩
      show wJ _ _ _ _ _ _ _ _ _ _
      refine wa_iload (n := 4) rfl ?_
      refine wa_cv 162 rfl (wy_pr rfl) wt_162 (M2 := fun _ => False) rfl at_XO_isSubtype ⟨_, rfl⟩ rfl rfl ⟨(Or.inr ⟨wy_pr rfl, fun q => q⟩), trivial, trivial, trivial, trivial⟩ trivial (fun _ _ q => False.elim q) (sub_162 (S := S) (a := (9 + S 129 v)) (o := ty) hC hK hw ⟨by omega, by omega⟩ ⟨by omega, by omega⟩) (fun oq6 Sq6 hp7 q6 => ?_)
      rcases q6 with ⟨rfl, rfl⟩
      show wJ _ _ _ _ _ _ _ _ _ _
      have hbr5 := bI_rg (sbB cs (9 + S 129 v) ty)
      refine wa_ifeq (w_rg0 (by omega) (by omega)) ⟨_, rfl⟩ (fun c8 => ?_) (fun c8 => ?_)
      · skip
        refine wa_iconst ?_
        refine wa_fall ⟨_, rfl⟩ ?_
        refine wa_zreturn rfl (Or.inl rfl) ?_
        refine ⟨rfl, congrArg (fun z => Sum.inl (some (0, z))) ?_⟩
        exact (is_3 (by omega) (by omega)).symm
      · skip
        refine wa_fall ⟨_, rfl⟩ ?_
        refine wa_iconst ?_
        refine wa_goto ⟨_, rfl⟩ ?_
        refine wa_zreturn rfl (Or.inr rfl) ?_
        refine ⟨rfl, congrArg (fun z => Sum.inl (some (0, z))) ?_⟩
        first | exact (is_1 (by omega)).symm | exact (is_2 (by omega) (by omega)).symm
theorem atl_162_215 {sb ty ba : Int} {es : List (Int × Int)} (hC : w_CL S) (hK : KC 176 186 182 203 204 163 162 T cs ms os S) (hw : wHo cs ms os) (h72 : S 72 1 = 162) (hlt : cLt S Th) (hT : (Th.length : Int) ≤ 8000) (hty : 0 ≤ ty ∧ ty < 9 + (cs.length : Int)) (l5 : S 158 5 = 216) (l8 : S 158 8 = ba) (l12 : S 158 12 = (es.length : Int)) (hpl : S 218 (-1) = S 217 (-1)) (hpb : 0 ≤ ba ∧ ba + 1 + (es.length : Int) ≤ S 217 (-1) ∧ S 217 (-1) ≤ 4095) (hes : ∀ i : Nat, i < es.length → S 217 (ba + 1 + (i : Int)) = (es.getD i (0, 0)).1 ∧ S 218 (ba + 1 + (i : Int)) = (es.getD i (0, 0)).2) (hev : ∀ i : Nat, i < es.length → okV (cs.length : Int) Th S (es.getD i (0, 0))) : ∀ (f i : Nat), i + f = es.length → wJ (pe_GA xs) wY0 M (d + 2) t_XL_answerThing ((pe_at t_XL_answerThing.bl 2).getD (0, [])).2 [(0, (2, 158)), (1, (0, sb)), (2, (0, ty)), (3, (0, (i : Int)))] [] S (fun o Z => o = .inl none ∧ anU S (anF cs S ty (es.drop i)) = Z) := by
  intro f
  induction f with
  | zero =>
    intro i hi
    rw [List.drop_of_length_le (by omega)]
    refine wa_iload_n (n := 3) rfl ?_
    refine wa_aload_n (n := 0) rfl ?_
    refine wb_gfi 158 rfl (wy_pr rfl) wt_158 wf_5_12 (v := (es.length : Int)) (l12) (fun r1 => ?_)
    refine wa_icmpge (w_rg0 (by omega) (by omega)) (w_rg0 (by omega) (by omega)) ⟨_, rfl⟩ (fun c2 => ?_) (fun c2 => ?_)
    · skip
      refine wa_return rfl ?_
      exact ⟨rfl, rfl⟩
    · skip
      exfalso; omega
  | succ f ih =>
    intro i hi
    have hil : i < es.length := by omega
    have he := hes i hil
    have he1 : S 217 (ba + 1 + (i : Int)) = (es.getD i (0, 0)).1 := he.1
    have he2 : S 218 (ba + 1 + (i : Int)) = (es.getD i (0, 0)).2 := he.2
    have heo : okV (cs.length : Int) Th S (es.getD i (0, 0)) := hev i hil
    have hek := heo.1
    have heb := heo.2.1
    have hdr : es.drop i = es.getD i (0, 0) :: es.drop (i + 1) := by rw [List.drop_eq_getElem_cons hil, List.getD_eq_getElem?_getD, List.getElem?_eq_getElem hil]; rfl
    rw [hdr]
    refine wa_iload_n (n := 3) rfl ?_
    refine wa_aload_n (n := 0) rfl ?_
    refine wb_gfi 158 rfl (wy_pr rfl) wt_158 wf_5_12 (v := (es.length : Int)) (l12) (fun r51 => ?_)
    refine wa_icmpge (w_rg0 (by omega) (by omega)) (w_rg0 (by omega) (by omega)) ⟨_, rfl⟩ (fun c52 => ?_) (fun c52 => ?_)
    · skip
      exfalso; omega
    · skip
      refine wa_aload_n (n := 0) rfl ?_
      refine wb_gfi 158 rfl (wy_pr rfl) wt_158 wf_5_8 (v := ba) (l8) (fun r53 => ?_)
      refine wa_iconst ?_
      refine wa_iadd ?_
      refine wa_iload_n (n := 3) rfl ?_
      refine wa_iadd ?_
      refine wa_istore (n := 4) rfl ?_
      refine wa_aload_n (n := 0) rfl ?_
      refine wb_gf5 158 rfl (wy_pr rfl) wt_158 wf_5_5 (v := 216) (l5) (fun r54 => ?_)
      refine wb_gf4 216 rfl (wy_pr rfl) wt_216 wf_7_0 (v := 217) wl_216_0 ?_
      refine wa_iload (n := 4) rfl ?_
      refine wb_bald 217 rfl (wy_pr rfl) wt_217 (n := (S 217 (-1))) (rfl) (by omega) (by omega) (v := (es.getD i (0, 0)).1) (he1) (fun r55 => ?_)
      refine wa_ifeq (w_rg0 (by omega) (by omega)) ⟨_, rfl⟩ (fun c56 => ?_) (fun c56 => ?_)
      · skip
        refine wa_iinc rfl rfl ?_
        refine wa_goto ⟨_, rfl⟩ ?_
        have ea : anF cs S ty (es.getD i (0, 0) :: es.drop (i + 1)) = anF cs S ty (es.drop (i + 1)) := by
          refine List.find?_cons_of_neg ?_
          intro y
          rw [Bool.and_eq_true] at y
          have y1 := of_decide_eq_true y.1
          have y2 := bI_t y.2
          omega
        rw [ea]
        exact wJ_S (ih (i + 1) (by omega)) ⟨rfl, rfl, rfl, rfl, trivial⟩
      · skip
        refine wa_aload_n (n := 0) rfl ?_
        refine wa_aload_n (n := 0) rfl ?_
        refine wb_gf5 158 rfl (wy_pr rfl) wt_158 wf_5_5 (v := 216) (l5) (fun r57 => ?_)
        refine wb_gf4 216 rfl (wy_pr rfl) wt_216 wf_7_0 (v := 217) wl_216_0 ?_
        refine wa_iload (n := 4) rfl ?_
        refine wb_bald 217 rfl (wy_pr rfl) wt_217 (n := (S 217 (-1))) (rfl) (by omega) (by omega) (v := (es.getD i (0, 0)).1) (he1) (fun r58 => ?_)
        refine wa_aload_n (n := 0) rfl ?_
        refine wb_gf5 158 rfl (wy_pr rfl) wt_158 wf_5_5 (v := 216) (l5) (fun r59 => ?_)
        refine wb_gf4 216 rfl (wy_pr rfl) wt_216 wf_7_1 (v := 218) wl_216_1 ?_
        refine wa_iload (n := 4) rfl ?_
        refine wb_lald 218 rfl (wy_pr rfl) wt_218 (n := (S 217 (-1))) (hpl) (by omega) (by omega) (v := (es.getD i (0, 0)).2) (he2) (fun r60 => ?_)
        refine wa_iload_n (n := 2) rfl ?_
        refine wa_cv 158 rfl (wy_pr rfl) wt_158 (M2 := fun _ => False) rfl at_XL_isOf ⟨_, rfl⟩ rfl rfl ⟨trivial, (Or.inr ⟨wy_pr rfl, fun q => q⟩), trivial, trivial, trivial, trivial⟩ trivial (fun _ _ q => False.elim q) (iso_162 (Th := Th) (S := S) (k := (es.getD i (0, 0)).1) (v := (es.getD i (0, 0)).2) (ty := ty) hC hK hw h72 hlt hT hty heo) (fun oq61 Sq61 hp62 q61 => ?_)
        rcases q61 with ⟨rfl, rfl⟩
        show wJ _ _ _ _ _ _ _ _ _ _
        have hbz60 := bI_rg (isB cs S (es.getD i (0, 0)).1 (es.getD i (0, 0)).2 ty)
        refine wa_ifeq (w_rg0 (by omega) (by omega)) ⟨_, rfl⟩ (fun c63 => ?_) (fun c63 => ?_)
        · skip
          refine wa_iinc rfl rfl ?_
          refine wa_goto ⟨_, rfl⟩ ?_
          have ea : anF cs S ty (es.getD i (0, 0) :: es.drop (i + 1)) = anF cs S ty (es.drop (i + 1)) := by
            refine List.find?_cons_of_neg ?_
            intro y
            rw [Bool.and_eq_true] at y
            have y1 := of_decide_eq_true y.1
            have y2 := bI_t y.2
            omega
          rw [ea]
          exact wJ_S (ih (i + 1) (by omega)) ⟨rfl, rfl, rfl, rfl, trivial⟩
        · skip
          refine wa_aload_n (n := 0) rfl ?_
          refine wa_aload_n (n := 0) rfl ?_
          refine wb_gf5 158 rfl (wy_pr rfl) wt_158 wf_5_5 (v := 216) (l5) (fun r64 => ?_)
          refine wb_gf4 216 rfl (wy_pr rfl) wt_216 wf_7_0 (v := 217) wl_216_0 ?_
          refine wa_iload (n := 4) rfl ?_
          refine wb_bald 217 rfl (wy_pr rfl) wt_217 (n := (S 217 (-1))) (rfl) (by omega) (by omega) (v := (es.getD i (0, 0)).1) (he1) (fun r65 => ?_)
          refine wb_pfi 158 rfl (wy_pr rfl) wt_158 wf_5_16 (n := 16) rfl ⟨(by omega), (by omega)⟩ ?_
          refine wa_aload_n (n := 0) rfl ?_
          refine wa_aload_n (n := 0) rfl ?_
          refine wb_gf5 158 rfl (wy_pr rfl) wt_158 wf_5_5 (v := 216) ((w_up_at (by decide)).trans (l5)) (fun r66 => ?_)
          refine wb_gf4 216 rfl (wy_pr rfl) wt_216 wf_7_1 (v := 218) wl_216_1 ?_
          refine wa_iload (n := 4) rfl ?_
          refine wb_lald 218 rfl (wy_pr rfl) wt_218 (n := (S 217 (-1))) ((w_up_slot (by decide)).trans (hpl)) (by omega) (by omega) (v := (es.getD i (0, 0)).2) ((w_up_slot (by decide)).trans (he2)) (fun r67 => ?_)
          refine wb_pfl 158 rfl (wy_pr rfl) wt_158 wf_5_17 (n := 17) rfl ⟨(by omega), (by omega)⟩ ?_
          refine wa_return rfl ?_
          have ea : anF cs S ty (es.getD i (0, 0) :: es.drop (i + 1)) = some (es.getD i (0, 0)) := by
            refine List.find?_cons_of_pos ?_
            rw [Bool.and_eq_true]
            exact ⟨decide_eq_true (by omega), bI_1 (by omega)⟩
          rw [ea]
          exact ⟨rfl, rfl⟩
theorem ath_162_215 {sb ty ba gk gb : Int} {es : List (Int × Int)} (hC : w_CL S) (hK : KC 176 186 182 203 204 163 162 T cs ms os S) (hw : wHo cs ms os) (h72 : S 72 1 = 162) (hlt : cLt S Th) (hT : (Th.length : Int) ≤ 8000) (hty : 0 ≤ ty ∧ ty < 9 + (cs.length : Int)) (l5 : S 158 5 = 216) (l8 : S 158 8 = ba) (l12 : S 158 12 = (es.length : Int)) (hpl : S 218 (-1) = S 217 (-1)) (hpb : 0 ≤ ba ∧ ba + 1 + (es.length : Int) ≤ S 217 (-1) ∧ S 217 (-1) ≤ 4095) (hes : ∀ i : Nat, i < es.length → S 217 (ba + 1 + (i : Int)) = (es.getD i (0, 0)).1 ∧ S 218 (ba + 1 + (i : Int)) = (es.getD i (0, 0)).2) (hev : ∀ i : Nat, i < es.length → okV (cs.length : Int) Th S (es.getD i (0, 0))) (l9 : S 158 9 = gk) (l10 : S 158 10 = gb) (hg : okV (cs.length : Int) Th S (gk, gb)) (hsb : sb = 0 ∨ sb = 1) : wJ (pe_GA xs) wY0 M (d + 2) t_XL_answerThing ((pe_at t_XL_answerThing.bl 0).getD (0, [])).2 [(0, (2, 158)), (1, (0, sb)), (2, (0, ty))] [] S (fun o Z => o = .inl none ∧ anU S (if sb = 0 ∧ isB cs S gk gb ty = true then some (gk, gb) else anF cs S ty es) = Z) := by
  have hgk := hg.1
  have hgb := hg.2.1
  refine wa_iload_n (n := 1) rfl ?_
  refine wa_ifne (w_rg0 (by omega) (by omega)) ⟨_, rfl⟩ (fun c1 => ?_) (fun c1 => ?_)
  · skip
    refine wa_iconst ?_
    refine wa_istore_n (n := 3) rfl ?_
    refine wa_fall ⟨_, rfl⟩ ?_
    rw [if_neg (by rintro ⟨z1, z2⟩; have y := bI_t z2; omega)]
    exact wJ_S (atl_162_215 hC hK hw h72 hlt hT hty l5 l8 l12 hpl hpb hes hev es.length 0 (by omega)) ⟨rfl, rfl, rfl, rfl, trivial⟩
  · skip
    refine wa_aload_n (n := 0) rfl ?_
    refine wa_aload_n (n := 0) rfl ?_
    refine wb_gfi 158 rfl (wy_pr rfl) wt_158 wf_5_9 (v := gk) (l9) (fun r2 => ?_)
    refine wa_aload_n (n := 0) rfl ?_
    refine wb_gfl 158 rfl (wy_pr rfl) wt_158 wf_5_10 (v := gb) (l10) (fun r3 => ?_)
    refine wa_iload_n (n := 2) rfl ?_
    refine wa_cv 158 rfl (wy_pr rfl) wt_158 (M2 := fun _ => False) rfl at_XL_isOf ⟨_, rfl⟩ rfl rfl ⟨(Or.inr ⟨wy_pr rfl, fun q => q⟩), trivial, trivial, trivial⟩ trivial (fun _ _ q => False.elim q) (iso_162 (Th := Th) (S := S) (k := gk) (v := gb) (ty := ty) hC hK hw h72 hlt hT hty hg) (fun oq4 Sq4 hp5 q4 => ?_)
    rcases q4 with ⟨rfl, rfl⟩
    show wJ _ _ _ _ _ _ _ _ _ _
    have hbz3 := bI_rg (isB cs S gk gb ty)
    refine wa_ifeq (w_rg0 (by omega) (by omega)) ⟨_, rfl⟩ (fun c6 => ?_) (fun c6 => ?_)
    · skip
      refine wa_iconst ?_
      refine wa_istore_n (n := 3) rfl ?_
      refine wa_fall ⟨_, rfl⟩ ?_
      rw [if_neg (by rintro ⟨z1, z2⟩; have y := bI_t z2; omega)]
      exact wJ_S (atl_162_215 hC hK hw h72 hlt hT hty l5 l8 l12 hpl hpb hes hev es.length 0 (by omega)) ⟨rfl, rfl, rfl, rfl, trivial⟩
    · skip
      refine wa_aload_n (n := 0) rfl ?_
      refine wa_aload_n (n := 0) rfl ?_
      refine wb_gfi 158 rfl (wy_pr rfl) wt_158 wf_5_9 (v := gk) (l9) (fun r7 => ?_)
      refine wb_pfi 158 rfl (wy_pr rfl) wt_158 wf_5_16 (n := 16) rfl ⟨(by omega), (by omega)⟩ ?_
      refine wa_aload_n (n := 0) rfl ?_
      refine wa_aload_n (n := 0) rfl ?_
      refine wb_gfl 158 rfl (wy_pr rfl) wt_158 wf_5_10 (v := gb) ((w_up_at (by decide)).trans (l10)) (fun r8 => ?_)
      refine wb_pfl 158 rfl (wy_pr rfl) wt_158 wf_5_17 (n := 17) rfl ⟨(by omega), (by omega)⟩ ?_
      refine wa_return rfl ?_
      rw [if_pos ⟨by omega, bI_1 (by omega)⟩]
      exact ⟨rfl, rfl⟩
theorem ant_162_215 {m sb ty ba gk gb : Int} {es : List (Int × Int)} (hC : w_CL S) (hK : KC 176 186 182 203 204 163 162 T cs ms os S) (hw : wHo cs ms os) (h72 : S 72 1 = 162) (hlt : cLt S Th) (hT : (Th.length : Int) ≤ 8000) (hty : 0 ≤ ty ∧ ty < 9 + (cs.length : Int)) (l5 : S 158 5 = 216) (l8 : S 158 8 = ba) (l12 : S 158 12 = (es.length : Int)) (hpl : S 218 (-1) = S 217 (-1)) (hpb : 0 ≤ ba ∧ ba + 1 + (es.length : Int) ≤ S 217 (-1) ∧ S 217 (-1) ≤ 4095) (hes : ∀ i : Nat, i < es.length → S 217 (ba + 1 + (i : Int)) = (es.getD i (0, 0)).1 ∧ S 218 (ba + 1 + (i : Int)) = (es.getD i (0, 0)).2) (hev : ∀ i : Nat, i < es.length → okV (cs.length : Int) Th S (es.getD i (0, 0))) (l9 : S 158 9 = gk) (l10 : S 158 10 = gb) (hg : okV (cs.length : Int) Th S (gk, gb)) (hm : 0 ≤ m ∧ m < 400) (hmt : S 189 m = ty) (hms : S 188 m = sb) (hsb : sb = 0 ∨ sb = 1) (ht8 : 8 ≤ ty) : wJ (pe_GA xs) wY0 M (d + 3) t_XL_answer ((pe_at t_XL_answer.bl 0).getD (0, [])).2 [(0, (2, 158)), (1, (0, m))] [] S (fun o Z => o = .inl none ∧ anU S (if sb = 0 ∧ isB cs S gk gb ty = true then some (gk, gb) else anF cs S ty es) = Z) := by
  have hn := KC_n hK
  have hn2 := hn.2.2
  refine wa_aload_n (n := 0) rfl ?_
  refine wb_gf4 158 rfl (wy_pr rfl) wt_158 wf_5_0 (v := 72) wl_158_0 ?_
  refine wb_gf5 72 rfl (wy_pr rfl) wt_72 wf_2_1 (v := 162) (h72) (fun r1 => ?_)
  refine wb_gf4 162 rfl (wy_pr rfl) wt_162 wf_3_3 (v := 185) wl_162_3 ?_
  refine wa_iconst ?_
  refine wb_aald5 185 3 rfl rfl (wy_pr rfl) wt_185 (by rw [show _ = _ from ((cl_185 hC))]; omega) wl_185_3 ?_
  refine wa_iload_n (n := 1) rfl ?_
  refine wb_iald 189 rfl (wy_pr rfl) wt_189 (n := 400) ((cl_189 hC)) (by omega) (by omega) (v := ty) (hmt) (fun r2 => ?_)
  refine wa_istore_n (n := 2) rfl ?_
  refine wa_iload_n (n := 2) rfl ?_
  refine wa_bipush (w_rg2 (by omega) (by omega)) ?_
  refine wa_icmpne (w_rg0 (by omega) (by omega)) (w_rg0 (by omega) (by omega)) ⟨_, rfl⟩ (fun c3 => ?_) (fun c3 => ?_)
  · skip
    refine wa_iload_n (n := 2) rfl ?_
    refine wa_bipush (w_rg2 (by omega) (by omega)) ?_
    refine wa_icmplt (w_rg0 (by omega) (by omega)) (w_rg0 (by omega) (by omega)) ⟨_, rfl⟩ (fun c4 => ?_) (fun c4 => ?_)
    · skip
      exact absurd c4 (by omega)
    · skip
      refine wa_aload_n (n := 0) rfl ?_
      refine wa_aload_n (n := 0) rfl ?_
      refine wb_gf4 158 rfl (wy_pr rfl) wt_158 wf_5_0 (v := 72) wl_158_0 ?_
      refine wb_gf5 72 rfl (wy_pr rfl) wt_72 wf_2_1 (v := 162) (h72) (fun r5 => ?_)
      refine wb_gf4 162 rfl (wy_pr rfl) wt_162 wf_3_3 (v := 185) wl_162_3 ?_
      refine wa_iconst ?_
      refine wb_aald5 185 2 rfl rfl (wy_pr rfl) wt_185 (by rw [show _ = _ from ((cl_185 hC))]; omega) wl_185_2 ?_
      refine wa_iload_n (n := 1) rfl ?_
      refine wb_iald 188 rfl (wy_pr rfl) wt_188 (n := 400) ((cl_188 hC)) (by omega) (by omega) (v := sb) (hms) (fun r6 => ?_)
      refine wa_iconst ?_
      refine wa_icmpne (w_rg0 (by omega) (by omega)) (w_rg0 (by omega) (by omega)) ⟨_, rfl⟩ (fun c7 => ?_) (fun c7 => ?_)
      · skip
        refine wa_iconst ?_
        refine wa_fall ⟨_, rfl⟩ ?_
        refine wa_iload_n (n := 2) rfl ?_
        refine wa_cv 158 rfl (wy_pr rfl) wt_158 (M2 := fun _ => False) rfl at_XL_answerThing ⟨_, rfl⟩ rfl rfl ⟨trivial, (Or.inr ⟨wy_pr rfl, fun q => q⟩), trivial, trivial⟩ trivial (fun _ _ q => False.elim q) (ath_162_215 (sb := 0) hC hK hw h72 hlt hT hty l5 l8 l12 hpl hpb hes hev l9 l10 hg (by omega)) (fun oq8 Sq8 hp9 q8 => ?_)
        rcases q8 with ⟨rfl, rfl⟩
        show wJ _ _ _ _ _ _ _ _ _ _
        refine wa_goto ⟨_, rfl⟩ ?_
        refine wa_return rfl ?_
        have esb : sb = 0 := by omega
        rw [esb]
        exact ⟨rfl, rfl⟩
      · skip
        refine wa_iconst ?_
        refine wa_goto ⟨_, rfl⟩ ?_
        refine wa_iload_n (n := 2) rfl ?_
        refine wa_cv 158 rfl (wy_pr rfl) wt_158 (M2 := fun _ => False) rfl at_XL_answerThing ⟨_, rfl⟩ rfl rfl ⟨trivial, (Or.inr ⟨wy_pr rfl, fun q => q⟩), trivial, trivial⟩ trivial (fun _ _ q => False.elim q) (ath_162_215 (sb := 1) hC hK hw h72 hlt hT hty l5 l8 l12 hpl hpb hes hev l9 l10 hg (by omega)) (fun oq10 Sq10 hp11 q10 => ?_)
        rcases q10 with ⟨rfl, rfl⟩
        show wJ _ _ _ _ _ _ _ _ _ _
        refine wa_goto ⟨_, rfl⟩ ?_
        refine wa_return rfl ?_
        have esb : sb = 1 := by omega
        rw [esb]
        exact ⟨rfl, rfl⟩
  · skip
    exact absurd c3 (by omega)
theorem atl_162_226 {sb ty ba : Int} {es : List (Int × Int)} (hC : w_CL S) (hK : KC 176 186 182 203 204 163 162 T cs ms os S) (hw : wHo cs ms os) (h72 : S 72 1 = 162) (hlt : cLt S Th) (hT : (Th.length : Int) ≤ 8000) (hty : 0 ≤ ty ∧ ty < 9 + (cs.length : Int)) (l5 : S 158 5 = 227) (l8 : S 158 8 = ba) (l12 : S 158 12 = (es.length : Int)) (hpl : S 229 (-1) = S 228 (-1)) (hpb : 0 ≤ ba ∧ ba + 1 + (es.length : Int) ≤ S 228 (-1) ∧ S 228 (-1) ≤ 4095) (hes : ∀ i : Nat, i < es.length → S 228 (ba + 1 + (i : Int)) = (es.getD i (0, 0)).1 ∧ S 229 (ba + 1 + (i : Int)) = (es.getD i (0, 0)).2) (hev : ∀ i : Nat, i < es.length → okV (cs.length : Int) Th S (es.getD i (0, 0))) : ∀ (f i : Nat), i + f = es.length → wJ (pe_GA xs) wY0 M (d + 2) t_XL_answerThing ((pe_at t_XL_answerThing.bl 2).getD (0, [])).2 [(0, (2, 158)), (1, (0, sb)), (2, (0, ty)), (3, (0, (i : Int)))] [] S (fun o Z => o = .inl none ∧ anU S (anF cs S ty (es.drop i)) = Z) := by
  intro f
  induction f with
  | zero =>
    intro i hi
    rw [List.drop_of_length_le (by omega)]
    refine wa_iload_n (n := 3) rfl ?_
    refine wa_aload_n (n := 0) rfl ?_
    refine wb_gfi 158 rfl (wy_pr rfl) wt_158 wf_5_12 (v := (es.length : Int)) (l12) (fun r1 => ?_)
    refine wa_icmpge (w_rg0 (by omega) (by omega)) (w_rg0 (by omega) (by omega)) ⟨_, rfl⟩ (fun c2 => ?_) (fun c2 => ?_)
    · skip
      refine wa_return rfl ?_
      exact ⟨rfl, rfl⟩
    · skip
      exfalso; omega
  | succ f ih =>
    intro i hi
    have hil : i < es.length := by omega
    have he := hes i hil
    have he1 : S 228 (ba + 1 + (i : Int)) = (es.getD i (0, 0)).1 := he.1
    have he2 : S 229 (ba + 1 + (i : Int)) = (es.getD i (0, 0)).2 := he.2
    have heo : okV (cs.length : Int) Th S (es.getD i (0, 0)) := hev i hil
    have hek := heo.1
    have heb := heo.2.1
    have hdr : es.drop i = es.getD i (0, 0) :: es.drop (i + 1) := by rw [List.drop_eq_getElem_cons hil, List.getD_eq_getElem?_getD, List.getElem?_eq_getElem hil]; rfl
    rw [hdr]
    refine wa_iload_n (n := 3) rfl ?_
    refine wa_aload_n (n := 0) rfl ?_
    refine wb_gfi 158 rfl (wy_pr rfl) wt_158 wf_5_12 (v := (es.length : Int)) (l12) (fun r51 => ?_)
    refine wa_icmpge (w_rg0 (by omega) (by omega)) (w_rg0 (by omega) (by omega)) ⟨_, rfl⟩ (fun c52 => ?_) (fun c52 => ?_)
    · skip
      exfalso; omega
    · skip
      refine wa_aload_n (n := 0) rfl ?_
      refine wb_gfi 158 rfl (wy_pr rfl) wt_158 wf_5_8 (v := ba) (l8) (fun r53 => ?_)
      refine wa_iconst ?_
      refine wa_iadd ?_
      refine wa_iload_n (n := 3) rfl ?_
      refine wa_iadd ?_
      refine wa_istore (n := 4) rfl ?_
      refine wa_aload_n (n := 0) rfl ?_
      refine wb_gf5 158 rfl (wy_pr rfl) wt_158 wf_5_5 (v := 227) (l5) (fun r54 => ?_)
      refine wb_gf4 227 rfl (wy_pr rfl) wt_227 wf_7_0 (v := 228) wl_227_0 ?_
      refine wa_iload (n := 4) rfl ?_
      refine wb_bald 228 rfl (wy_pr rfl) wt_228 (n := (S 228 (-1))) (rfl) (by omega) (by omega) (v := (es.getD i (0, 0)).1) (he1) (fun r55 => ?_)
      refine wa_ifeq (w_rg0 (by omega) (by omega)) ⟨_, rfl⟩ (fun c56 => ?_) (fun c56 => ?_)
      · skip
        refine wa_iinc rfl rfl ?_
        refine wa_goto ⟨_, rfl⟩ ?_
        have ea : anF cs S ty (es.getD i (0, 0) :: es.drop (i + 1)) = anF cs S ty (es.drop (i + 1)) := by
          refine List.find?_cons_of_neg ?_
          intro y
          rw [Bool.and_eq_true] at y
          have y1 := of_decide_eq_true y.1
          have y2 := bI_t y.2
          omega
        rw [ea]
        exact wJ_S (ih (i + 1) (by omega)) ⟨rfl, rfl, rfl, rfl, trivial⟩
      · skip
        refine wa_aload_n (n := 0) rfl ?_
        refine wa_aload_n (n := 0) rfl ?_
        refine wb_gf5 158 rfl (wy_pr rfl) wt_158 wf_5_5 (v := 227) (l5) (fun r57 => ?_)
        refine wb_gf4 227 rfl (wy_pr rfl) wt_227 wf_7_0 (v := 228) wl_227_0 ?_
        refine wa_iload (n := 4) rfl ?_
        refine wb_bald 228 rfl (wy_pr rfl) wt_228 (n := (S 228 (-1))) (rfl) (by omega) (by omega) (v := (es.getD i (0, 0)).1) (he1) (fun r58 => ?_)
        refine wa_aload_n (n := 0) rfl ?_
        refine wb_gf5 158 rfl (wy_pr rfl) wt_158 wf_5_5 (v := 227) (l5) (fun r59 => ?_)
        refine wb_gf4 227 rfl (wy_pr rfl) wt_227 wf_7_1 (v := 229) wl_227_1 ?_
        refine wa_iload (n := 4) rfl ?_
        refine wb_lald 229 rfl (wy_pr rfl) wt_229 (n := (S 228 (-1))) (hpl) (by omega) (by omega) (v := (es.getD i (0, 0)).2) (he2) (fun r60 => ?_)
        refine wa_iload_n (n := 2) rfl ?_
        refine wa_cv 158 rfl (wy_pr rfl) wt_158 (M2 := fun _ => False) rfl at_XL_isOf ⟨_, rfl⟩ rfl rfl ⟨trivial, (Or.inr ⟨wy_pr rfl, fun q => q⟩), trivial, trivial, trivial, trivial⟩ trivial (fun _ _ q => False.elim q) (iso_162 (Th := Th) (S := S) (k := (es.getD i (0, 0)).1) (v := (es.getD i (0, 0)).2) (ty := ty) hC hK hw h72 hlt hT hty heo) (fun oq61 Sq61 hp62 q61 => ?_)
        rcases q61 with ⟨rfl, rfl⟩
        show wJ _ _ _ _ _ _ _ _ _ _
        have hbz60 := bI_rg (isB cs S (es.getD i (0, 0)).1 (es.getD i (0, 0)).2 ty)
        refine wa_ifeq (w_rg0 (by omega) (by omega)) ⟨_, rfl⟩ (fun c63 => ?_) (fun c63 => ?_)
        · skip
          refine wa_iinc rfl rfl ?_
          refine wa_goto ⟨_, rfl⟩ ?_
          have ea : anF cs S ty (es.getD i (0, 0) :: es.drop (i + 1)) = anF cs S ty (es.drop (i + 1)) := by
            refine List.find?_cons_of_neg ?_
            intro y
            rw [Bool.and_eq_true] at y
            have y1 := of_decide_eq_true y.1
            have y2 := bI_t y.2
            omega
          rw [ea]
          exact wJ_S (ih (i + 1) (by omega)) ⟨rfl, rfl, rfl, rfl, trivial⟩
        · skip
          refine wa_aload_n (n := 0) rfl ?_
          refine wa_aload_n (n := 0) rfl ?_
          refine wb_gf5 158 rfl (wy_pr rfl) wt_158 wf_5_5 (v := 227) (l5) (fun r64 => ?_)
          refine wb_gf4 227 rfl (wy_pr rfl) wt_227 wf_7_0 (v := 228) wl_227_0 ?_
          refine wa_iload (n := 4) rfl ?_
          refine wb_bald 228 rfl (wy_pr rfl) wt_228 (n := (S 228 (-1))) (rfl) (by omega) (by omega) (v := (es.getD i (0, 0)).1) (he1) (fun r65 => ?_)
          refine wb_pfi 158 rfl (wy_pr rfl) wt_158 wf_5_16 (n := 16) rfl ⟨(by omega), (by omega)⟩ ?_
          refine wa_aload_n (n := 0) rfl ?_
          refine wa_aload_n (n := 0) rfl ?_
          refine wb_gf5 158 rfl (wy_pr rfl) wt_158 wf_5_5 (v := 227) ((w_up_at (by decide)).trans (l5)) (fun r66 => ?_)
          refine wb_gf4 227 rfl (wy_pr rfl) wt_227 wf_7_1 (v := 229) wl_227_1 ?_
          refine wa_iload (n := 4) rfl ?_
          refine wb_lald 229 rfl (wy_pr rfl) wt_229 (n := (S 228 (-1))) ((w_up_slot (by decide)).trans (hpl)) (by omega) (by omega) (v := (es.getD i (0, 0)).2) ((w_up_slot (by decide)).trans (he2)) (fun r67 => ?_)
          refine wb_pfl 158 rfl (wy_pr rfl) wt_158 wf_5_17 (n := 17) rfl ⟨(by omega), (by omega)⟩ ?_
          refine wa_return rfl ?_
          have ea : anF cs S ty (es.getD i (0, 0) :: es.drop (i + 1)) = some (es.getD i (0, 0)) := by
            refine List.find?_cons_of_pos ?_
            rw [Bool.and_eq_true]
            exact ⟨decide_eq_true (by omega), bI_1 (by omega)⟩
          rw [ea]
          exact ⟨rfl, rfl⟩
theorem ath_162_226 {sb ty ba gk gb : Int} {es : List (Int × Int)} (hC : w_CL S) (hK : KC 176 186 182 203 204 163 162 T cs ms os S) (hw : wHo cs ms os) (h72 : S 72 1 = 162) (hlt : cLt S Th) (hT : (Th.length : Int) ≤ 8000) (hty : 0 ≤ ty ∧ ty < 9 + (cs.length : Int)) (l5 : S 158 5 = 227) (l8 : S 158 8 = ba) (l12 : S 158 12 = (es.length : Int)) (hpl : S 229 (-1) = S 228 (-1)) (hpb : 0 ≤ ba ∧ ba + 1 + (es.length : Int) ≤ S 228 (-1) ∧ S 228 (-1) ≤ 4095) (hes : ∀ i : Nat, i < es.length → S 228 (ba + 1 + (i : Int)) = (es.getD i (0, 0)).1 ∧ S 229 (ba + 1 + (i : Int)) = (es.getD i (0, 0)).2) (hev : ∀ i : Nat, i < es.length → okV (cs.length : Int) Th S (es.getD i (0, 0))) (l9 : S 158 9 = gk) (l10 : S 158 10 = gb) (hg : okV (cs.length : Int) Th S (gk, gb)) (hsb : sb = 0 ∨ sb = 1) : wJ (pe_GA xs) wY0 M (d + 2) t_XL_answerThing ((pe_at t_XL_answerThing.bl 0).getD (0, [])).2 [(0, (2, 158)), (1, (0, sb)), (2, (0, ty))] [] S (fun o Z => o = .inl none ∧ anU S (if sb = 0 ∧ isB cs S gk gb ty = true then some (gk, gb) else anF cs S ty es) = Z) := by
  have hgk := hg.1
  have hgb := hg.2.1
  refine wa_iload_n (n := 1) rfl ?_
  refine wa_ifne (w_rg0 (by omega) (by omega)) ⟨_, rfl⟩ (fun c1 => ?_) (fun c1 => ?_)
  · skip
    refine wa_iconst ?_
    refine wa_istore_n (n := 3) rfl ?_
    refine wa_fall ⟨_, rfl⟩ ?_
    rw [if_neg (by rintro ⟨z1, z2⟩; have y := bI_t z2; omega)]
    exact wJ_S (atl_162_226 hC hK hw h72 hlt hT hty l5 l8 l12 hpl hpb hes hev es.length 0 (by omega)) ⟨rfl, rfl, rfl, rfl, trivial⟩
  · skip
    refine wa_aload_n (n := 0) rfl ?_
    refine wa_aload_n (n := 0) rfl ?_
    refine wb_gfi 158 rfl (wy_pr rfl) wt_158 wf_5_9 (v := gk) (l9) (fun r2 => ?_)
    refine wa_aload_n (n := 0) rfl ?_
    refine wb_gfl 158 rfl (wy_pr rfl) wt_158 wf_5_10 (v := gb) (l10) (fun r3 => ?_)
    refine wa_iload_n (n := 2) rfl ?_
    refine wa_cv 158 rfl (wy_pr rfl) wt_158 (M2 := fun _ => False) rfl at_XL_isOf ⟨_, rfl⟩ rfl rfl ⟨(Or.inr ⟨wy_pr rfl, fun q => q⟩), trivial, trivial, trivial⟩ trivial (fun _ _ q => False.elim q) (iso_162 (Th := Th) (S := S) (k := gk) (v := gb) (ty := ty) hC hK hw h72 hlt hT hty hg) (fun oq4 Sq4 hp5 q4 => ?_)
    rcases q4 with ⟨rfl, rfl⟩
    show wJ _ _ _ _ _ _ _ _ _ _
    have hbz3 := bI_rg (isB cs S gk gb ty)
    refine wa_ifeq (w_rg0 (by omega) (by omega)) ⟨_, rfl⟩ (fun c6 => ?_) (fun c6 => ?_)
    · skip
      refine wa_iconst ?_
      refine wa_istore_n (n := 3) rfl ?_
      refine wa_fall ⟨_, rfl⟩ ?_
      rw [if_neg (by rintro ⟨z1, z2⟩; have y := bI_t z2; omega)]
      exact wJ_S (atl_162_226 hC hK hw h72 hlt hT hty l5 l8 l12 hpl hpb hes hev es.length 0 (by omega)) ⟨rfl, rfl, rfl, rfl, trivial⟩
    · skip
      refine wa_aload_n (n := 0) rfl ?_
      refine wa_aload_n (n := 0) rfl ?_
      refine wb_gfi 158 rfl (wy_pr rfl) wt_158 wf_5_9 (v := gk) (l9) (fun r7 => ?_)
      refine wb_pfi 158 rfl (wy_pr rfl) wt_158 wf_5_16 (n := 16) rfl ⟨(by omega), (by omega)⟩ ?_
      refine wa_aload_n (n := 0) rfl ?_
      refine wa_aload_n (n := 0) rfl ?_
      refine wb_gfl 158 rfl (wy_pr rfl) wt_158 wf_5_10 (v := gb) ((w_up_at (by decide)).trans (l10)) (fun r8 => ?_)
      refine wb_pfl 158 rfl (wy_pr rfl) wt_158 wf_5_17 (n := 17) rfl ⟨(by omega), (by omega)⟩ ?_
      refine wa_return rfl ?_
      rw [if_pos ⟨by omega, bI_1 (by omega)⟩]
      exact ⟨rfl, rfl⟩
theorem ant_162_226 {m sb ty ba gk gb : Int} {es : List (Int × Int)} (hC : w_CL S) (hK : KC 176 186 182 203 204 163 162 T cs ms os S) (hw : wHo cs ms os) (h72 : S 72 1 = 162) (hlt : cLt S Th) (hT : (Th.length : Int) ≤ 8000) (hty : 0 ≤ ty ∧ ty < 9 + (cs.length : Int)) (l5 : S 158 5 = 227) (l8 : S 158 8 = ba) (l12 : S 158 12 = (es.length : Int)) (hpl : S 229 (-1) = S 228 (-1)) (hpb : 0 ≤ ba ∧ ba + 1 + (es.length : Int) ≤ S 228 (-1) ∧ S 228 (-1) ≤ 4095) (hes : ∀ i : Nat, i < es.length → S 228 (ba + 1 + (i : Int)) = (es.getD i (0, 0)).1 ∧ S 229 (ba + 1 + (i : Int)) = (es.getD i (0, 0)).2) (hev : ∀ i : Nat, i < es.length → okV (cs.length : Int) Th S (es.getD i (0, 0))) (l9 : S 158 9 = gk) (l10 : S 158 10 = gb) (hg : okV (cs.length : Int) Th S (gk, gb)) (hm : 0 ≤ m ∧ m < 400) (hmt : S 189 m = ty) (hms : S 188 m = sb) (hsb : sb = 0 ∨ sb = 1) (ht8 : 8 ≤ ty) : wJ (pe_GA xs) wY0 M (d + 3) t_XL_answer ((pe_at t_XL_answer.bl 0).getD (0, [])).2 [(0, (2, 158)), (1, (0, m))] [] S (fun o Z => o = .inl none ∧ anU S (if sb = 0 ∧ isB cs S gk gb ty = true then some (gk, gb) else anF cs S ty es) = Z) := by
  have hn := KC_n hK
  have hn2 := hn.2.2
  refine wa_aload_n (n := 0) rfl ?_
  refine wb_gf4 158 rfl (wy_pr rfl) wt_158 wf_5_0 (v := 72) wl_158_0 ?_
  refine wb_gf5 72 rfl (wy_pr rfl) wt_72 wf_2_1 (v := 162) (h72) (fun r1 => ?_)
  refine wb_gf4 162 rfl (wy_pr rfl) wt_162 wf_3_3 (v := 185) wl_162_3 ?_
  refine wa_iconst ?_
  refine wb_aald5 185 3 rfl rfl (wy_pr rfl) wt_185 (by rw [show _ = _ from ((cl_185 hC))]; omega) wl_185_3 ?_
  refine wa_iload_n (n := 1) rfl ?_
  refine wb_iald 189 rfl (wy_pr rfl) wt_189 (n := 400) ((cl_189 hC)) (by omega) (by omega) (v := ty) (hmt) (fun r2 => ?_)
  refine wa_istore_n (n := 2) rfl ?_
  refine wa_iload_n (n := 2) rfl ?_
  refine wa_bipush (w_rg2 (by omega) (by omega)) ?_
  refine wa_icmpne (w_rg0 (by omega) (by omega)) (w_rg0 (by omega) (by omega)) ⟨_, rfl⟩ (fun c3 => ?_) (fun c3 => ?_)
  · skip
    refine wa_iload_n (n := 2) rfl ?_
    refine wa_bipush (w_rg2 (by omega) (by omega)) ?_
    refine wa_icmplt (w_rg0 (by omega) (by omega)) (w_rg0 (by omega) (by omega)) ⟨_, rfl⟩ (fun c4 => ?_) (fun c4 => ?_)
    · skip
      exact absurd c4 (by omega)
    · skip
      refine wa_aload_n (n := 0) rfl ?_
      refine wa_aload_n (n := 0) rfl ?_
      refine wb_gf4 158 rfl (wy_pr rfl) wt_158 wf_5_0 (v := 72) wl_158_0 ?_
      refine wb_gf5 72 rfl (wy_pr rfl) wt_72 wf_2_1 (v := 162) (h72) (fun r5 => ?_)
      refine wb_gf4 162 rfl (wy_pr rfl) wt_162 wf_3_3 (v := 185) wl_162_3 ?_
      refine wa_iconst ?_
      refine wb_aald5 185 2 rfl rfl (wy_pr rfl) wt_185 (by rw [show _ = _ from ((cl_185 hC))]; omega) wl_185_2 ?_
      refine wa_iload_n (n := 1) rfl ?_
      refine wb_iald 188 rfl (wy_pr rfl) wt_188 (n := 400) ((cl_188 hC)) (by omega) (by omega) (v := sb) (hms) (fun r6 => ?_)
      refine wa_iconst ?_
      refine wa_icmpne (w_rg0 (by omega) (by omega)) (w_rg0 (by omega) (by omega)) ⟨_, rfl⟩ (fun c7 => ?_) (fun c7 => ?_)
      · skip
        refine wa_iconst ?_
        refine wa_fall ⟨_, rfl⟩ ?_
        refine wa_iload_n (n := 2) rfl ?_
        refine wa_cv 158 rfl (wy_pr rfl) wt_158 (M2 := fun _ => False) rfl at_XL_answerThing ⟨_, rfl⟩ rfl rfl ⟨trivial, (Or.inr ⟨wy_pr rfl, fun q => q⟩), trivial, trivial⟩ trivial (fun _ _ q => False.elim q) (ath_162_226 (sb := 0) hC hK hw h72 hlt hT hty l5 l8 l12 hpl hpb hes hev l9 l10 hg (by omega)) (fun oq8 Sq8 hp9 q8 => ?_)
        rcases q8 with ⟨rfl, rfl⟩
        show wJ _ _ _ _ _ _ _ _ _ _
        refine wa_goto ⟨_, rfl⟩ ?_
        refine wa_return rfl ?_
        have esb : sb = 0 := by omega
        rw [esb]
        exact ⟨rfl, rfl⟩
      · skip
        refine wa_iconst ?_
        refine wa_goto ⟨_, rfl⟩ ?_
        refine wa_iload_n (n := 2) rfl ?_
        refine wa_cv 158 rfl (wy_pr rfl) wt_158 (M2 := fun _ => False) rfl at_XL_answerThing ⟨_, rfl⟩ rfl rfl ⟨trivial, (Or.inr ⟨wy_pr rfl, fun q => q⟩), trivial, trivial⟩ trivial (fun _ _ q => False.elim q) (ath_162_226 (sb := 1) hC hK hw h72 hlt hT hty l5 l8 l12 hpl hpb hes hev l9 l10 hg (by omega)) (fun oq10 Sq10 hp11 q10 => ?_)
        rcases q10 with ⟨rfl, rfl⟩
        show wJ _ _ _ _ _ _ _ _ _ _
        refine wa_goto ⟨_, rfl⟩ ?_
        refine wa_return rfl ?_
        have esb : sb = 1 := by omega
        rw [esb]
        exact ⟨rfl, rfl⟩
  · skip
    exact absurd c3 (by omega)
end Whl
