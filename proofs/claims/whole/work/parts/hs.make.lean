/-! PART hs: the class: construct whole. -/
section Whs
variable {xs : List (Nat × List Int32)} {M : Nat → Prop} {d : Nat} {S Z A : wS} {T : Int → Int} {cs : List hCR} {ms : List hMR} {os : Int → List Int} {Q : wO → wS → Prop}
/-- an instance has been made: the thing, its fields, its arguments, first values -/
def coR (g st k : Int) (nf : Nat) (ty pt : Nat → Int) (es : List (Int × Int)) (S Z : wS) : Prop := ∃ B C D E : wS, at_ag 7 (-1) k (nf : Int) S B ∧ cvR g st (st + (nf : Int)) nf nf B C ∧ cuR st nf (csF nf ty pt 0 es (fun _ => (-1, 0))) C D ∧ fvR st ty nf D E ∧ w_up (w_up E 158 16 7) 158 17 g = Z
set_option maxHeartbeats 4000000 in
theorem con_73_215 {m k g st ba u0 v0 : Int} {nf : Nat} {fd ty : Nat → Int} {es : List (Int × Int)} (hC : w_CL S) (hI : gI S) (hK : KC 87 97 93 114 115 74 73 T cs ms os S) (hw : wHo cs ms os) (h72 : S 72 1 = 73) (l5 : S 158 5 = 216) (l8 : S 158 8 = ba) (l12 : S 158 12 = (es.length : Int)) (hm : 0 ≤ m ∧ m < (ms.length : Int)) (hpn : 0 < es.length → 1 ≤ (hmR ms m).2.2.2.2.1.length) (he8 : es.length ≤ 1000) (hpl : S 218 (-1) = S 217 (-1)) (hpb : 0 ≤ ba ∧ ba + 1 + (es.length : Int) ≤ S 217 (-1) ∧ S 217 (-1) ≤ 4095) (hes : ∀ i : Nat, i < es.length → S 217 (ba + 1 + (i : Int)) = (es.getD i (0, 0)).1 ∧ S 218 (ba + 1 + (i : Int)) = (es.getD i (0, 0)).2) (hev : ∀ i : Nat, i < es.length → (-128 ≤ (es.getD i (0, 0)).1 ∧ (es.getD i (0, 0)).1 ≤ 127) ∧ (-9223372036854775808 ≤ (es.getD i (0, 0)).2 ∧ (es.getD i (0, 0)).2 ≤ 9223372036854775807)) (hl : S 142 (-1) = S 141 (-1)) (hz : 16 ≤ S 141 (-1) ∧ S 141 (-1) ≤ 480400) (h2 : S 140 2 = st) (hst : 0 ≤ st ∧ st ≤ S 141 (-1) ∧ st + (nf : Int) ≤ 240200) (hfd : ∀ i : Nat, i < nf → 0 ≤ fd i ∧ fd i < 400) (hft : ∀ i : Nat, i < nf → S 100 (fd i) = ty i) (hfb : ∀ i : Nat, i + 1 < nf → S 113 (fd (i + 1)) = fd i) (hnf : nf ≤ 1000) (hth : ∀ x : Nat, x < 10 → S (127 + x) (-1) = S 127 (-1)) (hn : S 72 3 = g) (hn1 : 0 ≤ g ∧ g ≤ S 127 (-1) ∧ g ≤ 8000) (hn2 : 64 ≤ S 127 (-1) ∧ S 127 (-1) ≤ 16383) (hu0 : S 150 0 = u0) (hu1 : 0 ≤ u0 ∧ u0 ≤ 8000) (hv : S 150 1 = v0) (hv0 : 0 ≤ v0 ∧ v0 + (nf : Int) ≤ 60000) (hk : S 97 m = k) (hk1 : 0 ≤ k ∧ k < 60) (hkn : S 94 k = (nf : Int)) (hla : 0 < nf → S 95 k = fd (nf - 1)) : wJ (pe_GA xs) wY0 (mS [127, 128, 129, 130, 131, 132, 133, 134, 135, 136, 141, 142]) (d + 6) t_XL_construct ((pe_at t_XL_construct.bl 0).getD (0, [])).2 [(0, (2, 158)), (1, (0, m))] [] S (fun o Z => o = .inl none ∧ coR g st k nf ty (fun i => prT (hmR ms m) i) es S Z) := by
  have hwg : wG = 1000000 := rfl
  have hn4 := (KC_n hK).2.2
  refine wa_aload_n (n := 0) rfl ?_
  refine wb_gf4 158 rfl (wy_pr rfl) wt_158 wf_5_0 (v := 72) wl_158_0 ?_
  refine wb_gf5 72 rfl (wy_pr rfl) wt_72 wf_2_1 (v := 73) (h72) (fun r1 => ?_)
  refine wa_astore_n (n := 2) rfl ?_
  refine wa_aload_n (n := 2) rfl ?_
  refine wb_gf4 73 rfl (wy_pr rfl) wt_73 wf_3_3 (v := 96) wl_73_3 ?_
  refine wa_iconst ?_
  refine wb_aald5 96 0 rfl rfl (wy_pr rfl) wt_96 (by rw [show _ = _ from ((cl_96 hC))]; omega) wl_96_0 ?_
  refine wa_iload_n (n := 1) rfl ?_
  refine wb_iald 97 rfl (wy_pr rfl) wt_97 (n := 400) ((cl_97 hC)) (by omega) (by omega) (v := k) (hk) (fun r2 => ?_)
  refine wa_istore_n (n := 3) rfl ?_
  refine wa_aload_n (n := 2) rfl ?_
  refine wb_gf4 73 rfl (wy_pr rfl) wt_73 wf_3_1 (v := 86) wl_73_1 ?_
  refine wa_bipush (w_rg2 (by omega) (by omega)) ?_
  refine wb_aald5 86 7 rfl rfl (wy_pr rfl) wt_86 (by rw [show _ = _ from ((cl_86 hC))]; omega) wl_86_7 ?_
  refine wa_iload_n (n := 3) rfl ?_
  refine wb_iald 94 rfl (wy_pr rfl) wt_94 (n := 60) ((cl_94 hC)) (by omega) (by omega) (v := (nf : Int)) (hkn) (fun r3 => ?_)
  refine wa_istore (n := 4) rfl ?_
  refine wa_aload_n (n := 0) rfl ?_
  refine wb_gf4 158 rfl (wy_pr rfl) wt_158 wf_5_0 (v := 72) wl_158_0 ?_
  refine wa_bipush (w_rg2 (by omega) (by omega)) ?_
  refine wa_iconst ?_
  refine wa_iload_n (n := 3) rfl ?_
  refine wa_iload (n := 4) rfl ?_
  have at4a : S 141 (-1) = (S 141 (-1)) := (rfl)
  have at4b : S 142 (-1) = S 141 (-1) := ((hl) : S 142 (-1) = (S 141 (-1))).trans at4a.symm
  have at4c : S 127 (-1) = (S 127 (-1)) := (rfl)
  have at4d : ∀ x : Nat, x < 10 → S (127 + x) (-1) = S 127 (-1) := hth
  refine wa_cv 72 rfl (wy_pr rfl) wt_72 (M2 := mS [127, 128, 129, 130, 131, 132, 133, 134, 135, 136, 141, 142]) rfl at_XH_addThing ⟨_, rfl⟩ rfl rfl ⟨trivial, trivial, (Or.inr ⟨wy_pr rfl, mS_no rfl⟩), (Or.inr ⟨wy_pr rfl, mS_no rfl⟩), trivial, trivial⟩ trivial (fun _ _ q => mS_sub (by decide) q) (atH_ok (S := S) (kd := 7) (sh := (-1)) (fo := k) (rm := (nf : Int)) (cs := st) (n := g) (u0 := u0) hC hI (h2) ⟨by omega, by omega⟩ at4b ⟨by omega, by omega⟩ at4d (hn) ⟨by omega, by omega⟩ ⟨by omega, by omega⟩ (hu0) ⟨by omega, by omega⟩ ⟨by omega, by omega⟩ ⟨by omega, by omega⟩ ⟨by omega, by omega⟩ ⟨by omega, by omega⟩) (fun oq4 Sq4 hp5 q4 => ?_)
  rcases q4 with ⟨rfl, at4⟩
  show wJ _ _ _ _ _ _ _ _ _ _
  have at4e := at4.2.2.2.2.2.2.1.2
  have at4f := at4.2.2.2.2.2.1
  refine wa_istore (n := 5) rfl ?_
  refine wa_iconst ?_
  refine wa_istore (n := 6) rfl ?_
  refine wa_fall ⟨_, rfl⟩ ?_
  obtain ⟨⟨t1, t2⟩, ⟨⟨t3, t4, t5⟩, -, t9, t10, t11, -⟩, -, t14, -, ⟨t16, t17, t18, t19⟩, ⟨t20, t21, t22, t23⟩, t24, t25, t26⟩ := id at4
  rw [hn] at t5 t9 t10 t11 t21 t23
  rw [h2] at t9 t14 t17 t19
  have hCB : w_CL Sq4 := CL_at hC at4
  have eB1 : Sq4 150 1 = v0 := (t24 150 1 (by first | decide | omega) (by first | decide | omega) (by first | decide | omega) (by first | decide | omega) (by first | decide | omega) (by first | decide | omega) (by first | decide | omega) (by first | decide | omega)).trans hv
  have hc0 : cvR g st (st + (nf : Int)) nf 0 Sq4 Sq4 := ⟨⟨t10, by omega⟩, ⟨t9, t11, t14⟩, fun i hi => absurd hi (by omega), fun i _ _ _ => ⟨rfl, rfl⟩, ⟨t16, by omega, by omega, Or.inl rfl⟩, fun j i _ _ _ _ _ _ => rfl, t25, rmR_rfl _⟩
  refine wJ_S (cvl_73 (A := Sq4) (m := m) (k := k) (g := g) (st := st) (cs := st + (nf : Int)) (v0 := v0) (nf := nf) hCB t20 (by omega) ⟨by omega, by omega⟩ ⟨by omega, by omega⟩ ⟨by omega, by omega, by omega⟩ hnf eB1 hv0 nf 0 (by omega) Sq4 hc0 (fun C hc => ?_)) ⟨rfl, rfl, rfl, rfl, rfl, rfl, rfl, trivial⟩
  obtain ⟨⟨c1, c2⟩, ⟨c3, c4, c5⟩, c6, -, ⟨c8, c9, c10, c11⟩, c12, c13, -⟩ := id hc
  have hCC : w_CL C := CL_cv hCB (by omega) hc
  have fC : ∀ (j : Nat) (i : Int), j < 4000000 → j ≠ wG → (j < 127 ∨ 136 < j) → j ≠ 141 → j ≠ 142 → j ≠ 72 → j ≠ 140 → j ≠ 150 → C j i = S j i := fun j i a1 a2 a3 a4 a5 a6 a7 a8 => (c12 j i a1 a2 a4 a5 (Or.inl (by omega)) (Or.inl a8)).trans (t24 j i a1 a2 a3 a4 a5 (Or.inl a6) (Or.inl a7) (Or.inl a8))
  have k72 : C 72 1 = 73 := ((c12 72 1 (by first | decide | omega) (by first | decide | omega) (by first | decide | omega) (by first | decide | omega) (Or.inl (by first | decide | omega)) (Or.inl (by first | decide | omega))).trans (t24 72 1 (by first | decide | omega) (by first | decide | omega) (by first | decide | omega) (by first | decide | omega) (by first | decide | omega) (by first | decide | omega) (by first | decide | omega) (by first | decide | omega))).trans h72
  have hKC : KC 87 97 93 114 115 74 73 T cs ms os C := KC_ag hK (fC 73 2 (by first | decide | omega) (by first | decide | omega) (by first | decide | omega) (by first | decide | omega) (by first | decide | omega) (by first | decide | omega) (by first | decide | omega) (by first | decide | omega)) (fC 73 4 (by first | decide | omega) (by first | decide | omega) (by first | decide | omega) (by first | decide | omega) (by first | decide | omega) (by first | decide | omega) (by first | decide | omega) (by first | decide | omega)) (fun j hj => funext fun i => fC j i (by omega) (by omega) (by omega) (by omega) (by omega) (by omega) (by omega) (by omega))
  have m5 : C 158 5 = 216 := (fC 158 5 (by first | decide | omega) (by first | decide | omega) (by first | decide | omega) (by first | decide | omega) (by first | decide | omega) (by first | decide | omega) (by first | decide | omega) (by first | decide | omega)).trans l5
  have m8 : C 158 8 = ba := (fC 158 8 (by first | decide | omega) (by first | decide | omega) (by first | decide | omega) (by first | decide | omega) (by first | decide | omega) (by first | decide | omega) (by first | decide | omega) (by first | decide | omega)).trans l8
  have m12 : C 158 12 = (es.length : Int) := (fC 158 12 (by first | decide | omega) (by first | decide | omega) (by first | decide | omega) (by first | decide | omega) (by first | decide | omega) (by first | decide | omega) (by first | decide | omega) (by first | decide | omega)).trans l12
  have e2 : C 217 (-1) = S 217 (-1) := fC 217 (-1) (by first | decide | omega) (by first | decide | omega) (by first | decide | omega) (by first | decide | omega) (by first | decide | omega) (by first | decide | omega) (by first | decide | omega) (by first | decide | omega)
  have e3 : C 218 (-1) = S 218 (-1) := fC 218 (-1) (by first | decide | omega) (by first | decide | omega) (by first | decide | omega) (by first | decide | omega) (by first | decide | omega) (by first | decide | omega) (by first | decide | omega) (by first | decide | omega)
  have q127 : ∀ x : Nat, x < 10 → C (127 + x) (-1) = Sq4 (127 + x) (-1) := fun x hx => c12 (127 + x) (-1) (by omega) (by omega) (by omega) (by omega) (Or.inr (by omega)) (Or.inr (by first | decide | omega))
  have q0 : C 127 (-1) = Sq4 127 (-1) := q127 0 (by first | decide | omega)
  have hthC : ∀ x : Nat, x < 10 → C (127 + x) (-1) = C 127 (-1) := fun x hx => by rw [q127 x hx, q0]; exact t20 x hx
  have k129 : C 129 g = k := (c12 129 g (by first | decide | omega) (by first | decide | omega) (by first | decide | omega) (by first | decide | omega) (Or.inl (by first | decide | omega)) (Or.inl (by first | decide | omega))).trans t5
  have hftC : ∀ i : Nat, i < nf → C 100 (fd i) = ty i := fun i hi => (fC 100 _ (by first | decide | omega) (by first | decide | omega) (by first | decide | omega) (by first | decide | omega) (by first | decide | omega) (by first | decide | omega) (by first | decide | omega) (by first | decide | omega)).trans (hft i hi)
  have hfbC : ∀ i : Nat, i + 1 < nf → C 113 (fd (i + 1)) = fd i := fun i hi => (fC 113 _ (by first | decide | omega) (by first | decide | omega) (by first | decide | omega) (by first | decide | omega) (by first | decide | omega) (by first | decide | omega) (by first | decide | omega) (by first | decide | omega)).trans (hfb i hi)
  have hlaC : 0 < nf → C 95 k = fd (nf - 1) := fun z => (fC 95 _ (by first | decide | omega) (by first | decide | omega) (by first | decide | omega) (by first | decide | omega) (by first | decide | omega) (by first | decide | omega) (by first | decide | omega) (by first | decide | omega)).trans (hla z)
  have hcu : cuR st nf (fun _ => (-1, 0)) C C := ⟨fun i hi => c6 i hi, fun j i _ => rfl⟩
  refine wa_iconst ?_
  refine wa_istore (n := 6) rfl ?_
  refine wa_fall ⟨_, rfl⟩ ?_
  refine wJ_S (cml_73_215 (A := C) (m := m) (k := k) (g := g) (st := st) (ba := ba) (nf := nf) (fd := fd) (ty := ty) (es := es) hCC hKC hw k72 m5 m8 m12 hm hpn he8 (by rw [e2, e3]; exact hpl) (by rw [e2]; exact hpb) (fun i hi => ⟨(fC 217 _ (by first | decide | omega) (by first | decide | omega) (by first | decide | omega) (by first | decide | omega) (by first | decide | omega) (by first | decide | omega) (by first | decide | omega) (by first | decide | omega)).trans (hes i hi).1, (fC 218 _ (by first | decide | omega) (by first | decide | omega) (by first | decide | omega) (by first | decide | omega) (by first | decide | omega) (by first | decide | omega) (by first | decide | omega) (by first | decide | omega)).trans (hes i hi).2⟩) hev c8 ⟨by omega, by omega⟩ ⟨by omega, by omega⟩ hfd hftC hfbC hnf hthC (by omega) ⟨by omega, by omega⟩ k129 hk1 c3 c1 hlaC es.length 0 (by omega) C _ hcu (fun D hD => ?_)) ⟨rfl, rfl, rfl, rfl, rfl, rfl, rfl, trivial⟩
  have hCD : w_CL D := CL_cu hCC hst.1 hD
  have fD : ∀ (j : Nat) (i : Int), ((j ≠ 141 ∧ j ≠ 142) ∨ i < st ∨ st + (nf : Int) ≤ i) → D j i = C j i := hD.2
  have d127 : ∀ x : Nat, x < 10 → D (127 + x) (-1) = D 127 (-1) := fun x hx => by rw [fD (127 + x) (-1) (Or.inl ⟨by omega, by omega⟩), fD 127 (-1) (Or.inl ⟨by omega, by omega⟩)]; exact hthC x hx
  have dl0 : D 127 (-1) = C 127 (-1) := fD 127 (-1) (Or.inl ⟨by omega, by omega⟩)
  have d72 : D 72 1 = 73 := (fD 72 1 (by omega)).trans k72
  have d133 : D 133 g = st := (fD 133 g (by omega)).trans c3
  have dl1 : D 141 (-1) = C 141 (-1) := fD 141 (-1) (by omega)
  have dl2 : D 142 (-1) = C 142 (-1) := fD 142 (-1) (by omega)
  refine wa_aload_n (n := 0) rfl ?_
  refine wb_gf4 158 rfl (wy_pr rfl) wt_158 wf_5_0 (v := 72) wl_158_0 ?_
  refine wb_gf4 72 rfl (wy_pr rfl) wt_72 wf_2_2 (v := 126) wl_72_2 ?_
  refine wa_bipush (w_rg2 (by omega) (by omega)) ?_
  refine wb_aald5 126 6 rfl rfl (wy_pr rfl) wt_126 (by rw [show _ = _ from ((cl_126 hCD))]; omega) wl_126_6 ?_
  refine wa_iload (n := 5) rfl ?_
  refine wb_iald 133 rfl (wy_pr rfl) wt_133 (n := (D 127 (-1))) ((d127 6 (by decide))) (by omega) (by omega) (v := st) (d133) (fun r6 => ?_)
  refine wa_istore (n := 6) rfl ?_
  refine wa_aload_n (n := 2) rfl ?_
  refine wb_gf4 73 rfl (wy_pr rfl) wt_73 wf_3_1 (v := 86) wl_73_1 ?_
  refine wa_bipush (w_rg2 (by omega) (by omega)) ?_
  refine wb_aald5 86 8 rfl rfl (wy_pr rfl) wt_86 (by rw [show _ = _ from ((cl_86 hCD))]; omega) wl_86_8 ?_
  refine wa_iload_n (n := 3) rfl ?_
  refine wb_iald 95 rfl (wy_pr rfl) wt_95 (n := 60) ((cl_95 hCD)) (by omega) (by omega) (v := (D 95 k)) rfl (fun r7 => ?_)
  refine wa_istore (n := 7) rfl ?_
  refine wa_iload (n := 6) rfl ?_
  refine wa_iload (n := 4) rfl ?_
  refine wa_iadd ?_
  refine wa_iconst ?_
  refine wa_isub ?_
  refine wa_istore (n := 8) rfl ?_
  refine wa_fall ⟨_, rfl⟩ ?_
  refine wJ_mono (wJ_S (cfl_73 (m := m) (k := k) (g := g) (st := st) (nf := nf) (fd := fd) (ty := ty) hfd hnf ⟨by omega, by omega⟩ nf (by omega) D (D 95 k) ((st + (nf : Int)) - 1) hCD d72 (by rw [dl1, dl2]; exact c8) ⟨by omega, by omega⟩ ⟨by omega, by omega⟩ (fun i hi => (fD _ _ (Or.inl ⟨by decide, by decide⟩)).trans (hftC i hi)) (fun i hi => (fD _ _ (Or.inl ⟨by decide, by decide⟩)).trans (hfbC i hi)) (fun z => (fD _ _ (Or.inl ⟨by decide, by decide⟩)).trans (hlaC z)) (by omega)) ⟨rfl, rfl, rfl, rfl, rfl, rfl, rfl, rfl, rfl, trivial⟩) (fun o Z hz => ⟨hz.1, ?_⟩)
  obtain ⟨E, z1, z2⟩ := hz.2
  exact ⟨_, C, D, E, at4, hc, hD, z1, z2⟩
set_option maxHeartbeats 4000000 in
theorem con_73_226 {m k g st ba u0 v0 : Int} {nf : Nat} {fd ty : Nat → Int} {es : List (Int × Int)} (hC : w_CL S) (hI : gI S) (hK : KC 87 97 93 114 115 74 73 T cs ms os S) (hw : wHo cs ms os) (h72 : S 72 1 = 73) (l5 : S 158 5 = 227) (l8 : S 158 8 = ba) (l12 : S 158 12 = (es.length : Int)) (hm : 0 ≤ m ∧ m < (ms.length : Int)) (hpn : 0 < es.length → 1 ≤ (hmR ms m).2.2.2.2.1.length) (he8 : es.length ≤ 1000) (hpl : S 229 (-1) = S 228 (-1)) (hpb : 0 ≤ ba ∧ ba + 1 + (es.length : Int) ≤ S 228 (-1) ∧ S 228 (-1) ≤ 4095) (hes : ∀ i : Nat, i < es.length → S 228 (ba + 1 + (i : Int)) = (es.getD i (0, 0)).1 ∧ S 229 (ba + 1 + (i : Int)) = (es.getD i (0, 0)).2) (hev : ∀ i : Nat, i < es.length → (-128 ≤ (es.getD i (0, 0)).1 ∧ (es.getD i (0, 0)).1 ≤ 127) ∧ (-9223372036854775808 ≤ (es.getD i (0, 0)).2 ∧ (es.getD i (0, 0)).2 ≤ 9223372036854775807)) (hl : S 142 (-1) = S 141 (-1)) (hz : 16 ≤ S 141 (-1) ∧ S 141 (-1) ≤ 480400) (h2 : S 140 2 = st) (hst : 0 ≤ st ∧ st ≤ S 141 (-1) ∧ st + (nf : Int) ≤ 240200) (hfd : ∀ i : Nat, i < nf → 0 ≤ fd i ∧ fd i < 400) (hft : ∀ i : Nat, i < nf → S 100 (fd i) = ty i) (hfb : ∀ i : Nat, i + 1 < nf → S 113 (fd (i + 1)) = fd i) (hnf : nf ≤ 1000) (hth : ∀ x : Nat, x < 10 → S (127 + x) (-1) = S 127 (-1)) (hn : S 72 3 = g) (hn1 : 0 ≤ g ∧ g ≤ S 127 (-1) ∧ g ≤ 8000) (hn2 : 64 ≤ S 127 (-1) ∧ S 127 (-1) ≤ 16383) (hu0 : S 150 0 = u0) (hu1 : 0 ≤ u0 ∧ u0 ≤ 8000) (hv : S 150 1 = v0) (hv0 : 0 ≤ v0 ∧ v0 + (nf : Int) ≤ 60000) (hk : S 97 m = k) (hk1 : 0 ≤ k ∧ k < 60) (hkn : S 94 k = (nf : Int)) (hla : 0 < nf → S 95 k = fd (nf - 1)) : wJ (pe_GA xs) wY0 (mS [127, 128, 129, 130, 131, 132, 133, 134, 135, 136, 141, 142]) (d + 6) t_XL_construct ((pe_at t_XL_construct.bl 0).getD (0, [])).2 [(0, (2, 158)), (1, (0, m))] [] S (fun o Z => o = .inl none ∧ coR g st k nf ty (fun i => prT (hmR ms m) i) es S Z) := by
  have hwg : wG = 1000000 := rfl
  have hn4 := (KC_n hK).2.2
  refine wa_aload_n (n := 0) rfl ?_
  refine wb_gf4 158 rfl (wy_pr rfl) wt_158 wf_5_0 (v := 72) wl_158_0 ?_
  refine wb_gf5 72 rfl (wy_pr rfl) wt_72 wf_2_1 (v := 73) (h72) (fun r1 => ?_)
  refine wa_astore_n (n := 2) rfl ?_
  refine wa_aload_n (n := 2) rfl ?_
  refine wb_gf4 73 rfl (wy_pr rfl) wt_73 wf_3_3 (v := 96) wl_73_3 ?_
  refine wa_iconst ?_
  refine wb_aald5 96 0 rfl rfl (wy_pr rfl) wt_96 (by rw [show _ = _ from ((cl_96 hC))]; omega) wl_96_0 ?_
  refine wa_iload_n (n := 1) rfl ?_
  refine wb_iald 97 rfl (wy_pr rfl) wt_97 (n := 400) ((cl_97 hC)) (by omega) (by omega) (v := k) (hk) (fun r2 => ?_)
  refine wa_istore_n (n := 3) rfl ?_
  refine wa_aload_n (n := 2) rfl ?_
  refine wb_gf4 73 rfl (wy_pr rfl) wt_73 wf_3_1 (v := 86) wl_73_1 ?_
  refine wa_bipush (w_rg2 (by omega) (by omega)) ?_
  refine wb_aald5 86 7 rfl rfl (wy_pr rfl) wt_86 (by rw [show _ = _ from ((cl_86 hC))]; omega) wl_86_7 ?_
  refine wa_iload_n (n := 3) rfl ?_
  refine wb_iald 94 rfl (wy_pr rfl) wt_94 (n := 60) ((cl_94 hC)) (by omega) (by omega) (v := (nf : Int)) (hkn) (fun r3 => ?_)
  refine wa_istore (n := 4) rfl ?_
  refine wa_aload_n (n := 0) rfl ?_
  refine wb_gf4 158 rfl (wy_pr rfl) wt_158 wf_5_0 (v := 72) wl_158_0 ?_
  refine wa_bipush (w_rg2 (by omega) (by omega)) ?_
  refine wa_iconst ?_
  refine wa_iload_n (n := 3) rfl ?_
  refine wa_iload (n := 4) rfl ?_
  have at4a : S 141 (-1) = (S 141 (-1)) := (rfl)
  have at4b : S 142 (-1) = S 141 (-1) := ((hl) : S 142 (-1) = (S 141 (-1))).trans at4a.symm
  have at4c : S 127 (-1) = (S 127 (-1)) := (rfl)
  have at4d : ∀ x : Nat, x < 10 → S (127 + x) (-1) = S 127 (-1) := hth
  refine wa_cv 72 rfl (wy_pr rfl) wt_72 (M2 := mS [127, 128, 129, 130, 131, 132, 133, 134, 135, 136, 141, 142]) rfl at_XH_addThing ⟨_, rfl⟩ rfl rfl ⟨trivial, trivial, (Or.inr ⟨wy_pr rfl, mS_no rfl⟩), (Or.inr ⟨wy_pr rfl, mS_no rfl⟩), trivial, trivial⟩ trivial (fun _ _ q => mS_sub (by decide) q) (atH_ok (S := S) (kd := 7) (sh := (-1)) (fo := k) (rm := (nf : Int)) (cs := st) (n := g) (u0 := u0) hC hI (h2) ⟨by omega, by omega⟩ at4b ⟨by omega, by omega⟩ at4d (hn) ⟨by omega, by omega⟩ ⟨by omega, by omega⟩ (hu0) ⟨by omega, by omega⟩ ⟨by omega, by omega⟩ ⟨by omega, by omega⟩ ⟨by omega, by omega⟩ ⟨by omega, by omega⟩) (fun oq4 Sq4 hp5 q4 => ?_)
  rcases q4 with ⟨rfl, at4⟩
  show wJ _ _ _ _ _ _ _ _ _ _
  have at4e := at4.2.2.2.2.2.2.1.2
  have at4f := at4.2.2.2.2.2.1
  refine wa_istore (n := 5) rfl ?_
  refine wa_iconst ?_
  refine wa_istore (n := 6) rfl ?_
  refine wa_fall ⟨_, rfl⟩ ?_
  obtain ⟨⟨t1, t2⟩, ⟨⟨t3, t4, t5⟩, -, t9, t10, t11, -⟩, -, t14, -, ⟨t16, t17, t18, t19⟩, ⟨t20, t21, t22, t23⟩, t24, t25, t26⟩ := id at4
  rw [hn] at t5 t9 t10 t11 t21 t23
  rw [h2] at t9 t14 t17 t19
  have hCB : w_CL Sq4 := CL_at hC at4
  have eB1 : Sq4 150 1 = v0 := (t24 150 1 (by first | decide | omega) (by first | decide | omega) (by first | decide | omega) (by first | decide | omega) (by first | decide | omega) (by first | decide | omega) (by first | decide | omega) (by first | decide | omega)).trans hv
  have hc0 : cvR g st (st + (nf : Int)) nf 0 Sq4 Sq4 := ⟨⟨t10, by omega⟩, ⟨t9, t11, t14⟩, fun i hi => absurd hi (by omega), fun i _ _ _ => ⟨rfl, rfl⟩, ⟨t16, by omega, by omega, Or.inl rfl⟩, fun j i _ _ _ _ _ _ => rfl, t25, rmR_rfl _⟩
  refine wJ_S (cvl_73 (A := Sq4) (m := m) (k := k) (g := g) (st := st) (cs := st + (nf : Int)) (v0 := v0) (nf := nf) hCB t20 (by omega) ⟨by omega, by omega⟩ ⟨by omega, by omega⟩ ⟨by omega, by omega, by omega⟩ hnf eB1 hv0 nf 0 (by omega) Sq4 hc0 (fun C hc => ?_)) ⟨rfl, rfl, rfl, rfl, rfl, rfl, rfl, trivial⟩
  obtain ⟨⟨c1, c2⟩, ⟨c3, c4, c5⟩, c6, -, ⟨c8, c9, c10, c11⟩, c12, c13, -⟩ := id hc
  have hCC : w_CL C := CL_cv hCB (by omega) hc
  have fC : ∀ (j : Nat) (i : Int), j < 4000000 → j ≠ wG → (j < 127 ∨ 136 < j) → j ≠ 141 → j ≠ 142 → j ≠ 72 → j ≠ 140 → j ≠ 150 → C j i = S j i := fun j i a1 a2 a3 a4 a5 a6 a7 a8 => (c12 j i a1 a2 a4 a5 (Or.inl (by omega)) (Or.inl a8)).trans (t24 j i a1 a2 a3 a4 a5 (Or.inl a6) (Or.inl a7) (Or.inl a8))
  have k72 : C 72 1 = 73 := ((c12 72 1 (by first | decide | omega) (by first | decide | omega) (by first | decide | omega) (by first | decide | omega) (Or.inl (by first | decide | omega)) (Or.inl (by first | decide | omega))).trans (t24 72 1 (by first | decide | omega) (by first | decide | omega) (by first | decide | omega) (by first | decide | omega) (by first | decide | omega) (by first | decide | omega) (by first | decide | omega) (by first | decide | omega))).trans h72
  have hKC : KC 87 97 93 114 115 74 73 T cs ms os C := KC_ag hK (fC 73 2 (by first | decide | omega) (by first | decide | omega) (by first | decide | omega) (by first | decide | omega) (by first | decide | omega) (by first | decide | omega) (by first | decide | omega) (by first | decide | omega)) (fC 73 4 (by first | decide | omega) (by first | decide | omega) (by first | decide | omega) (by first | decide | omega) (by first | decide | omega) (by first | decide | omega) (by first | decide | omega) (by first | decide | omega)) (fun j hj => funext fun i => fC j i (by omega) (by omega) (by omega) (by omega) (by omega) (by omega) (by omega) (by omega))
  have m5 : C 158 5 = 227 := (fC 158 5 (by first | decide | omega) (by first | decide | omega) (by first | decide | omega) (by first | decide | omega) (by first | decide | omega) (by first | decide | omega) (by first | decide | omega) (by first | decide | omega)).trans l5
  have m8 : C 158 8 = ba := (fC 158 8 (by first | decide | omega) (by first | decide | omega) (by first | decide | omega) (by first | decide | omega) (by first | decide | omega) (by first | decide | omega) (by first | decide | omega) (by first | decide | omega)).trans l8
  have m12 : C 158 12 = (es.length : Int) := (fC 158 12 (by first | decide | omega) (by first | decide | omega) (by first | decide | omega) (by first | decide | omega) (by first | decide | omega) (by first | decide | omega) (by first | decide | omega) (by first | decide | omega)).trans l12
  have e2 : C 228 (-1) = S 228 (-1) := fC 228 (-1) (by first | decide | omega) (by first | decide | omega) (by first | decide | omega) (by first | decide | omega) (by first | decide | omega) (by first | decide | omega) (by first | decide | omega) (by first | decide | omega)
  have e3 : C 229 (-1) = S 229 (-1) := fC 229 (-1) (by first | decide | omega) (by first | decide | omega) (by first | decide | omega) (by first | decide | omega) (by first | decide | omega) (by first | decide | omega) (by first | decide | omega) (by first | decide | omega)
  have q127 : ∀ x : Nat, x < 10 → C (127 + x) (-1) = Sq4 (127 + x) (-1) := fun x hx => c12 (127 + x) (-1) (by omega) (by omega) (by omega) (by omega) (Or.inr (by omega)) (Or.inr (by first | decide | omega))
  have q0 : C 127 (-1) = Sq4 127 (-1) := q127 0 (by first | decide | omega)
  have hthC : ∀ x : Nat, x < 10 → C (127 + x) (-1) = C 127 (-1) := fun x hx => by rw [q127 x hx, q0]; exact t20 x hx
  have k129 : C 129 g = k := (c12 129 g (by first | decide | omega) (by first | decide | omega) (by first | decide | omega) (by first | decide | omega) (Or.inl (by first | decide | omega)) (Or.inl (by first | decide | omega))).trans t5
  have hftC : ∀ i : Nat, i < nf → C 100 (fd i) = ty i := fun i hi => (fC 100 _ (by first | decide | omega) (by first | decide | omega) (by first | decide | omega) (by first | decide | omega) (by first | decide | omega) (by first | decide | omega) (by first | decide | omega) (by first | decide | omega)).trans (hft i hi)
  have hfbC : ∀ i : Nat, i + 1 < nf → C 113 (fd (i + 1)) = fd i := fun i hi => (fC 113 _ (by first | decide | omega) (by first | decide | omega) (by first | decide | omega) (by first | decide | omega) (by first | decide | omega) (by first | decide | omega) (by first | decide | omega) (by first | decide | omega)).trans (hfb i hi)
  have hlaC : 0 < nf → C 95 k = fd (nf - 1) := fun z => (fC 95 _ (by first | decide | omega) (by first | decide | omega) (by first | decide | omega) (by first | decide | omega) (by first | decide | omega) (by first | decide | omega) (by first | decide | omega) (by first | decide | omega)).trans (hla z)
  have hcu : cuR st nf (fun _ => (-1, 0)) C C := ⟨fun i hi => c6 i hi, fun j i _ => rfl⟩
  refine wa_iconst ?_
  refine wa_istore (n := 6) rfl ?_
  refine wa_fall ⟨_, rfl⟩ ?_
  refine wJ_S (cml_73_226 (A := C) (m := m) (k := k) (g := g) (st := st) (ba := ba) (nf := nf) (fd := fd) (ty := ty) (es := es) hCC hKC hw k72 m5 m8 m12 hm hpn he8 (by rw [e2, e3]; exact hpl) (by rw [e2]; exact hpb) (fun i hi => ⟨(fC 228 _ (by first | decide | omega) (by first | decide | omega) (by first | decide | omega) (by first | decide | omega) (by first | decide | omega) (by first | decide | omega) (by first | decide | omega) (by first | decide | omega)).trans (hes i hi).1, (fC 229 _ (by first | decide | omega) (by first | decide | omega) (by first | decide | omega) (by first | decide | omega) (by first | decide | omega) (by first | decide | omega) (by first | decide | omega) (by first | decide | omega)).trans (hes i hi).2⟩) hev c8 ⟨by omega, by omega⟩ ⟨by omega, by omega⟩ hfd hftC hfbC hnf hthC (by omega) ⟨by omega, by omega⟩ k129 hk1 c3 c1 hlaC es.length 0 (by omega) C _ hcu (fun D hD => ?_)) ⟨rfl, rfl, rfl, rfl, rfl, rfl, rfl, trivial⟩
  have hCD : w_CL D := CL_cu hCC hst.1 hD
  have fD : ∀ (j : Nat) (i : Int), ((j ≠ 141 ∧ j ≠ 142) ∨ i < st ∨ st + (nf : Int) ≤ i) → D j i = C j i := hD.2
  have d127 : ∀ x : Nat, x < 10 → D (127 + x) (-1) = D 127 (-1) := fun x hx => by rw [fD (127 + x) (-1) (Or.inl ⟨by omega, by omega⟩), fD 127 (-1) (Or.inl ⟨by omega, by omega⟩)]; exact hthC x hx
  have dl0 : D 127 (-1) = C 127 (-1) := fD 127 (-1) (Or.inl ⟨by omega, by omega⟩)
  have d72 : D 72 1 = 73 := (fD 72 1 (by omega)).trans k72
  have d133 : D 133 g = st := (fD 133 g (by omega)).trans c3
  have dl1 : D 141 (-1) = C 141 (-1) := fD 141 (-1) (by omega)
  have dl2 : D 142 (-1) = C 142 (-1) := fD 142 (-1) (by omega)
  refine wa_aload_n (n := 0) rfl ?_
  refine wb_gf4 158 rfl (wy_pr rfl) wt_158 wf_5_0 (v := 72) wl_158_0 ?_
  refine wb_gf4 72 rfl (wy_pr rfl) wt_72 wf_2_2 (v := 126) wl_72_2 ?_
  refine wa_bipush (w_rg2 (by omega) (by omega)) ?_
  refine wb_aald5 126 6 rfl rfl (wy_pr rfl) wt_126 (by rw [show _ = _ from ((cl_126 hCD))]; omega) wl_126_6 ?_
  refine wa_iload (n := 5) rfl ?_
  refine wb_iald 133 rfl (wy_pr rfl) wt_133 (n := (D 127 (-1))) ((d127 6 (by decide))) (by omega) (by omega) (v := st) (d133) (fun r6 => ?_)
  refine wa_istore (n := 6) rfl ?_
  refine wa_aload_n (n := 2) rfl ?_
  refine wb_gf4 73 rfl (wy_pr rfl) wt_73 wf_3_1 (v := 86) wl_73_1 ?_
  refine wa_bipush (w_rg2 (by omega) (by omega)) ?_
  refine wb_aald5 86 8 rfl rfl (wy_pr rfl) wt_86 (by rw [show _ = _ from ((cl_86 hCD))]; omega) wl_86_8 ?_
  refine wa_iload_n (n := 3) rfl ?_
  refine wb_iald 95 rfl (wy_pr rfl) wt_95 (n := 60) ((cl_95 hCD)) (by omega) (by omega) (v := (D 95 k)) rfl (fun r7 => ?_)
  refine wa_istore (n := 7) rfl ?_
  refine wa_iload (n := 6) rfl ?_
  refine wa_iload (n := 4) rfl ?_
  refine wa_iadd ?_
  refine wa_iconst ?_
  refine wa_isub ?_
  refine wa_istore (n := 8) rfl ?_
  refine wa_fall ⟨_, rfl⟩ ?_
  refine wJ_mono (wJ_S (cfl_73 (m := m) (k := k) (g := g) (st := st) (nf := nf) (fd := fd) (ty := ty) hfd hnf ⟨by omega, by omega⟩ nf (by omega) D (D 95 k) ((st + (nf : Int)) - 1) hCD d72 (by rw [dl1, dl2]; exact c8) ⟨by omega, by omega⟩ ⟨by omega, by omega⟩ (fun i hi => (fD _ _ (Or.inl ⟨by decide, by decide⟩)).trans (hftC i hi)) (fun i hi => (fD _ _ (Or.inl ⟨by decide, by decide⟩)).trans (hfbC i hi)) (fun z => (fD _ _ (Or.inl ⟨by decide, by decide⟩)).trans (hlaC z)) (by omega)) ⟨rfl, rfl, rfl, rfl, rfl, rfl, rfl, rfl, rfl, trivial⟩) (fun o Z hz => ⟨hz.1, ?_⟩)
  obtain ⟨E, z1, z2⟩ := hz.2
  exact ⟨_, C, D, E, at4, hc, hD, z1, z2⟩
set_option maxHeartbeats 4000000 in
theorem con_162_215 {m k g st ba u0 v0 : Int} {nf : Nat} {fd ty : Nat → Int} {es : List (Int × Int)} (hC : w_CL S) (hI : gI S) (hK : KC 176 186 182 203 204 163 162 T cs ms os S) (hw : wHo cs ms os) (h72 : S 72 1 = 162) (l5 : S 158 5 = 216) (l8 : S 158 8 = ba) (l12 : S 158 12 = (es.length : Int)) (hm : 0 ≤ m ∧ m < (ms.length : Int)) (hpn : 0 < es.length → 1 ≤ (hmR ms m).2.2.2.2.1.length) (he8 : es.length ≤ 1000) (hpl : S 218 (-1) = S 217 (-1)) (hpb : 0 ≤ ba ∧ ba + 1 + (es.length : Int) ≤ S 217 (-1) ∧ S 217 (-1) ≤ 4095) (hes : ∀ i : Nat, i < es.length → S 217 (ba + 1 + (i : Int)) = (es.getD i (0, 0)).1 ∧ S 218 (ba + 1 + (i : Int)) = (es.getD i (0, 0)).2) (hev : ∀ i : Nat, i < es.length → (-128 ≤ (es.getD i (0, 0)).1 ∧ (es.getD i (0, 0)).1 ≤ 127) ∧ (-9223372036854775808 ≤ (es.getD i (0, 0)).2 ∧ (es.getD i (0, 0)).2 ≤ 9223372036854775807)) (hl : S 142 (-1) = S 141 (-1)) (hz : 16 ≤ S 141 (-1) ∧ S 141 (-1) ≤ 480400) (h2 : S 140 2 = st) (hst : 0 ≤ st ∧ st ≤ S 141 (-1) ∧ st + (nf : Int) ≤ 240200) (hfd : ∀ i : Nat, i < nf → 0 ≤ fd i ∧ fd i < 400) (hft : ∀ i : Nat, i < nf → S 189 (fd i) = ty i) (hfb : ∀ i : Nat, i + 1 < nf → S 202 (fd (i + 1)) = fd i) (hnf : nf ≤ 1000) (hth : ∀ x : Nat, x < 10 → S (127 + x) (-1) = S 127 (-1)) (hn : S 72 3 = g) (hn1 : 0 ≤ g ∧ g ≤ S 127 (-1) ∧ g ≤ 8000) (hn2 : 64 ≤ S 127 (-1) ∧ S 127 (-1) ≤ 16383) (hu0 : S 150 0 = u0) (hu1 : 0 ≤ u0 ∧ u0 ≤ 8000) (hv : S 150 1 = v0) (hv0 : 0 ≤ v0 ∧ v0 + (nf : Int) ≤ 60000) (hk : S 186 m = k) (hk1 : 0 ≤ k ∧ k < 60) (hkn : S 183 k = (nf : Int)) (hla : 0 < nf → S 184 k = fd (nf - 1)) : wJ (pe_GA xs) wY0 (mS [127, 128, 129, 130, 131, 132, 133, 134, 135, 136, 141, 142]) (d + 6) t_XL_construct ((pe_at t_XL_construct.bl 0).getD (0, [])).2 [(0, (2, 158)), (1, (0, m))] [] S (fun o Z => o = .inl none ∧ coR g st k nf ty (fun i => prT (hmR ms m) i) es S Z) := by
  have hwg : wG = 1000000 := rfl
  have hn4 := (KC_n hK).2.2
  refine wa_aload_n (n := 0) rfl ?_
  refine wb_gf4 158 rfl (wy_pr rfl) wt_158 wf_5_0 (v := 72) wl_158_0 ?_
  refine wb_gf5 72 rfl (wy_pr rfl) wt_72 wf_2_1 (v := 162) (h72) (fun r1 => ?_)
  refine wa_astore_n (n := 2) rfl ?_
  refine wa_aload_n (n := 2) rfl ?_
  refine wb_gf4 162 rfl (wy_pr rfl) wt_162 wf_3_3 (v := 185) wl_162_3 ?_
  refine wa_iconst ?_
  refine wb_aald5 185 0 rfl rfl (wy_pr rfl) wt_185 (by rw [show _ = _ from ((cl_185 hC))]; omega) wl_185_0 ?_
  refine wa_iload_n (n := 1) rfl ?_
  refine wb_iald 186 rfl (wy_pr rfl) wt_186 (n := 400) ((cl_186 hC)) (by omega) (by omega) (v := k) (hk) (fun r2 => ?_)
  refine wa_istore_n (n := 3) rfl ?_
  refine wa_aload_n (n := 2) rfl ?_
  refine wb_gf4 162 rfl (wy_pr rfl) wt_162 wf_3_1 (v := 175) wl_162_1 ?_
  refine wa_bipush (w_rg2 (by omega) (by omega)) ?_
  refine wb_aald5 175 7 rfl rfl (wy_pr rfl) wt_175 (by rw [show _ = _ from ((cl_175 hC))]; omega) wl_175_7 ?_
  refine wa_iload_n (n := 3) rfl ?_
  refine wb_iald 183 rfl (wy_pr rfl) wt_183 (n := 60) ((cl_183 hC)) (by omega) (by omega) (v := (nf : Int)) (hkn) (fun r3 => ?_)
  refine wa_istore (n := 4) rfl ?_
  refine wa_aload_n (n := 0) rfl ?_
  refine wb_gf4 158 rfl (wy_pr rfl) wt_158 wf_5_0 (v := 72) wl_158_0 ?_
  refine wa_bipush (w_rg2 (by omega) (by omega)) ?_
  refine wa_iconst ?_
  refine wa_iload_n (n := 3) rfl ?_
  refine wa_iload (n := 4) rfl ?_
  have at4a : S 141 (-1) = (S 141 (-1)) := (rfl)
  have at4b : S 142 (-1) = S 141 (-1) := ((hl) : S 142 (-1) = (S 141 (-1))).trans at4a.symm
  have at4c : S 127 (-1) = (S 127 (-1)) := (rfl)
  have at4d : ∀ x : Nat, x < 10 → S (127 + x) (-1) = S 127 (-1) := hth
  refine wa_cv 72 rfl (wy_pr rfl) wt_72 (M2 := mS [127, 128, 129, 130, 131, 132, 133, 134, 135, 136, 141, 142]) rfl at_XH_addThing ⟨_, rfl⟩ rfl rfl ⟨trivial, trivial, (Or.inr ⟨wy_pr rfl, mS_no rfl⟩), (Or.inr ⟨wy_pr rfl, mS_no rfl⟩), trivial, trivial⟩ trivial (fun _ _ q => mS_sub (by decide) q) (atH_ok (S := S) (kd := 7) (sh := (-1)) (fo := k) (rm := (nf : Int)) (cs := st) (n := g) (u0 := u0) hC hI (h2) ⟨by omega, by omega⟩ at4b ⟨by omega, by omega⟩ at4d (hn) ⟨by omega, by omega⟩ ⟨by omega, by omega⟩ (hu0) ⟨by omega, by omega⟩ ⟨by omega, by omega⟩ ⟨by omega, by omega⟩ ⟨by omega, by omega⟩ ⟨by omega, by omega⟩) (fun oq4 Sq4 hp5 q4 => ?_)
  rcases q4 with ⟨rfl, at4⟩
  show wJ _ _ _ _ _ _ _ _ _ _
  have at4e := at4.2.2.2.2.2.2.1.2
  have at4f := at4.2.2.2.2.2.1
  refine wa_istore (n := 5) rfl ?_
  refine wa_iconst ?_
  refine wa_istore (n := 6) rfl ?_
  refine wa_fall ⟨_, rfl⟩ ?_
  obtain ⟨⟨t1, t2⟩, ⟨⟨t3, t4, t5⟩, -, t9, t10, t11, -⟩, -, t14, -, ⟨t16, t17, t18, t19⟩, ⟨t20, t21, t22, t23⟩, t24, t25, t26⟩ := id at4
  rw [hn] at t5 t9 t10 t11 t21 t23
  rw [h2] at t9 t14 t17 t19
  have hCB : w_CL Sq4 := CL_at hC at4
  have eB1 : Sq4 150 1 = v0 := (t24 150 1 (by first | decide | omega) (by first | decide | omega) (by first | decide | omega) (by first | decide | omega) (by first | decide | omega) (by first | decide | omega) (by first | decide | omega) (by first | decide | omega)).trans hv
  have hc0 : cvR g st (st + (nf : Int)) nf 0 Sq4 Sq4 := ⟨⟨t10, by omega⟩, ⟨t9, t11, t14⟩, fun i hi => absurd hi (by omega), fun i _ _ _ => ⟨rfl, rfl⟩, ⟨t16, by omega, by omega, Or.inl rfl⟩, fun j i _ _ _ _ _ _ => rfl, t25, rmR_rfl _⟩
  refine wJ_S (cvl_162 (A := Sq4) (m := m) (k := k) (g := g) (st := st) (cs := st + (nf : Int)) (v0 := v0) (nf := nf) hCB t20 (by omega) ⟨by omega, by omega⟩ ⟨by omega, by omega⟩ ⟨by omega, by omega, by omega⟩ hnf eB1 hv0 nf 0 (by omega) Sq4 hc0 (fun C hc => ?_)) ⟨rfl, rfl, rfl, rfl, rfl, rfl, rfl, trivial⟩
  obtain ⟨⟨c1, c2⟩, ⟨c3, c4, c5⟩, c6, -, ⟨c8, c9, c10, c11⟩, c12, c13, -⟩ := id hc
  have hCC : w_CL C := CL_cv hCB (by omega) hc
  have fC : ∀ (j : Nat) (i : Int), j < 4000000 → j ≠ wG → (j < 127 ∨ 136 < j) → j ≠ 141 → j ≠ 142 → j ≠ 72 → j ≠ 140 → j ≠ 150 → C j i = S j i := fun j i a1 a2 a3 a4 a5 a6 a7 a8 => (c12 j i a1 a2 a4 a5 (Or.inl (by omega)) (Or.inl a8)).trans (t24 j i a1 a2 a3 a4 a5 (Or.inl a6) (Or.inl a7) (Or.inl a8))
  have k72 : C 72 1 = 162 := ((c12 72 1 (by first | decide | omega) (by first | decide | omega) (by first | decide | omega) (by first | decide | omega) (Or.inl (by first | decide | omega)) (Or.inl (by first | decide | omega))).trans (t24 72 1 (by first | decide | omega) (by first | decide | omega) (by first | decide | omega) (by first | decide | omega) (by first | decide | omega) (by first | decide | omega) (by first | decide | omega) (by first | decide | omega))).trans h72
  have hKC : KC 176 186 182 203 204 163 162 T cs ms os C := KC_ag hK (fC 162 2 (by first | decide | omega) (by first | decide | omega) (by first | decide | omega) (by first | decide | omega) (by first | decide | omega) (by first | decide | omega) (by first | decide | omega) (by first | decide | omega)) (fC 162 4 (by first | decide | omega) (by first | decide | omega) (by first | decide | omega) (by first | decide | omega) (by first | decide | omega) (by first | decide | omega) (by first | decide | omega) (by first | decide | omega)) (fun j hj => funext fun i => fC j i (by omega) (by omega) (by omega) (by omega) (by omega) (by omega) (by omega) (by omega))
  have m5 : C 158 5 = 216 := (fC 158 5 (by first | decide | omega) (by first | decide | omega) (by first | decide | omega) (by first | decide | omega) (by first | decide | omega) (by first | decide | omega) (by first | decide | omega) (by first | decide | omega)).trans l5
  have m8 : C 158 8 = ba := (fC 158 8 (by first | decide | omega) (by first | decide | omega) (by first | decide | omega) (by first | decide | omega) (by first | decide | omega) (by first | decide | omega) (by first | decide | omega) (by first | decide | omega)).trans l8
  have m12 : C 158 12 = (es.length : Int) := (fC 158 12 (by first | decide | omega) (by first | decide | omega) (by first | decide | omega) (by first | decide | omega) (by first | decide | omega) (by first | decide | omega) (by first | decide | omega) (by first | decide | omega)).trans l12
  have e2 : C 217 (-1) = S 217 (-1) := fC 217 (-1) (by first | decide | omega) (by first | decide | omega) (by first | decide | omega) (by first | decide | omega) (by first | decide | omega) (by first | decide | omega) (by first | decide | omega) (by first | decide | omega)
  have e3 : C 218 (-1) = S 218 (-1) := fC 218 (-1) (by first | decide | omega) (by first | decide | omega) (by first | decide | omega) (by first | decide | omega) (by first | decide | omega) (by first | decide | omega) (by first | decide | omega) (by first | decide | omega)
  have q127 : ∀ x : Nat, x < 10 → C (127 + x) (-1) = Sq4 (127 + x) (-1) := fun x hx => c12 (127 + x) (-1) (by omega) (by omega) (by omega) (by omega) (Or.inr (by omega)) (Or.inr (by first | decide | omega))
  have q0 : C 127 (-1) = Sq4 127 (-1) := q127 0 (by first | decide | omega)
  have hthC : ∀ x : Nat, x < 10 → C (127 + x) (-1) = C 127 (-1) := fun x hx => by rw [q127 x hx, q0]; exact t20 x hx
  have k129 : C 129 g = k := (c12 129 g (by first | decide | omega) (by first | decide | omega) (by first | decide | omega) (by first | decide | omega) (Or.inl (by first | decide | omega)) (Or.inl (by first | decide | omega))).trans t5
  have hftC : ∀ i : Nat, i < nf → C 189 (fd i) = ty i := fun i hi => (fC 189 _ (by first | decide | omega) (by first | decide | omega) (by first | decide | omega) (by first | decide | omega) (by first | decide | omega) (by first | decide | omega) (by first | decide | omega) (by first | decide | omega)).trans (hft i hi)
  have hfbC : ∀ i : Nat, i + 1 < nf → C 202 (fd (i + 1)) = fd i := fun i hi => (fC 202 _ (by first | decide | omega) (by first | decide | omega) (by first | decide | omega) (by first | decide | omega) (by first | decide | omega) (by first | decide | omega) (by first | decide | omega) (by first | decide | omega)).trans (hfb i hi)
  have hlaC : 0 < nf → C 184 k = fd (nf - 1) := fun z => (fC 184 _ (by first | decide | omega) (by first | decide | omega) (by first | decide | omega) (by first | decide | omega) (by first | decide | omega) (by first | decide | omega) (by first | decide | omega) (by first | decide | omega)).trans (hla z)
  have hcu : cuR st nf (fun _ => (-1, 0)) C C := ⟨fun i hi => c6 i hi, fun j i _ => rfl⟩
  refine wa_iconst ?_
  refine wa_istore (n := 6) rfl ?_
  refine wa_fall ⟨_, rfl⟩ ?_
  refine wJ_S (cml_162_215 (A := C) (m := m) (k := k) (g := g) (st := st) (ba := ba) (nf := nf) (fd := fd) (ty := ty) (es := es) hCC hKC hw k72 m5 m8 m12 hm hpn he8 (by rw [e2, e3]; exact hpl) (by rw [e2]; exact hpb) (fun i hi => ⟨(fC 217 _ (by first | decide | omega) (by first | decide | omega) (by first | decide | omega) (by first | decide | omega) (by first | decide | omega) (by first | decide | omega) (by first | decide | omega) (by first | decide | omega)).trans (hes i hi).1, (fC 218 _ (by first | decide | omega) (by first | decide | omega) (by first | decide | omega) (by first | decide | omega) (by first | decide | omega) (by first | decide | omega) (by first | decide | omega) (by first | decide | omega)).trans (hes i hi).2⟩) hev c8 ⟨by omega, by omega⟩ ⟨by omega, by omega⟩ hfd hftC hfbC hnf hthC (by omega) ⟨by omega, by omega⟩ k129 hk1 c3 c1 hlaC es.length 0 (by omega) C _ hcu (fun D hD => ?_)) ⟨rfl, rfl, rfl, rfl, rfl, rfl, rfl, trivial⟩
  have hCD : w_CL D := CL_cu hCC hst.1 hD
  have fD : ∀ (j : Nat) (i : Int), ((j ≠ 141 ∧ j ≠ 142) ∨ i < st ∨ st + (nf : Int) ≤ i) → D j i = C j i := hD.2
  have d127 : ∀ x : Nat, x < 10 → D (127 + x) (-1) = D 127 (-1) := fun x hx => by rw [fD (127 + x) (-1) (Or.inl ⟨by omega, by omega⟩), fD 127 (-1) (Or.inl ⟨by omega, by omega⟩)]; exact hthC x hx
  have dl0 : D 127 (-1) = C 127 (-1) := fD 127 (-1) (Or.inl ⟨by omega, by omega⟩)
  have d72 : D 72 1 = 162 := (fD 72 1 (by omega)).trans k72
  have d133 : D 133 g = st := (fD 133 g (by omega)).trans c3
  have dl1 : D 141 (-1) = C 141 (-1) := fD 141 (-1) (by omega)
  have dl2 : D 142 (-1) = C 142 (-1) := fD 142 (-1) (by omega)
  refine wa_aload_n (n := 0) rfl ?_
  refine wb_gf4 158 rfl (wy_pr rfl) wt_158 wf_5_0 (v := 72) wl_158_0 ?_
  refine wb_gf4 72 rfl (wy_pr rfl) wt_72 wf_2_2 (v := 126) wl_72_2 ?_
  refine wa_bipush (w_rg2 (by omega) (by omega)) ?_
  refine wb_aald5 126 6 rfl rfl (wy_pr rfl) wt_126 (by rw [show _ = _ from ((cl_126 hCD))]; omega) wl_126_6 ?_
  refine wa_iload (n := 5) rfl ?_
  refine wb_iald 133 rfl (wy_pr rfl) wt_133 (n := (D 127 (-1))) ((d127 6 (by decide))) (by omega) (by omega) (v := st) (d133) (fun r6 => ?_)
  refine wa_istore (n := 6) rfl ?_
  refine wa_aload_n (n := 2) rfl ?_
  refine wb_gf4 162 rfl (wy_pr rfl) wt_162 wf_3_1 (v := 175) wl_162_1 ?_
  refine wa_bipush (w_rg2 (by omega) (by omega)) ?_
  refine wb_aald5 175 8 rfl rfl (wy_pr rfl) wt_175 (by rw [show _ = _ from ((cl_175 hCD))]; omega) wl_175_8 ?_
  refine wa_iload_n (n := 3) rfl ?_
  refine wb_iald 184 rfl (wy_pr rfl) wt_184 (n := 60) ((cl_184 hCD)) (by omega) (by omega) (v := (D 184 k)) rfl (fun r7 => ?_)
  refine wa_istore (n := 7) rfl ?_
  refine wa_iload (n := 6) rfl ?_
  refine wa_iload (n := 4) rfl ?_
  refine wa_iadd ?_
  refine wa_iconst ?_
  refine wa_isub ?_
  refine wa_istore (n := 8) rfl ?_
  refine wa_fall ⟨_, rfl⟩ ?_
  refine wJ_mono (wJ_S (cfl_162 (m := m) (k := k) (g := g) (st := st) (nf := nf) (fd := fd) (ty := ty) hfd hnf ⟨by omega, by omega⟩ nf (by omega) D (D 184 k) ((st + (nf : Int)) - 1) hCD d72 (by rw [dl1, dl2]; exact c8) ⟨by omega, by omega⟩ ⟨by omega, by omega⟩ (fun i hi => (fD _ _ (Or.inl ⟨by decide, by decide⟩)).trans (hftC i hi)) (fun i hi => (fD _ _ (Or.inl ⟨by decide, by decide⟩)).trans (hfbC i hi)) (fun z => (fD _ _ (Or.inl ⟨by decide, by decide⟩)).trans (hlaC z)) (by omega)) ⟨rfl, rfl, rfl, rfl, rfl, rfl, rfl, rfl, rfl, trivial⟩) (fun o Z hz => ⟨hz.1, ?_⟩)
  obtain ⟨E, z1, z2⟩ := hz.2
  exact ⟨_, C, D, E, at4, hc, hD, z1, z2⟩
set_option maxHeartbeats 4000000 in
theorem con_162_226 {m k g st ba u0 v0 : Int} {nf : Nat} {fd ty : Nat → Int} {es : List (Int × Int)} (hC : w_CL S) (hI : gI S) (hK : KC 176 186 182 203 204 163 162 T cs ms os S) (hw : wHo cs ms os) (h72 : S 72 1 = 162) (l5 : S 158 5 = 227) (l8 : S 158 8 = ba) (l12 : S 158 12 = (es.length : Int)) (hm : 0 ≤ m ∧ m < (ms.length : Int)) (hpn : 0 < es.length → 1 ≤ (hmR ms m).2.2.2.2.1.length) (he8 : es.length ≤ 1000) (hpl : S 229 (-1) = S 228 (-1)) (hpb : 0 ≤ ba ∧ ba + 1 + (es.length : Int) ≤ S 228 (-1) ∧ S 228 (-1) ≤ 4095) (hes : ∀ i : Nat, i < es.length → S 228 (ba + 1 + (i : Int)) = (es.getD i (0, 0)).1 ∧ S 229 (ba + 1 + (i : Int)) = (es.getD i (0, 0)).2) (hev : ∀ i : Nat, i < es.length → (-128 ≤ (es.getD i (0, 0)).1 ∧ (es.getD i (0, 0)).1 ≤ 127) ∧ (-9223372036854775808 ≤ (es.getD i (0, 0)).2 ∧ (es.getD i (0, 0)).2 ≤ 9223372036854775807)) (hl : S 142 (-1) = S 141 (-1)) (hz : 16 ≤ S 141 (-1) ∧ S 141 (-1) ≤ 480400) (h2 : S 140 2 = st) (hst : 0 ≤ st ∧ st ≤ S 141 (-1) ∧ st + (nf : Int) ≤ 240200) (hfd : ∀ i : Nat, i < nf → 0 ≤ fd i ∧ fd i < 400) (hft : ∀ i : Nat, i < nf → S 189 (fd i) = ty i) (hfb : ∀ i : Nat, i + 1 < nf → S 202 (fd (i + 1)) = fd i) (hnf : nf ≤ 1000) (hth : ∀ x : Nat, x < 10 → S (127 + x) (-1) = S 127 (-1)) (hn : S 72 3 = g) (hn1 : 0 ≤ g ∧ g ≤ S 127 (-1) ∧ g ≤ 8000) (hn2 : 64 ≤ S 127 (-1) ∧ S 127 (-1) ≤ 16383) (hu0 : S 150 0 = u0) (hu1 : 0 ≤ u0 ∧ u0 ≤ 8000) (hv : S 150 1 = v0) (hv0 : 0 ≤ v0 ∧ v0 + (nf : Int) ≤ 60000) (hk : S 186 m = k) (hk1 : 0 ≤ k ∧ k < 60) (hkn : S 183 k = (nf : Int)) (hla : 0 < nf → S 184 k = fd (nf - 1)) : wJ (pe_GA xs) wY0 (mS [127, 128, 129, 130, 131, 132, 133, 134, 135, 136, 141, 142]) (d + 6) t_XL_construct ((pe_at t_XL_construct.bl 0).getD (0, [])).2 [(0, (2, 158)), (1, (0, m))] [] S (fun o Z => o = .inl none ∧ coR g st k nf ty (fun i => prT (hmR ms m) i) es S Z) := by
  have hwg : wG = 1000000 := rfl
  have hn4 := (KC_n hK).2.2
  refine wa_aload_n (n := 0) rfl ?_
  refine wb_gf4 158 rfl (wy_pr rfl) wt_158 wf_5_0 (v := 72) wl_158_0 ?_
  refine wb_gf5 72 rfl (wy_pr rfl) wt_72 wf_2_1 (v := 162) (h72) (fun r1 => ?_)
  refine wa_astore_n (n := 2) rfl ?_
  refine wa_aload_n (n := 2) rfl ?_
  refine wb_gf4 162 rfl (wy_pr rfl) wt_162 wf_3_3 (v := 185) wl_162_3 ?_
  refine wa_iconst ?_
  refine wb_aald5 185 0 rfl rfl (wy_pr rfl) wt_185 (by rw [show _ = _ from ((cl_185 hC))]; omega) wl_185_0 ?_
  refine wa_iload_n (n := 1) rfl ?_
  refine wb_iald 186 rfl (wy_pr rfl) wt_186 (n := 400) ((cl_186 hC)) (by omega) (by omega) (v := k) (hk) (fun r2 => ?_)
  refine wa_istore_n (n := 3) rfl ?_
  refine wa_aload_n (n := 2) rfl ?_
  refine wb_gf4 162 rfl (wy_pr rfl) wt_162 wf_3_1 (v := 175) wl_162_1 ?_
  refine wa_bipush (w_rg2 (by omega) (by omega)) ?_
  refine wb_aald5 175 7 rfl rfl (wy_pr rfl) wt_175 (by rw [show _ = _ from ((cl_175 hC))]; omega) wl_175_7 ?_
  refine wa_iload_n (n := 3) rfl ?_
  refine wb_iald 183 rfl (wy_pr rfl) wt_183 (n := 60) ((cl_183 hC)) (by omega) (by omega) (v := (nf : Int)) (hkn) (fun r3 => ?_)
  refine wa_istore (n := 4) rfl ?_
  refine wa_aload_n (n := 0) rfl ?_
  refine wb_gf4 158 rfl (wy_pr rfl) wt_158 wf_5_0 (v := 72) wl_158_0 ?_
  refine wa_bipush (w_rg2 (by omega) (by omega)) ?_
  refine wa_iconst ?_
  refine wa_iload_n (n := 3) rfl ?_
  refine wa_iload (n := 4) rfl ?_
  have at4a : S 141 (-1) = (S 141 (-1)) := (rfl)
  have at4b : S 142 (-1) = S 141 (-1) := ((hl) : S 142 (-1) = (S 141 (-1))).trans at4a.symm
  have at4c : S 127 (-1) = (S 127 (-1)) := (rfl)
  have at4d : ∀ x : Nat, x < 10 → S (127 + x) (-1) = S 127 (-1) := hth
  refine wa_cv 72 rfl (wy_pr rfl) wt_72 (M2 := mS [127, 128, 129, 130, 131, 132, 133, 134, 135, 136, 141, 142]) rfl at_XH_addThing ⟨_, rfl⟩ rfl rfl ⟨trivial, trivial, (Or.inr ⟨wy_pr rfl, mS_no rfl⟩), (Or.inr ⟨wy_pr rfl, mS_no rfl⟩), trivial, trivial⟩ trivial (fun _ _ q => mS_sub (by decide) q) (atH_ok (S := S) (kd := 7) (sh := (-1)) (fo := k) (rm := (nf : Int)) (cs := st) (n := g) (u0 := u0) hC hI (h2) ⟨by omega, by omega⟩ at4b ⟨by omega, by omega⟩ at4d (hn) ⟨by omega, by omega⟩ ⟨by omega, by omega⟩ (hu0) ⟨by omega, by omega⟩ ⟨by omega, by omega⟩ ⟨by omega, by omega⟩ ⟨by omega, by omega⟩ ⟨by omega, by omega⟩) (fun oq4 Sq4 hp5 q4 => ?_)
  rcases q4 with ⟨rfl, at4⟩
  show wJ _ _ _ _ _ _ _ _ _ _
  have at4e := at4.2.2.2.2.2.2.1.2
  have at4f := at4.2.2.2.2.2.1
  refine wa_istore (n := 5) rfl ?_
  refine wa_iconst ?_
  refine wa_istore (n := 6) rfl ?_
  refine wa_fall ⟨_, rfl⟩ ?_
  obtain ⟨⟨t1, t2⟩, ⟨⟨t3, t4, t5⟩, -, t9, t10, t11, -⟩, -, t14, -, ⟨t16, t17, t18, t19⟩, ⟨t20, t21, t22, t23⟩, t24, t25, t26⟩ := id at4
  rw [hn] at t5 t9 t10 t11 t21 t23
  rw [h2] at t9 t14 t17 t19
  have hCB : w_CL Sq4 := CL_at hC at4
  have eB1 : Sq4 150 1 = v0 := (t24 150 1 (by first | decide | omega) (by first | decide | omega) (by first | decide | omega) (by first | decide | omega) (by first | decide | omega) (by first | decide | omega) (by first | decide | omega) (by first | decide | omega)).trans hv
  have hc0 : cvR g st (st + (nf : Int)) nf 0 Sq4 Sq4 := ⟨⟨t10, by omega⟩, ⟨t9, t11, t14⟩, fun i hi => absurd hi (by omega), fun i _ _ _ => ⟨rfl, rfl⟩, ⟨t16, by omega, by omega, Or.inl rfl⟩, fun j i _ _ _ _ _ _ => rfl, t25, rmR_rfl _⟩
  refine wJ_S (cvl_162 (A := Sq4) (m := m) (k := k) (g := g) (st := st) (cs := st + (nf : Int)) (v0 := v0) (nf := nf) hCB t20 (by omega) ⟨by omega, by omega⟩ ⟨by omega, by omega⟩ ⟨by omega, by omega, by omega⟩ hnf eB1 hv0 nf 0 (by omega) Sq4 hc0 (fun C hc => ?_)) ⟨rfl, rfl, rfl, rfl, rfl, rfl, rfl, trivial⟩
  obtain ⟨⟨c1, c2⟩, ⟨c3, c4, c5⟩, c6, -, ⟨c8, c9, c10, c11⟩, c12, c13, -⟩ := id hc
  have hCC : w_CL C := CL_cv hCB (by omega) hc
  have fC : ∀ (j : Nat) (i : Int), j < 4000000 → j ≠ wG → (j < 127 ∨ 136 < j) → j ≠ 141 → j ≠ 142 → j ≠ 72 → j ≠ 140 → j ≠ 150 → C j i = S j i := fun j i a1 a2 a3 a4 a5 a6 a7 a8 => (c12 j i a1 a2 a4 a5 (Or.inl (by omega)) (Or.inl a8)).trans (t24 j i a1 a2 a3 a4 a5 (Or.inl a6) (Or.inl a7) (Or.inl a8))
  have k72 : C 72 1 = 162 := ((c12 72 1 (by first | decide | omega) (by first | decide | omega) (by first | decide | omega) (by first | decide | omega) (Or.inl (by first | decide | omega)) (Or.inl (by first | decide | omega))).trans (t24 72 1 (by first | decide | omega) (by first | decide | omega) (by first | decide | omega) (by first | decide | omega) (by first | decide | omega) (by first | decide | omega) (by first | decide | omega) (by first | decide | omega))).trans h72
  have hKC : KC 176 186 182 203 204 163 162 T cs ms os C := KC_ag hK (fC 162 2 (by first | decide | omega) (by first | decide | omega) (by first | decide | omega) (by first | decide | omega) (by first | decide | omega) (by first | decide | omega) (by first | decide | omega) (by first | decide | omega)) (fC 162 4 (by first | decide | omega) (by first | decide | omega) (by first | decide | omega) (by first | decide | omega) (by first | decide | omega) (by first | decide | omega) (by first | decide | omega) (by first | decide | omega)) (fun j hj => funext fun i => fC j i (by omega) (by omega) (by omega) (by omega) (by omega) (by omega) (by omega) (by omega))
  have m5 : C 158 5 = 227 := (fC 158 5 (by first | decide | omega) (by first | decide | omega) (by first | decide | omega) (by first | decide | omega) (by first | decide | omega) (by first | decide | omega) (by first | decide | omega) (by first | decide | omega)).trans l5
  have m8 : C 158 8 = ba := (fC 158 8 (by first | decide | omega) (by first | decide | omega) (by first | decide | omega) (by first | decide | omega) (by first | decide | omega) (by first | decide | omega) (by first | decide | omega) (by first | decide | omega)).trans l8
  have m12 : C 158 12 = (es.length : Int) := (fC 158 12 (by first | decide | omega) (by first | decide | omega) (by first | decide | omega) (by first | decide | omega) (by first | decide | omega) (by first | decide | omega) (by first | decide | omega) (by first | decide | omega)).trans l12
  have e2 : C 228 (-1) = S 228 (-1) := fC 228 (-1) (by first | decide | omega) (by first | decide | omega) (by first | decide | omega) (by first | decide | omega) (by first | decide | omega) (by first | decide | omega) (by first | decide | omega) (by first | decide | omega)
  have e3 : C 229 (-1) = S 229 (-1) := fC 229 (-1) (by first | decide | omega) (by first | decide | omega) (by first | decide | omega) (by first | decide | omega) (by first | decide | omega) (by first | decide | omega) (by first | decide | omega) (by first | decide | omega)
  have q127 : ∀ x : Nat, x < 10 → C (127 + x) (-1) = Sq4 (127 + x) (-1) := fun x hx => c12 (127 + x) (-1) (by omega) (by omega) (by omega) (by omega) (Or.inr (by omega)) (Or.inr (by first | decide | omega))
  have q0 : C 127 (-1) = Sq4 127 (-1) := q127 0 (by first | decide | omega)
  have hthC : ∀ x : Nat, x < 10 → C (127 + x) (-1) = C 127 (-1) := fun x hx => by rw [q127 x hx, q0]; exact t20 x hx
  have k129 : C 129 g = k := (c12 129 g (by first | decide | omega) (by first | decide | omega) (by first | decide | omega) (by first | decide | omega) (Or.inl (by first | decide | omega)) (Or.inl (by first | decide | omega))).trans t5
  have hftC : ∀ i : Nat, i < nf → C 189 (fd i) = ty i := fun i hi => (fC 189 _ (by first | decide | omega) (by first | decide | omega) (by first | decide | omega) (by first | decide | omega) (by first | decide | omega) (by first | decide | omega) (by first | decide | omega) (by first | decide | omega)).trans (hft i hi)
  have hfbC : ∀ i : Nat, i + 1 < nf → C 202 (fd (i + 1)) = fd i := fun i hi => (fC 202 _ (by first | decide | omega) (by first | decide | omega) (by first | decide | omega) (by first | decide | omega) (by first | decide | omega) (by first | decide | omega) (by first | decide | omega) (by first | decide | omega)).trans (hfb i hi)
  have hlaC : 0 < nf → C 184 k = fd (nf - 1) := fun z => (fC 184 _ (by first | decide | omega) (by first | decide | omega) (by first | decide | omega) (by first | decide | omega) (by first | decide | omega) (by first | decide | omega) (by first | decide | omega) (by first | decide | omega)).trans (hla z)
  have hcu : cuR st nf (fun _ => (-1, 0)) C C := ⟨fun i hi => c6 i hi, fun j i _ => rfl⟩
  refine wa_iconst ?_
  refine wa_istore (n := 6) rfl ?_
  refine wa_fall ⟨_, rfl⟩ ?_
  refine wJ_S (cml_162_226 (A := C) (m := m) (k := k) (g := g) (st := st) (ba := ba) (nf := nf) (fd := fd) (ty := ty) (es := es) hCC hKC hw k72 m5 m8 m12 hm hpn he8 (by rw [e2, e3]; exact hpl) (by rw [e2]; exact hpb) (fun i hi => ⟨(fC 228 _ (by first | decide | omega) (by first | decide | omega) (by first | decide | omega) (by first | decide | omega) (by first | decide | omega) (by first | decide | omega) (by first | decide | omega) (by first | decide | omega)).trans (hes i hi).1, (fC 229 _ (by first | decide | omega) (by first | decide | omega) (by first | decide | omega) (by first | decide | omega) (by first | decide | omega) (by first | decide | omega) (by first | decide | omega) (by first | decide | omega)).trans (hes i hi).2⟩) hev c8 ⟨by omega, by omega⟩ ⟨by omega, by omega⟩ hfd hftC hfbC hnf hthC (by omega) ⟨by omega, by omega⟩ k129 hk1 c3 c1 hlaC es.length 0 (by omega) C _ hcu (fun D hD => ?_)) ⟨rfl, rfl, rfl, rfl, rfl, rfl, rfl, trivial⟩
  have hCD : w_CL D := CL_cu hCC hst.1 hD
  have fD : ∀ (j : Nat) (i : Int), ((j ≠ 141 ∧ j ≠ 142) ∨ i < st ∨ st + (nf : Int) ≤ i) → D j i = C j i := hD.2
  have d127 : ∀ x : Nat, x < 10 → D (127 + x) (-1) = D 127 (-1) := fun x hx => by rw [fD (127 + x) (-1) (Or.inl ⟨by omega, by omega⟩), fD 127 (-1) (Or.inl ⟨by omega, by omega⟩)]; exact hthC x hx
  have dl0 : D 127 (-1) = C 127 (-1) := fD 127 (-1) (Or.inl ⟨by omega, by omega⟩)
  have d72 : D 72 1 = 162 := (fD 72 1 (by omega)).trans k72
  have d133 : D 133 g = st := (fD 133 g (by omega)).trans c3
  have dl1 : D 141 (-1) = C 141 (-1) := fD 141 (-1) (by omega)
  have dl2 : D 142 (-1) = C 142 (-1) := fD 142 (-1) (by omega)
  refine wa_aload_n (n := 0) rfl ?_
  refine wb_gf4 158 rfl (wy_pr rfl) wt_158 wf_5_0 (v := 72) wl_158_0 ?_
  refine wb_gf4 72 rfl (wy_pr rfl) wt_72 wf_2_2 (v := 126) wl_72_2 ?_
  refine wa_bipush (w_rg2 (by omega) (by omega)) ?_
  refine wb_aald5 126 6 rfl rfl (wy_pr rfl) wt_126 (by rw [show _ = _ from ((cl_126 hCD))]; omega) wl_126_6 ?_
  refine wa_iload (n := 5) rfl ?_
  refine wb_iald 133 rfl (wy_pr rfl) wt_133 (n := (D 127 (-1))) ((d127 6 (by decide))) (by omega) (by omega) (v := st) (d133) (fun r6 => ?_)
  refine wa_istore (n := 6) rfl ?_
  refine wa_aload_n (n := 2) rfl ?_
  refine wb_gf4 162 rfl (wy_pr rfl) wt_162 wf_3_1 (v := 175) wl_162_1 ?_
  refine wa_bipush (w_rg2 (by omega) (by omega)) ?_
  refine wb_aald5 175 8 rfl rfl (wy_pr rfl) wt_175 (by rw [show _ = _ from ((cl_175 hCD))]; omega) wl_175_8 ?_
  refine wa_iload_n (n := 3) rfl ?_
  refine wb_iald 184 rfl (wy_pr rfl) wt_184 (n := 60) ((cl_184 hCD)) (by omega) (by omega) (v := (D 184 k)) rfl (fun r7 => ?_)
  refine wa_istore (n := 7) rfl ?_
  refine wa_iload (n := 6) rfl ?_
  refine wa_iload (n := 4) rfl ?_
  refine wa_iadd ?_
  refine wa_iconst ?_
  refine wa_isub ?_
  refine wa_istore (n := 8) rfl ?_
  refine wa_fall ⟨_, rfl⟩ ?_
  refine wJ_mono (wJ_S (cfl_162 (m := m) (k := k) (g := g) (st := st) (nf := nf) (fd := fd) (ty := ty) hfd hnf ⟨by omega, by omega⟩ nf (by omega) D (D 184 k) ((st + (nf : Int)) - 1) hCD d72 (by rw [dl1, dl2]; exact c8) ⟨by omega, by omega⟩ ⟨by omega, by omega⟩ (fun i hi => (fD _ _ (Or.inl ⟨by decide, by decide⟩)).trans (hftC i hi)) (fun i hi => (fD _ _ (Or.inl ⟨by decide, by decide⟩)).trans (hfbC i hi)) (fun z => (fD _ _ (Or.inl ⟨by decide, by decide⟩)).trans (hlaC z)) (by omega)) ⟨rfl, rfl, rfl, rfl, rfl, rfl, rfl, rfl, rfl, trivial⟩) (fun o Z hz => ⟨hz.1, ?_⟩)
  obtain ⟨E, z1, z2⟩ := hz.2
  exact ⟨_, C, D, E, at4, hc, hD, z1, z2⟩
end Whs
