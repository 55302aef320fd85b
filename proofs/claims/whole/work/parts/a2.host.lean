/-! PART a2: readClass from its brace on. -/
section Wa2
variable {xs : List (Nat × List Int32)} {M : Nat → Prop} {d : Nat} {A B C S Z : wS} {Q : wO → wS → Prop} {T : Int → Int} {n : Int} {c i : Nat}
/-- the tables of the first kc classes, and of N members -/
def tb_I (t0 st a b w : Nat) (S : wS) (kc N : Int) : Prop := (∀ q : Int, 0 ≤ q → q < kc → (-1 ≤ S (t0 + 1) q ∧ S (t0 + 1) q < q) ∧ 0 ≤ S (t0 + 4) q ∧ 0 ≤ S (t0 + 3) q ∧ S (t0 + 4) q + S (t0 + 3) q ≤ N ∧ (0 ≤ S (t0 + 7) q ∧ S (t0 + 7) q ≤ S (t0 + 4) q + S (t0 + 3) q) ∧ (-1 ≤ S (t0 + 8) q ∧ S (t0 + 8) q < 400)) ∧ (0 ≤ S st 2 ∧ S st 2 ≤ N) ∧ rw_S st a b S ∧ wd_L S w 64
theorem dr_get {ms : List hMR} {fi q : Nat} {r : hMR} (h : (ms.drop fi)[q]? = some r) : ms[fi + q]? = some r := by rw [← List.getElem?_drop]; exact h
theorem rc7_73 {kc f0 x0 n0 : Int} {fi : Nat} {ms : List hMR} (hX : w_X xs) (hx : hx_I 241 73 87 92 74 T n c B S) (hP : cx_P T n c i S) (hk13 : kg T n (tp T n 1 i) = 13) (hkc : B 241 1 = kc + 1 ∧ 0 ≤ kc ∧ kc < 60) (hcb : cb_I 87 73 S) (hL : wd_L S 74 64) (hms : mr_all 97 74 T S ms) (hmo : ∀ r ∈ ms.drop fi, mo_I r ∧ r.1 = kc) (hmc : S 73 4 = (ms.length : Int)) (hfi : S 91 kc = (fi : Int) ∧ fi ≤ ms.length) (hst : S 116 2 = n0 ∧ n0 ≤ 400 ∧ rw_S 116 117 118 S) (hf0 : f0 = (if S 88 kc = -1 then 0 else S 94 (S 88 kc)) ∧ 0 ≤ f0 ∧ f0 ≤ 1000) (hx0 : x0 = (if S 88 kc = -1 then -1 else S 95 (S 88 kc)) ∧ -1 ≤ x0 ∧ x0 < 400) (hq : ∀ Z1 Zf, le_I 97 87 116 117 118 119 (fi : Int) kc n0 f0 x0 (ms.drop fi) (w_up (w_up (w_up S 14 4 ((i + 1 : Nat) : Int)) 94 kc f0) 95 kc x0) Z1 (ms.drop fi).length → l2_I 97 87 74 119 (fi : Int) (ms.drop fi) Z1 Zf (ms.drop fi).length → Q (.inl none) Zf) : wJ (pe_GA xs) wY0 (mS [117, 118]) (d + 11) t_XT_readClass ((pe_at t_XT_readClass.bl 7).getD (0, [])).2 [(0, (2, 61))] [] S Q := by
  have hB : zT B T n := hx.1
  have hT : cx_T 74 T n c S := hx.2.1
  have hI : gI S := hx.2.2.1
  have hW : wd_at S 74 64 := hx.2.2.2.1
  have hrw : rw_I S 74 := hx.2.2.2.2.1
  have hwc : 13 ≤ S 74 7 ∧ S 74 7 ≤ 400000 := hx.2.2.2.2.2.1
  have hR : cn_R 241 73 87 92 74 T B S := hx.2.2.2.2.2.2.1
  have hH : S 61 1 = 73 := hx.2.2.2.2.2.2.2
  have hC : w_CL S := hR.2.2.1
  have hN : S 73 2 = B 241 1 := hR.1
  have hN6 : 0 ≤ B 241 1 ∧ B 241 1 ≤ 60 := hR.2.1
  have hpos4 : S 14 4 = (i : Int) := hP.1
  have hg0 : pg T n c i := hP.2
  have hA0 := pg_at hT hg0
  have h16_0 := hA0.1
  have h15_0 := hA0.2.1
  have hpr0 := hA0.2.2
  have hkr0 := kg_rg T n (tp T n 1 i)
  have hcn : (c : Int) ≤ n ∧ n ≤ 65536 := ⟨hT.2.2.2.2.1, hT.2.2.2.2.2.1⟩
  have hRL := hT.2.2.2.2.2.2
  have hl15 : S 14 3 ≤ S 15 (-1) := hRL.1.2
  have hl16 : S 16 (-1) = S 15 (-1) := hRL.2.1
  have hl17 : S 17 (-1) = S 15 (-1) := hRL.2.2.1
  have hc3 : S 14 3 = (c : Int) + 1 := hT.1
  have hic0 : i ≤ c := hg0.1
  have h400 := hms.1
  have hlen : ((ms.drop fi).length : Int) = (ms.length : Int) - (fi : Int) := by rw [List.length_drop]; omega
  have hxu := hx_up (j := 14) (k := 4) (x := ((i + 1 : Nat) : Int)) hx (by unfold hx_o; omega)
  have hmsU : mr_all 97 74 T (w_up S 14 4 ((i + 1 : Nat) : Int)) ms := mr_all_up hms (by omega) (by omega)
  have hmq : ∀ (q : Nat) (r : hMR), (ms.drop fi)[q]? = some r → mr_at 97 74 T (w_up S 14 4 ((i + 1 : Nat) : Int)) ((fi : Int) + (q : Int)) r ∧ r.1 = kc ∧ (r.2.1 ≠ 2 → r.2.2.2.2.2.2.2 - r.2.2.2.2.2.2.1 ≤ 30) := by
    intro q r hr
    have h1 := hmsU.2 (fi + q) r (dr_get hr)
    rw [show ((fi + q : Nat) : Int) = (fi : Int) + (q : Int) by omega] at h1
    have h2 := hmo r (List.mem_of_getElem? hr)
    exact ⟨h1, h2.2, h2.1.2⟩
  refine wa_aload_n (n := 0) rfl ?_
  refine wa_bipush (w_rg2 (by omega) (by omega)) ?_
  refine wa_cv 61 rfl (wy_pr rfl) wt_61 (M2 := fun _ => False) rfl at_XT_take ⟨_, rfl⟩ rfl rfl ⟨(Or.inr ⟨wy_pr rfl, fun q => q⟩), trivial⟩ trivial (fun _ _ q => False.elim q) (ta_c (S := S) (hx_T hx) (show cx_P T n c (i) S from ⟨(hpos4), hg0⟩) rfl hI (k := 13) ⟨by omega, by omega⟩) (fun oq2 Sq2 hp3 q2 => ?_)
  rcases q2 with ⟨ht1, rfl, rfl⟩ | ⟨ht1, v, rfl, hrz⟩
  · skip
    show wJ _ _ _ _ _ _ _ _ _ _
    have hg1 : pg T n c (i + 1) := pg_next (i := i) hT hg0 (by omega) (by omega)
    have hA1 := pg_at hT hg1
    have h16_1 := hA1.1
    have h15_1 := hA1.2.1
    have hpr1 := hA1.2.2
    have hkr1 := kg_rg T n (tp T n 1 (i + 1))
    have hic1 := hg1.1
    have hlt1 := tp_lt (i := i) hT hg0 (by omega) (by omega)
    refine wa_aload_n (n := 0) rfl ?_
    refine wb_gf5 61 rfl (wy_pr rfl) wt_61 wf_4_1 (v := 73) ((w_up_slot (by decide)).trans (hH)) (fun r4 => ?_)
    refine wa_cv 73 rfl (wy_pr rfl) wt_73 (M2 := mS [117, 118]) rfl at_XO_endClass ⟨_, rfl⟩ rfl rfl ⟨(Or.inr ⟨wy_pr rfl, mS_no rfl⟩), trivial⟩ trivial (fun _ _ q => q) (ec_73 (d := d + 2) (S := (w_up S 14 4 ((i + 1 : Nat) : Int))) (kc := kc) (fi := (fi : Int)) (f0 := f0) (x0 := x0) (n0 := n0) (rs := ms.drop fi) (T := T) hX (hx_R hxu).2.2.1 (show cb_I 87 73 (w_up S 14 4 ((i + 1 : Nat) : Int)) from hcb) (hx_W hxu) (show wd_L (w_up S 14 4 ((i + 1 : Nat) : Int)) 74 64 from hL) ⟨hN.trans hkc.1, hkc.2⟩ hmq (show (w_up S 14 4 ((i + 1 : Nat) : Int)) 73 4 = (fi : Int) + ((ms.drop fi).length : Int) from hmc.trans (by omega)) ⟨hfi.1, by omega, by omega⟩ (fun q r hr => (hmo r (List.mem_of_getElem? hr)).1.1) hxu.2.2.1 (show (w_up S 14 4 ((i + 1 : Nat) : Int)) 116 2 = n0 ∧ n0 ≤ 400 ∧ rw_S 116 117 118 (w_up S 14 4 ((i + 1 : Nat) : Int)) from hst) hf0 hx0) (fun oq5 Sq5 hp6 q5 => ?_)
    rcases q5 with ⟨rfl, Z1, e1, e2⟩
    show wJ _ _ _ _ _ _ _ _ _ _
    generalize Sq5 = Zf at e2 ⊢
    refine wa_return rfl ?_
    exact hq Z1 Zf e1 e2
  · skip
    have hkg := ht1
    refine ⟨rfl, ?_⟩
    exact absurd hk13 hkg
theorem rc4b_73 {kc itf f0 x0 n0 : Int} {ms : List hMR} (hX : w_X xs) (hx : hx_I 241 73 87 92 74 T n c B S) (hP : cx_P T n c i S) (hkc : B 241 1 = kc + 1 ∧ 0 ≤ kc ∧ kc < 60) (hit : itf = 0 ∨ itf = 1) (htb : tb_I 87 116 117 118 74 S kc (ms.length : Int)) (hme : (-1 ≤ S 88 kc ∧ S 88 kc < kc) ∧ S 91 kc = (ms.length : Int) ∧ S 90 kc = 0) (hms : mr_all 97 74 T S ms) (hmc : S 73 4 = (ms.length : Int)) (hn0 : S 116 2 = n0) (hf0 : f0 = (if S 88 kc = -1 then 0 else S 94 (S 88 kc))) (hx0 : x0 = (if S 88 kc = -1 then -1 else S 95 (S 88 kc))) (hq : ∀ (i2 : Nat) (ms2 : List hMR) (Zm Z1 Zf : wS), kg T n (tp T n 1 i) = 12 → mb_f B 241 kc itf ms.length ((n - tp T n 1 (i + 1)).toNat + 1) (tp T n 1 (i + 1)) ms = .inr (tp T n 1 i2, ms2) → kg T n (tp T n 1 i2) = 13 → mz_ag 97 73 87 kc (ms.length : Int) S Zm → hx_I 241 73 87 92 74 T n c B Zm → cx_P T n c i2 Zm → mr_all 97 74 T Zm ms2 → Zm 73 4 = (ms2.length : Int) → ms.length ≤ ms2.length → Zm 90 kc = (ms2.length : Int) - (ms.length : Int) → le_I 97 87 116 117 118 119 (ms.length : Int) kc n0 f0 x0 (ms2.drop ms.length) (w_up (w_up (w_up Zm 14 4 ((i2 + 1 : Nat) : Int)) 94 kc f0) 95 kc x0) Z1 (ms2.drop ms.length).length → l2_I 97 87 74 119 (ms.length : Int) (ms2.drop ms.length) Z1 Zf (ms2.drop ms.length).length → Q (.inl none) Zf) (hf : ∀ (e q : Int) (v : Nat) (Z0 Z : wS), ((kg T n (tp T n 1 i) ≠ 12 ∧ e = 1 ∧ q = tp T n 1 i) ∨ (kg T n (tp T n 1 i) = 12 ∧ mb_f B 241 kc itf ms.length ((n - tp T n 1 (i + 1)).toNat + 1) (tp T n 1 (i + 1)) ms = .inl (e, q))) → mz_ag 97 73 87 kc (ms.length : Int) S Z0 → rz_ag Z0 Z v (e + 16 * q) → Q (.inr v) Z) : wJ (pe_GA xs) wY0 (mS [117, 118]) (d + 11) t_XT_readClass (List.drop 13 ((pe_at t_XT_readClass.bl 4).getD (0, [])).2) [(0, (2, 61)), (1, (0, itf))] [] S Q := by
  have hB : zT B T n := hx.1
  have hT : cx_T 74 T n c S := hx.2.1
  have hI : gI S := hx.2.2.1
  have hW : wd_at S 74 64 := hx.2.2.2.1
  have hrw : rw_I S 74 := hx.2.2.2.2.1
  have hwc : 13 ≤ S 74 7 ∧ S 74 7 ≤ 400000 := hx.2.2.2.2.2.1
  have hR : cn_R 241 73 87 92 74 T B S := hx.2.2.2.2.2.2.1
  have hH : S 61 1 = 73 := hx.2.2.2.2.2.2.2
  have hC : w_CL S := hR.2.2.1
  have hN : S 73 2 = B 241 1 := hR.1
  have hN6 : 0 ≤ B 241 1 ∧ B 241 1 ≤ 60 := hR.2.1
  have hpos4 : S 14 4 = (i : Int) := hP.1
  have hg0 : pg T n c i := hP.2
  have hA0 := pg_at hT hg0
  have h16_0 := hA0.1
  have h15_0 := hA0.2.1
  have hpr0 := hA0.2.2
  have hkr0 := kg_rg T n (tp T n 1 i)
  have hcn : (c : Int) ≤ n ∧ n ≤ 65536 := ⟨hT.2.2.2.2.1, hT.2.2.2.2.2.1⟩
  have hRL := hT.2.2.2.2.2.2
  have hl15 : S 14 3 ≤ S 15 (-1) := hRL.1.2
  have hl16 : S 16 (-1) = S 15 (-1) := hRL.2.1
  have hl17 : S 17 (-1) = S 15 (-1) := hRL.2.2.1
  have hc3 : S 14 3 = (c : Int) + 1 := hT.1
  have hic0 : i ≤ c := hg0.1
  have h400 := hms.1
  obtain ⟨tb1, tb2, tb3, tb4⟩ := htb
  refine wa_aload_n (n := 0) rfl ?_
  refine wa_bipush (w_rg2 (by omega) (by omega)) ?_
  refine wa_cv 61 rfl (wy_pr rfl) wt_61 (M2 := fun _ => False) rfl at_XT_take ⟨_, rfl⟩ rfl rfl ⟨(Or.inr ⟨wy_pr rfl, fun q => q⟩), trivial, trivial⟩ trivial (fun _ _ q => False.elim q) (ta_c (S := S) (hx_T hx) (show cx_P T n c (i) S from ⟨(hpos4), hg0⟩) rfl hI (k := 12) ⟨by omega, by omega⟩) (fun oq2 Sq2 hp3 q2 => ?_)
  rcases q2 with ⟨ht1, rfl, rfl⟩ | ⟨ht1, v, rfl, hrz⟩
  · skip
    show wJ _ _ _ _ _ _ _ _ _ _
    have hg1 : pg T n c (i + 1) := pg_next (i := i) hT hg0 (by omega) (by omega)
    have hA1 := pg_at hT hg1
    have h16_1 := hA1.1
    have h15_1 := hA1.2.1
    have hpr1 := hA1.2.2
    have hkr1 := kg_rg T n (tp T n 1 (i + 1))
    have hic1 := hg1.1
    have hlt1 := tp_lt (i := i) hT hg0 (by omega) (by omega)
    refine wa_iconst ?_
    refine wa_istore (n := 4) rfl ?_
    refine wa_fall ⟨_, rfl⟩ ?_
    have hk12 : kg T n (tp T n 1 i) = 12 := by omega
    have ezu : mz_ag 97 73 87 kc (ms.length : Int) S (w_up S 14 4 ((i + 1 : Nat) : Int)) := fun j x a1 a2 a3 a4 => (w_up_no (by omega)).trans rfl
    refine wJ_S (mb_l_73 (B := B) (kc := kc) (itf := itf) (fi := ms.length) hkc hit ((n - tp T n 1 (i + 1)).toNat + 1) (i + 1) ms 0 (w_up S 14 4 ((i + 1 : Nat) : Int)) (by omega) (hx_up hx (by unfold hx_o; omega)) (show cx_P T n c (i + 1) (w_up S 14 4 ((i + 1 : Nat) : Int)) from ⟨(w_up_same _ _ _ _), hg1⟩) (mr_all_up hms (by omega) (by omega)) (show (w_up S 14 4 ((i + 1 : Nat) : Int)) 73 4 = (ms.length : Int) from hmc) ⟨(show (w_up S 14 4 ((i + 1 : Nat) : Int)) 91 kc = (ms.length : Int) from hme.2.1), Nat.le_refl _⟩ (show (w_up S 14 4 ((i + 1 : Nat) : Int)) 90 kc = (ms.length : Int) - (ms.length : Int) from hme.2.2.trans (by omega)) ⟨by omega, by omega⟩ (fun i2 ms2 u2 Zm e1 e2 e3 e4 e5 e6 e7 e8 e9 => ?_) (fun e q v Z0 Z e1 e2 e3 => hf e q v Z0 Z (Or.inr ⟨hk12, e1⟩) (mz_tr ezu e2 (Int.le_refl _)) e3)) ⟨rfl, rfl, rfl, trivial⟩
    have hag := mz_tr ezu e2 (Int.le_refl _)
    obtain ⟨rs, er1, er2⟩ := mb_f_mo hB (by decide) (by omega) hkc.2 _ _ _ _ _ e1
    have hdr : ms2.drop ms.length = rs := by rw [er1, List.drop_append_of_le_length (Nat.le_refl _), List.drop_length, List.nil_append]
    have g1 : ∀ q : Int, Zm 88 q = S 88 q := fun q => hag 88 q (by omega) (by omega) (by omega) (by omega)
    have g4 : ∀ q : Int, Zm 91 q = S 91 q := fun q => hag 91 q (by omega) (by omega) (by omega) (by omega)
    have g7 : ∀ q : Int, Zm 94 q = S 94 q := fun q => hag 94 q (by omega) (by omega) (by omega) (by omega)
    have g8 : ∀ q : Int, Zm 95 q = S 95 q := fun q => hag 95 q (by omega) (by omega) (by omega) (by omega)
    have h4002 := e5.1
    have hcbm : cb_I 87 73 Zm := by
      refine ⟨by rw [(hx_R e3).1]; omega, by rw [e6]; omega, fun q q0 q1 => ?_⟩
      rw [(hx_R e3).1, hkc.1] at q1
      show (-1 ≤ Zm 88 q ∧ Zm 88 q < q) ∧ 0 ≤ Zm 91 q ∧ 0 ≤ Zm 90 q ∧ Zm 91 q + Zm 90 q ≤ Zm 73 4
      rw [g1, g4, e6]
      by_cases hqk : q = kc
      · subst hqk; rw [e8]; have := hme.2.1; exact ⟨hme.1, by omega, by omega, by omega⟩
      · have h := tb1 q q0 (by omega)
        have h : (-1 ≤ S 88 q ∧ S 88 q < q) ∧ 0 ≤ S 91 q ∧ 0 ≤ S 90 q ∧ S 91 q + S 90 q ≤ (ms.length : Int) ∧ _ := h
        rw [hag 90 q (by omega) (by omega) (by omega) (by omega)]
        exact ⟨h.1, h.2.1, h.2.2.1, by omega⟩
    have hLm : wd_L Zm 74 64 := wd_L_ag tb4 (fun x hx => hag _ _ (by omega) (by omega) (by omega) (by omega))
    have hrwm : rw_S 116 117 118 Zm := by unfold rw_S; rw [hag 116 2 (by omega) (by omega) (by omega) (by omega), hag 117 (-1) (by omega) (by omega) (by omega) (by omega), hag 118 (-1) (by omega) (by omega) (by omega) (by omega)]; exact tb3
    have hn0m : Zm 116 2 = n0 := (hag 116 2 (by omega) (by omega) (by omega) (by omega)).trans hn0
    have hab : S 88 kc = -1 ∨ 0 ≤ S 88 kc := by omega
    have hf0r : 0 ≤ f0 ∧ f0 ≤ 1000 := by
      rw [hf0]; rcases hab with z | z
      · rw [if_pos z]; omega
      · rw [if_neg (by omega)]; have h := tb1 (S 88 kc) z (by omega); have h7 : 0 ≤ S 94 (S 88 kc) ∧ S 94 (S 88 kc) ≤ S 91 (S 88 kc) + S 90 (S 88 kc) := h.2.2.2.2.1; have h8 : S 91 (S 88 kc) + S 90 (S 88 kc) ≤ (ms.length : Int) := h.2.2.2.1; omega
    have hx0r : -1 ≤ x0 ∧ x0 < 400 := by
      rw [hx0]; rcases hab with z | z
      · rw [if_pos z]; omega
      · rw [if_neg (by omega)]; exact (tb1 (S 88 kc) z (by omega)).2.2.2.2.2
    exact rc7_73 (S := Zm) (i := i2) (fi := ms.length) (ms := ms2) (n0 := n0) (f0 := f0) (x0 := x0) hX e3 e4 e9 hkc hcbm hLm e5 (by rw [hdr]; exact er2) e6 ⟨(g4 kc).trans hme.2.1, e7⟩ ⟨hn0m, by omega, hrwm⟩ ⟨by rw [g1, g7]; exact hf0, hf0r⟩ ⟨by rw [g1, g8]; exact hx0, hx0r⟩ (fun Z1 Zf y1 y2 => hq i2 ms2 Zm Z1 Zf hk12 e1 e9 hag e3 e4 e5 e6 e7 e8 y1 y2)
  · skip
    have hkg := ht1
    refine ⟨rfl, ?_⟩
    exact hf 1 _ v _ _ (Or.inl ⟨hkg, rfl, rfl⟩) (fun _ _ _ _ _ _ => rfl) hrz
theorem rc7_162 {kc f0 x0 n0 : Int} {fi : Nat} {ms : List hMR} (hX : w_X xs) (hx : hx_I 261 162 176 181 163 T n c B S) (hP : cx_P T n c i S) (hk13 : kg T n (tp T n 1 i) = 13) (hkc : B 261 1 = kc + 1 ∧ 0 ≤ kc ∧ kc < 60) (hcb : cb_I 176 162 S) (hL : wd_L S 163 64) (hms : mr_all 186 163 T S ms) (hmo : ∀ r ∈ ms.drop fi, mo_I r ∧ r.1 = kc) (hmc : S 162 4 = (ms.length : Int)) (hfi : S 180 kc = (fi : Int) ∧ fi ≤ ms.length) (hst : S 205 2 = n0 ∧ n0 ≤ 400 ∧ rw_S 205 206 207 S) (hf0 : f0 = (if S 177 kc = -1 then 0 else S 183 (S 177 kc)) ∧ 0 ≤ f0 ∧ f0 ≤ 1000) (hx0 : x0 = (if S 177 kc = -1 then -1 else S 184 (S 177 kc)) ∧ -1 ≤ x0 ∧ x0 < 400) (hq : ∀ Z1 Zf, le_I 186 176 205 206 207 208 (fi : Int) kc n0 f0 x0 (ms.drop fi) (w_up (w_up (w_up S 14 4 ((i + 1 : Nat) : Int)) 183 kc f0) 184 kc x0) Z1 (ms.drop fi).length → l2_I 186 176 163 208 (fi : Int) (ms.drop fi) Z1 Zf (ms.drop fi).length → Q (.inl none) Zf) : wJ (pe_GA xs) wY0 (mS [206, 207]) (d + 11) t_XT_readClass ((pe_at t_XT_readClass.bl 7).getD (0, [])).2 [(0, (2, 61))] [] S Q := by
  have hB : zT B T n := hx.1
  have hT : cx_T 163 T n c S := hx.2.1
  have hI : gI S := hx.2.2.1
  have hW : wd_at S 163 64 := hx.2.2.2.1
  have hrw : rw_I S 163 := hx.2.2.2.2.1
  have hwc : 13 ≤ S 163 7 ∧ S 163 7 ≤ 400000 := hx.2.2.2.2.2.1
  have hR : cn_R 261 162 176 181 163 T B S := hx.2.2.2.2.2.2.1
  have hH : S 61 1 = 162 := hx.2.2.2.2.2.2.2
  have hC : w_CL S := hR.2.2.1
  have hN : S 162 2 = B 261 1 := hR.1
  have hN6 : 0 ≤ B 261 1 ∧ B 261 1 ≤ 60 := hR.2.1
  have hpos4 : S 14 4 = (i : Int) := hP.1
  have hg0 : pg T n c i := hP.2
  have hA0 := pg_at hT hg0
  have h16_0 := hA0.1
  have h15_0 := hA0.2.1
  have hpr0 := hA0.2.2
  have hkr0 := kg_rg T n (tp T n 1 i)
  have hcn : (c : Int) ≤ n ∧ n ≤ 65536 := ⟨hT.2.2.2.2.1, hT.2.2.2.2.2.1⟩
  have hRL := hT.2.2.2.2.2.2
  have hl15 : S 14 3 ≤ S 15 (-1) := hRL.1.2
  have hl16 : S 16 (-1) = S 15 (-1) := hRL.2.1
  have hl17 : S 17 (-1) = S 15 (-1) := hRL.2.2.1
  have hc3 : S 14 3 = (c : Int) + 1 := hT.1
  have hic0 : i ≤ c := hg0.1
  have h400 := hms.1
  have hlen : ((ms.drop fi).length : Int) = (ms.length : Int) - (fi : Int) := by rw [List.length_drop]; omega
  have hxu := hx_up (j := 14) (k := 4) (x := ((i + 1 : Nat) : Int)) hx (by unfold hx_o; omega)
  have hmsU : mr_all 186 163 T (w_up S 14 4 ((i + 1 : Nat) : Int)) ms := mr_all_up hms (by omega) (by omega)
  have hmq : ∀ (q : Nat) (r : hMR), (ms.drop fi)[q]? = some r → mr_at 186 163 T (w_up S 14 4 ((i + 1 : Nat) : Int)) ((fi : Int) + (q : Int)) r ∧ r.1 = kc ∧ (r.2.1 ≠ 2 → r.2.2.2.2.2.2.2 - r.2.2.2.2.2.2.1 ≤ 30) := by
    intro q r hr
    have h1 := hmsU.2 (fi + q) r (dr_get hr)
    rw [show ((fi + q : Nat) : Int) = (fi : Int) + (q : Int) by omega] at h1
    have h2 := hmo r (List.mem_of_getElem? hr)
    exact ⟨h1, h2.2, h2.1.2⟩
  refine wa_aload_n (n := 0) rfl ?_
  refine wa_bipush (w_rg2 (by omega) (by omega)) ?_
  refine wa_cv 61 rfl (wy_pr rfl) wt_61 (M2 := fun _ => False) rfl at_XT_take ⟨_, rfl⟩ rfl rfl ⟨(Or.inr ⟨wy_pr rfl, fun q => q⟩), trivial⟩ trivial (fun _ _ q => False.elim q) (ta_c (S := S) (hx_T hx) (show cx_P T n c (i) S from ⟨(hpos4), hg0⟩) rfl hI (k := 13) ⟨by omega, by omega⟩) (fun oq2 Sq2 hp3 q2 => ?_)
  rcases q2 with ⟨ht1, rfl, rfl⟩ | ⟨ht1, v, rfl, hrz⟩
  · skip
    show wJ _ _ _ _ _ _ _ _ _ _
    have hg1 : pg T n c (i + 1) := pg_next (i := i) hT hg0 (by omega) (by omega)
    have hA1 := pg_at hT hg1
    have h16_1 := hA1.1
    have h15_1 := hA1.2.1
    have hpr1 := hA1.2.2
    have hkr1 := kg_rg T n (tp T n 1 (i + 1))
    have hic1 := hg1.1
    have hlt1 := tp_lt (i := i) hT hg0 (by omega) (by omega)
    refine wa_aload_n (n := 0) rfl ?_
    refine wb_gf5 61 rfl (wy_pr rfl) wt_61 wf_4_1 (v := 162) ((w_up_slot (by decide)).trans (hH)) (fun r4 => ?_)
    refine wa_cv 162 rfl (wy_pr rfl) wt_162 (M2 := mS [206, 207]) rfl at_XO_endClass ⟨_, rfl⟩ rfl rfl ⟨(Or.inr ⟨wy_pr rfl, mS_no rfl⟩), trivial⟩ trivial (fun _ _ q => q) (ec_162 (d := d + 2) (S := (w_up S 14 4 ((i + 1 : Nat) : Int))) (kc := kc) (fi := (fi : Int)) (f0 := f0) (x0 := x0) (n0 := n0) (rs := ms.drop fi) (T := T) hX (hx_R hxu).2.2.1 (show cb_I 176 162 (w_up S 14 4 ((i + 1 : Nat) : Int)) from hcb) (hx_W hxu) (show wd_L (w_up S 14 4 ((i + 1 : Nat) : Int)) 163 64 from hL) ⟨hN.trans hkc.1, hkc.2⟩ hmq (show (w_up S 14 4 ((i + 1 : Nat) : Int)) 162 4 = (fi : Int) + ((ms.drop fi).length : Int) from hmc.trans (by omega)) ⟨hfi.1, by omega, by omega⟩ (fun q r hr => (hmo r (List.mem_of_getElem? hr)).1.1) hxu.2.2.1 (show (w_up S 14 4 ((i + 1 : Nat) : Int)) 205 2 = n0 ∧ n0 ≤ 400 ∧ rw_S 205 206 207 (w_up S 14 4 ((i + 1 : Nat) : Int)) from hst) hf0 hx0) (fun oq5 Sq5 hp6 q5 => ?_)
    rcases q5 with ⟨rfl, Z1, e1, e2⟩
    show wJ _ _ _ _ _ _ _ _ _ _
    generalize Sq5 = Zf at e2 ⊢
    refine wa_return rfl ?_
    exact hq Z1 Zf e1 e2
  · skip
    have hkg := ht1
    refine ⟨rfl, ?_⟩
    exact absurd hk13 hkg
theorem rc4b_162 {kc itf f0 x0 n0 : Int} {ms : List hMR} (hX : w_X xs) (hx : hx_I 261 162 176 181 163 T n c B S) (hP : cx_P T n c i S) (hkc : B 261 1 = kc + 1 ∧ 0 ≤ kc ∧ kc < 60) (hit : itf = 0 ∨ itf = 1) (htb : tb_I 176 205 206 207 163 S kc (ms.length : Int)) (hme : (-1 ≤ S 177 kc ∧ S 177 kc < kc) ∧ S 180 kc = (ms.length : Int) ∧ S 179 kc = 0) (hms : mr_all 186 163 T S ms) (hmc : S 162 4 = (ms.length : Int)) (hn0 : S 205 2 = n0) (hf0 : f0 = (if S 177 kc = -1 then 0 else S 183 (S 177 kc))) (hx0 : x0 = (if S 177 kc = -1 then -1 else S 184 (S 177 kc))) (hq : ∀ (i2 : Nat) (ms2 : List hMR) (Zm Z1 Zf : wS), kg T n (tp T n 1 i) = 12 → mb_f B 261 kc itf ms.length ((n - tp T n 1 (i + 1)).toNat + 1) (tp T n 1 (i + 1)) ms = .inr (tp T n 1 i2, ms2) → kg T n (tp T n 1 i2) = 13 → mz_ag 186 162 176 kc (ms.length : Int) S Zm → hx_I 261 162 176 181 163 T n c B Zm → cx_P T n c i2 Zm → mr_all 186 163 T Zm ms2 → Zm 162 4 = (ms2.length : Int) → ms.length ≤ ms2.length → Zm 179 kc = (ms2.length : Int) - (ms.length : Int) → le_I 186 176 205 206 207 208 (ms.length : Int) kc n0 f0 x0 (ms2.drop ms.length) (w_up (w_up (w_up Zm 14 4 ((i2 + 1 : Nat) : Int)) 183 kc f0) 184 kc x0) Z1 (ms2.drop ms.length).length → l2_I 186 176 163 208 (ms.length : Int) (ms2.drop ms.length) Z1 Zf (ms2.drop ms.length).length → Q (.inl none) Zf) (hf : ∀ (e q : Int) (v : Nat) (Z0 Z : wS), ((kg T n (tp T n 1 i) ≠ 12 ∧ e = 1 ∧ q = tp T n 1 i) ∨ (kg T n (tp T n 1 i) = 12 ∧ mb_f B 261 kc itf ms.length ((n - tp T n 1 (i + 1)).toNat + 1) (tp T n 1 (i + 1)) ms = .inl (e, q))) → mz_ag 186 162 176 kc (ms.length : Int) S Z0 → rz_ag Z0 Z v (e + 16 * q) → Q (.inr v) Z) : wJ (pe_GA xs) wY0 (mS [206, 207]) (d + 11) t_XT_readClass (List.drop 13 ((pe_at t_XT_readClass.bl 4).getD (0, [])).2) [(0, (2, 61)), (1, (0, itf))] [] S Q := by
  have hB : zT B T n := hx.1
  have hT : cx_T 163 T n c S := hx.2.1
  have hI : gI S := hx.2.2.1
  have hW : wd_at S 163 64 := hx.2.2.2.1
  have hrw : rw_I S 163 := hx.2.2.2.2.1
  have hwc : 13 ≤ S 163 7 ∧ S 163 7 ≤ 400000 := hx.2.2.2.2.2.1
  have hR : cn_R 261 162 176 181 163 T B S := hx.2.2.2.2.2.2.1
  have hH : S 61 1 = 162 := hx.2.2.2.2.2.2.2
  have hC : w_CL S := hR.2.2.1
  have hN : S 162 2 = B 261 1 := hR.1
  have hN6 : 0 ≤ B 261 1 ∧ B 261 1 ≤ 60 := hR.2.1
  have hpos4 : S 14 4 = (i : Int) := hP.1
  have hg0 : pg T n c i := hP.2
  have hA0 := pg_at hT hg0
  have h16_0 := hA0.1
  have h15_0 := hA0.2.1
  have hpr0 := hA0.2.2
  have hkr0 := kg_rg T n (tp T n 1 i)
  have hcn : (c : Int) ≤ n ∧ n ≤ 65536 := ⟨hT.2.2.2.2.1, hT.2.2.2.2.2.1⟩
  have hRL := hT.2.2.2.2.2.2
  have hl15 : S 14 3 ≤ S 15 (-1) := hRL.1.2
  have hl16 : S 16 (-1) = S 15 (-1) := hRL.2.1
  have hl17 : S 17 (-1) = S 15 (-1) := hRL.2.2.1
  have hc3 : S 14 3 = (c : Int) + 1 := hT.1
  have hic0 : i ≤ c := hg0.1
  have h400 := hms.1
  obtain ⟨tb1, tb2, tb3, tb4⟩ := htb
  refine wa_aload_n (n := 0) rfl ?_
  refine wa_bipush (w_rg2 (by omega) (by omega)) ?_
  refine wa_cv 61 rfl (wy_pr rfl) wt_61 (M2 := fun _ => False) rfl at_XT_take ⟨_, rfl⟩ rfl rfl ⟨(Or.inr ⟨wy_pr rfl, fun q => q⟩), trivial, trivial⟩ trivial (fun _ _ q => False.elim q) (ta_c (S := S) (hx_T hx) (show cx_P T n c (i) S from ⟨(hpos4), hg0⟩) rfl hI (k := 12) ⟨by omega, by omega⟩) (fun oq2 Sq2 hp3 q2 => ?_)
  rcases q2 with ⟨ht1, rfl, rfl⟩ | ⟨ht1, v, rfl, hrz⟩
  · skip
    show wJ _ _ _ _ _ _ _ _ _ _
    have hg1 : pg T n c (i + 1) := pg_next (i := i) hT hg0 (by omega) (by omega)
    have hA1 := pg_at hT hg1
    have h16_1 := hA1.1
    have h15_1 := hA1.2.1
    have hpr1 := hA1.2.2
    have hkr1 := kg_rg T n (tp T n 1 (i + 1))
    have hic1 := hg1.1
    have hlt1 := tp_lt (i := i) hT hg0 (by omega) (by omega)
    refine wa_iconst ?_
    refine wa_istore (n := 4) rfl ?_
    refine wa_fall ⟨_, rfl⟩ ?_
    have hk12 : kg T n (tp T n 1 i) = 12 := by omega
    have ezu : mz_ag 186 162 176 kc (ms.length : Int) S (w_up S 14 4 ((i + 1 : Nat) : Int)) := fun j x a1 a2 a3 a4 => (w_up_no (by omega)).trans rfl
    refine wJ_S (mb_l_162 (B := B) (kc := kc) (itf := itf) (fi := ms.length) hkc hit ((n - tp T n 1 (i + 1)).toNat + 1) (i + 1) ms 0 (w_up S 14 4 ((i + 1 : Nat) : Int)) (by omega) (hx_up hx (by unfold hx_o; omega)) (show cx_P T n c (i + 1) (w_up S 14 4 ((i + 1 : Nat) : Int)) from ⟨(w_up_same _ _ _ _), hg1⟩) (mr_all_up hms (by omega) (by omega)) (show (w_up S 14 4 ((i + 1 : Nat) : Int)) 162 4 = (ms.length : Int) from hmc) ⟨(show (w_up S 14 4 ((i + 1 : Nat) : Int)) 180 kc = (ms.length : Int) from hme.2.1), Nat.le_refl _⟩ (show (w_up S 14 4 ((i + 1 : Nat) : Int)) 179 kc = (ms.length : Int) - (ms.length : Int) from hme.2.2.trans (by omega)) ⟨by omega, by omega⟩ (fun i2 ms2 u2 Zm e1 e2 e3 e4 e5 e6 e7 e8 e9 => ?_) (fun e q v Z0 Z e1 e2 e3 => hf e q v Z0 Z (Or.inr ⟨hk12, e1⟩) (mz_tr ezu e2 (Int.le_refl _)) e3)) ⟨rfl, rfl, rfl, trivial⟩
    have hag := mz_tr ezu e2 (Int.le_refl _)
    obtain ⟨rs, er1, er2⟩ := mb_f_mo hB (by decide) (by omega) hkc.2 _ _ _ _ _ e1
    have hdr : ms2.drop ms.length = rs := by rw [er1, List.drop_append_of_le_length (Nat.le_refl _), List.drop_length, List.nil_append]
    have g1 : ∀ q : Int, Zm 177 q = S 177 q := fun q => hag 177 q (by omega) (by omega) (by omega) (by omega)
    have g4 : ∀ q : Int, Zm 180 q = S 180 q := fun q => hag 180 q (by omega) (by omega) (by omega) (by omega)
    have g7 : ∀ q : Int, Zm 183 q = S 183 q := fun q => hag 183 q (by omega) (by omega) (by omega) (by omega)
    have g8 : ∀ q : Int, Zm 184 q = S 184 q := fun q => hag 184 q (by omega) (by omega) (by omega) (by omega)
    have h4002 := e5.1
    have hcbm : cb_I 176 162 Zm := by
      refine ⟨by rw [(hx_R e3).1]; omega, by rw [e6]; omega, fun q q0 q1 => ?_⟩
      rw [(hx_R e3).1, hkc.1] at q1
      show (-1 ≤ Zm 177 q ∧ Zm 177 q < q) ∧ 0 ≤ Zm 180 q ∧ 0 ≤ Zm 179 q ∧ Zm 180 q + Zm 179 q ≤ Zm 162 4
      rw [g1, g4, e6]
      by_cases hqk : q = kc
      · subst hqk; rw [e8]; have := hme.2.1; exact ⟨hme.1, by omega, by omega, by omega⟩
      · have h := tb1 q q0 (by omega)
        have h : (-1 ≤ S 177 q ∧ S 177 q < q) ∧ 0 ≤ S 180 q ∧ 0 ≤ S 179 q ∧ S 180 q + S 179 q ≤ (ms.length : Int) ∧ _ := h
        rw [hag 179 q (by omega) (by omega) (by omega) (by omega)]
        exact ⟨h.1, h.2.1, h.2.2.1, by omega⟩
    have hLm : wd_L Zm 163 64 := wd_L_ag tb4 (fun x hx => hag _ _ (by omega) (by omega) (by omega) (by omega))
    have hrwm : rw_S 205 206 207 Zm := by unfold rw_S; rw [hag 205 2 (by omega) (by omega) (by omega) (by omega), hag 206 (-1) (by omega) (by omega) (by omega) (by omega), hag 207 (-1) (by omega) (by omega) (by omega) (by omega)]; exact tb3
    have hn0m : Zm 205 2 = n0 := (hag 205 2 (by omega) (by omega) (by omega) (by omega)).trans hn0
    have hab : S 177 kc = -1 ∨ 0 ≤ S 177 kc := by omega
    have hf0r : 0 ≤ f0 ∧ f0 ≤ 1000 := by
      rw [hf0]; rcases hab with z | z
      · rw [if_pos z]; omega
      · rw [if_neg (by omega)]; have h := tb1 (S 177 kc) z (by omega); have h7 : 0 ≤ S 183 (S 177 kc) ∧ S 183 (S 177 kc) ≤ S 180 (S 177 kc) + S 179 (S 177 kc) := h.2.2.2.2.1; have h8 : S 180 (S 177 kc) + S 179 (S 177 kc) ≤ (ms.length : Int) := h.2.2.2.1; omega
    have hx0r : -1 ≤ x0 ∧ x0 < 400 := by
      rw [hx0]; rcases hab with z | z
      · rw [if_pos z]; omega
      · rw [if_neg (by omega)]; exact (tb1 (S 177 kc) z (by omega)).2.2.2.2.2
    exact rc7_162 (S := Zm) (i := i2) (fi := ms.length) (ms := ms2) (n0 := n0) (f0 := f0) (x0 := x0) hX e3 e4 e9 hkc hcbm hLm e5 (by rw [hdr]; exact er2) e6 ⟨(g4 kc).trans hme.2.1, e7⟩ ⟨hn0m, by omega, hrwm⟩ ⟨by rw [g1, g7]; exact hf0, hf0r⟩ ⟨by rw [g1, g8]; exact hx0, hx0r⟩ (fun Z1 Zf y1 y2 => hq i2 ms2 Zm Z1 Zf hk12 e1 e9 hag e3 e4 e5 e6 e7 e8 y1 y2)
  · skip
    have hkg := ht1
    refine ⟨rfl, ?_⟩
    exact hf 1 _ v _ _ (Or.inl ⟨hkg, rfl, rfl⟩) (fun _ _ _ _ _ _ => rfl) hrz
end Wa2
