/-! PART a3: readClass behind its supers. -/
section Wa3
variable {xs : List (Nat × List Int32)} {M : Nat → Prop} {d : Nat} {A B C S Z B2 : wS} {Q : wO → wS → Prop} {T : Int → Int} {n : Int} {c i : Nat}
theorem rc4_73 {k0 itf a word p1 e1 : Int} {sl : List Int} {os : Int → List Int} {ms : List hMR} (hX : w_X xs) (hx : hx_I 241 73 87 92 74 T n c B S) (hP : cx_P T n c i S) (hk0 : B 241 1 = k0 ∧ k0 < 60) (hit : itf = 0 ∨ itf = 1) (ha : -1 ≤ a ∧ a < k0) (hwd : (13 ≤ word ∧ word < S 74 7) ∧ wq (S 75) (S 76) (S 77) T p1 (e1 - p1) word) (hB2 : zT B2 T n) (hB2c : B2 241 1 = k0 + 1) (hB2r : ∀ k : Int, 0 ≤ k → k < k0 → B2 243 k = B 243 k ∧ B2 250 k = B 250 k ∧ B2 251 k = B 251 k) (hB2k : B2 243 k0 = itf ∧ B2 250 k0 = p1 ∧ B2 251 k0 = e1) (hsl : su_I S sl) (hnd : su_nd k0 sl) (htb : tb_I 87 116 117 118 74 S k0 (ms.length : Int)) (hos : ∀ q : Int, 0 ≤ q → q < k0 → od_1 93 114 115 S q (os q)) (hms : mr_all 97 74 T S ms) (hmc : S 73 4 = (ms.length : Int)) (hq : ∀ (Zo : wS) (i2 : Nat) (ms2 : List hMR) (Zm Z1 Zf : wS), oz_ag 93 114 115 k0 (w_up (w_up (w_up (w_up (w_up (w_up (w_up S 87 k0 itf) 88 k0 a) 90 k0 0) 91 k0 (ms.length : Int)) 92 k0 word) 73 2 (k0 + 1)) 89 k0 (sl.length : Int)) Zo → od_1 93 114 115 Zo k0 (so_L ((w_up (w_up (w_up (w_up (w_up (w_up S 87 k0 itf) 88 k0 a) 90 k0 0) 91 k0 (ms.length : Int)) 92 k0 word) 73 2 (k0 + 1)) 87) ((w_up (w_up (w_up (w_up (w_up (w_up S 87 k0 itf) 88 k0 a) 90 k0 0) 91 k0 (ms.length : Int)) 92 k0 word) 73 2 (k0 + 1)) 88) os k0 sl) → kg T n (tp T n 1 i) = 12 → mb_f B2 241 k0 itf ms.length ((n - tp T n 1 (i + 1)).toNat + 1) (tp T n 1 (i + 1)) ms = .inr (tp T n 1 i2, ms2) → kg T n (tp T n 1 i2) = 13 → mz_ag 97 73 87 k0 (ms.length : Int) Zo Zm → hx_I 241 73 87 92 74 T n c B2 Zm → cx_P T n c i2 Zm → mr_all 97 74 T Zm ms2 → Zm 73 4 = (ms2.length : Int) → ms.length ≤ ms2.length → Zm 90 k0 = (ms2.length : Int) - (ms.length : Int) → le_I 97 87 116 117 118 119 (ms.length : Int) k0 (S 116 2) (if a = -1 then 0 else S 94 a) (if a = -1 then -1 else S 95 a) (ms2.drop ms.length) (w_up (w_up (w_up Zm 14 4 ((i2 + 1 : Nat) : Int)) 94 k0 (if a = -1 then 0 else S 94 a)) 95 k0 (if a = -1 then -1 else S 95 a)) Z1 (ms2.drop ms.length).length → l2_I 97 87 74 119 (ms.length : Int) (ms2.drop ms.length) Z1 Zf (ms2.drop ms.length).length → Q (.inl none) Zf) (hf : ∀ (Zo : wS) (e q : Int) (v : Nat) (Z0 Z : wS), oz_ag 93 114 115 k0 (w_up (w_up (w_up (w_up (w_up (w_up (w_up S 87 k0 itf) 88 k0 a) 90 k0 0) 91 k0 (ms.length : Int)) 92 k0 word) 73 2 (k0 + 1)) 89 k0 (sl.length : Int)) Zo → od_1 93 114 115 Zo k0 (so_L ((w_up (w_up (w_up (w_up (w_up (w_up S 87 k0 itf) 88 k0 a) 90 k0 0) 91 k0 (ms.length : Int)) 92 k0 word) 73 2 (k0 + 1)) 87) ((w_up (w_up (w_up (w_up (w_up (w_up S 87 k0 itf) 88 k0 a) 90 k0 0) 91 k0 (ms.length : Int)) 92 k0 word) 73 2 (k0 + 1)) 88) os k0 sl) → ((kg T n (tp T n 1 i) ≠ 12 ∧ e = 1 ∧ q = tp T n 1 i) ∨ (kg T n (tp T n 1 i) = 12 ∧ mb_f B2 241 k0 itf ms.length ((n - tp T n 1 (i + 1)).toNat + 1) (tp T n 1 (i + 1)) ms = .inl (e, q))) → mz_ag 97 73 87 k0 (ms.length : Int) Zo Z0 → rz_ag Z0 Z v (e + 16 * q) → Q (.inr v) Z) : wJ (pe_GA xs) wY0 (mS [117, 118]) (d + 11) t_XT_readClass ((pe_at t_XT_readClass.bl 4).getD (0, [])).2 [(0, (2, 61)), (1, (0, itf)), (2, (0, word)), (3, (0, a))] [] S Q := by
  have hT := hx.2.1
  have hI := hx.2.2.1
  have hW := hx.2.2.2.1
  have hwc : 13 ≤ S 74 7 ∧ S 74 7 ≤ 400000 := hx.2.2.2.2.2.1
  have hR := hx.2.2.2.2.2.2.1
  have hH : S 61 1 = 73 := hx.2.2.2.2.2.2.2
  have hC : w_CL S := hR.2.2.1
  have hN : S 73 2 = k0 := hR.1.trans hk0.1
  have hN6 := hR.2.1
  have hk00 : 0 ≤ k0 := by omega
  have hl4 : S 61 4 = (sl.length : Int) := hsl.1
  have hl60 := hsl.2.1
  have h400 := hms.1
  obtain ⟨tb1, tb2, tb3, tb4⟩ := htb
  have hCA : w_CL (w_up (w_up (w_up (w_up (w_up (w_up S 87 k0 itf) 88 k0 a) 90 k0 0) 91 k0 (ms.length : Int)) 92 k0 word) 73 2 (k0 + 1)) := w_CL_up (w_CL_up (w_CL_up (w_CL_up (w_CL_up (w_CL_up hC (by omega)) (by omega)) (by omega)) (by omega)) (by omega)) (by omega)
  have sa : ∀ (j : Nat) (y : Int), ((j < 87 ∨ 92 < j) ∨ y ≠ k0) → (j ≠ 73 ∨ y ≠ 2) → (w_up (w_up (w_up (w_up (w_up (w_up S 87 k0 itf) 88 k0 a) 90 k0 0) 91 k0 (ms.length : Int)) 92 k0 word) 73 2 (k0 + 1)) j y = S j y := fun j y h1 h2 => (w_up_no (by omega)).trans ((w_up_no (by omega)).trans ((w_up_no (by omega)).trans ((w_up_no (by omega)).trans ((w_up_no (by omega)).trans (w_up_no (by omega))))))
  have sa1 : (w_up (w_up (w_up (w_up (w_up (w_up S 87 k0 itf) 88 k0 a) 90 k0 0) 91 k0 (ms.length : Int)) 92 k0 word) 73 2 (k0 + 1)) 88 k0 = a := (w_up_slot (by decide)).trans ((w_up_slot (by decide)).trans ((w_up_slot (by decide)).trans ((w_up_slot (by decide)).trans (w_up_same _ _ _ _))))
  refine wa_aload_n (n := 0) rfl ?_
  refine wb_gf5 61 rfl (wy_pr rfl) wt_61 wf_4_1 (v := 73) (hH) (fun r1 => ?_)
  refine wa_iload_n (n := 1) rfl ?_
  refine wa_iload_n (n := 3) rfl ?_
  refine wa_iload_n (n := 2) rfl ?_
  refine wa_cv 73 rfl (wy_pr rfl) wt_73 (M2 := fun _ => False) rfl at_XO_addClass ⟨_, rfl⟩ rfl rfl ⟨(Or.inr ⟨wy_pr rfl, fun q => q⟩), trivial, trivial, trivial, trivial⟩ trivial (fun _ _ q => False.elim q) (ac_73 (S := S) (k0 := k0) (itf := itf) (a := a) (word := word) (m := (ms.length : Int)) hC ⟨hN, hk00, hk0.2⟩ hit ⟨by omega, by omega⟩ ⟨by omega, by omega⟩ ⟨hmc, by omega, by omega⟩) (fun oq2 Sq2 hp3 q2 => ?_)
  rcases q2 with ⟨rfl, rfl⟩
  show wJ _ _ _ _ _ _ _ _ _ _
  refine wa_aload_n (n := 0) rfl ?_
  refine wb_gf5 61 rfl (wy_pr rfl) wt_61 wf_4_1 (v := 73) ((w_up_slot (by decide)).trans ((w_up_slot (by decide)).trans ((w_up_slot (by decide)).trans ((w_up_slot (by decide)).trans ((w_up_slot (by decide)).trans ((w_up_slot (by decide)).trans (hH))))))) (fun r4 => ?_)
  refine wa_aload_n (n := 0) rfl ?_
  refine wb_gf4 61 rfl (wy_pr rfl) wt_61 wf_4_3 (v := 62) wl_61_3 ?_
  refine wa_aload_n (n := 0) rfl ?_
  refine wb_gfi 61 rfl (wy_pr rfl) wt_61 wf_4_4 (v := (sl.length : Int)) ((w_up_slot (by decide)).trans ((w_up_slot (by decide)).trans ((w_up_slot (by decide)).trans ((w_up_slot (by decide)).trans ((w_up_slot (by decide)).trans ((w_up_slot (by decide)).trans (hl4))))))) (fun r5 => ?_)
  have hAA : ∀ q : Int, 0 ≤ q → q ≤ k0 → -1 ≤ (w_up (w_up (w_up (w_up (w_up (w_up S 87 k0 itf) 88 k0 a) 90 k0 0) 91 k0 (ms.length : Int)) 92 k0 word) 73 2 (k0 + 1)) 88 q ∧ (w_up (w_up (w_up (w_up (w_up (w_up S 87 k0 itf) 88 k0 a) 90 k0 0) 91 k0 (ms.length : Int)) 92 k0 word) 73 2 (k0 + 1)) 88 q < q := by
    intro q q0 q1
    by_cases hqk : q = k0
    · subst hqk; rw [sa1]; omega
    · rw [sa 88 q (by omega) (by omega)]; exact (tb1 q q0 (by omega)).1
  have hosA : ∀ q : Int, 0 ≤ q → q < k0 → od_1 93 114 115 (w_up (w_up (w_up (w_up (w_up (w_up S 87 k0 itf) 88 k0 a) 90 k0 0) 91 k0 (ms.length : Int)) 92 k0 word) 73 2 (k0 + 1)) q (os q) := by
    intro q q0 q1
    obtain ⟨y1, y2, y3, y4⟩ := hos q q0 q1
    exact ⟨(sa 93 q (by omega) (by omega)).trans y1, y2, fun x hx => (sa 114 _ (by omega) (by omega)).trans (y3 x hx), fun x hx => by rw [sa 115 q (by omega) (by omega)]; exact y4 x hx⟩
  refine wa_cv 73 rfl (wy_pr rfl) wt_73 (M2 := fun _ => False) rfl at_XO_setOrder ⟨_, rfl⟩ rfl rfl ⟨(Or.inr ⟨wy_pr rfl, fun q => q⟩), trivial, trivial, trivial, trivial⟩ trivial (fun _ _ q => False.elim q) (so_73 (d := d + 8) (S := (w_up (w_up (w_up (w_up (w_up (w_up S 87 k0 itf) 88 k0 a) 90 k0 0) 91 k0 (ms.length : Int)) 92 k0 word) 73 2 (k0 + 1))) (k := k0) (sl := sl) (os := os) hCA ⟨w_up_same _ _ _ _, hk00, hk0.2⟩ hAA (fun q hq => (sa 62 _ (by omega) (by omega)).trans (hsl.2.2 q hq)) ⟨hl60, hnd.2⟩ hosA) (fun oq6 Sq6 hp7 q6 => ?_)
  rcases q6 with ⟨rfl, o1, o2⟩
  generalize Sq6 = Zo at o1 o2 ⊢
  show wJ _ _ _ _ _ _ _ _ _ _
  have zo : ∀ (j : Nat) (y : Int), ((j < 87 ∨ 93 < j) ∨ y ≠ k0) → (j ≠ 73 ∨ y ≠ 2) → (j ≠ 114 ∨ y < 60 * k0 ∨ 60 * k0 + 60 ≤ y) → (j ≠ 115 ∨ y ≠ k0) → Zo j y = S j y := fun j y h1 h2 h3 h4 => (o1 j y (by omega) (by omega) (by omega)).trans ((w_up_no (by omega)).trans (sa j y (by omega) h2))
  have zb : ∀ (j : Nat) (y : Int), (j = 87 ∨ j = 88 ∨ j = 90 ∨ j = 91 ∨ j = 92 ∨ j = 73) → Zo j y = (w_up (w_up (w_up (w_up (w_up (w_up S 87 k0 itf) 88 k0 a) 90 k0 0) 91 k0 (ms.length : Int)) 92 k0 word) 73 2 (k0 + 1)) j y := fun j y h => (o1 j y (by omega) (by omega) (by omega)).trans (w_up_no (by omega))
  have er : ∀ j : Nat, (j < 87 ∨ 93 < j) → j ≠ 73 → j ≠ 114 → j ≠ 115 → Zo j = S j := fun j h1 h2 h3 h4 => funext fun y => zo j y (by omega) (by omega) (by omega) (by omega)
  have hCo : w_CL Zo := fun y hy => (zo y.1 (-1) (by omega) (by omega) (by omega) (by omega)).trans (hC y hy)
  have z0 : Zo 87 k0 = itf := (zb 87 k0 (by omega)).trans ((w_up_slot (by decide)).trans ((w_up_slot (by decide)).trans ((w_up_slot (by decide)).trans ((w_up_slot (by decide)).trans ((w_up_slot (by decide)).trans (w_up_same _ _ _ _))))))
  have z1 : Zo 88 k0 = a := (zb 88 k0 (by omega)).trans sa1
  have z3 : Zo 90 k0 = 0 := (zb 90 k0 (by omega)).trans ((w_up_slot (by decide)).trans ((w_up_slot (by decide)).trans ((w_up_slot (by decide)).trans (w_up_same _ _ _ _))))
  have z4 : Zo 91 k0 = (ms.length : Int) := (zb 91 k0 (by omega)).trans ((w_up_slot (by decide)).trans ((w_up_slot (by decide)).trans (w_up_same _ _ _ _)))
  have z5 : Zo 92 k0 = word := (zb 92 k0 (by omega)).trans ((w_up_slot (by decide)).trans (w_up_same _ _ _ _))
  have zh : Zo 73 2 = k0 + 1 := (zb 73 2 (by omega)).trans (w_up_same _ _ _ _)
  have hxo : hx_I 241 73 87 92 74 T n c B2 Zo := by
    refine ⟨hB2, cx_T_ag (by decide) hT (zo 14 3 (by omega) (by omega) (by omega) (by omega)) (fun j hj => er j (by omega) (by omega) (by omega) (by omega)), gI_ag2 hI (fun j hj => zo j (-1) (by omega) (by omega) (by omega) (by omega)) (fun x hx => zo 238 x (by omega) (by omega) (by omega) (by omega)) (zo 14 5 (by omega) (by omega) (by omega) (by omega)), wd_at_ag hW (fun x hx => er _ (by omega) (by omega) (by omega) (by omega)), ?_, by rw [er 74 (by decide) (by decide) (by decide) (by decide)]; exact hwc, ?_, (zo 61 1 (by omega) (by omega) (by omega) (by omega)).trans hH⟩
    · unfold rw_I; rw [er (74 + 1) (by decide) (by decide) (by decide) (by decide), er (74 + 2) (by decide) (by decide) (by decide) (by decide), er (74 + 3) (by decide) (by decide) (by decide) (by decide)]; exact hx.2.2.2.2.1
    · refine cn_R_add hR hk0.1 hk0.2 hB2c hB2r zh hCo (fun k q0 q1 => ⟨zo 87 k (by omega) (by omega) (by omega) (by omega), zo 92 k (by omega) (by omega) (by omega) (by omega)⟩) (fun x hx => er _ (by omega) (by omega) (by omega) (by omega)) ⟨z0.trans hB2k.1.symm, ?_, ?_⟩
      · rw [z5, er 74 (by decide) (by decide) (by decide) (by decide)]; exact hwd.1
      · rw [z5, show B2 (241 + 9) k0 = p1 from hB2k.2.1, show B2 (241 + 10) k0 = e1 from hB2k.2.2, er (74 + 1) (by decide) (by decide) (by decide) (by decide), er (74 + 2) (by decide) (by decide) (by decide) (by decide), er (74 + 3) (by decide) (by decide) (by decide) (by decide)]; exact hwd.2
  have hPo : cx_P T n c i Zo := ⟨(zo 14 4 (by omega) (by omega) (by omega) (by omega)).trans hP.1, hP.2⟩
  have htbo : tb_I 87 116 117 118 74 Zo k0 (ms.length : Int) := by
    refine ⟨fun q q0 q1 => ?_, by rw [zo 116 2 (by omega) (by omega) (by omega) (by omega)]; exact tb2, ?_, wd_L_ag tb4 (fun x hx => zo _ _ (by omega) (by omega) (by omega) (by omega))⟩
    · rw [zo (87 + 1) q (by omega) (by omega) (by omega) (by omega), zo (87 + 4) q (by omega) (by omega) (by omega) (by omega), zo (87 + 3) q (by omega) (by omega) (by omega) (by omega), zo (87 + 7) q (by omega) (by omega) (by omega) (by omega), zo (87 + 8) q (by omega) (by omega) (by omega) (by omega)]; exact tb1 q q0 q1
    · unfold rw_S; rw [zo 116 2 (by omega) (by omega) (by omega) (by omega), zo 117 (-1) (by omega) (by omega) (by omega) (by omega), zo 118 (-1) (by omega) (by omega) (by omega) (by omega)]; exact tb3
  have hmso : mr_all 97 74 T Zo ms := ⟨hms.1, fun k r hr => mr_at_ag (hms.2 k r hr) (fun x hx => zo _ _ (by omega) (by omega) (by omega) (by omega)) (fun x hx => er _ (by omega) (by omega) (by omega) (by omega))⟩
  have z7 : a ≠ -1 → Zo 94 a = S 94 a := fun z => zo 94 a (by omega) (by omega) (by omega) (by omega)
  have z8 : a ≠ -1 → Zo 95 a = S 95 a := fun z => zo 95 a (by omega) (by omega) (by omega) (by omega)
  have hf0 : (if a = -1 then 0 else S 94 a) = (if Zo 88 k0 = -1 then 0 else Zo 94 (Zo 88 k0)) := by
    rw [z1]
    by_cases hz : a = -1
    · rw [if_pos hz, if_pos hz]
    · rw [if_neg hz, if_neg hz, z7 hz]
  have hx0 : (if a = -1 then -1 else S 95 a) = (if Zo 88 k0 = -1 then -1 else Zo 95 (Zo 88 k0)) := by
    rw [z1]
    by_cases hz : a = -1
    · rw [if_pos hz, if_pos hz]
    · rw [if_neg hz, if_neg hz, z8 hz]
  exact wJ_S (rc4b_73 (S := Zo) (B := B2) (kc := k0) (itf := itf) (ms := ms) (n0 := (S 116 2)) hX hxo hPo ⟨hB2c, hk00, hk0.2⟩ hit htbo ⟨by rw [z1]; omega, z4, z3⟩ hmso ((zo 73 4 (by omega) (by omega) (by omega) (by omega)).trans hmc) (zo 116 2 (by omega) (by omega) (by omega) (by omega)) hf0 hx0 (fun i2 ms2 Zm Z1 Zf => hq Zo i2 ms2 Zm Z1 Zf o1 o2) (fun e q v Z0 Z => hf Zo e q v Z0 Z o1 o2)) ⟨rfl, rfl, trivial⟩
theorem rc4_162 {k0 itf a word p1 e1 : Int} {sl : List Int} {os : Int → List Int} {ms : List hMR} (hX : w_X xs) (hx : hx_I 261 162 176 181 163 T n c B S) (hP : cx_P T n c i S) (hk0 : B 261 1 = k0 ∧ k0 < 60) (hit : itf = 0 ∨ itf = 1) (ha : -1 ≤ a ∧ a < k0) (hwd : (13 ≤ word ∧ word < S 163 7) ∧ wq (S 164) (S 165) (S 166) T p1 (e1 - p1) word) (hB2 : zT B2 T n) (hB2c : B2 261 1 = k0 + 1) (hB2r : ∀ k : Int, 0 ≤ k → k < k0 → B2 263 k = B 263 k ∧ B2 270 k = B 270 k ∧ B2 271 k = B 271 k) (hB2k : B2 263 k0 = itf ∧ B2 270 k0 = p1 ∧ B2 271 k0 = e1) (hsl : su_I S sl) (hnd : su_nd k0 sl) (htb : tb_I 176 205 206 207 163 S k0 (ms.length : Int)) (hos : ∀ q : Int, 0 ≤ q → q < k0 → od_1 182 203 204 S q (os q)) (hms : mr_all 186 163 T S ms) (hmc : S 162 4 = (ms.length : Int)) (hq : ∀ (Zo : wS) (i2 : Nat) (ms2 : List hMR) (Zm Z1 Zf : wS), oz_ag 182 203 204 k0 (w_up (w_up (w_up (w_up (w_up (w_up (w_up S 176 k0 itf) 177 k0 a) 179 k0 0) 180 k0 (ms.length : Int)) 181 k0 word) 162 2 (k0 + 1)) 178 k0 (sl.length : Int)) Zo → od_1 182 203 204 Zo k0 (so_L ((w_up (w_up (w_up (w_up (w_up (w_up S 176 k0 itf) 177 k0 a) 179 k0 0) 180 k0 (ms.length : Int)) 181 k0 word) 162 2 (k0 + 1)) 176) ((w_up (w_up (w_up (w_up (w_up (w_up S 176 k0 itf) 177 k0 a) 179 k0 0) 180 k0 (ms.length : Int)) 181 k0 word) 162 2 (k0 + 1)) 177) os k0 sl) → kg T n (tp T n 1 i) = 12 → mb_f B2 261 k0 itf ms.length ((n - tp T n 1 (i + 1)).toNat + 1) (tp T n 1 (i + 1)) ms = .inr (tp T n 1 i2, ms2) → kg T n (tp T n 1 i2) = 13 → mz_ag 186 162 176 k0 (ms.length : Int) Zo Zm → hx_I 261 162 176 181 163 T n c B2 Zm → cx_P T n c i2 Zm → mr_all 186 163 T Zm ms2 → Zm 162 4 = (ms2.length : Int) → ms.length ≤ ms2.length → Zm 179 k0 = (ms2.length : Int) - (ms.length : Int) → le_I 186 176 205 206 207 208 (ms.length : Int) k0 (S 205 2) (if a = -1 then 0 else S 183 a) (if a = -1 then -1 else S 184 a) (ms2.drop ms.length) (w_up (w_up (w_up Zm 14 4 ((i2 + 1 : Nat) : Int)) 183 k0 (if a = -1 then 0 else S 183 a)) 184 k0 (if a = -1 then -1 else S 184 a)) Z1 (ms2.drop ms.length).length → l2_I 186 176 163 208 (ms.length : Int) (ms2.drop ms.length) Z1 Zf (ms2.drop ms.length).length → Q (.inl none) Zf) (hf : ∀ (Zo : wS) (e q : Int) (v : Nat) (Z0 Z : wS), oz_ag 182 203 204 k0 (w_up (w_up (w_up (w_up (w_up (w_up (w_up S 176 k0 itf) 177 k0 a) 179 k0 0) 180 k0 (ms.length : Int)) 181 k0 word) 162 2 (k0 + 1)) 178 k0 (sl.length : Int)) Zo → od_1 182 203 204 Zo k0 (so_L ((w_up (w_up (w_up (w_up (w_up (w_up S 176 k0 itf) 177 k0 a) 179 k0 0) 180 k0 (ms.length : Int)) 181 k0 word) 162 2 (k0 + 1)) 176) ((w_up (w_up (w_up (w_up (w_up (w_up S 176 k0 itf) 177 k0 a) 179 k0 0) 180 k0 (ms.length : Int)) 181 k0 word) 162 2 (k0 + 1)) 177) os k0 sl) → ((kg T n (tp T n 1 i) ≠ 12 ∧ e = 1 ∧ q = tp T n 1 i) ∨ (kg T n (tp T n 1 i) = 12 ∧ mb_f B2 261 k0 itf ms.length ((n - tp T n 1 (i + 1)).toNat + 1) (tp T n 1 (i + 1)) ms = .inl (e, q))) → mz_ag 186 162 176 k0 (ms.length : Int) Zo Z0 → rz_ag Z0 Z v (e + 16 * q) → Q (.inr v) Z) : wJ (pe_GA xs) wY0 (mS [206, 207]) (d + 11) t_XT_readClass ((pe_at t_XT_readClass.bl 4).getD (0, [])).2 [(0, (2, 61)), (1, (0, itf)), (2, (0, word)), (3, (0, a))] [] S Q := by
  have hT := hx.2.1
  have hI := hx.2.2.1
  have hW := hx.2.2.2.1
  have hwc : 13 ≤ S 163 7 ∧ S 163 7 ≤ 400000 := hx.2.2.2.2.2.1
  have hR := hx.2.2.2.2.2.2.1
  have hH : S 61 1 = 162 := hx.2.2.2.2.2.2.2
  have hC : w_CL S := hR.2.2.1
  have hN : S 162 2 = k0 := hR.1.trans hk0.1
  have hN6 := hR.2.1
  have hk00 : 0 ≤ k0 := by omega
  have hl4 : S 61 4 = (sl.length : Int) := hsl.1
  have hl60 := hsl.2.1
  have h400 := hms.1
  obtain ⟨tb1, tb2, tb3, tb4⟩ := htb
  have hCA : w_CL (w_up (w_up (w_up (w_up (w_up (w_up S 176 k0 itf) 177 k0 a) 179 k0 0) 180 k0 (ms.length : Int)) 181 k0 word) 162 2 (k0 + 1)) := w_CL_up (w_CL_up (w_CL_up (w_CL_up (w_CL_up (w_CL_up hC (by omega)) (by omega)) (by omega)) (by omega)) (by omega)) (by omega)
  have sa : ∀ (j : Nat) (y : Int), ((j < 176 ∨ 181 < j) ∨ y ≠ k0) → (j ≠ 162 ∨ y ≠ 2) → (w_up (w_up (w_up (w_up (w_up (w_up S 176 k0 itf) 177 k0 a) 179 k0 0) 180 k0 (ms.length : Int)) 181 k0 word) 162 2 (k0 + 1)) j y = S j y := fun j y h1 h2 => (w_up_no (by omega)).trans ((w_up_no (by omega)).trans ((w_up_no (by omega)).trans ((w_up_no (by omega)).trans ((w_up_no (by omega)).trans (w_up_no (by omega))))))
  have sa1 : (w_up (w_up (w_up (w_up (w_up (w_up S 176 k0 itf) 177 k0 a) 179 k0 0) 180 k0 (ms.length : Int)) 181 k0 word) 162 2 (k0 + 1)) 177 k0 = a := (w_up_slot (by decide)).trans ((w_up_slot (by decide)).trans ((w_up_slot (by decide)).trans ((w_up_slot (by decide)).trans (w_up_same _ _ _ _))))
  refine wa_aload_n (n := 0) rfl ?_
  refine wb_gf5 61 rfl (wy_pr rfl) wt_61 wf_4_1 (v := 162) (hH) (fun r1 => ?_)
  refine wa_iload_n (n := 1) rfl ?_
  refine wa_iload_n (n := 3) rfl ?_
  refine wa_iload_n (n := 2) rfl ?_
  refine wa_cv 162 rfl (wy_pr rfl) wt_162 (M2 := fun _ => False) rfl at_XO_addClass ⟨_, rfl⟩ rfl rfl ⟨(Or.inr ⟨wy_pr rfl, fun q => q⟩), trivial, trivial, trivial, trivial⟩ trivial (fun _ _ q => False.elim q) (ac_162 (S := S) (k0 := k0) (itf := itf) (a := a) (word := word) (m := (ms.length : Int)) hC ⟨hN, hk00, hk0.2⟩ hit ⟨by omega, by omega⟩ ⟨by omega, by omega⟩ ⟨hmc, by omega, by omega⟩) (fun oq2 Sq2 hp3 q2 => ?_)
  rcases q2 with ⟨rfl, rfl⟩
  show wJ _ _ _ _ _ _ _ _ _ _
  refine wa_aload_n (n := 0) rfl ?_
  refine wb_gf5 61 rfl (wy_pr rfl) wt_61 wf_4_1 (v := 162) ((w_up_slot (by decide)).trans ((w_up_slot (by decide)).trans ((w_up_slot (by decide)).trans ((w_up_slot (by decide)).trans ((w_up_slot (by decide)).trans ((w_up_slot (by decide)).trans (hH))))))) (fun r4 => ?_)
  refine wa_aload_n (n := 0) rfl ?_
  refine wb_gf4 61 rfl (wy_pr rfl) wt_61 wf_4_3 (v := 62) wl_61_3 ?_
  refine wa_aload_n (n := 0) rfl ?_
  refine wb_gfi 61 rfl (wy_pr rfl) wt_61 wf_4_4 (v := (sl.length : Int)) ((w_up_slot (by decide)).trans ((w_up_slot (by decide)).trans ((w_up_slot (by decide)).trans ((w_up_slot (by decide)).trans ((w_up_slot (by decide)).trans ((w_up_slot (by decide)).trans (hl4))))))) (fun r5 => ?_)
  have hAA : ∀ q : Int, 0 ≤ q → q ≤ k0 → -1 ≤ (w_up (w_up (w_up (w_up (w_up (w_up S 176 k0 itf) 177 k0 a) 179 k0 0) 180 k0 (ms.length : Int)) 181 k0 word) 162 2 (k0 + 1)) 177 q ∧ (w_up (w_up (w_up (w_up (w_up (w_up S 176 k0 itf) 177 k0 a) 179 k0 0) 180 k0 (ms.length : Int)) 181 k0 word) 162 2 (k0 + 1)) 177 q < q := by
    intro q q0 q1
    by_cases hqk : q = k0
    · subst hqk; rw [sa1]; omega
    · rw [sa 177 q (by omega) (by omega)]; exact (tb1 q q0 (by omega)).1
  have hosA : ∀ q : Int, 0 ≤ q → q < k0 → od_1 182 203 204 (w_up (w_up (w_up (w_up (w_up (w_up S 176 k0 itf) 177 k0 a) 179 k0 0) 180 k0 (ms.length : Int)) 181 k0 word) 162 2 (k0 + 1)) q (os q) := by
    intro q q0 q1
    obtain ⟨y1, y2, y3, y4⟩ := hos q q0 q1
    exact ⟨(sa 182 q (by omega) (by omega)).trans y1, y2, fun x hx => (sa 203 _ (by omega) (by omega)).trans (y3 x hx), fun x hx => by rw [sa 204 q (by omega) (by omega)]; exact y4 x hx⟩
  refine wa_cv 162 rfl (wy_pr rfl) wt_162 (M2 := fun _ => False) rfl at_XO_setOrder ⟨_, rfl⟩ rfl rfl ⟨(Or.inr ⟨wy_pr rfl, fun q => q⟩), trivial, trivial, trivial, trivial⟩ trivial (fun _ _ q => False.elim q) (so_162 (d := d + 8) (S := (w_up (w_up (w_up (w_up (w_up (w_up S 176 k0 itf) 177 k0 a) 179 k0 0) 180 k0 (ms.length : Int)) 181 k0 word) 162 2 (k0 + 1))) (k := k0) (sl := sl) (os := os) hCA ⟨w_up_same _ _ _ _, hk00, hk0.2⟩ hAA (fun q hq => (sa 62 _ (by omega) (by omega)).trans (hsl.2.2 q hq)) ⟨hl60, hnd.2⟩ hosA) (fun oq6 Sq6 hp7 q6 => ?_)
  rcases q6 with ⟨rfl, o1, o2⟩
  generalize Sq6 = Zo at o1 o2 ⊢
  show wJ _ _ _ _ _ _ _ _ _ _
  have zo : ∀ (j : Nat) (y : Int), ((j < 176 ∨ 182 < j) ∨ y ≠ k0) → (j ≠ 162 ∨ y ≠ 2) → (j ≠ 203 ∨ y < 60 * k0 ∨ 60 * k0 + 60 ≤ y) → (j ≠ 204 ∨ y ≠ k0) → Zo j y = S j y := fun j y h1 h2 h3 h4 => (o1 j y (by omega) (by omega) (by omega)).trans ((w_up_no (by omega)).trans (sa j y (by omega) h2))
  have zb : ∀ (j : Nat) (y : Int), (j = 176 ∨ j = 177 ∨ j = 179 ∨ j = 180 ∨ j = 181 ∨ j = 162) → Zo j y = (w_up (w_up (w_up (w_up (w_up (w_up S 176 k0 itf) 177 k0 a) 179 k0 0) 180 k0 (ms.length : Int)) 181 k0 word) 162 2 (k0 + 1)) j y := fun j y h => (o1 j y (by omega) (by omega) (by omega)).trans (w_up_no (by omega))
  have er : ∀ j : Nat, (j < 176 ∨ 182 < j) → j ≠ 162 → j ≠ 203 → j ≠ 204 → Zo j = S j := fun j h1 h2 h3 h4 => funext fun y => zo j y (by omega) (by omega) (by omega) (by omega)
  have hCo : w_CL Zo := fun y hy => (zo y.1 (-1) (by omega) (by omega) (by omega) (by omega)).trans (hC y hy)
  have z0 : Zo 176 k0 = itf := (zb 176 k0 (by omega)).trans ((w_up_slot (by decide)).trans ((w_up_slot (by decide)).trans ((w_up_slot (by decide)).trans ((w_up_slot (by decide)).trans ((w_up_slot (by decide)).trans (w_up_same _ _ _ _))))))
  have z1 : Zo 177 k0 = a := (zb 177 k0 (by omega)).trans sa1
  have z3 : Zo 179 k0 = 0 := (zb 179 k0 (by omega)).trans ((w_up_slot (by decide)).trans ((w_up_slot (by decide)).trans ((w_up_slot (by decide)).trans (w_up_same _ _ _ _))))
  have z4 : Zo 180 k0 = (ms.length : Int) := (zb 180 k0 (by omega)).trans ((w_up_slot (by decide)).trans ((w_up_slot (by decide)).trans (w_up_same _ _ _ _)))
  have z5 : Zo 181 k0 = word := (zb 181 k0 (by omega)).trans ((w_up_slot (by decide)).trans (w_up_same _ _ _ _))
  have zh : Zo 162 2 = k0 + 1 := (zb 162 2 (by omega)).trans (w_up_same _ _ _ _)
  have hxo : hx_I 261 162 176 181 163 T n c B2 Zo := by
    refine ⟨hB2, cx_T_ag (by decide) hT (zo 14 3 (by omega) (by omega) (by omega) (by omega)) (fun j hj => er j (by omega) (by omega) (by omega) (by omega)), gI_ag2 hI (fun j hj => zo j (-1) (by omega) (by omega) (by omega) (by omega)) (fun x hx => zo 238 x (by omega) (by omega) (by omega) (by omega)) (zo 14 5 (by omega) (by omega) (by omega) (by omega)), wd_at_ag hW (fun x hx => er _ (by omega) (by omega) (by omega) (by omega)), ?_, by rw [er 163 (by decide) (by decide) (by decide) (by decide)]; exact hwc, ?_, (zo 61 1 (by omega) (by omega) (by omega) (by omega)).trans hH⟩
    · unfold rw_I; rw [er (163 + 1) (by decide) (by decide) (by decide) (by decide), er (163 + 2) (by decide) (by decide) (by decide) (by decide), er (163 + 3) (by decide) (by decide) (by decide) (by decide)]; exact hx.2.2.2.2.1
    · refine cn_R_add hR hk0.1 hk0.2 hB2c hB2r zh hCo (fun k q0 q1 => ⟨zo 176 k (by omega) (by omega) (by omega) (by omega), zo 181 k (by omega) (by omega) (by omega) (by omega)⟩) (fun x hx => er _ (by omega) (by omega) (by omega) (by omega)) ⟨z0.trans hB2k.1.symm, ?_, ?_⟩
      · rw [z5, er 163 (by decide) (by decide) (by decide) (by decide)]; exact hwd.1
      · rw [z5, show B2 (261 + 9) k0 = p1 from hB2k.2.1, show B2 (261 + 10) k0 = e1 from hB2k.2.2, er (163 + 1) (by decide) (by decide) (by decide) (by decide), er (163 + 2) (by decide) (by decide) (by decide) (by decide), er (163 + 3) (by decide) (by decide) (by decide) (by decide)]; exact hwd.2
  have hPo : cx_P T n c i Zo := ⟨(zo 14 4 (by omega) (by omega) (by omega) (by omega)).trans hP.1, hP.2⟩
  have htbo : tb_I 176 205 206 207 163 Zo k0 (ms.length : Int) := by
    refine ⟨fun q q0 q1 => ?_, by rw [zo 205 2 (by omega) (by omega) (by omega) (by omega)]; exact tb2, ?_, wd_L_ag tb4 (fun x hx => zo _ _ (by omega) (by omega) (by omega) (by omega))⟩
    · rw [zo (176 + 1) q (by omega) (by omega) (by omega) (by omega), zo (176 + 4) q (by omega) (by omega) (by omega) (by omega), zo (176 + 3) q (by omega) (by omega) (by omega) (by omega), zo (176 + 7) q (by omega) (by omega) (by omega) (by omega), zo (176 + 8) q (by omega) (by omega) (by omega) (by omega)]; exact tb1 q q0 q1
    · unfold rw_S; rw [zo 205 2 (by omega) (by omega) (by omega) (by omega), zo 206 (-1) (by omega) (by omega) (by omega) (by omega), zo 207 (-1) (by omega) (by omega) (by omega) (by omega)]; exact tb3
  have hmso : mr_all 186 163 T Zo ms := ⟨hms.1, fun k r hr => mr_at_ag (hms.2 k r hr) (fun x hx => zo _ _ (by omega) (by omega) (by omega) (by omega)) (fun x hx => er _ (by omega) (by omega) (by omega) (by omega))⟩
  have z7 : a ≠ -1 → Zo 183 a = S 183 a := fun z => zo 183 a (by omega) (by omega) (by omega) (by omega)
  have z8 : a ≠ -1 → Zo 184 a = S 184 a := fun z => zo 184 a (by omega) (by omega) (by omega) (by omega)
  have hf0 : (if a = -1 then 0 else S 183 a) = (if Zo 177 k0 = -1 then 0 else Zo 183 (Zo 177 k0)) := by
    rw [z1]
    by_cases hz : a = -1
    · rw [if_pos hz, if_pos hz]
    · rw [if_neg hz, if_neg hz, z7 hz]
  have hx0 : (if a = -1 then -1 else S 184 a) = (if Zo 177 k0 = -1 then -1 else Zo 184 (Zo 177 k0)) := by
    rw [z1]
    by_cases hz : a = -1
    · rw [if_pos hz, if_pos hz]
    · rw [if_neg hz, if_neg hz, z8 hz]
  exact wJ_S (rc4b_162 (S := Zo) (B := B2) (kc := k0) (itf := itf) (ms := ms) (n0 := (S 205 2)) hX hxo hPo ⟨hB2c, hk00, hk0.2⟩ hit htbo ⟨by rw [z1]; omega, z4, z3⟩ hmso ((zo 162 4 (by omega) (by omega) (by omega) (by omega)).trans hmc) (zo 205 2 (by omega) (by omega) (by omega) (by omega)) hf0 hx0 (fun i2 ms2 Zm Z1 Zf => hq Zo i2 ms2 Zm Z1 Zf o1 o2) (fun e q v Z0 Z => hf Zo e q v Z0 Z o1 o2)) ⟨rfl, rfl, trivial⟩
end Wa3
