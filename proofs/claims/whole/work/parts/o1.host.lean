/-! PART o1: a host that was read: both runs. -/
section Wo1
variable {xs : List (Nat × List Int32)} {S Z Zr Y X : wS} {m9 c : Nat} {cs : List hCR} {ms : List hMR} {os : Int → List Int}
theorem an_va_u {v : Int} (h : an_va X) : an_va (w_up X 237 3 v) := by
  obtain ⟨a16, a19, a20, a33, a34, a43, a47, a48, a68, a69, a81, a82, a87, a94, a102, a103, a104, a106, a108, a114, a115, b1, b2, b3, b4, b5, b6, b7⟩ := h
  exact ⟨(w_up_at (by first | decide | omega)).trans a16, (w_up_at (by first | decide | omega)).trans a19, (w_up_at (by first | decide | omega)).trans a20, (w_up_at (by first | decide | omega)).trans a33, (w_up_at (by first | decide | omega)).trans a34, (w_up_at (by first | decide | omega)).trans a43, (w_up_at (by first | decide | omega)).trans a47, (w_up_at (by first | decide | omega)).trans a48, (w_up_at (by first | decide | omega)).trans a68, (w_up_at (by first | decide | omega)).trans a69, (w_up_at (by first | decide | omega)).trans a81, (w_up_at (by first | decide | omega)).trans a82, (w_up_at (by first | decide | omega)).trans a87, (w_up_at (by first | decide | omega)).trans a94, (w_up_at (by first | decide | omega)).trans a102, (w_up_at (by first | decide | omega)).trans a103, (w_up_at (by first | decide | omega)).trans a104, (w_up_at (by first | decide | omega)).trans a106, (w_up_at (by first | decide | omega)).trans a108, (w_up_at (by first | decide | omega)).trans a114, (w_up_at (by first | decide | omega)).trans a115, (w_up_slot (by first | decide | omega)).trans b1, (w_up_slot (by first | decide | omega)).trans b2, (w_up_slot (by first | decide | omega)).trans b3, (w_up_slot (by first | decide | omega)).trans b4, fun i i0 i1 => (w_up_slot (by first | decide | omega)).trans (b5 i i0 i1), fun i i0 i1 => (w_up_slot (by first | decide | omega)).trans (b6 i i0 i1), fun a i a0 a1 i0 i1 => (w_up_slot (by omega)).trans (b7 a i a0 a1 i0 i1)⟩
theorem eC_ag (h : eC S) (e : ∀ j : Nat, j < 237 → Z j = S j) : eC Z := by
  unfold eC at h ⊢
  rw [e 2 (by first | decide | omega), e 19 (by first | decide | omega), e 60 (by first | decide | omega), e 72 (by first | decide | omega), e 140 (by first | decide | omega), e 153 (by first | decide | omega), e 144 (by first | decide | omega), e 145 (by first | decide | omega), e 146 (by first | decide | omega), e 147 (by first | decide | omega), e 149 (by first | decide | omega), e 158 (by first | decide | omega), e 160 (by first | decide | omega), e 215 (by first | decide | omega), e 216 (by first | decide | omega), e 226 (by first | decide | omega), e 227 (by first | decide | omega)]
  exact h
theorem hsu_73 (h : RM xs m9 S) (hm : m9 < 512) (h72 : S 72 1 = 162) (hR2 : RA 87 97 115 73 162 241 261 (w_up X 237 3 0)) (j1 : JT_73 (hb_0 S) (S 239) (S 237 3) c cs ms os Zr) (p1 : hs_P 73 74 117 118 125 S Zr) (r1 : rmR S Zr) (je : JO cs os ∧ JX 87 97 74 117 118 (S 239) cs ms Zr ∧ JV cs ms ∧ (wOs cs os ∧ wAb cs) ∧ JN (S 237 3) cs ms) (c1 : cl_ch 162 73 Zr Z) (hlen : ∀ j : Nat, lD j → Z j (-1) = S j (-1)) (hlo : Z 1000001 (-1) = 1) (hw7 : Zr 74 7 ≤ 1024) (y1 : hh_ag 241 Z Y) (y3 : Y 237 13 = 241) (y5 : hc_all 241 Y cs) (y6 : ∀ r ∈ cs, hq_ok (Z 237 3) r) (y7 : cs.length ≤ 60) (y8 : Y 241 1 = (cs.length : Int)) (y9 : Y 241 11 = (ms.length : Int)) (y10 : hr_all 241 Y ms) (y12 : ∀ i : Int, 0 ≤ i → i < Z 237 3 → Y 242 i = Z 239 i) (x1 : an_fr Y X (ms.length : Int)) (x2 : an_va X) (x3 : ∀ i : Int, 0 ≤ i → i < (ms.length : Int) → X 340 i = an_ft (Y 255 i) ∧ X 341 i = 0) : RM xs (m9 + 1) (w_up X 237 3 0) := by
  obtain ⟨p', q', b', b2', pm, X0, HT, nt, cs0, ms0, os0, mo0, fa, A, hp, hA0, ⟨⟨k1, -⟩, -⟩, -, -, hT0, -⟩ := id h
  have hg : wG = 1000000 := rfl
  have ep : p' = 162 := by have := hA0.2.1.1; omega
  have eq : q' = 73 := by unfold RMp at hp; omega
  subst ep
  subst eq
  obtain ⟨v1, v2, -, -, v5, v6, -⟩ := hA0
  have zr : ∀ (j : Nat) (x : Int), j < 4000000 → j ≠ wG → (j < 14 ∨ 18 < j) → j ≠ 61 → j ≠ 62 → (j < 73 ∨ 125 < j) → Zr j x = S j x := p1.1
  obtain ⟨w2, cv, cf⟩ := cl_all_73 c1
  have zz : ∀ j : Nat, 236 < j → Z j = Zr j := fun j j0 => funext fun i => cf j i (cl_fr_lo (fun _ => by omega) (by first | decide | omega))
  have zs : ∀ j : Nat, 236 < j → j < 4000000 → j ≠ wG → Z j = S j := fun j j0 j1 j2 => (zz j j0).trans (funext fun i => zr j i j1 j2 (by omega) (by omega) (by omega) (by omega))
  have z239 : Z 239 = S 239 := zs 239 (by first | decide | omega) (by first | decide | omega) (by rw [hg]; decide)
  have z237 : Z 237 = S 237 := zs 237 (by first | decide | omega) (by first | decide | omega) (by rw [hg]; decide)
  have xj : ∀ j : Nat, j < 237 → w_up X 237 3 0 j = Z j := fun j j0 => funext fun i => (w_up_slot (by omega)).trans ((x1 j i (by omega) (by omega) (by omega) (by omega) (by omega) (by omega)).trans (y1 j i (by omega) (by omega) (by omega) (by omega)))
  have xb : ∀ j : Nat, 241 ≤ j → j ≤ 280 → w_up X 237 3 0 j = Y j := fun j j0 j1 => funext fun i => (w_up_slot (by omega)).trans (x1 j i (by omega) (by omega) (by omega) (by omega) (by omega) (by omega))
  have xl : ∀ j : Nat, w_up X 237 3 0 j (-1) = Z j (-1) := fun j => (w_up_at (by first | decide | omega)).trans ((x1 j (-1) (by omega) (by omega) (by omega) (by omega) (by omega) (by omega)).trans (y1 j (-1) (by omega) (by omega) (by omega) (by omega)))
  have xh : ∀ (j : Nat) (x : Int), 388 ≤ j → w_up X 237 3 0 j x = Z j x := fun j x j0 => (w_up_slot (by omega)).trans ((x1 j x (by omega) (by omega) (by omega) (by omega) (by omega) (by omega)).trans (y1 j x (by omega) (by omega) (by omega) (by omega)))
  have kz : ∀ j : Nat, 73 < j → j ≤ 125 → w_up X 237 3 0 j = Zr j := fun j j0 j1 => (xj j (by omega)).trans (funext fun i => cf j i (cl_fr_lo (fun _ => by omega) (by first | decide | omega)))
  have kq : ∀ x : Int, x ≠ 17 → w_up X 237 3 0 73 x = Zr 73 x := fun x hx => (congrFun (xj 73 (by first | decide | omega)) x).trans (cf 73 x (cl_fr_lo (fun _ => by omega) (by first | decide | omega)))
  have kl : ∀ j : Nat, (j = 3 ∨ j = 4 ∨ j = 5 ∨ j = 63) → w_up X 237 3 0 j = S j := fun j hj => (xj j (by omega)).trans (funext fun i => (cf j i (cl_fr_lo (fun _ => by omega) (by first | decide | omega))).trans (zr j i (by omega) (by rw [hg]; omega) (by omega) (by omega) (by omega) (by omega)))
  have he : eC (w_up X 237 3 0) := eC_ag (eC_of cv ((zr 60 (-1) (by first | decide | omega) (by rw [hg]; decide) (by omega) (by first | decide | omega) (by first | decide | omega) (by omega)).trans k1.2.2.2.2.1.2.2.2.2.2.2.1) ((zr 160 (-1) (by first | decide | omega) (by rw [hg]; decide) (by omega) (by first | decide | omega) (by first | decide | omega) (by omega)).trans hT0.2.2.2.1.2.1)) xj
  have hcn : cn_R 241 73 87 92 74 (S 239) (hq_cn (hb_0 S) 241 cs) Zr := j1.1.2.2.2.2.2.2.1
  have hK : KC 87 97 93 114 115 74 73 (S 239) cs ms os Zr := ⟨hcn.1.trans (if_pos ⟨rfl, rfl⟩), y7, j1.2.2.2.2.1, j1.2.2.2.2.2.1, j1.2.2.2.1, j1.2.2.1, je.1⟩
  have hwI := hR2.1.2.2.2.1.1
  have hcl : hoCl 73 (S 239) (S 237 3) cs ms os (w_up X 237 3 0) := by
    refine ⟨⟨fun k r hk => ⟨(je.2.1 k r hk).1, (je.2.1 k r hk).2.1, jC_fn (je.2.1 k r hk).2.2 (fun j hj => kz j (by omega) (by omega))⟩, je.2.2.1, je.2.2.2.1, je.2.2.2.2, j1.2.2.2.2.2.2.1⟩, KC_ag hK (kq 2 (by first | decide | omega)) (kq 4 (by first | decide | omega)) (fun j hj => kz j (by omega) (by omega)), ⟨hwI.1, hwI.2.1, ?_⟩, fun k k0 k1 => ?_⟩
    · show w_up X 237 3 0 74 7 ≤ 1000000
      rw [kz 74 (by first | decide | omega) (by first | decide | omega)]
      omega
    · show (13 ≤ w_up X 237 3 0 92 k ∧ w_up X 237 3 0 92 k < w_up X 237 3 0 74 7) ∧ wq (w_up X 237 3 0 75) (w_up X 237 3 0 76) (w_up X 237 3 0 77) (S 239) (hcR cs k).2.1 ((hcR cs k).2.2.1 - (hcR cs k).2.1) (w_up X 237 3 0 92 k)
      rw [kz 92 (by first | decide | omega) (by first | decide | omega), kz 74 (by first | decide | omega) (by first | decide | omega), kz 75 (by first | decide | omega) (by first | decide | omega), kz 76 (by first | decide | omega) (by first | decide | omega), kz 77 (by first | decide | omega) (by first | decide | omega)]
      have z := (hcn.2.2.2 k k0 (by rw [show hq_cn (hb_0 S) 241 cs 241 1 = (cs.length : Int) from if_pos ⟨rfl, rfl⟩]; exact k1)).2
      have e9 : hq_cn (hb_0 S) 241 cs (241 + 9) k = (hcR cs k).2.1 := by
        unfold hq_cn
        rw [if_neg (by omega), if_pos ⟨k0, k1⟩, if_neg (by first | decide | omega), if_neg (by first | decide | omega), if_neg (by first | decide | omega), if_pos rfl]
        rfl
      have e10 : hq_cn (hb_0 S) 241 cs (241 + 10) k = (hcR cs k).2.2.1 := by
        unfold hq_cn
        rw [if_neg (by omega), if_pos ⟨k0, k1⟩, if_neg (by first | decide | omega), if_neg (by first | decide | omega), if_neg (by first | decide | omega), if_neg (by first | decide | omega), if_pos rfl]
        rfl
      rw [e9, e10] at z
      exact z
  have n0 : 0 ≤ S 237 3 ∧ S 237 3 ≤ 65536 := by rw [← v5]; exact ⟨v1.2.2.2.2.2.2.2.1.1, v1.2.2.2.2.2.2.2.1.2.1⟩
  have hrf : hoRf 241 (S 239) (S 237 3) cs ms (w_up X 237 3 0) := by
    refine ⟨hR2.2.2.2.1.1, ⟨(congrFun (xb 241 (by first | decide | omega) (by first | decide | omega)) 1).trans y8, (congrFun (xb 241 (by first | decide | omega) (by first | decide | omega)) 11).trans y9⟩, hc_all_ag y5 (fun j j0 j1 => xb j (by omega) (by omega)), hr_all_ag y10 (fun j j0 j1 => xb j (by omega) (by omega)), fun i i0 i1 => ?_, n0, fun r hr => by rw [← z237]; exact y6 r hr⟩
    show w_up X 237 3 0 242 i = S 239 i
    rw [xb 242 (by first | decide | omega) (by first | decide | omega), y12 i i0 (by rw [z237]; exact i1), z239]
  have hT : ∀ i : Int, 0 ≤ i → i < S 237 3 → 0 ≤ S 239 i ∧ S 239 i ≤ 255 := fun i i0 i1 => by
    have a := v6 i i0 (by omega)
    have b := v1.2.2.2.2.2.2.2.2.1 i i0 (by omega)
    omega
  have p8 := p1.2.2.2.2.2.2.2
  have e14 : w_up X 237 3 0 14 3 = Zr 14 3 := (congrFun (xj 14 (by first | decide | omega)) 3).trans (cf 14 3 (cl_fr_lo (fun _ => by omega) (by first | decide | omega)))
  have e15 : w_up X 237 3 0 15 (-1) = Zr 15 (-1) := (congrFun (xj 15 (by first | decide | omega)) (-1)).trans (cf 15 (-1) (cl_fr_lo (fun _ => by omega) (by first | decide | omega)))
  have hsR := hR2.1.2.2.2.2.2.1
  have h9 : rd_L (w_up X 237 3 0) := ⟨⟨by rw [e14]; exact p8.2.1, by rw [e14, e15]; exact p8.2.2.1⟩, hsR.1, hsR.2.1, hsR.2.2.1, Int.le_trans hsR.2.2.2 (by decide)⟩
  have tb := j1.2.1.2.2.1
  refine RM_0 (T := S 239) (n := S 237 3) (q := 73) (p := 162) (b := 241) (b2 := 261) (cs := cs) (ms := ms) (os := os) h hm (Or.inl ⟨rfl, rfl, rfl, rfl⟩) h72 hR2 he (an_va_u x2) hcl hrf hT h9 ⟨kl 3 (by omega), kl 4 (by omega), kl 5 (by omega)⟩ (kl 63 (by omega)) (fun j hj => (xl j).trans (hlen j hj)) (fun i hi => ?_) (fun i hi => ?_) ⟨(kq 16 (by first | decide | omega)).trans p1.2.2.2.2.2.1.1, (kq 18 (by first | decide | omega)).trans p1.2.2.2.2.2.1.2⟩ (fun i i0 i1 => (congrFun (kz 125 (by first | decide | omega) (by first | decide | omega)) i).trans (p1.2.2.2.2.2.2.1 i i0 i1)) ?_ ?_ ⟨?_, ?_, ?_⟩ (fun i i0 i1 => ?_) (fun j x hj => ?_) ?_ ((congrFun (xj 0 (by first | decide | omega)) 1).trans cv.1.1) ((xl 1000001).trans hlo)
  · exact (congrFun (xj 150 (by first | decide | omega)) _).trans ((cf 150 (i : Int) (by unfold cl_fr; omega)).trans (zr 150 _ (by first | decide | omega) (by rw [hg]; decide) (by omega) (by first | decide | omega) (by first | decide | omega) (by omega)))
  · exact (w_up_at (by omega)).trans ((x1 237 _ (by omega) (by omega) (by omega) (by omega) (by omega) (by omega)).trans ((y1 237 _ (by omega) (by omega) (by omega) (by omega)).trans (congrFun z237 _)))
  · show w_up X 237 3 0 74 7 ≤ 1024
    rw [kz 74 (by first | decide | omega) (by first | decide | omega)]
    exact hw7
  · rw [xj 150 (by first | decide | omega), cv.2.2.2.1.1.1, zr 150 5 (by first | decide | omega) (by rw [hg]; decide) (by omega) (by first | decide | omega) (by first | decide | omega) (by omega), zr 162 16 (by first | decide | omega) (by rw [hg]; decide) (by omega) (by first | decide | omega) (by first | decide | omega) (by omega)]
  · show cS ms ≤ w_up X 237 3 0 117 (-1)
    rw [kz 117 (by first | decide | omega) (by first | decide | omega), ← j1.2.2.2.2.2.2.2]
    exact tb.1.2
  · show w_up X 237 3 0 118 (-1) = w_up X 237 3 0 117 (-1)
    rw [kz 117 (by first | decide | omega) (by first | decide | omega), kz 118 (by first | decide | omega) (by first | decide | omega)]
    exact tb.2.1
  · show w_up X 237 3 0 117 (-1) ≤ 8388608
    rw [kz 117 (by first | decide | omega) (by first | decide | omega)]
    exact Int.le_trans tb.2.2.2 (by decide)
  · obtain ⟨a1, a2⟩ := x3 i i0 i1
    have t : Y 255 i = (hmR ms i).2.2.2.1 := by
      have z := (y10 i.toNat _ (hmR_i i0 i1)).1.2.2.2.1
      rw [show ((i.toNat : Nat) : Int) = i by omega] at z
      exact z
    rw [t] at a1
    exact ⟨(w_up_slot (by first | decide | omega)).trans a1, (w_up_slot (by first | decide | omega)).trans a2⟩
  · rcases hj with ⟨rfl, rfl⟩ | hj | hj
    · exact (w_up_at (by omega)).trans ((x1 237 _ (by omega) (by omega) (by omega) (by omega) (by omega) (by omega)).trans ((y1 237 _ (by omega) (by omega) (by omega) (by omega)).trans (congrFun z237 _)))
    · exact (w_up_slot (by omega)).trans ((x1 j x (by omega) (by omega) (by omega) (by omega) (by omega) (by omega)).trans ((y1 j x (by omega) (by omega) (by omega) (by omega)).trans (congrFun (zs j (by omega) (by omega) (by rw [hg]; omega)) x)))
    · exact (xh j x (by omega)).trans (congrFun (zs j (by omega) (by omega) (by rw [hg]; omega)) x)
  · exact rmR_ag (cl_W_73 v1 v2 p1 r1 c1).2.2 (fun j _ => xl j) (xh wG 0 (by rw [hg]; decide)) (xh wG 1 (by rw [hg]; decide))
theorem hsu_162 (h : RM xs m9 S) (hm : m9 < 512) (h72 : S 72 1 = 73) (hR2 : RA 176 186 204 162 73 261 241 (w_up X 237 3 0)) (j1 : JT_162 (hb_0 S) (S 239) (S 237 3) c cs ms os Zr) (p1 : hs_P 162 163 206 207 214 S Zr) (r1 : rmR S Zr) (je : JO cs os ∧ JX 176 186 163 206 207 (S 239) cs ms Zr ∧ JV cs ms ∧ (wOs cs os ∧ wAb cs) ∧ JN (S 237 3) cs ms) (c1 : cl_ch 73 162 Zr Z) (hlen : ∀ j : Nat, lD j → Z j (-1) = S j (-1)) (hlo : Z 1000001 (-1) = 1) (hw7 : Zr 163 7 ≤ 1024) (y1 : hh_ag 261 Z Y) (y3 : Y 237 13 = 261) (y5 : hc_all 261 Y cs) (y6 : ∀ r ∈ cs, hq_ok (Z 237 3) r) (y7 : cs.length ≤ 60) (y8 : Y 261 1 = (cs.length : Int)) (y9 : Y 261 11 = (ms.length : Int)) (y10 : hr_all 261 Y ms) (y12 : ∀ i : Int, 0 ≤ i → i < Z 237 3 → Y 262 i = Z 239 i) (x1 : an_fr Y X (ms.length : Int)) (x2 : an_va X) (x3 : ∀ i : Int, 0 ≤ i → i < (ms.length : Int) → X 340 i = an_ft (Y 275 i) ∧ X 341 i = 0) : RM xs (m9 + 1) (w_up X 237 3 0) := by
  obtain ⟨p', q', b', b2', pm, X0, HT, nt, cs0, ms0, os0, mo0, fa, A, hp, hA0, ⟨⟨k1, -⟩, -⟩, -, -, hT0, -⟩ := id h
  have hg : wG = 1000000 := rfl
  have ep : p' = 73 := by have := hA0.2.1.1; omega
  have eq : q' = 162 := by unfold RMp at hp; omega
  subst ep
  subst eq
  obtain ⟨v1, v2, -, -, v5, v6, -⟩ := hA0
  have zr : ∀ (j : Nat) (x : Int), j < 4000000 → j ≠ wG → (j < 14 ∨ 18 < j) → j ≠ 61 → j ≠ 62 → (j < 162 ∨ 214 < j) → Zr j x = S j x := p1.1
  obtain ⟨w2, cv, cf⟩ := cl_all_162 c1
  have zz : ∀ j : Nat, 236 < j → Z j = Zr j := fun j j0 => funext fun i => cf j i (cl_fr_lo (fun _ => by omega) (by first | decide | omega))
  have zs : ∀ j : Nat, 236 < j → j < 4000000 → j ≠ wG → Z j = S j := fun j j0 j1 j2 => (zz j j0).trans (funext fun i => zr j i j1 j2 (by omega) (by omega) (by omega) (by omega))
  have z239 : Z 239 = S 239 := zs 239 (by first | decide | omega) (by first | decide | omega) (by rw [hg]; decide)
  have z237 : Z 237 = S 237 := zs 237 (by first | decide | omega) (by first | decide | omega) (by rw [hg]; decide)
  have xj : ∀ j : Nat, j < 237 → w_up X 237 3 0 j = Z j := fun j j0 => funext fun i => (w_up_slot (by omega)).trans ((x1 j i (by omega) (by omega) (by omega) (by omega) (by omega) (by omega)).trans (y1 j i (by omega) (by omega) (by omega) (by omega)))
  have xb : ∀ j : Nat, 241 ≤ j → j ≤ 280 → w_up X 237 3 0 j = Y j := fun j j0 j1 => funext fun i => (w_up_slot (by omega)).trans (x1 j i (by omega) (by omega) (by omega) (by omega) (by omega) (by omega))
  have xl : ∀ j : Nat, w_up X 237 3 0 j (-1) = Z j (-1) := fun j => (w_up_at (by first | decide | omega)).trans ((x1 j (-1) (by omega) (by omega) (by omega) (by omega) (by omega) (by omega)).trans (y1 j (-1) (by omega) (by omega) (by omega) (by omega)))
  have xh : ∀ (j : Nat) (x : Int), 388 ≤ j → w_up X 237 3 0 j x = Z j x := fun j x j0 => (w_up_slot (by omega)).trans ((x1 j x (by omega) (by omega) (by omega) (by omega) (by omega) (by omega)).trans (y1 j x (by omega) (by omega) (by omega) (by omega)))
  have kz : ∀ j : Nat, 162 < j → j ≤ 214 → w_up X 237 3 0 j = Zr j := fun j j0 j1 => (xj j (by omega)).trans (funext fun i => cf j i (cl_fr_lo (fun _ => by omega) (by first | decide | omega)))
  have kq : ∀ x : Int, x ≠ 17 → w_up X 237 3 0 162 x = Zr 162 x := fun x hx => (congrFun (xj 162 (by first | decide | omega)) x).trans (cf 162 x (cl_fr_lo (fun _ => by omega) (by first | decide | omega)))
  have kl : ∀ j : Nat, (j = 3 ∨ j = 4 ∨ j = 5 ∨ j = 63) → w_up X 237 3 0 j = S j := fun j hj => (xj j (by omega)).trans (funext fun i => (cf j i (cl_fr_lo (fun _ => by omega) (by first | decide | omega))).trans (zr j i (by omega) (by rw [hg]; omega) (by omega) (by omega) (by omega) (by omega)))
  have he : eC (w_up X 237 3 0) := eC_ag (eC_of cv ((zr 60 (-1) (by first | decide | omega) (by rw [hg]; decide) (by omega) (by first | decide | omega) (by first | decide | omega) (by omega)).trans k1.2.2.2.2.1.2.2.2.2.2.2.1) ((zr 160 (-1) (by first | decide | omega) (by rw [hg]; decide) (by omega) (by first | decide | omega) (by first | decide | omega) (by omega)).trans hT0.2.2.2.1.2.1)) xj
  have hcn : cn_R 261 162 176 181 163 (S 239) (hq_cn (hb_0 S) 261 cs) Zr := j1.1.2.2.2.2.2.2.1
  have hK : KC 176 186 182 203 204 163 162 (S 239) cs ms os Zr := ⟨hcn.1.trans (if_pos ⟨rfl, rfl⟩), y7, j1.2.2.2.2.1, j1.2.2.2.2.2.1, j1.2.2.2.1, j1.2.2.1, je.1⟩
  have hwI := hR2.1.2.2.2.2.1.1
  have hcl : hoCl 162 (S 239) (S 237 3) cs ms os (w_up X 237 3 0) := by
    refine ⟨⟨fun k r hk => ⟨(je.2.1 k r hk).1, (je.2.1 k r hk).2.1, jC_fn (je.2.1 k r hk).2.2 (fun j hj => kz j (by omega) (by omega))⟩, je.2.2.1, je.2.2.2.1, je.2.2.2.2, j1.2.2.2.2.2.2.1⟩, KC_ag hK (kq 2 (by first | decide | omega)) (kq 4 (by first | decide | omega)) (fun j hj => kz j (by omega) (by omega)), ⟨hwI.1, hwI.2.1, ?_⟩, fun k k0 k1 => ?_⟩
    · show w_up X 237 3 0 163 7 ≤ 1000000
      rw [kz 163 (by first | decide | omega) (by first | decide | omega)]
      omega
    · show (13 ≤ w_up X 237 3 0 181 k ∧ w_up X 237 3 0 181 k < w_up X 237 3 0 163 7) ∧ wq (w_up X 237 3 0 164) (w_up X 237 3 0 165) (w_up X 237 3 0 166) (S 239) (hcR cs k).2.1 ((hcR cs k).2.2.1 - (hcR cs k).2.1) (w_up X 237 3 0 181 k)
      rw [kz 181 (by first | decide | omega) (by first | decide | omega), kz 163 (by first | decide | omega) (by first | decide | omega), kz 164 (by first | decide | omega) (by first | decide | omega), kz 165 (by first | decide | omega) (by first | decide | omega), kz 166 (by first | decide | omega) (by first | decide | omega)]
      have z := (hcn.2.2.2 k k0 (by rw [show hq_cn (hb_0 S) 261 cs 261 1 = (cs.length : Int) from if_pos ⟨rfl, rfl⟩]; exact k1)).2
      have e9 : hq_cn (hb_0 S) 261 cs (261 + 9) k = (hcR cs k).2.1 := by
        unfold hq_cn
        rw [if_neg (by omega), if_pos ⟨k0, k1⟩, if_neg (by first | decide | omega), if_neg (by first | decide | omega), if_neg (by first | decide | omega), if_pos rfl]
        rfl
      have e10 : hq_cn (hb_0 S) 261 cs (261 + 10) k = (hcR cs k).2.2.1 := by
        unfold hq_cn
        rw [if_neg (by omega), if_pos ⟨k0, k1⟩, if_neg (by first | decide | omega), if_neg (by first | decide | omega), if_neg (by first | decide | omega), if_neg (by first | decide | omega), if_pos rfl]
        rfl
      rw [e9, e10] at z
      exact z
  have n0 : 0 ≤ S 237 3 ∧ S 237 3 ≤ 65536 := by rw [← v5]; exact ⟨v1.2.2.2.2.2.2.2.1.1, v1.2.2.2.2.2.2.2.1.2.1⟩
  have hrf : hoRf 261 (S 239) (S 237 3) cs ms (w_up X 237 3 0) := by
    refine ⟨hR2.2.2.2.1.1, ⟨(congrFun (xb 261 (by first | decide | omega) (by first | decide | omega)) 1).trans y8, (congrFun (xb 261 (by first | decide | omega) (by first | decide | omega)) 11).trans y9⟩, hc_all_ag y5 (fun j j0 j1 => xb j (by omega) (by omega)), hr_all_ag y10 (fun j j0 j1 => xb j (by omega) (by omega)), fun i i0 i1 => ?_, n0, fun r hr => by rw [← z237]; exact y6 r hr⟩
    show w_up X 237 3 0 262 i = S 239 i
    rw [xb 262 (by first | decide | omega) (by first | decide | omega), y12 i i0 (by rw [z237]; exact i1), z239]
  have hT : ∀ i : Int, 0 ≤ i → i < S 237 3 → 0 ≤ S 239 i ∧ S 239 i ≤ 255 := fun i i0 i1 => by
    have a := v6 i i0 (by omega)
    have b := v1.2.2.2.2.2.2.2.2.1 i i0 (by omega)
    omega
  have p8 := p1.2.2.2.2.2.2.2
  have e14 : w_up X 237 3 0 14 3 = Zr 14 3 := (congrFun (xj 14 (by first | decide | omega)) 3).trans (cf 14 3 (cl_fr_lo (fun _ => by omega) (by first | decide | omega)))
  have e15 : w_up X 237 3 0 15 (-1) = Zr 15 (-1) := (congrFun (xj 15 (by first | decide | omega)) (-1)).trans (cf 15 (-1) (cl_fr_lo (fun _ => by omega) (by first | decide | omega)))
  have hsR := hR2.1.2.2.2.2.2.1
  have h9 : rd_L (w_up X 237 3 0) := ⟨⟨by rw [e14]; exact p8.2.1, by rw [e14, e15]; exact p8.2.2.1⟩, hsR.1, hsR.2.1, hsR.2.2.1, Int.le_trans hsR.2.2.2 (by decide)⟩
  have tb := j1.2.1.2.2.1
  refine RM_0 (T := S 239) (n := S 237 3) (q := 162) (p := 73) (b := 261) (b2 := 241) (cs := cs) (ms := ms) (os := os) h hm (Or.inr ⟨rfl, rfl, rfl, rfl⟩) h72 hR2 he (an_va_u x2) hcl hrf hT h9 ⟨kl 3 (by omega), kl 4 (by omega), kl 5 (by omega)⟩ (kl 63 (by omega)) (fun j hj => (xl j).trans (hlen j hj)) (fun i hi => ?_) (fun i hi => ?_) ⟨(kq 16 (by first | decide | omega)).trans p1.2.2.2.2.2.1.1, (kq 18 (by first | decide | omega)).trans p1.2.2.2.2.2.1.2⟩ (fun i i0 i1 => (congrFun (kz 214 (by first | decide | omega) (by first | decide | omega)) i).trans (p1.2.2.2.2.2.2.1 i i0 i1)) ?_ ?_ ⟨?_, ?_, ?_⟩ (fun i i0 i1 => ?_) (fun j x hj => ?_) ?_ ((congrFun (xj 0 (by first | decide | omega)) 1).trans cv.1.1) ((xl 1000001).trans hlo)
  · exact (congrFun (xj 150 (by first | decide | omega)) _).trans ((cf 150 (i : Int) (by unfold cl_fr; omega)).trans (zr 150 _ (by first | decide | omega) (by rw [hg]; decide) (by omega) (by first | decide | omega) (by first | decide | omega) (by omega)))
  · exact (w_up_at (by omega)).trans ((x1 237 _ (by omega) (by omega) (by omega) (by omega) (by omega) (by omega)).trans ((y1 237 _ (by omega) (by omega) (by omega) (by omega)).trans (congrFun z237 _)))
  · show w_up X 237 3 0 163 7 ≤ 1024
    rw [kz 163 (by first | decide | omega) (by first | decide | omega)]
    exact hw7
  · rw [xj 150 (by first | decide | omega), cv.2.2.2.1.1.1, zr 150 5 (by first | decide | omega) (by rw [hg]; decide) (by omega) (by first | decide | omega) (by first | decide | omega) (by omega), zr 73 16 (by first | decide | omega) (by rw [hg]; decide) (by omega) (by first | decide | omega) (by first | decide | omega) (by omega)]
  · show cS ms ≤ w_up X 237 3 0 206 (-1)
    rw [kz 206 (by first | decide | omega) (by first | decide | omega), ← j1.2.2.2.2.2.2.2]
    exact tb.1.2
  · show w_up X 237 3 0 207 (-1) = w_up X 237 3 0 206 (-1)
    rw [kz 206 (by first | decide | omega) (by first | decide | omega), kz 207 (by first | decide | omega) (by first | decide | omega)]
    exact tb.2.1
  · show w_up X 237 3 0 206 (-1) ≤ 8388608
    rw [kz 206 (by first | decide | omega) (by first | decide | omega)]
    exact Int.le_trans tb.2.2.2 (by decide)
  · obtain ⟨a1, a2⟩ := x3 i i0 i1
    have t : Y 275 i = (hmR ms i).2.2.2.1 := by
      have z := (y10 i.toNat _ (hmR_i i0 i1)).1.2.2.2.1
      rw [show ((i.toNat : Nat) : Int) = i by omega] at z
      exact z
    rw [t] at a1
    exact ⟨(w_up_slot (by first | decide | omega)).trans a1, (w_up_slot (by first | decide | omega)).trans a2⟩
  · rcases hj with ⟨rfl, rfl⟩ | hj | hj
    · exact (w_up_at (by omega)).trans ((x1 237 _ (by omega) (by omega) (by omega) (by omega) (by omega) (by omega)).trans ((y1 237 _ (by omega) (by omega) (by omega) (by omega)).trans (congrFun z237 _)))
    · exact (w_up_slot (by omega)).trans ((x1 j x (by omega) (by omega) (by omega) (by omega) (by omega) (by omega)).trans ((y1 j x (by omega) (by omega) (by omega) (by omega)).trans (congrFun (zs j (by omega) (by omega) (by rw [hg]; omega)) x)))
    · exact (xh j x (by omega)).trans (congrFun (zs j (by omega) (by omega) (by rw [hg]; omega)) x)
  · exact rmR_ag (cl_W_162 v1 v2 p1 r1 c1).2.2 (fun j _ => xl j) (xh wG 0 (by rw [hg]; decide)) (xh wG 1 (by rw [hg]; decide))
end Wo1
