/-! PART 82: the reference's readsMember. -/
section W82
variable {xs : List (Nat × List Int32)} {M : Nat → Prop} {d : Nat} {S A B : wS} {Q : wO → wS → Prop} {b : Nat} {p : Int}
theorem lx_ag_cg {A B : wS} {j : Nat} {i x : Int} (h : lx_ag A B) : lx_ag (w_up A j i x) (w_up B j i x) := by
  intro k n a c
  unfold w_up
  by_cases q : k = j ∧ n = i
  · rw [if_pos q, if_pos q]
  · rw [if_neg q, if_neg q]; exact h k n a c
theorem ho_nm_of {A S : wS} {b : Nat} (h : ho_nm A b) (h1 : S b 1 = A b 1) (h9 : S (b + 9) = A (b + 9)) (h10 : S (b + 10) = A (b + 10)) : ho_nm S b := by
  unfold ho_nm at h ⊢
  rw [h1, h9, h10]
  exact h
theorem ho_mm_ag {A S : wS} {b : Nat} {m : Int} (hm : 0 ≤ m) (hb : b = 241 ∨ b = 261) (h : ho_mm A b m) (hag : hm_ag b m A S) : ho_mm S b m := by
  intro k h0 h1
  have e1 : S (b + 18) k = A (b + 18) k := hag _ _ (by omega) (by omega) (by omega) (by omega)
  have e2 : S (b + 19) k = A (b + 19) k := hag _ _ (by omega) (by omega) (by omega) (by omega)
  have e3 : S (b + 15) k = A (b + 15) k := hag _ _ (by omega) (by omega) (by omega) (by omega)
  rw [e1, e2, e3]
  exact h k h0 h1
theorem lx_ag_row {A B : wS} (h : lx_ag A B) {j : Nat} (hj : j ≠ 240 ∧ j ≠ 237) : B j = A j := funext fun i => h j i (by omega) (by omega)
theorem zE_ag {A B : wS} {b : Nat} (h : lx_ag A B) (hb : b = 241 ∨ b = 261) : zE B A b := ⟨lx_ag_row h (by decide), h 237 4 (by omega) (by omega), h 237 5 (by omega) (by omega), h b 1 (by omega) (by omega), lx_ag_row h (by omega), lx_ag_row h (by omega)⟩
theorem pq_ag {A B : wS} {b : Nat} {c m p : Int} (h : lx_ag A B) (hb : b = 241 ∨ b = 261) : pq_k B b c m (pq_r B b p) = pq_k A b c m (pq_r A b p) := by
  have hz := zE_ag h hb
  rw [zE_pq hz (by omega), zE_pk hz (lx_ag_row h (by omega)) (lx_ag_row h (by omega)) (lx_ag_row h (by omega)) (lx_ag_row h (by omega)) (lx_ag_row h (by omega)) (lx_ag_row h (by omega))]
theorem df_f_congr {A B : wS} {b : Nat} {m : Int} (hT : A 239 = B 239) (h12 : A (b + 12) = B (b + 12)) (h18 : A (b + 18) = B (b + 18)) (h19 : A (b + 19) = B (b + 19)) : ∀ (f : Nat) (k : Int), df_f A b m f k = df_f B b m f k := by
  intro f
  induction f with
  | zero => intro k; rfl
  | succ f ih => intro k; rw [df_f_s, df_f_s, ih, hT, h12, h18, h19]
theorem rf_ag {A B : wS} {b : Nat} {c m p pl : Int} (h : lx_ag A B) (hb : b = 241 ∨ b = 261) : rf_of B b c m p pl = rf_of A b c m p pl := by
  have hz := zE_ag h hb
  unfold rf_of
  rw [zE_is hz p, lx_ag_row h (show b + 14 ≠ 240 ∧ b + 14 ≠ 237 by omega), lx_ag_row h (show b + 7 ≠ 240 ∧ b + 7 ≠ 237 by omega), lx_ag_row h (show b + 2 ≠ 240 ∧ b + 2 ≠ 237 by omega), df_f_congr hz.1 (lx_ag_row h (by omega)) (lx_ag_row h (by omega)) (lx_ag_row h (by omega))]
abbrev hRM : Type := (Int × Int) ⊕ (Int × Int × Int × Int × List Int × Int × Int × Int)
/-- a member's end -/
def rm_end (A : wS) (q so st ty : Int) (l : List Int) (v f e : Int) : hRM := if lx_is (zq A q) 59 = true then .inr (lx_ne (zq A q) q, so, st, ty, l, v, f, e) else .inl (1, q)
def rm_par (A A1 : wS) (b : Nat) (c m p so st ty f e : Int) : hRM := match pq_k A1 b c m (pq_r A1 b p) with
  | .inl x => .inl x
  | .inr (q, l, v) => rm_end A q so st ty l v f e
/-- the rows of the member m -/
def hm_rec (b : Nat) (m : Int) (Z : wS) (c so st ty f e : Int) : Prop := Z (b + 11) m = c ∧ Z (b + 12) m = so ∧ Z (b + 13) m = st ∧ Z (b + 14) m = ty ∧ Z (b + 18) m = f ∧ Z (b + 19) m = e
/-- and the counts of members -/
def hM_ag (b : Nat) (c m : Int) (S Z : wS) : Prop := ∀ (j : Nat) (i : Int), (j ≠ 240 ∨ i < 0) → (j ≠ 237 ∨ (i ≠ 6 ∧ i ≠ 7 ∧ i ≠ 8 ∧ i ≠ 9 ∧ i ≠ 10 ∧ i ≠ 12)) → (j ≠ 238 ∨ (i ≠ 5 ∧ i ≠ 6)) → (j < b + 11 ∨ b + 19 < j ∨ (j ≠ b + 17 ∧ i ≠ m) ∨ (j = b + 17 ∧ (i < 8 * m ∨ 8 * m + 8 ≤ i))) → (j ≠ b ∨ i ≠ 11) → (j ≠ b + 8 ∨ i ≠ c) → Z j i = S j i
def rm_body_241 (A : wS) (c m p1 st : Int) : hRM := if zq A p1 237 6 = 1 ∧ ¬ (st = 1 ∧ lx_w (zq A p1) tx_25 = true) then (if lx_w (zq A p1) tx_25 = true ∨ (0 ≤ pl_of (zq A p1) tx_27 ∨ 0 ≤ ch_of (zq A p1) 241) then (if m < 400 then (if lx_w (zq A p1) tx_25 = true then (if A 243 c = 0 then (if lx_is (zq A (lx_ne (zq A p1) p1)) 40 = true then rm_par A (w_up (w_up (w_up (w_up (w_up (w_up A 252 m c) 254 m st) 259 m p1) 260 m p1) 253 m 2) 255 m (9 + c)) 241 c m (lx_ne (zq A (lx_ne (zq A p1) p1)) (lx_ne (zq A p1) p1)) 2 st (9 + c) p1 p1 else .inl (1, (lx_ne (zq A p1) p1))) else .inl (6, p1)) else (match hy_type (zq A p1) 241 p1 1 with
    | .inl x => .inl x
    | .inr (t, p2) => if zq A p2 237 6 = 1 then (if lx_oo (zq A p2) tx_21 = true then .inl (2, p2) else (if lx_is (zq A (lx_ne (zq A p2) p2)) 40 = true then rm_par A (w_up (w_up (w_up (w_up (w_up (w_up (w_up (w_up A 252 m c) 254 m st) 259 m p1) 260 m p1) 255 m t) 259 m p2) 260 m (zq A p2 237 8)) 253 m 1) 241 c m (lx_ne (zq A (lx_ne (zq A p2) p2)) (lx_ne (zq A p2) p2)) 1 st t p2 (zq A p2 237 8) else (match rf_of (w_up (w_up (w_up (w_up (w_up (w_up (w_up A 252 m c) 254 m st) 259 m p1) 260 m p1) 255 m t) 259 m p2) 260 m (zq A p2 237 8)) 241 c m (lx_ne (zq A p2) p2) p2 with
      | some x => .inl x
      | none => rm_end A (lx_ne (zq A p2) p2) 0 st t [] 0 p2 (zq A p2 237 8)))) else .inl (1, p2))) else .inl (5, p1)) else .inl (3, p1)) else .inl (1, p1)
def rm_of_241 (A : wS) (c m p : Int) : hRM := if lx_w (zq A p) tx_23 = true then (if A 243 c = 0 then rm_body_241 A c m (lx_ne (zq A p) p) 1 else .inl (6, p)) else rm_body_241 A c m p 0
theorem mem_23_241 {c m q so st ty v f e : Int} {l : List Int} {R : hRM} {Z : wS} (hA15 : A 237 15 = 241) (hAm : A 241 11 = m) (hm : 0 ≤ m ∧ m < 400) (hcc : 0 ≤ c ∧ c < 60) (hmy : 0 ≤ A 249 c ∧ A 249 c ≤ 400) (hag : hm_ag 241 m A Z) (hE : lx_E Z A q) (hr : hm_rec 241 m Z c so st ty f e) (hps : hm_ps 241 m Z l v) (hl : l.length ≤ 8) (he : rm_end A q so st ty l v f e = R) : wJ (pe_GA xs) wY0 M (d + 7) t_M_readsMember ((pe_at t_M_readsMember.bl 23).getD (0, [])).2 [(0, (2, 237)), (1, (0, c)), (2, (0, m))] [] Z (fun o S2 => (∃ (p2 so st ty v f e : Int) (l : List Int), R = .inr (p2, so, st, ty, l, v, f, e) ∧ o = .inl none ∧ hM_ag 241 c m A S2 ∧ lx_E S2 A p2 ∧ S2 241 11 = m + 1 ∧ S2 249 c = A 249 c + 1 ∧ hm_rec 241 m S2 c so st ty f e ∧ hm_ps 241 m S2 l v ∧ l.length ≤ 8) ∨ (∃ e q : Int, R = .inl (e, q) ∧ o = .inr 238 ∧ hm_ag 241 m A S2 ∧ S2 238 5 = e ∧ S2 238 6 = q)) := by
  have h7 : Z 237 7 = q := hE.1.2.2.2.1
  unfold rm_end at he
  refine wa_aload_n (n := 0) rfl ?_
  refine wa_bipush (w_rg2 (by omega) (by omega)) ?_
  refine wa_cv 237 rfl (wy_pr rfl) wt_237 (M2 := fun _ => False) rfl at_M_takes ⟨_, rfl⟩ rfl rfl ⟨(Or.inr ⟨wy_pr rfl, fun q => q⟩), trivial, trivial, trivial⟩ trivial (fun _ _ q => False.elim q) (takes_ok hE.1 ⟨by omega, by omega⟩) (fun oq1 Sq1 hp2 q1 => ?_)
  rcases q1 with ⟨rfl, gk, a1, a2⟩ | ⟨rfl, gk, rfl⟩
  · skip
    rw [lx_E_is hE] at gk
    show wJ _ _ _ _ _ _ _ _ _ _
    rw [if_pos gk] at he
    rw [lx_E_ne hE] at a2
    have hE2 : lx_E Sq1 A (lx_ne (zq A q) q) := lx_E_ag hE a1 a2
    have hag2 : hm_ag 241 m A Sq1 := hm_ag_lx hag a1
    have k15 : Sq1 237 15 = 241 := (hag2 237 15 (by omega) (by omega) (by omega) (by omega)).trans hA15
    have k11 : Sq1 241 11 = m := (hag2 241 11 (by omega) (by omega) (by omega) (by omega)).trans hAm
    have k8 : Sq1 249 c = A 249 c := hag2 249 c (by omega) (by omega) (by omega) (by omega)
    have hps2 := hm_ps_ag (by decide) hps a1
    have hr2 : hm_rec 241 m Sq1 c so st ty f e := ⟨(a1 (241 + 11) m (by omega) (by omega)).trans hr.1, (a1 (241 + 12) m (by omega) (by omega)).trans hr.2.1, (a1 (241 + 13) m (by omega) (by omega)).trans hr.2.2.1, (a1 (241 + 14) m (by omega) (by omega)).trans hr.2.2.2.1, (a1 (241 + 18) m (by omega) (by omega)).trans hr.2.2.2.2.1, (a1 (241 + 19) m (by omega) (by omega)).trans hr.2.2.2.2.2⟩
    refine wa_aload_n (n := 0) rfl ?_
    refine wb_gf5 237 rfl (wy_pr rfl) wt_237 wf_15_15 (v := 241) (k15) (fun r33 => ?_)
    refine wa_dup (by decide) ?_
    refine wb_gfi 241 rfl (wy_pr rfl) wt_241 wf_12_11 (v := m) (k11) (fun r34 => ?_)
    refine wa_iconst ?_
    refine wa_iadd ?_
    refine wb_pfi 241 rfl (wy_pr rfl) wt_241 wf_12_11 (n := 11) rfl ⟨(by omega), (by omega)⟩ ?_
    refine wa_aload_n (n := 0) rfl ?_
    refine wb_gf5 237 rfl (wy_pr rfl) wt_237 wf_15_15 (v := 241) ((w_up_slot (by decide)).trans (k15)) (fun r35 => ?_)
    refine wb_gf4 241 rfl (wy_pr rfl) wt_241 wf_12_8 (v := 249) wl_241_8 ?_
    refine wa_iload_n (n := 1) rfl ?_
    refine wa_dup2 (by decide) (by decide) ?_
    refine wb_iald 249 rfl (wy_pr rfl) wt_249 (n := 60) ((w_up_slot (by decide)).trans ((ml_249 a2.1))) (by omega) (by omega) (v := (A 249 c)) ((w_up_slot (by decide)).trans (k8)) (fun r36 => ?_)
    refine wa_iconst ?_
    refine wa_iadd ?_
    refine wb_iast 249 rfl (wy_pr rfl) wt_249 (n := 60) ((w_up_slot (by decide)).trans ((ml_249 a2.1))) (by omega) (by omega) ⟨(by omega), (by omega)⟩ ?_
    refine wa_return rfl ?_
    refine Or.inl ⟨_, _, _, _, _, _, _, _, he.symm, rfl, ?_, lx_E_up (lx_E_up hE2 (by decide) (by omega)) (by decide) (by omega), (w_up_slot (by decide)).trans (w_up_same _ _ _ _), w_up_same _ _ _ _, ?_, ?_, hl⟩
    · intro j i b1 b2 b3 b4 b5 b6
      rw [← hag2 j i b1 b2 b3 b4]
      exact (if_neg (by omega)).trans (if_neg (by omega))
    · exact ⟨(w_up_slot (by decide)).trans ((w_up_slot (by decide)).trans hr2.1), (w_up_slot (by decide)).trans ((w_up_slot (by decide)).trans hr2.2.1), (w_up_slot (by decide)).trans ((w_up_slot (by decide)).trans hr2.2.2.1), (w_up_slot (by decide)).trans ((w_up_slot (by decide)).trans hr2.2.2.2.1), (w_up_slot (by decide)).trans ((w_up_slot (by decide)).trans hr2.2.2.2.2.1), (w_up_slot (by decide)).trans ((w_up_slot (by decide)).trans hr2.2.2.2.2.2)⟩
    · exact ⟨(w_up_slot (by decide)).trans ((w_up_slot (by decide)).trans hps2.1), (w_up_slot (by decide)).trans ((w_up_slot (by decide)).trans hps2.2.1), fun i hi => (w_up_slot (by decide)).trans ((w_up_slot (by decide)).trans (hps2.2.2 i hi))⟩
  · skip
    rw [lx_E_is hE] at gk
    refine ⟨rfl, ?_⟩
    rw [if_neg (by rw [gk]; decide)] at he
    exact Or.inr ⟨_, _, he.symm, rfl, hm_ag_hl hag, rfl, rfl⟩
def rm_body_261 (A : wS) (c m p1 st : Int) : hRM := if zq A p1 237 6 = 1 ∧ ¬ (st = 1 ∧ lx_w (zq A p1) tx_25 = true) then (if lx_w (zq A p1) tx_25 = true ∨ (0 ≤ pl_of (zq A p1) tx_27 ∨ 0 ≤ ch_of (zq A p1) 261) then (if m < 400 then (if lx_w (zq A p1) tx_25 = true then (if A 263 c = 0 then (if lx_is (zq A (lx_ne (zq A p1) p1)) 40 = true then rm_par A (w_up (w_up (w_up (w_up (w_up (w_up A 272 m c) 274 m st) 279 m p1) 280 m p1) 273 m 2) 275 m (9 + c)) 261 c m (lx_ne (zq A (lx_ne (zq A p1) p1)) (lx_ne (zq A p1) p1)) 2 st (9 + c) p1 p1 else .inl (1, (lx_ne (zq A p1) p1))) else .inl (6, p1)) else (match hy_type (zq A p1) 261 p1 1 with
    | .inl x => .inl x
    | .inr (t, p2) => if zq A p2 237 6 = 1 then (if lx_oo (zq A p2) tx_21 = true then .inl (2, p2) else (if lx_is (zq A (lx_ne (zq A p2) p2)) 40 = true then rm_par A (w_up (w_up (w_up (w_up (w_up (w_up (w_up (w_up A 272 m c) 274 m st) 279 m p1) 280 m p1) 275 m t) 279 m p2) 280 m (zq A p2 237 8)) 273 m 1) 261 c m (lx_ne (zq A (lx_ne (zq A p2) p2)) (lx_ne (zq A p2) p2)) 1 st t p2 (zq A p2 237 8) else (match rf_of (w_up (w_up (w_up (w_up (w_up (w_up (w_up A 272 m c) 274 m st) 279 m p1) 280 m p1) 275 m t) 279 m p2) 280 m (zq A p2 237 8)) 261 c m (lx_ne (zq A p2) p2) p2 with
      | some x => .inl x
      | none => rm_end A (lx_ne (zq A p2) p2) 0 st t [] 0 p2 (zq A p2 237 8)))) else .inl (1, p2))) else .inl (5, p1)) else .inl (3, p1)) else .inl (1, p1)
def rm_of_261 (A : wS) (c m p : Int) : hRM := if lx_w (zq A p) tx_23 = true then (if A 263 c = 0 then rm_body_261 A c m (lx_ne (zq A p) p) 1 else .inl (6, p)) else rm_body_261 A c m p 0
theorem mem_23_261 {c m q so st ty v f e : Int} {l : List Int} {R : hRM} {Z : wS} (hA15 : A 237 15 = 261) (hAm : A 261 11 = m) (hm : 0 ≤ m ∧ m < 400) (hcc : 0 ≤ c ∧ c < 60) (hmy : 0 ≤ A 269 c ∧ A 269 c ≤ 400) (hag : hm_ag 261 m A Z) (hE : lx_E Z A q) (hr : hm_rec 261 m Z c so st ty f e) (hps : hm_ps 261 m Z l v) (hl : l.length ≤ 8) (he : rm_end A q so st ty l v f e = R) : wJ (pe_GA xs) wY0 M (d + 7) t_M_readsMember ((pe_at t_M_readsMember.bl 23).getD (0, [])).2 [(0, (2, 237)), (1, (0, c)), (2, (0, m))] [] Z (fun o S2 => (∃ (p2 so st ty v f e : Int) (l : List Int), R = .inr (p2, so, st, ty, l, v, f, e) ∧ o = .inl none ∧ hM_ag 261 c m A S2 ∧ lx_E S2 A p2 ∧ S2 261 11 = m + 1 ∧ S2 269 c = A 269 c + 1 ∧ hm_rec 261 m S2 c so st ty f e ∧ hm_ps 261 m S2 l v ∧ l.length ≤ 8) ∨ (∃ e q : Int, R = .inl (e, q) ∧ o = .inr 238 ∧ hm_ag 261 m A S2 ∧ S2 238 5 = e ∧ S2 238 6 = q)) := by
  have h7 : Z 237 7 = q := hE.1.2.2.2.1
  unfold rm_end at he
  refine wa_aload_n (n := 0) rfl ?_
  refine wa_bipush (w_rg2 (by omega) (by omega)) ?_
  refine wa_cv 237 rfl (wy_pr rfl) wt_237 (M2 := fun _ => False) rfl at_M_takes ⟨_, rfl⟩ rfl rfl ⟨(Or.inr ⟨wy_pr rfl, fun q => q⟩), trivial, trivial, trivial⟩ trivial (fun _ _ q => False.elim q) (takes_ok hE.1 ⟨by omega, by omega⟩) (fun oq1 Sq1 hp2 q1 => ?_)
  rcases q1 with ⟨rfl, gk, a1, a2⟩ | ⟨rfl, gk, rfl⟩
  · skip
    rw [lx_E_is hE] at gk
    show wJ _ _ _ _ _ _ _ _ _ _
    rw [if_pos gk] at he
    rw [lx_E_ne hE] at a2
    have hE2 : lx_E Sq1 A (lx_ne (zq A q) q) := lx_E_ag hE a1 a2
    have hag2 : hm_ag 261 m A Sq1 := hm_ag_lx hag a1
    have k15 : Sq1 237 15 = 261 := (hag2 237 15 (by omega) (by omega) (by omega) (by omega)).trans hA15
    have k11 : Sq1 261 11 = m := (hag2 261 11 (by omega) (by omega) (by omega) (by omega)).trans hAm
    have k8 : Sq1 269 c = A 269 c := hag2 269 c (by omega) (by omega) (by omega) (by omega)
    have hps2 := hm_ps_ag (by decide) hps a1
    have hr2 : hm_rec 261 m Sq1 c so st ty f e := ⟨(a1 (261 + 11) m (by omega) (by omega)).trans hr.1, (a1 (261 + 12) m (by omega) (by omega)).trans hr.2.1, (a1 (261 + 13) m (by omega) (by omega)).trans hr.2.2.1, (a1 (261 + 14) m (by omega) (by omega)).trans hr.2.2.2.1, (a1 (261 + 18) m (by omega) (by omega)).trans hr.2.2.2.2.1, (a1 (261 + 19) m (by omega) (by omega)).trans hr.2.2.2.2.2⟩
    refine wa_aload_n (n := 0) rfl ?_
    refine wb_gf5 237 rfl (wy_pr rfl) wt_237 wf_15_15 (v := 261) (k15) (fun r33 => ?_)
    refine wa_dup (by decide) ?_
    refine wb_gfi 261 rfl (wy_pr rfl) wt_261 wf_12_11 (v := m) (k11) (fun r34 => ?_)
    refine wa_iconst ?_
    refine wa_iadd ?_
    refine wb_pfi 261 rfl (wy_pr rfl) wt_261 wf_12_11 (n := 11) rfl ⟨(by omega), (by omega)⟩ ?_
    refine wa_aload_n (n := 0) rfl ?_
    refine wb_gf5 237 rfl (wy_pr rfl) wt_237 wf_15_15 (v := 261) ((w_up_slot (by decide)).trans (k15)) (fun r35 => ?_)
    refine wb_gf4 261 rfl (wy_pr rfl) wt_261 wf_12_8 (v := 269) wl_261_8 ?_
    refine wa_iload_n (n := 1) rfl ?_
    refine wa_dup2 (by decide) (by decide) ?_
    refine wb_iald 269 rfl (wy_pr rfl) wt_269 (n := 60) ((w_up_slot (by decide)).trans ((ml_269 a2.1))) (by omega) (by omega) (v := (A 269 c)) ((w_up_slot (by decide)).trans (k8)) (fun r36 => ?_)
    refine wa_iconst ?_
    refine wa_iadd ?_
    refine wb_iast 269 rfl (wy_pr rfl) wt_269 (n := 60) ((w_up_slot (by decide)).trans ((ml_269 a2.1))) (by omega) (by omega) ⟨(by omega), (by omega)⟩ ?_
    refine wa_return rfl ?_
    refine Or.inl ⟨_, _, _, _, _, _, _, _, he.symm, rfl, ?_, lx_E_up (lx_E_up hE2 (by decide) (by omega)) (by decide) (by omega), (w_up_slot (by decide)).trans (w_up_same _ _ _ _), w_up_same _ _ _ _, ?_, ?_, hl⟩
    · intro j i b1 b2 b3 b4 b5 b6
      rw [← hag2 j i b1 b2 b3 b4]
      exact (if_neg (by omega)).trans (if_neg (by omega))
    · exact ⟨(w_up_slot (by decide)).trans ((w_up_slot (by decide)).trans hr2.1), (w_up_slot (by decide)).trans ((w_up_slot (by decide)).trans hr2.2.1), (w_up_slot (by decide)).trans ((w_up_slot (by decide)).trans hr2.2.2.1), (w_up_slot (by decide)).trans ((w_up_slot (by decide)).trans hr2.2.2.2.1), (w_up_slot (by decide)).trans ((w_up_slot (by decide)).trans hr2.2.2.2.2.1), (w_up_slot (by decide)).trans ((w_up_slot (by decide)).trans hr2.2.2.2.2.2)⟩
    · exact ⟨(w_up_slot (by decide)).trans ((w_up_slot (by decide)).trans hps2.1), (w_up_slot (by decide)).trans ((w_up_slot (by decide)).trans hps2.2.1), fun i hi => (w_up_slot (by decide)).trans ((w_up_slot (by decide)).trans (hps2.2.2 i hi))⟩
  · skip
    rw [lx_E_is hE] at gk
    refine ⟨rfl, ?_⟩
    rw [if_neg (by rw [gk]; decide)] at he
    exact Or.inr ⟨_, _, he.symm, rfl, hm_ag_hl hag, rfl, rfl⟩
end W82
