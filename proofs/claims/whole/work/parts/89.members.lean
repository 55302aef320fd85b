/-! PART 89: the members of a class, in the reference. -/
section W89
variable {xs : List (Nat × List Int32)} {M : Nat → Prop} {d : Nat} {S A B Z : wS} {Q : wO → wS → Prop} {p : Int} {b : Nat}
theorem rb_L_400 {c itf : Int} {rs : List hMR} {n : Nat} {p1 st : Int} {x : Int × Int × Int × Int × List Int × Int × Int × Int} (h : rb_L B b c itf rs n p1 st = .inr x) : (n : Int) < 400 := by
  unfold rb_L at h
  by_cases c1 : zq B p1 237 6 = 1 ∧ ¬ (st = 1 ∧ lx_w (zq B p1) tx_25 = true)
  · rw [if_pos c1] at h
    by_cases c2 : lx_w (zq B p1) tx_25 = true ∨ (0 ≤ pl_of (zq B p1) tx_27 ∨ 0 ≤ ch_of (zq B p1) b)
    · rw [if_pos c2] at h
      by_cases c3 : (n : Int) < 400
      · exact c3
      · rw [if_neg c3] at h; cases h
    · rw [if_neg c2] at h; cases h
  · rw [if_neg c1] at h; cases h
theorem rm_L_400 {c itf : Int} {rs : List hMR} {n : Nat} {x : Int × Int × Int × Int × List Int × Int × Int × Int} (h : rm_L B b c itf rs n p = .inr x) : (n : Int) < 400 := by
  unfold rm_L at h
  by_cases c1 : lx_w (zq B p) tx_23 = true
  · rw [if_pos c1] at h
    by_cases c2 : itf = 0
    · rw [if_pos c2] at h; exact rb_L_400 h
    · rw [if_neg c2] at h; cases h
  · rw [if_neg c1] at h; exact rb_L_400 h
/-- the states are the same but for the lexer's places, the halt's, and what the members of the class c (from m0 on) change -/
def mb_ag (b : Nat) (c m0 : Int) (S Z : wS) : Prop := ∀ (j : Nat) (i : Int), (j ≠ 240 ∨ i < 0) → (j ≠ 237 ∨ (i ≠ 6 ∧ i ≠ 7 ∧ i ≠ 8 ∧ i ≠ 9 ∧ i ≠ 10 ∧ i ≠ 12)) → (j ≠ 238 ∨ (i ≠ 5 ∧ i ≠ 6)) → (j < b + 11 ∨ b + 19 < j ∨ (j ≠ b + 17 ∧ i < m0) ∨ (j = b + 17 ∧ i < 8 * m0)) → (j ≠ b ∨ i ≠ 11) → (j ≠ b + 8 ∨ i ≠ c) → Z j i = S j i
theorem mb_ag_rf {c m0 : Int} : mb_ag b c m0 S S := fun _ _ _ _ _ _ _ _ => rfl
theorem mb_ag_M {c m0 m : Int} (hm : m0 ≤ m) (h : mb_ag b c m0 S A) (h2 : hM_ag b c m A B) : mb_ag b c m0 S B := fun j i a1 a2 a3 a4 a5 a6 => (h2 j i a1 a2 a3 (by omega) a5 a6).trans (h j i a1 a2 a3 a4 a5 a6)
theorem mb_ag_m {c m0 m : Int} (hm : m0 ≤ m) (h : mb_ag b c m0 S A) (h2 : hm_ag b m A B) : mb_ag b c m0 S B := fun j i a1 a2 a3 a4 a5 a6 => (h2 j i a1 a2 a3 (by omega)).trans (h j i a1 a2 a3 a4 a5 a6)
theorem mb_ag_lx {c m0 : Int} (h : mb_ag b c m0 S A) (h2 : lx_ag A B) : mb_ag b c m0 S B := fun j i a1 a2 a3 a4 a5 a6 => (h2 j i a1 a2).trans (h j i a1 a2 a3 a4 a5 a6)
theorem mb_ag_row {c m0 : Int} (h : mb_ag b c m0 S A) {j : Nat} (hj : j ≠ 240 ∧ j ≠ 237 ∧ j ≠ 238 ∧ (j < b + 11 ∨ b + 19 < j) ∧ j ≠ b ∧ j ≠ b + 8) : A j = S j := funext fun i => h j i (by omega) (by omega) (by omega) (by omega) (by omega) (by omega)
theorem hr_mm {ms : List hMR} (h : hr_all b Z ms) : ho_mm Z b (ms.length : Int) := by
  intro k h0 h1
  have hlt : k.toNat < ms.length := by omega
  have hg := h k.toNat ms[k.toNat] (List.getElem?_eq_getElem hlt)
  rw [show ((k.toNat : Nat) : Int) = k by omega] at hg
  obtain ⟨q1, q2, q3, q4⟩ := hg
  rw [q1.2.2.2.2.1, q1.2.2.2.2.2, q2.1]
  exact ⟨q4, by omega, by omega⟩
theorem hr_add {c m : Int} {ms : List hMR} {r : hMR} (hb : b = 241 ∨ b = 261) (h : hr_all b A ms) (hm : m = (ms.length : Int)) (h2 : hM_ag b c m A B) (hr : hr_at b m B r) : hr_all b B (ms ++ [r]) := by
  intro k r2 hk
  by_cases hlt : k < ms.length
  · rw [List.getElem?_append_left hlt] at hk
    obtain ⟨q1, q2, q3, q4⟩ := h k r2 hk
    have e : ∀ n : Nat, b + 11 ≤ n → n ≤ b + 19 → n ≠ b + 17 → B n (k : Int) = A n (k : Int) := fun n n1 n2 n3 => h2 n k (by omega) (by omega) (by omega) (by omega) (by omega) (by omega)
    refine ⟨⟨(e _ (by omega) (by omega) (by omega)).trans q1.1, (e _ (by omega) (by omega) (by omega)).trans q1.2.1, (e _ (by omega) (by omega) (by omega)).trans q1.2.2.1, (e _ (by omega) (by omega) (by omega)).trans q1.2.2.2.1, (e _ (by omega) (by omega) (by omega)).trans q1.2.2.2.2.1, (e _ (by omega) (by omega) (by omega)).trans q1.2.2.2.2.2⟩, ⟨(e _ (by omega) (by omega) (by omega)).trans q2.1, (e _ (by omega) (by omega) (by omega)).trans q2.2.1, fun i hi => ?_⟩, q3, q4⟩
    rw [h2 (b + 17) _ (by omega) (by omega) (by omega) (by omega) (by omega) (by omega)]
    exact q2.2.2 i hi
  · have hk2 := (List.getElem?_eq_some_iff.mp hk).1
    rw [List.length_append] at hk2
    simp only [List.length_cons, List.length_nil] at hk2
    have hke : k = ms.length := by omega
    subst hke
    rw [List.getElem?_append_right (Nat.le_refl _), Nat.sub_self] at hk
    cases hk
    rw [← hm]
    exact hr
/-- the members from p on, behind those in ms -/
def mb_f (B : wS) (b : Nat) (c itf : Int) (m0 : Nat) : Nat → Int → List hMR → (Int × Int) ⊕ (Int × List hMR)
  | 0, p, _ => .inl (0, p)
  | f + 1, p, ms => if lx_is (zq B p) 125 = true then .inr (p, ms) else (match rm_L B b c itf (ms.drop m0) ms.length p with
    | .inl e => .inl e
    | .inr (p2, so, st, ty, l, v, f2, e2) => mb_f B b c itf m0 f p2 (ms ++ [(c, so, st, ty, l, v, f2, e2)]))
theorem mb_f_s (B : wS) (b : Nat) (c itf : Int) (m0 f : Nat) (p : Int) (ms : List hMR) : mb_f B b c itf m0 (f + 1) p ms = if lx_is (zq B p) 125 = true then .inr (p, ms) else (match rm_L B b c itf (ms.drop m0) ms.length p with
    | .inl e => .inl e
    | .inr (p2, so, st, ty, l, v, f2, e2) => mb_f B b c itf m0 f p2 (ms ++ [(c, so, st, ty, l, v, f2, e2)])) := rfl
theorem rm_L_241 {A B : wS} {c m itf p : Int} {fi : Nat} {ms : List hMR} (hz : zE A B 241) (hms : hr_all 241 A ms) (hm : m = (ms.length : Int)) (hitf : A 243 c = itf) (hfi : A 248 c = (fi : Int)) (hfl : fi ≤ ms.length) : rm_of_241 A c m p = rm_L B 241 c itf (ms.drop fi) ms.length p := by
  unfold rm_of_241 rm_L
  rw [zE_w hz p, hitf, rb_L_241 hz hms hm hitf hfi hfl, rb_L_241 hz hms hm hitf hfi hfl, zE_ne hz p]
theorem mb_13_241 {c itf : Int} {m0 : Nat} {r : (Int × Int) ⊕ (Int × List hMR)} (hX : w_X xs) (hB15 : B 237 15 = 241) (hBn : ho_nm B 241) (hcc : 0 ≤ c ∧ c < 60) (hitf : B 243 c = itf) (hB7 : B 248 c = (m0 : Int)) (hk : ∀ (Z : wS) (q : Int) (ms : List hMR), r = .inr (q, ms) → mb_ag 241 c (m0 : Int) B Z → lx_E Z B q → lx_is (zq B q) 125 = true → Z 241 11 = (ms.length : Int) → hr_all 241 Z ms → m0 ≤ ms.length → ms.length ≤ 400 → Z 249 c = (ms.length : Int) - (m0 : Int) → wJ (pe_GA xs) wY0 M (d + 8) t_M_readsClass ((pe_at t_M_readsClass.bl 14).getD (0, [])).2 [(0, (2, 237))] [] Z Q) (hf : ∀ (Z : wS) (e q : Int), r = .inl (e, q) → mb_ag 241 c (m0 : Int) B Z → Z 238 5 = e → Z 238 6 = q → Q (.inr 238) Z) : ∀ (f : Nat) (p : Int) (ms : List hMR) (Z : wS), (B 237 4 - p).toNat < f → mb_f B 241 c itf m0 f p ms = r → mb_ag 241 c (m0 : Int) B Z → lx_E Z B p → Z 241 11 = (ms.length : Int) → hr_all 241 Z ms → m0 ≤ ms.length → ms.length ≤ 400 → Z 249 c = (ms.length : Int) - (m0 : Int) → wJ (pe_GA xs) wY0 M (d + 8) t_M_readsClass ((pe_at t_M_readsClass.bl 13).getD (0, [])).2 [(0, (2, 237)), (2, (0, c))] [] Z Q := by
  intro f
  induction f with
  | zero => intros; omega
  | succ f ih =>
    intro p ms Z hfu he hag hE h11 hms hm0 hm4 h8
    rw [mb_f_s] at he
    have e1 : Z 241 1 = B 241 1 := hag 241 1 (by omega) (by omega) (by omega) (by omega) (by omega) (by omega)
    have e9 : Z 250 = B 250 := mb_ag_row hag (by decide)
    have e10 : Z 251 = B 251 := mb_ag_row hag (by decide)
    have e2 : Z 243 c = itf := (hag 243 c (by omega) (by omega) (by omega) (by omega) (by omega) (by omega)).trans hitf
    have e7 : Z 248 c = (m0 : Int) := (hag 248 c (by omega) (by omega) (by omega) (by omega) (by omega) (by omega)).trans hB7
    have hb15 : Z 237 15 = 241 := (hag 237 15 (by omega) (by omega) (by omega) (by omega) (by omega) (by omega)).trans hB15
    have hnm : ho_nm Z 241 := ho_nm_of hBn e1 e9 e10
    have hz : zE Z B 241 := ⟨hE.2.1, hE.2.2.1, hE.2.2.2, e1, e9, e10⟩
    have hrm := rm_L_241 (c := c) (p := p) hz hms rfl e2 e7 hm0
    have hpp : 0 ≤ p ∧ p ≤ B 237 4 := by have := hE.1.2.2.1; rw [hE.2.2.1] at this; exact this
    have hn4 : B 237 4 ≤ 65536 := by have := hE.1.2.1; rw [hE.2.2.1] at this; exact this.2
    refine wa_aload_n (n := 0) rfl ?_
    refine wa_bipush (w_rg2 (by omega) (by omega)) ?_
    refine wa_cv 237 rfl (wy_pr rfl) wt_237 (M2 := fun _ => False) rfl at_M_isSign ⟨_, rfl⟩ rfl rfl ⟨(Or.inr ⟨wy_pr rfl, fun q => q⟩), trivial, trivial⟩ trivial (fun _ _ q => False.elim q) (isSign_ok ⟨by omega, by omega⟩) (fun oq1 Sq1 hp2 q1 => ?_)
    rcases q1 with ⟨rfl, ⟨rfl, gi⟩ | ⟨rfl, gi⟩⟩
    · skip
      show wJ _ _ _ _ _ _ _ _ _ _
      rw [lx_E_is hE] at gi
      refine wa_ifne (w_rg0 (by omega) (by omega)) ⟨_, rfl⟩ (fun c3 => ?_) (fun c3 => ?_)
      · skip
        rw [if_pos gi] at he
        exact wJ_S (hk _ _ _ he.symm hag hE gi h11 hms hm0 hm4 h8) ⟨rfl, trivial⟩
      · skip
        exact absurd c3 (by omega)
    · skip
      show wJ _ _ _ _ _ _ _ _ _ _
      rw [lx_E_is hE] at gi
      refine wa_ifne (w_rg0 (by omega) (by omega)) ⟨_, rfl⟩ (fun c4 => ?_) (fun c4 => ?_)
      · skip
        exact absurd c4 (by omega)
      · skip
        refine wa_aload_n (n := 0) rfl ?_
        refine wa_iload_n (n := 2) rfl ?_
        refine wa_cv 237 rfl (wy_pr rfl) wt_237 (M2 := fun _ => False) rfl at_M_readsMember ⟨_, rfl⟩ rfl rfl ⟨(Or.inr ⟨wy_pr rfl, fun q => q⟩), trivial, trivial⟩ trivial (fun _ _ q => False.elim q) (readsMember_241 (m := (ms.length : Int)) hX hb15 h11 ⟨by omega, by omega⟩ (hr_mm hms) (by rw [e7]; omega) hcc hnm (by rw [h8]; omega) ⟨hE.1, rfl, rfl, rfl⟩ hrm) (fun oq5 Sq5 hp6 q5 => ?_)
        rcases q5 with ⟨p2, so, st, ty, v, f2, e3, l, q1, rfl, q2, q3, q4, q5, q6, q7, q8⟩ | ⟨e, q, q1, rfl, q2, q3, q4⟩
        · skip
          rw [if_neg (by rw [gi]; decide), q1] at he
          dsimp only at he
          show wJ _ _ _ _ _ _ _ _ _ _
          refine wa_goto ⟨_, rfl⟩ ?_
          have hgt := rm_L_gt hBn.1.2 (by decide) hpp q1
          have h400 := rm_L_400 q1
          have hE2 : lx_E Sq5 B p2 := ⟨q3.1, q3.2.1.trans hE.2.1, q3.2.2.1.trans hE.2.2.1, q3.2.2.2.trans hE.2.2.2⟩
          have hlen : (((ms ++ [(c, so, st, ty, l, v, f2, e3)]).length : Nat) : Int) = (ms.length : Int) + 1 := by rw [List.length_append]; rfl
          have hall := hr_add (by decide) hms rfl q2 (show hr_at 241 (ms.length : Int) Sq5 (c, so, st, ty, l, v, f2, e3) from ⟨q6, q7, q8, ⟨hgt.2.2.1, hgt.2.2.2.1, (show e3 ≤ 65540 by omega)⟩⟩)
          exact wJ_S (ih p2 _ _ (by omega) he (mb_ag_M (by omega) hag q2) hE2 (by rw [q4, hlen]) hall (by omega) (by omega) (by rw [q5, h8, hlen]; omega)) ⟨rfl, rfl, trivial⟩
        · skip
          rw [if_neg (by rw [gi]; decide), q1] at he
          dsimp only at he
          exact ⟨rfl, hf _ _ _ he.symm (mb_ag_m (by omega) hag q2) q3 q4⟩
theorem rm_L_261 {A B : wS} {c m itf p : Int} {fi : Nat} {ms : List hMR} (hz : zE A B 261) (hms : hr_all 261 A ms) (hm : m = (ms.length : Int)) (hitf : A 263 c = itf) (hfi : A 268 c = (fi : Int)) (hfl : fi ≤ ms.length) : rm_of_261 A c m p = rm_L B 261 c itf (ms.drop fi) ms.length p := by
  unfold rm_of_261 rm_L
  rw [zE_w hz p, hitf, rb_L_261 hz hms hm hitf hfi hfl, rb_L_261 hz hms hm hitf hfi hfl, zE_ne hz p]
theorem mb_13_261 {c itf : Int} {m0 : Nat} {r : (Int × Int) ⊕ (Int × List hMR)} (hX : w_X xs) (hB15 : B 237 15 = 261) (hBn : ho_nm B 261) (hcc : 0 ≤ c ∧ c < 60) (hitf : B 263 c = itf) (hB7 : B 268 c = (m0 : Int)) (hk : ∀ (Z : wS) (q : Int) (ms : List hMR), r = .inr (q, ms) → mb_ag 261 c (m0 : Int) B Z → lx_E Z B q → lx_is (zq B q) 125 = true → Z 261 11 = (ms.length : Int) → hr_all 261 Z ms → m0 ≤ ms.length → ms.length ≤ 400 → Z 269 c = (ms.length : Int) - (m0 : Int) → wJ (pe_GA xs) wY0 M (d + 8) t_M_readsClass ((pe_at t_M_readsClass.bl 14).getD (0, [])).2 [(0, (2, 237))] [] Z Q) (hf : ∀ (Z : wS) (e q : Int), r = .inl (e, q) → mb_ag 261 c (m0 : Int) B Z → Z 238 5 = e → Z 238 6 = q → Q (.inr 238) Z) : ∀ (f : Nat) (p : Int) (ms : List hMR) (Z : wS), (B 237 4 - p).toNat < f → mb_f B 261 c itf m0 f p ms = r → mb_ag 261 c (m0 : Int) B Z → lx_E Z B p → Z 261 11 = (ms.length : Int) → hr_all 261 Z ms → m0 ≤ ms.length → ms.length ≤ 400 → Z 269 c = (ms.length : Int) - (m0 : Int) → wJ (pe_GA xs) wY0 M (d + 8) t_M_readsClass ((pe_at t_M_readsClass.bl 13).getD (0, [])).2 [(0, (2, 237)), (2, (0, c))] [] Z Q := by
  intro f
  induction f with
  | zero => intros; omega
  | succ f ih =>
    intro p ms Z hfu he hag hE h11 hms hm0 hm4 h8
    rw [mb_f_s] at he
    have e1 : Z 261 1 = B 261 1 := hag 261 1 (by omega) (by omega) (by omega) (by omega) (by omega) (by omega)
    have e9 : Z 270 = B 270 := mb_ag_row hag (by decide)
    have e10 : Z 271 = B 271 := mb_ag_row hag (by decide)
    have e2 : Z 263 c = itf := (hag 263 c (by omega) (by omega) (by omega) (by omega) (by omega) (by omega)).trans hitf
    have e7 : Z 268 c = (m0 : Int) := (hag 268 c (by omega) (by omega) (by omega) (by omega) (by omega) (by omega)).trans hB7
    have hb15 : Z 237 15 = 261 := (hag 237 15 (by omega) (by omega) (by omega) (by omega) (by omega) (by omega)).trans hB15
    have hnm : ho_nm Z 261 := ho_nm_of hBn e1 e9 e10
    have hz : zE Z B 261 := ⟨hE.2.1, hE.2.2.1, hE.2.2.2, e1, e9, e10⟩
    have hrm := rm_L_261 (c := c) (p := p) hz hms rfl e2 e7 hm0
    have hpp : 0 ≤ p ∧ p ≤ B 237 4 := by have := hE.1.2.2.1; rw [hE.2.2.1] at this; exact this
    have hn4 : B 237 4 ≤ 65536 := by have := hE.1.2.1; rw [hE.2.2.1] at this; exact this.2
    refine wa_aload_n (n := 0) rfl ?_
    refine wa_bipush (w_rg2 (by omega) (by omega)) ?_
    refine wa_cv 237 rfl (wy_pr rfl) wt_237 (M2 := fun _ => False) rfl at_M_isSign ⟨_, rfl⟩ rfl rfl ⟨(Or.inr ⟨wy_pr rfl, fun q => q⟩), trivial, trivial⟩ trivial (fun _ _ q => False.elim q) (isSign_ok ⟨by omega, by omega⟩) (fun oq1 Sq1 hp2 q1 => ?_)
    rcases q1 with ⟨rfl, ⟨rfl, gi⟩ | ⟨rfl, gi⟩⟩
    · skip
      show wJ _ _ _ _ _ _ _ _ _ _
      rw [lx_E_is hE] at gi
      refine wa_ifne (w_rg0 (by omega) (by omega)) ⟨_, rfl⟩ (fun c3 => ?_) (fun c3 => ?_)
      · skip
        rw [if_pos gi] at he
        exact wJ_S (hk _ _ _ he.symm hag hE gi h11 hms hm0 hm4 h8) ⟨rfl, trivial⟩
      · skip
        exact absurd c3 (by omega)
    · skip
      show wJ _ _ _ _ _ _ _ _ _ _
      rw [lx_E_is hE] at gi
      refine wa_ifne (w_rg0 (by omega) (by omega)) ⟨_, rfl⟩ (fun c4 => ?_) (fun c4 => ?_)
      · skip
        exact absurd c4 (by omega)
      · skip
        refine wa_aload_n (n := 0) rfl ?_
        refine wa_iload_n (n := 2) rfl ?_
        refine wa_cv 237 rfl (wy_pr rfl) wt_237 (M2 := fun _ => False) rfl at_M_readsMember ⟨_, rfl⟩ rfl rfl ⟨(Or.inr ⟨wy_pr rfl, fun q => q⟩), trivial, trivial⟩ trivial (fun _ _ q => False.elim q) (readsMember_261 (m := (ms.length : Int)) hX hb15 h11 ⟨by omega, by omega⟩ (hr_mm hms) (by rw [e7]; omega) hcc hnm (by rw [h8]; omega) ⟨hE.1, rfl, rfl, rfl⟩ hrm) (fun oq5 Sq5 hp6 q5 => ?_)
        rcases q5 with ⟨p2, so, st, ty, v, f2, e3, l, q1, rfl, q2, q3, q4, q5, q6, q7, q8⟩ | ⟨e, q, q1, rfl, q2, q3, q4⟩
        · skip
          rw [if_neg (by rw [gi]; decide), q1] at he
          dsimp only at he
          show wJ _ _ _ _ _ _ _ _ _ _
          refine wa_goto ⟨_, rfl⟩ ?_
          have hgt := rm_L_gt hBn.1.2 (by decide) hpp q1
          have h400 := rm_L_400 q1
          have hE2 : lx_E Sq5 B p2 := ⟨q3.1, q3.2.1.trans hE.2.1, q3.2.2.1.trans hE.2.2.1, q3.2.2.2.trans hE.2.2.2⟩
          have hlen : (((ms ++ [(c, so, st, ty, l, v, f2, e3)]).length : Nat) : Int) = (ms.length : Int) + 1 := by rw [List.length_append]; rfl
          have hall := hr_add (by decide) hms rfl q2 (show hr_at 261 (ms.length : Int) Sq5 (c, so, st, ty, l, v, f2, e3) from ⟨q6, q7, q8, ⟨hgt.2.2.1, hgt.2.2.2.1, (show e3 ≤ 65540 by omega)⟩⟩)
          exact wJ_S (ih p2 _ _ (by omega) he (mb_ag_M (by omega) hag q2) hE2 (by rw [q4, hlen]) hall (by omega) (by omega) (by rw [q5, h8, hlen]; omega)) ⟨rfl, rfl, trivial⟩
        · skip
          rw [if_neg (by rw [gi]; decide), q1] at he
          dsimp only at he
          exact ⟨rfl, hf _ _ _ he.symm (mb_ag_m (by omega) hag q2) q3 q4⟩
end W89
