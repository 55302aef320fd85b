/-! PART 87: members as lists. -/
section W87
variable {S A B Z : wS} {b : Nat} {p : Int}
/-- a member: its class, sort, static mark, type, parameters, their mark, its name's place and end -/
abbrev hMR : Type := Int × Int × Int × Int × List Int × Int × Int × Int
def hr_at (b : Nat) (k : Int) (Z : wS) (r : hMR) : Prop := hm_rec b k Z r.1 r.2.1 r.2.2.1 r.2.2.2.1 r.2.2.2.2.2.2.1 r.2.2.2.2.2.2.2 ∧ hm_ps b k Z r.2.2.2.2.1 r.2.2.2.2.2.1 ∧ r.2.2.2.2.1.length ≤ 8 ∧ (0 ≤ r.2.2.2.2.2.2.1 ∧ r.2.2.2.2.2.2.1 ≤ r.2.2.2.2.2.2.2 ∧ r.2.2.2.2.2.2.2 ≤ 65540)
/-- the members before m -/
def hr_all (b : Nat) (Z : wS) (ms : List hMR) : Prop := ∀ (k : Nat) (r : hMR), ms[k]? = some r → hr_at b (k : Int) Z r
def dp_L (T : Int → Int) (so f e : Int) (l : List Int) (rs : List hMR) : Bool := rs.any (fun r => decide (r.2.1 = so ∧ so ≠ 0) && (tp_q T r.2.2.2.2.2.2.1 r.2.2.2.2.2.2.2 f e && decide (r.2.2.2.2.1 = l)))
def df_L (T : Int → Int) (f e : Int) (rs : List hMR) : Bool := rs.any (fun r => decide (r.2.1 = 0) && tp_q T r.2.2.2.2.2.2.1 r.2.2.2.2.2.2.2 f e)
theorem hm_ps_eq {k v : Int} {l1 l2 : List Int} (h : hm_ps b k Z l1 v) : decide (Z (b + 15) k = (l2.length : Int) ∧ ∀ i : Nat, i < l2.length → Z (b + 17) (8 * k + (i : Int)) = l2.getD i 0) = decide (l1 = l2) := by
  apply decide_eq_decide.mpr
  constructor
  · rintro ⟨q1, q2⟩
    have hlen : l1.length = l2.length := by have := h.1; omega
    apply List.ext_getElem hlen
    intro i h1 h2
    have e1 := h.2.2 i h1
    have e2 := q2 i h2
    rw [e1] at e2
    rw [List.getD_eq_getElem?_getD, List.getD_eq_getElem?_getD, List.getElem?_eq_getElem h1, List.getElem?_eq_getElem h2] at e2
    exact e2
  · intro q
    subst q
    exact ⟨h.1, h.2.2⟩
theorem dp_f_L {m so f0 e0 : Int} {l : List Int} {ms : List hMR} (hms : hr_all b A ms) (hm : m = (ms.length : Int)) (h12 : A (b + 12) m = so) (h18 : A (b + 18) m = f0) (h19 : A (b + 19) m = e0) : ∀ (f : Nat) (k : Nat), ms.length - k < f → k ≤ ms.length → dp_f A b m l f (k : Int) = dp_L (A 239) so f0 e0 l (ms.drop k) := by
  intro f
  induction f with
  | zero => intros; omega
  | succ f ih =>
    intro k hf hk
    rw [dp_f_s]
    by_cases hkm : k = ms.length
    · rw [if_neg (by omega), hkm, List.drop_length]; rfl
    · have hlt : k < ms.length := by omega
      rw [if_pos (by omega)]
      have hg := hms k ms[k] (List.getElem?_eq_getElem hlt)
      have h3 := ih (k + 1) (by omega) (by omega)
      rw [show ((k : Int) + 1) = ((k + 1 : Nat) : Int) from rfl, h3, List.drop_eq_getElem_cons hlt]
      unfold dp_L
      rw [List.any_cons]
      congr 1
      unfold al_q
      rw [h12, h18, h19, hg.1.2.1, hg.1.2.2.2.2.1, hg.1.2.2.2.2.2, hm_ps_eq hg.2.1]
theorem df_f_L {m f0 e0 : Int} {ms : List hMR} (hms : hr_all b A ms) (hm : m = (ms.length : Int)) (h18 : A (b + 18) m = f0) (h19 : A (b + 19) m = e0) : ∀ (f : Nat) (k : Nat), ms.length - k < f → k ≤ ms.length → df_f A b m f (k : Int) = df_L (A 239) f0 e0 (ms.drop k) := by
  intro f
  induction f with
  | zero => intros; omega
  | succ f ih =>
    intro k hf hk
    rw [df_f_s]
    by_cases hkm : k = ms.length
    · rw [if_neg (by omega), hkm, List.drop_length]; rfl
    · have hlt : k < ms.length := by omega
      rw [if_pos (by omega)]
      have hg := hms k ms[k] (List.getElem?_eq_getElem hlt)
      have h3 := ih (k + 1) (by omega) (by omega)
      rw [show ((k : Int) + 1) = ((k + 1 : Nat) : Int) from rfl, h3, List.drop_eq_getElem_cons hlt]
      unfold df_L
      rw [List.any_cons]
      congr 1
      rw [h18, h19, hg.1.2.1, hg.1.2.2.2.2.1, hg.1.2.2.2.2.2]
def pk_L (B : wS) (so f e : Int) (rs : List hMR) (r : (Int × Int) ⊕ (Int × List Int × Int)) : (Int × Int) ⊕ (Int × List Int × Int) := match r with
  | .inl x => .inl x
  | .inr (q, l, v) => if lx_is (zq B q) 41 = true then (if dp_L (B 239) so f e l rs = true then .inl (7, q) else .inr (lx_ne (zq B q) q, l, v)) else .inl (1, q)
def rp_L (B : wS) (b : Nat) (rs : List hMR) (p so st ty f e : Int) : hRM := match pk_L B so f e rs (pq_r B b p) with
  | .inl x => .inl x
  | .inr (q, l, v) => rm_end B q so st ty l v f e
def rf_L (B : wS) (itf : Int) (rs : List hMR) (ty f e p pl : Int) : Option (Int × Int) := if lx_is (zq B p) 59 = true ∧ ty ≠ 0 then (if df_L (B 239) f e rs = true then some (2, pl) else if itf = 0 then none else some (6, pl)) else some (1, p)
/-- a member from p1 on (st: static), behind rs, of which n are there in all -/
def rb_L (B : wS) (b : Nat) (c itf : Int) (rs : List hMR) (n : Nat) (p1 st : Int) : hRM := if zq B p1 237 6 = 1 ∧ ¬ (st = 1 ∧ lx_w (zq B p1) tx_25 = true) then (if lx_w (zq B p1) tx_25 = true ∨ (0 ≤ pl_of (zq B p1) tx_27 ∨ 0 ≤ ch_of (zq B p1) b) then (if (n : Int) < 400 then (if lx_w (zq B p1) tx_25 = true then (if itf = 0 then (if lx_is (zq B (lx_ne (zq B p1) p1)) 40 = true then rp_L B b rs (lx_ne (zq B (lx_ne (zq B p1) p1)) (lx_ne (zq B p1) p1)) 2 st (9 + c) p1 p1 else .inl (1, lx_ne (zq B p1) p1)) else .inl (6, p1)) else (match hy_type (zq B p1) b p1 1 with
    | .inl x => .inl x
    | .inr (t, p2) => if zq B p2 237 6 = 1 then (if lx_oo (zq B p2) tx_21 = true then .inl (2, p2) else (if lx_is (zq B (lx_ne (zq B p2) p2)) 40 = true then rp_L B b rs (lx_ne (zq B (lx_ne (zq B p2) p2)) (lx_ne (zq B p2) p2)) 1 st t p2 (zq B p2 237 8) else (match rf_L B itf rs t p2 (zq B p2 237 8) (lx_ne (zq B p2) p2) p2 with
      | some x => .inl x
      | none => rm_end B (lx_ne (zq B p2) p2) 0 st t [] 0 p2 (zq B p2 237 8)))) else .inl (1, p2))) else .inl (5, p1)) else .inl (3, p1)) else .inl (1, p1)
def rm_L (B : wS) (b : Nat) (c itf : Int) (rs : List hMR) (n : Nat) (p : Int) : hRM := if lx_w (zq B p) tx_23 = true then (if itf = 0 then rb_L B b c itf rs n (lx_ne (zq B p) p) 1 else .inl (6, p)) else rb_L B b c itf rs n p 0
theorem rm_end_zE {q so st ty v f e : Int} {l : List Int} (h : zE A B b) : rm_end A q so st ty l v f e = rm_end B q so st ty l v f e := by unfold rm_end; rw [zE_is h q, zE_ne h q]
theorem hr_all_up_241 {A : wS} {ms : List hMR} {j : Nat} {m x : Int} (h : hr_all 241 A ms) (hm : m = (ms.length : Int)) (hj : j ≠ 258) : hr_all 241 (w_up A j m x) ms := by
  intro k r hk
  have hlt : (k : Int) < m := by have := (List.getElem?_eq_some_iff.mp hk).1; omega
  have e : ∀ n : Nat, w_up A j m x n (k : Int) = A n (k : Int) := fun n => if_neg (by omega)
  have e17 : ∀ i : Int, w_up A j m x (241 + 17) i = A (241 + 17) i := fun i => if_neg (by omega)
  obtain ⟨q1, q2, q3, q4⟩ := h k r hk
  refine ⟨⟨(e _).trans q1.1, (e _).trans q1.2.1, (e _).trans q1.2.2.1, (e _).trans q1.2.2.2.1, (e _).trans q1.2.2.2.2.1, (e _).trans q1.2.2.2.2.2⟩, ⟨(e _).trans q2.1, (e _).trans q2.2.1, fun i hi => (e17 _).trans (q2.2.2 i hi)⟩, q3, q4⟩
theorem zE_up_241 {A B : wS} {j : Nat} {m x : Int} (h : zE A B 241) (hj : 252 ≤ j ∧ j ≤ 260) : zE (w_up A j m x) B 241 := by
  obtain ⟨q1, q2, q3, q4, q5, q6⟩ := h
  refine ⟨?_, ?_, ?_, ?_, ?_, ?_⟩
  · rw [w_up_row (by omega)]; exact q1
  · rw [w_up_row (by omega)]; exact q2
  · rw [w_up_row (by omega)]; exact q3
  · rw [w_up_row (by omega)]; exact q4
  · rw [w_up_row (by omega)]; exact q5
  · rw [w_up_row (by omega)]; exact q6
theorem rp_L_241 {A B : wS} {c m so st ty f e p : Int} {fi : Nat} {ms : List hMR} {A1 : wS} (hz0 : zE A B 241) (hz : zE A1 B 241) (hms : hr_all 241 A1 ms) (hm : m = (ms.length : Int)) (hfi : A1 248 c = (fi : Int)) (hfl : fi ≤ ms.length) (h12 : A1 253 m = so) (h18 : A1 259 m = f) (h19 : A1 260 m = e) : rm_par A A1 241 c m p so st ty f e = rp_L B 241 (ms.drop fi) p so st ty f e := by
  have hk : ∀ r, pq_k A1 241 c m r = pk_L B so f e (ms.drop fi) r := by
    intro r
    cases r with
    | inl x => rfl
    | inr t =>
      obtain ⟨q, l, v⟩ := t
      have hd : dp_f A1 241 m l ((m - A1 248 c).toNat + 1) (A1 248 c) = dp_L (B 239) so f e l (ms.drop fi) := by
        rw [hfi, ← hz.1]
        exact dp_f_L hms hm h12 h18 h19 _ _ (by omega) hfl
      show (if lx_is (zq A1 q) 41 = true then (if dp_f A1 241 m l ((m - A1 248 c).toNat + 1) (A1 248 c) = true then (.inl (7, q) : (Int × Int) ⊕ (Int × List Int × Int)) else .inr (lx_ne (zq A1 q) q, l, v)) else .inl (1, q)) = _
      rw [hd, zE_is hz q, zE_ne hz q]
      rfl
  unfold rm_par rp_L
  rw [hk, zE_pq hz (by decide)]
  cases pk_L B so f e (ms.drop fi) (pq_r B 241 p) with
  | inl x => rfl
  | inr t =>
    obtain ⟨q, l, v⟩ := t
    exact rm_end_zE hz0
theorem rf_L_241 {A2 B : wS} {c m itf ty f e p pl : Int} {fi : Nat} {ms : List hMR} (hz : zE A2 B 241) (hms : hr_all 241 A2 ms) (hm : m = (ms.length : Int)) (hitf : A2 243 c = itf) (hfi : A2 248 c = (fi : Int)) (hfl : fi ≤ ms.length) (h14 : A2 255 m = ty) (h18 : A2 259 m = f) (h19 : A2 260 m = e) : rf_of A2 241 c m p pl = rf_L B itf (ms.drop fi) ty f e p pl := by
  have hd : df_f A2 241 m ((m - A2 248 c).toNat + 1) (A2 248 c) = df_L (B 239) f e (ms.drop fi) := by
    rw [hfi, ← hz.1]
    exact df_f_L hms hm h18 h19 _ _ (by omega) hfl
  show (if lx_is (zq A2 p) 59 = true ∧ A2 255 m ≠ 0 then (if df_f A2 241 m ((m - A2 248 c).toNat + 1) (A2 248 c) = true then some (2, pl) else if A2 243 c = 0 then none else some (6, pl)) else some (1, p)) = _
  rw [hd, zE_is hz p, h14, hitf]
  rfl
theorem rb_L_241 {A B : wS} {c m itf p1 st : Int} {fi : Nat} {ms : List hMR} (hz : zE A B 241) (hms : hr_all 241 A ms) (hm : m = (ms.length : Int)) (hitf : A 243 c = itf) (hfi : A 248 c = (fi : Int)) (hfl : fi ≤ ms.length) : rm_body_241 A c m p1 st = rb_L B 241 c itf (ms.drop fi) ms.length p1 st := by
  have hn : ∀ q, lx_ne (zq A q) q = lx_ne (zq B q) q := fun q => zE_ne hz q
  have hmk : rm_par A (w_up (w_up (w_up (w_up (w_up (w_up A 252 m c) 254 m st) 259 m p1) 260 m p1) 253 m 2) 255 m (9 + c)) 241 c m (lx_ne (zq A (lx_ne (zq A p1) p1)) (lx_ne (zq A p1) p1)) 2 st (9 + c) p1 p1 = rp_L B 241 (ms.drop fi) (lx_ne (zq B (lx_ne (zq B p1) p1)) (lx_ne (zq B p1) p1)) 2 st (9 + c) p1 p1 := by
    rw [hn p1, hn]
    exact rp_L_241 hz (zE_up_241 (zE_up_241 (zE_up_241 (zE_up_241 (zE_up_241 (zE_up_241 hz (by decide)) (by decide)) (by decide)) (by decide)) (by decide)) (by decide)) (hr_all_up_241 (hr_all_up_241 (hr_all_up_241 (hr_all_up_241 (hr_all_up_241 (hr_all_up_241 hms hm (by decide)) hm (by decide)) hm (by decide)) hm (by decide)) hm (by decide)) hm (by decide)) hm hfi hfl ((w_up_slot (by decide)).trans (w_up_same _ _ _ _)) ((w_up_slot (by decide)).trans ((w_up_slot (by decide)).trans ((w_up_slot (by decide)).trans (w_up_same _ _ _ _)))) ((w_up_slot (by decide)).trans ((w_up_slot (by decide)).trans (w_up_same _ _ _ _)))
  unfold rm_body_241 rb_L
  rw [hmk, zE_6 hz p1, zE_w hz p1, zE_pl hz p1, zE_ch hz (by decide) p1, zE_type hz (by decide) p1, hn p1, zE_is hz, hitf, hm]
  cases hy_type (zq B p1) 241 p1 1 with
  | inl x => rfl
  | inr tq =>
    obtain ⟨t, p2⟩ := tq
    dsimp only
    have h3 : rm_par A (w_up (w_up (w_up (w_up (w_up (w_up (w_up (w_up A 252 (ms.length : Int) c) 254 (ms.length : Int) st) 259 (ms.length : Int) p1) 260 (ms.length : Int) p1) 255 (ms.length : Int) t) 259 (ms.length : Int) p2) 260 (ms.length : Int) (zq A p2 237 8)) 253 (ms.length : Int) 1) 241 c (ms.length : Int) (lx_ne (zq A (lx_ne (zq A p2) p2)) (lx_ne (zq A p2) p2)) 1 st t p2 (zq A p2 237 8) = rp_L B 241 (ms.drop fi) (lx_ne (zq B (lx_ne (zq B p2) p2)) (lx_ne (zq B p2) p2)) 1 st t p2 (zq B p2 237 8) := by
      rw [hn p2, hn, zE_8 hz p2]
      have z2 := zE_up_241 (m := (ms.length : Int)) (x := 1) (j := 253) (zE_up_241 (m := (ms.length : Int)) (x := zq B p2 237 8) (j := 260) (zE_up_241 (m := (ms.length : Int)) (x := p2) (j := 259) (zE_up_241 (m := (ms.length : Int)) (x := t) (j := 255) (zE_up_241 (m := (ms.length : Int)) (x := p1) (j := 260) (zE_up_241 (m := (ms.length : Int)) (x := p1) (j := 259) (zE_up_241 (m := (ms.length : Int)) (x := st) (j := 254) (zE_up_241 (m := (ms.length : Int)) (x := c) (j := 252) hz (by decide)) (by decide)) (by decide)) (by decide)) (by decide)) (by decide)) (by decide)) (by decide)
      have m2 := hr_all_up_241 (m := (ms.length : Int)) (x := 1) (j := 253) (hr_all_up_241 (m := (ms.length : Int)) (x := zq B p2 237 8) (j := 260) (hr_all_up_241 (m := (ms.length : Int)) (x := p2) (j := 259) (hr_all_up_241 (m := (ms.length : Int)) (x := t) (j := 255) (hr_all_up_241 (m := (ms.length : Int)) (x := p1) (j := 260) (hr_all_up_241 (m := (ms.length : Int)) (x := p1) (j := 259) (hr_all_up_241 (m := (ms.length : Int)) (x := st) (j := 254) (hr_all_up_241 (m := (ms.length : Int)) (x := c) (j := 252) hms rfl (by decide)) rfl (by decide)) rfl (by decide)) rfl (by decide)) rfl (by decide)) rfl (by decide)) rfl (by decide)) rfl (by decide)
      exact rp_L_241 hz z2 m2 rfl hfi hfl (w_up_same _ _ _ _) ((w_up_slot (by decide)).trans ((w_up_slot (by decide)).trans (w_up_same _ _ _ _))) ((w_up_slot (by decide)).trans (w_up_same _ _ _ _))
    have h4 : rf_of (w_up (w_up (w_up (w_up (w_up (w_up (w_up A 252 (ms.length : Int) c) 254 (ms.length : Int) st) 259 (ms.length : Int) p1) 260 (ms.length : Int) p1) 255 (ms.length : Int) t) 259 (ms.length : Int) p2) 260 (ms.length : Int) (zq A p2 237 8)) 241 c (ms.length : Int) (lx_ne (zq A p2) p2) p2 = rf_L B itf (ms.drop fi) t p2 (zq B p2 237 8) (lx_ne (zq B p2) p2) p2 := by
      rw [hn p2, zE_8 hz p2]
      have z2 := zE_up_241 (m := (ms.length : Int)) (x := zq B p2 237 8) (j := 260) (zE_up_241 (m := (ms.length : Int)) (x := p2) (j := 259) (zE_up_241 (m := (ms.length : Int)) (x := t) (j := 255) (zE_up_241 (m := (ms.length : Int)) (x := p1) (j := 260) (zE_up_241 (m := (ms.length : Int)) (x := p1) (j := 259) (zE_up_241 (m := (ms.length : Int)) (x := st) (j := 254) (zE_up_241 (m := (ms.length : Int)) (x := c) (j := 252) hz (by decide)) (by decide)) (by decide)) (by decide)) (by decide)) (by decide)) (by decide)
      have m2 := hr_all_up_241 (m := (ms.length : Int)) (x := zq B p2 237 8) (j := 260) (hr_all_up_241 (m := (ms.length : Int)) (x := p2) (j := 259) (hr_all_up_241 (m := (ms.length : Int)) (x := t) (j := 255) (hr_all_up_241 (m := (ms.length : Int)) (x := p1) (j := 260) (hr_all_up_241 (m := (ms.length : Int)) (x := p1) (j := 259) (hr_all_up_241 (m := (ms.length : Int)) (x := st) (j := 254) (hr_all_up_241 (m := (ms.length : Int)) (x := c) (j := 252) hms rfl (by decide)) rfl (by decide)) rfl (by decide)) rfl (by decide)) rfl (by decide)) rfl (by decide)) rfl (by decide)
      exact rf_L_241 z2 m2 rfl hitf hfi hfl ((w_up_slot (by decide)).trans ((w_up_slot (by decide)).trans (w_up_same _ _ _ _))) ((w_up_slot (by decide)).trans (w_up_same _ _ _ _)) (w_up_same _ _ _ _)
    rw [zE_6 hz p2, zE_oo hz p2, h3, h4, hn p2, zE_is hz]
    rw [rm_end_zE hz, zE_8 hz p2]
    try rfl
theorem hr_all_up_261 {A : wS} {ms : List hMR} {j : Nat} {m x : Int} (h : hr_all 261 A ms) (hm : m = (ms.length : Int)) (hj : j ≠ 278) : hr_all 261 (w_up A j m x) ms := by
  intro k r hk
  have hlt : (k : Int) < m := by have := (List.getElem?_eq_some_iff.mp hk).1; omega
  have e : ∀ n : Nat, w_up A j m x n (k : Int) = A n (k : Int) := fun n => if_neg (by omega)
  have e17 : ∀ i : Int, w_up A j m x (261 + 17) i = A (261 + 17) i := fun i => if_neg (by omega)
  obtain ⟨q1, q2, q3, q4⟩ := h k r hk
  refine ⟨⟨(e _).trans q1.1, (e _).trans q1.2.1, (e _).trans q1.2.2.1, (e _).trans q1.2.2.2.1, (e _).trans q1.2.2.2.2.1, (e _).trans q1.2.2.2.2.2⟩, ⟨(e _).trans q2.1, (e _).trans q2.2.1, fun i hi => (e17 _).trans (q2.2.2 i hi)⟩, q3, q4⟩
theorem zE_up_261 {A B : wS} {j : Nat} {m x : Int} (h : zE A B 261) (hj : 272 ≤ j ∧ j ≤ 280) : zE (w_up A j m x) B 261 := by
  obtain ⟨q1, q2, q3, q4, q5, q6⟩ := h
  refine ⟨?_, ?_, ?_, ?_, ?_, ?_⟩
  · rw [w_up_row (by omega)]; exact q1
  · rw [w_up_row (by omega)]; exact q2
  · rw [w_up_row (by omega)]; exact q3
  · rw [w_up_row (by omega)]; exact q4
  · rw [w_up_row (by omega)]; exact q5
  · rw [w_up_row (by omega)]; exact q6
theorem rp_L_261 {A B : wS} {c m so st ty f e p : Int} {fi : Nat} {ms : List hMR} {A1 : wS} (hz0 : zE A B 261) (hz : zE A1 B 261) (hms : hr_all 261 A1 ms) (hm : m = (ms.length : Int)) (hfi : A1 268 c = (fi : Int)) (hfl : fi ≤ ms.length) (h12 : A1 273 m = so) (h18 : A1 279 m = f) (h19 : A1 280 m = e) : rm_par A A1 261 c m p so st ty f e = rp_L B 261 (ms.drop fi) p so st ty f e := by
  have hk : ∀ r, pq_k A1 261 c m r = pk_L B so f e (ms.drop fi) r := by
    intro r
    cases r with
    | inl x => rfl
    | inr t =>
      obtain ⟨q, l, v⟩ := t
      have hd : dp_f A1 261 m l ((m - A1 268 c).toNat + 1) (A1 268 c) = dp_L (B 239) so f e l (ms.drop fi) := by
        rw [hfi, ← hz.1]
        exact dp_f_L hms hm h12 h18 h19 _ _ (by omega) hfl
      show (if lx_is (zq A1 q) 41 = true then (if dp_f A1 261 m l ((m - A1 268 c).toNat + 1) (A1 268 c) = true then (.inl (7, q) : (Int × Int) ⊕ (Int × List Int × Int)) else .inr (lx_ne (zq A1 q) q, l, v)) else .inl (1, q)) = _
      rw [hd, zE_is hz q, zE_ne hz q]
      rfl
  unfold rm_par rp_L
  rw [hk, zE_pq hz (by decide)]
  cases pk_L B so f e (ms.drop fi) (pq_r B 261 p) with
  | inl x => rfl
  | inr t =>
    obtain ⟨q, l, v⟩ := t
    exact rm_end_zE hz0
theorem rf_L_261 {A2 B : wS} {c m itf ty f e p pl : Int} {fi : Nat} {ms : List hMR} (hz : zE A2 B 261) (hms : hr_all 261 A2 ms) (hm : m = (ms.length : Int)) (hitf : A2 263 c = itf) (hfi : A2 268 c = (fi : Int)) (hfl : fi ≤ ms.length) (h14 : A2 275 m = ty) (h18 : A2 279 m = f) (h19 : A2 280 m = e) : rf_of A2 261 c m p pl = rf_L B itf (ms.drop fi) ty f e p pl := by
  have hd : df_f A2 261 m ((m - A2 268 c).toNat + 1) (A2 268 c) = df_L (B 239) f e (ms.drop fi) := by
    rw [hfi, ← hz.1]
    exact df_f_L hms hm h18 h19 _ _ (by omega) hfl
  show (if lx_is (zq A2 p) 59 = true ∧ A2 275 m ≠ 0 then (if df_f A2 261 m ((m - A2 268 c).toNat + 1) (A2 268 c) = true then some (2, pl) else if A2 263 c = 0 then none else some (6, pl)) else some (1, p)) = _
  rw [hd, zE_is hz p, h14, hitf]
  rfl
theorem rb_L_261 {A B : wS} {c m itf p1 st : Int} {fi : Nat} {ms : List hMR} (hz : zE A B 261) (hms : hr_all 261 A ms) (hm : m = (ms.length : Int)) (hitf : A 263 c = itf) (hfi : A 268 c = (fi : Int)) (hfl : fi ≤ ms.length) : rm_body_261 A c m p1 st = rb_L B 261 c itf (ms.drop fi) ms.length p1 st := by
  have hn : ∀ q, lx_ne (zq A q) q = lx_ne (zq B q) q := fun q => zE_ne hz q
  have hmk : rm_par A (w_up (w_up (w_up (w_up (w_up (w_up A 272 m c) 274 m st) 279 m p1) 280 m p1) 273 m 2) 275 m (9 + c)) 261 c m (lx_ne (zq A (lx_ne (zq A p1) p1)) (lx_ne (zq A p1) p1)) 2 st (9 + c) p1 p1 = rp_L B 261 (ms.drop fi) (lx_ne (zq B (lx_ne (zq B p1) p1)) (lx_ne (zq B p1) p1)) 2 st (9 + c) p1 p1 := by
    rw [hn p1, hn]
    exact rp_L_261 hz (zE_up_261 (zE_up_261 (zE_up_261 (zE_up_261 (zE_up_261 (zE_up_261 hz (by decide)) (by decide)) (by decide)) (by decide)) (by decide)) (by decide)) (hr_all_up_261 (hr_all_up_261 (hr_all_up_261 (hr_all_up_261 (hr_all_up_261 (hr_all_up_261 hms hm (by decide)) hm (by decide)) hm (by decide)) hm (by decide)) hm (by decide)) hm (by decide)) hm hfi hfl ((w_up_slot (by decide)).trans (w_up_same _ _ _ _)) ((w_up_slot (by decide)).trans ((w_up_slot (by decide)).trans ((w_up_slot (by decide)).trans (w_up_same _ _ _ _)))) ((w_up_slot (by decide)).trans ((w_up_slot (by decide)).trans (w_up_same _ _ _ _)))
  unfold rm_body_261 rb_L
  rw [hmk, zE_6 hz p1, zE_w hz p1, zE_pl hz p1, zE_ch hz (by decide) p1, zE_type hz (by decide) p1, hn p1, zE_is hz, hitf, hm]
  cases hy_type (zq B p1) 261 p1 1 with
  | inl x => rfl
  | inr tq =>
    obtain ⟨t, p2⟩ := tq
    dsimp only
    have h3 : rm_par A (w_up (w_up (w_up (w_up (w_up (w_up (w_up (w_up A 272 (ms.length : Int) c) 274 (ms.length : Int) st) 279 (ms.length : Int) p1) 280 (ms.length : Int) p1) 275 (ms.length : Int) t) 279 (ms.length : Int) p2) 280 (ms.length : Int) (zq A p2 237 8)) 273 (ms.length : Int) 1) 261 c (ms.length : Int) (lx_ne (zq A (lx_ne (zq A p2) p2)) (lx_ne (zq A p2) p2)) 1 st t p2 (zq A p2 237 8) = rp_L B 261 (ms.drop fi) (lx_ne (zq B (lx_ne (zq B p2) p2)) (lx_ne (zq B p2) p2)) 1 st t p2 (zq B p2 237 8) := by
      rw [hn p2, hn, zE_8 hz p2]
      have z2 := zE_up_261 (m := (ms.length : Int)) (x := 1) (j := 273) (zE_up_261 (m := (ms.length : Int)) (x := zq B p2 237 8) (j := 280) (zE_up_261 (m := (ms.length : Int)) (x := p2) (j := 279) (zE_up_261 (m := (ms.length : Int)) (x := t) (j := 275) (zE_up_261 (m := (ms.length : Int)) (x := p1) (j := 280) (zE_up_261 (m := (ms.length : Int)) (x := p1) (j := 279) (zE_up_261 (m := (ms.length : Int)) (x := st) (j := 274) (zE_up_261 (m := (ms.length : Int)) (x := c) (j := 272) hz (by decide)) (by decide)) (by decide)) (by decide)) (by decide)) (by decide)) (by decide)) (by decide)
      have m2 := hr_all_up_261 (m := (ms.length : Int)) (x := 1) (j := 273) (hr_all_up_261 (m := (ms.length : Int)) (x := zq B p2 237 8) (j := 280) (hr_all_up_261 (m := (ms.length : Int)) (x := p2) (j := 279) (hr_all_up_261 (m := (ms.length : Int)) (x := t) (j := 275) (hr_all_up_261 (m := (ms.length : Int)) (x := p1) (j := 280) (hr_all_up_261 (m := (ms.length : Int)) (x := p1) (j := 279) (hr_all_up_261 (m := (ms.length : Int)) (x := st) (j := 274) (hr_all_up_261 (m := (ms.length : Int)) (x := c) (j := 272) hms rfl (by decide)) rfl (by decide)) rfl (by decide)) rfl (by decide)) rfl (by decide)) rfl (by decide)) rfl (by decide)) rfl (by decide)
      exact rp_L_261 hz z2 m2 rfl hfi hfl (w_up_same _ _ _ _) ((w_up_slot (by decide)).trans ((w_up_slot (by decide)).trans (w_up_same _ _ _ _))) ((w_up_slot (by decide)).trans (w_up_same _ _ _ _))
    have h4 : rf_of (w_up (w_up (w_up (w_up (w_up (w_up (w_up A 272 (ms.length : Int) c) 274 (ms.length : Int) st) 279 (ms.length : Int) p1) 280 (ms.length : Int) p1) 275 (ms.length : Int) t) 279 (ms.length : Int) p2) 280 (ms.length : Int) (zq A p2 237 8)) 261 c (ms.length : Int) (lx_ne (zq A p2) p2) p2 = rf_L B itf (ms.drop fi) t p2 (zq B p2 237 8) (lx_ne (zq B p2) p2) p2 := by
      rw [hn p2, zE_8 hz p2]
      have z2 := zE_up_261 (m := (ms.length : Int)) (x := zq B p2 237 8) (j := 280) (zE_up_261 (m := (ms.length : Int)) (x := p2) (j := 279) (zE_up_261 (m := (ms.length : Int)) (x := t) (j := 275) (zE_up_261 (m := (ms.length : Int)) (x := p1) (j := 280) (zE_up_261 (m := (ms.length : Int)) (x := p1) (j := 279) (zE_up_261 (m := (ms.length : Int)) (x := st) (j := 274) (zE_up_261 (m := (ms.length : Int)) (x := c) (j := 272) hz (by decide)) (by decide)) (by decide)) (by decide)) (by decide)) (by decide)) (by decide)
      have m2 := hr_all_up_261 (m := (ms.length : Int)) (x := zq B p2 237 8) (j := 280) (hr_all_up_261 (m := (ms.length : Int)) (x := p2) (j := 279) (hr_all_up_261 (m := (ms.length : Int)) (x := t) (j := 275) (hr_all_up_261 (m := (ms.length : Int)) (x := p1) (j := 280) (hr_all_up_261 (m := (ms.length : Int)) (x := p1) (j := 279) (hr_all_up_261 (m := (ms.length : Int)) (x := st) (j := 274) (hr_all_up_261 (m := (ms.length : Int)) (x := c) (j := 272) hms rfl (by decide)) rfl (by decide)) rfl (by decide)) rfl (by decide)) rfl (by decide)) rfl (by decide)) rfl (by decide)
      exact rf_L_261 z2 m2 rfl hitf hfi hfl ((w_up_slot (by decide)).trans ((w_up_slot (by decide)).trans (w_up_same _ _ _ _))) ((w_up_slot (by decide)).trans (w_up_same _ _ _ _)) (w_up_same _ _ _ _)
    rw [zE_6 hz p2, zE_oo hz p2, h3, h4, hn p2, zE_is hz]
    rw [rm_end_zE hz, zE_8 hz p2]
    try rfl
end W87
