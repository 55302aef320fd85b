/-! PART 9q: the members of a class: the reference's function, way by way. -/
section W9q
variable {xs : List (Nat × List Int32)} {M : Nat → Prop} {d : Nat} {A B C S Z : wS} {Q : wO → wS → Prop} {T : Int → Int} {n : Int} {c i : Nat}
variable {b : Nat} {kc itf p1 p2 st t f e : Int} {rs : List hMR} {N : Nat}
/-- behind the parameters -/
def rm_fin (B : wS) (r : (Int × Int) ⊕ (Int × List Int × Int)) (so st ty f e : Int) : hRM := match r with
  | .inl x => .inl x
  | .inr (q, l, v) => rm_end B q so st ty l v f e
/-- parameters with the sign ahead of them -/
def rm_par2 (B : wS) (b : Nat) (so f e : Int) (rs : List hMR) (p : Int) : (Int × Int) ⊕ (Int × List Int × Int) := if lx_is (zq B p) 40 = true then pk_L B so f e rs (pq_r B b (lx_ne (zq B p) p)) else .inl (1, p)
theorem rp_fin {so : Int} {p : Int} : (if lx_is (zq B p) 40 = true then rp_L B b rs (lx_ne (zq B p) p) so st t f e else .inl (1, p)) = rm_fin B (rm_par2 B b so f e rs p) so st t f e := by
  unfold rm_par2 rm_fin rp_L
  by_cases h : lx_is (zq B p) 40 = true
  · rw [if_pos h, if_pos h]
    rcases pk_L B so f e rs (pq_r B b (lx_ne (zq B p) p)) with x | x <;> rfl
  · rw [if_neg h, if_neg h]
theorem rb_1 (h : zq B p1 237 6 ≠ 1) : rb_L B b kc itf rs N p1 st = .inl (1, p1) := by unfold rb_L; rw [if_neg (fun z => h z.1)]
theorem rb_2 (hs : st = 1) (hn : lx_w (zq B p1) tx_25 = true) : rb_L B b kc itf rs N p1 st = .inl (1, p1) := by unfold rb_L; rw [if_neg (fun z => z.2 ⟨hs, hn⟩)]
theorem rb_3 (h : zq B p1 237 6 = 1) (hn : ¬ lx_w (zq B p1) tx_25 = true) (hp : ¬ (0 ≤ pl_of (zq B p1) tx_27 ∨ 0 ≤ ch_of (zq B p1) b)) : rb_L B b kc itf rs N p1 st = .inl (3, p1) := by
  unfold rb_L
  rw [if_pos ⟨h, fun z => hn z.2⟩, if_neg (fun z => z.elim hn hp)]
theorem rb_5 (h : zq B p1 237 6 = 1) (hs : ¬ (st = 1 ∧ lx_w (zq B p1) tx_25 = true)) (hk : lx_w (zq B p1) tx_25 = true ∨ (0 ≤ pl_of (zq B p1) tx_27 ∨ 0 ≤ ch_of (zq B p1) b)) (hN : ¬ (N : Int) < 400) : rb_L B b kc itf rs N p1 st = .inl (5, p1) := by
  unfold rb_L
  rw [if_pos ⟨h, hs⟩, if_pos hk, if_neg hN]
theorem rb_6 (h : zq B p1 237 6 = 1) (hs : st ≠ 1) (hn : lx_w (zq B p1) tx_25 = true) (hN : (N : Int) < 400) (hi : itf ≠ 0) : rb_L B b kc itf rs N p1 st = .inl (6, p1) := by
  unfold rb_L
  rw [if_pos ⟨h, fun z => hs z.1⟩, if_pos (Or.inl hn), if_pos hN, if_pos hn, if_neg hi]
theorem rb_n (h : zq B p1 237 6 = 1) (hs : st ≠ 1) (hn : lx_w (zq B p1) tx_25 = true) (hN : (N : Int) < 400) (hi : itf = 0) : rb_L B b kc itf rs N p1 st = rm_fin B (rm_par2 B b 2 p1 p1 rs (lx_ne (zq B p1) p1)) 2 st (9 + kc) p1 p1 := by
  unfold rb_L
  rw [if_pos ⟨h, fun z => hs z.1⟩, if_pos (Or.inl hn), if_pos hN, if_pos hn, if_pos hi, rp_fin]
/-- a name and what follows, behind a type -/
def rb_name (B : wS) (b : Nat) (itf : Int) (rs : List hMR) (t p2 st : Int) : hRM := if zq B p2 237 6 = 1 then (if lx_oo (zq B p2) tx_21 = true then .inl (2, p2) else (if lx_is (zq B (lx_ne (zq B p2) p2)) 40 = true then rp_L B b rs (lx_ne (zq B (lx_ne (zq B p2) p2)) (lx_ne (zq B p2) p2)) 1 st t p2 (zq B p2 237 8) else (match rf_L B itf rs t p2 (zq B p2 237 8) (lx_ne (zq B p2) p2) p2 with
      | some x => .inl x
      | none => rm_end B (lx_ne (zq B p2) p2) 0 st t [] 0 p2 (zq B p2 237 8)))) else .inl (1, p2)
theorem rb_t (h : zq B p1 237 6 = 1) (hn : ¬ lx_w (zq B p1) tx_25 = true) (hp : 0 ≤ pl_of (zq B p1) tx_27 ∨ 0 ≤ ch_of (zq B p1) b) (hN : (N : Int) < 400) (hy : hy_type (zq B p1) b p1 1 = .inr (t, p2)) : rb_L B b kc itf rs N p1 st = rb_name B b itf rs t p2 st := by
  unfold rb_L
  rw [if_pos ⟨h, fun z => hn z.2⟩, if_pos (Or.inr hp), if_pos hN, if_neg hn, hy]
  rfl
theorem rn_1 (h : zq B p2 237 6 ≠ 1) : rb_name B b itf rs t p2 st = .inl (1, p2) := by unfold rb_name; rw [if_neg h]
theorem rn_2 (h : zq B p2 237 6 = 1) (ho : lx_oo (zq B p2) tx_21 = true) : rb_name B b itf rs t p2 st = .inl (2, p2) := by unfold rb_name; rw [if_pos h, if_pos ho]
theorem rn_m (h : zq B p2 237 6 = 1) (ho : ¬ lx_oo (zq B p2) tx_21 = true) (hf : ¬ (lx_is (zq B (lx_ne (zq B p2) p2)) 59 = true ∧ t ≠ 0)) : rb_name B b itf rs t p2 st = rm_fin B (rm_par2 B b 1 p2 (zq B p2 237 8) rs (lx_ne (zq B p2) p2)) 1 st t p2 (zq B p2 237 8) := by
  rw [← rp_fin]
  unfold rb_name
  rw [if_pos h, if_neg ho]
  by_cases h4 : lx_is (zq B (lx_ne (zq B p2) p2)) 40 = true
  · rw [if_pos h4, if_pos h4]
  · rw [if_neg h4, if_neg h4]
    unfold rf_L
    rw [if_neg hf]
theorem rn_f (h : zq B p2 237 6 = 1) (ho : ¬ lx_oo (zq B p2) tx_21 = true) (h4 : ¬ lx_is (zq B (lx_ne (zq B p2) p2)) 40 = true) (hf : lx_is (zq B (lx_ne (zq B p2) p2)) 59 = true ∧ t ≠ 0) : rb_name B b itf rs t p2 st = if df_L (B 239) p2 (zq B p2 237 8) rs = true then .inl (2, p2) else if itf = 0 then rm_end B (lx_ne (zq B p2) p2) 0 st t [] 0 p2 (zq B p2 237 8) else .inl (6, p2) := by
  unfold rb_name
  rw [if_pos h, if_neg ho, if_neg h4]
  unfold rf_L
  rw [if_pos hf]
  by_cases h1 : df_L (B 239) p2 (zq B p2 237 8) rs = true
  · rw [if_pos h1, if_pos h1]
  · rw [if_neg h1, if_neg h1]
    by_cases h2 : itf = 0
    · rw [if_pos h2, if_pos h2]
    · rw [if_neg h2, if_neg h2]
theorem rm_s {p : Int} (h : lx_w (zq B p) tx_23 = true) (hi : itf = 0) : rm_L B b kc itf rs N p = rb_L B b kc itf rs N (lx_ne (zq B p) p) 1 := by unfold rm_L; rw [if_pos h, if_pos hi]
theorem rm_s6 {p : Int} (h : lx_w (zq B p) tx_23 = true) (hi : itf ≠ 0) : rm_L B b kc itf rs N p = .inl (6, p) := by unfold rm_L; rw [if_pos h, if_neg hi]
theorem rm_o {p : Int} (h : ¬ lx_w (zq B p) tx_23 = true) : rm_L B b kc itf rs N p = rb_L B b kc itf rs N p 0 := by unfold rm_L; rw [if_neg h]
theorem lx_w_no {p : Int} {tx : List Int32} (h : zq B p 237 6 ≠ 1) : ¬ lx_w (zq B p) tx = true := by
  unfold lx_w
  rw [decide_eq_true_iff]
  exact fun z => h z.1
theorem oo_21 {w : Nat} {H p v : Int} (hB : zT B T n) (hI : wd_at Z w H) (hr : rw_I Z w) (hc : 13 ≤ Z w 7) (hv : nt_I Z w T n p v) : lx_oo (zq B p) tx_21 = true ↔ v < 13 := by
  unfold lx_oo
  rw [decide_eq_true_iff, pl_21_k hB hI hr hc hv, zT_6 hB]
  have h0 := hv.2.1.1
  constructor
  · rintro ⟨-, z⟩
    by_cases h : v < 13
    · exact h
    · rw [if_neg h] at z; omega
  · intro z
    rw [if_pos z]
    exact ⟨hv.1, h0⟩
theorem tp_mono {w : Nat} (hT : cx_T w T n c S) (hg : pg T n c i) : ∀ (q k : Nat), k + q = i → tp T n 1 k ≤ tp T n 1 i := by
  intro q
  induction q with
  | zero => intro k hk; rw [show k = i by omega]; exact Int.le_refl _
  | succ q ih =>
    intro k hk
    have hgk : pg T n c k := ⟨by have := hg.1; omega, fun x hx => hg.2 x (by omega)⟩
    have h0 : kg T n (tp T n 1 k) ≠ 0 := by
      intro z
      have := (hT.2.1 k (by have := hg.1; omega)).1.1
      have := (kg_0 T n _).1 z
      omega
    have h1 : kg T n (tp T n 1 k) ≠ 1 := fun z => hg.2 k (by omega) ((kg_1 T n _).1 z)
    have := tp_lt hT hgk h0 h1
    have := ih (k + 1) (by omega)
    omega
theorem tp_idx {w k : Nat} (hT : cx_T w T n c S) (hg : pg T n c k) (h : tp T n 1 k < tp T n 1 i) : k < i ∨ ¬ pg T n c i := by
  by_cases hi : pg T n c i
  · left
    by_cases hk : k < i
    · exact hk
    · have := tp_mono hT hg (k - i) i (by omega)
      omega
  · exact Or.inr hi
theorem mr_all_up {m0 w j : Nat} {k x : Int} {ms : List hMR} (h : mr_all m0 w T S ms) (h1 : j < m0 ∨ m0 + 14 < j ∨ k = (ms.length : Int)) (h2 : j < w ∨ w + 3 < j) : mr_all m0 w T (w_up S j k x) ms := by
  refine ⟨h.1, fun q r hq => mr_at_ag (h.2 q r hq) (fun y hy => w_up_no (fun z => ?_)) (fun y hy => w_up_row (by omega))⟩
  have : q < ms.length := (List.getElem?_eq_some_iff.mp hq).1
  omega
theorem mr_all_add {m0 w : Nat} {ms : List hMR} {r : hMR} (h : mr_all m0 w T S ms) (hl : ms.length < 400) (hr : mr_at m0 w T S (ms.length : Int) r) : mr_all m0 w T S (ms ++ [r]) := by
  refine ⟨by rw [List.length_append]; simp only [List.length_cons, List.length_nil]; omega, fun q g hq => ?_⟩
  by_cases hk : q < ms.length
  · rw [List.getElem?_append_left hk] at hq
    exact h.2 q g hq
  · have hlt := (List.getElem?_eq_some_iff.mp hq).1
    rw [List.length_append] at hlt
    simp only [List.length_cons, List.length_nil] at hlt
    have hqe : q = ms.length := by omega
    subst hqe
    rw [List.getElem?_append_right (Nat.le_refl _), Nat.sub_self] at hq
    have : r = g := Option.some.inj hq
    rw [← this]; exact hr
end W9q
