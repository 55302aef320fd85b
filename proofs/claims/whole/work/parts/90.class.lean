/-! PART 90: members' lists are the same where the text and the names are; a class as it is read. -/
section W90
variable {S A B Z : wS} {b : Nat} {p : Int}
theorem zE_pkL {so f e : Int} {rs : List hMR} (h : zE A B b) (r : (Int × Int) ⊕ (Int × List Int × Int)) : pk_L A so f e rs r = pk_L B so f e rs r := by
  cases r with
  | inl x => rfl
  | inr t =>
    obtain ⟨q, l, v⟩ := t
    show (if lx_is (zq A q) 41 = true then (if dp_L (A 239) so f e l rs = true then (.inl (7, q) : (Int × Int) ⊕ (Int × List Int × Int)) else .inr (lx_ne (zq A q) q, l, v)) else .inl (1, q)) = (if lx_is (zq B q) 41 = true then (if dp_L (B 239) so f e l rs = true then .inl (7, q) else .inr (lx_ne (zq B q) q, l, v)) else .inl (1, q))
    rw [zE_is h q, zE_ne h q, h.1]
theorem zE_rpL {so st ty f e : Int} {rs : List hMR} (h : zE A B b) (hb : b ≠ 237 ∧ b + 9 ≠ 237 ∧ b + 10 ≠ 237) (p : Int) : rp_L A b rs p so st ty f e = rp_L B b rs p so st ty f e := by
  unfold rp_L
  rw [zE_pkL h, zE_pq h hb]
  cases pk_L B so f e rs (pq_r B b p) with
  | inl x => rfl
  | inr t =>
    obtain ⟨q, l, v⟩ := t
    exact rm_end_zE h
theorem zE_rfL {itf ty f e p pl : Int} {rs : List hMR} (h : zE A B b) : rf_L A itf rs ty f e p pl = rf_L B itf rs ty f e p pl := by
  unfold rf_L
  rw [zE_is h p, h.1]
theorem zE_rbL {c itf p1 st : Int} {rs : List hMR} {n : Nat} (h : zE A B b) (hb : b ≠ 237 ∧ b + 9 ≠ 237 ∧ b + 10 ≠ 237) : rb_L A b c itf rs n p1 st = rb_L B b c itf rs n p1 st := by
  have hn : ∀ q, lx_ne (zq A q) q = lx_ne (zq B q) q := fun q => zE_ne h q
  unfold rb_L
  rw [zE_6 h p1, zE_w h p1, zE_pl h p1, zE_ch h hb p1, zE_type h hb p1, hn p1, zE_is h, hn, zE_rpL h hb]
  cases hy_type (zq B p1) b p1 1 with
  | inl x => rfl
  | inr tq =>
    obtain ⟨t, p2⟩ := tq
    dsimp only
    rw [zE_6 h p2, zE_oo h p2, hn p2, zE_is h, hn, zE_rpL h hb, zE_8 h p2, zE_rfL h, rm_end_zE h]
    try rfl
theorem zE_rmL {c itf p : Int} {rs : List hMR} {n : Nat} (h : zE A B b) (hb : b ≠ 237 ∧ b + 9 ≠ 237 ∧ b + 10 ≠ 237) : rm_L A b c itf rs n p = rm_L B b c itf rs n p := by
  unfold rm_L
  rw [zE_w h p, zE_rbL h hb, zE_rbL h hb, zE_ne h p]
theorem zE_mb {c itf : Int} {m0 : Nat} (h : zE A B b) (hb : b ≠ 237 ∧ b + 9 ≠ 237 ∧ b + 10 ≠ 237) : ∀ (f : Nat) (p : Int) (ms : List hMR), mb_f A b c itf m0 f p ms = mb_f B b c itf m0 f p ms := by
  intro f
  induction f with
  | zero => intro p ms; rfl
  | succ f ih =>
    intro p ms
    rw [mb_f_s, mb_f_s, zE_is h p, zE_rmL h hb]
    cases rm_L B b c itf (ms.drop m0) ms.length p with
    | inl e => rfl
    | inr t =>
      obtain ⟨p2, so, st, ty, l, v, f2, e2⟩ := t
      dsimp only
      rw [ih]
/-- a class: interface or not, its name's place and end, the class above, its supers, all above (as bits), its first member, how many -/
abbrev hCR : Type := Int × Int × Int × Int × List Int × Int × Int × Int
/-- a class from its name at p1 on, where c classes and the members ms are there; B1: the state with its first rows -/
def rc_body (A B1 : wS) (b : Nat) (c : Int) (ms : List hMR) (itf p1 : Int) : (Int × Int) ⊕ (Int × hCR × List hMR) := match (if lx_is (zq A (lx_ne (zq A p1) p1)) 58 = true then su_a B1 b c (lx_ne (zq A (lx_ne (zq A p1) p1)) (lx_ne (zq A p1) p1)) else .inr (lx_ne (zq A p1) p1, [], -1, wb_lshl 1 c)) with
  | .inl e => .inl e
  | .inr (q, l, a, al) => if lx_is (zq A q) 123 = true then (match mb_f (w_up B1 b 1 (c + 1)) b c itf ms.length ((A 237 4 - lx_ne (zq A q) q).toNat + 1) (lx_ne (zq A q) q) ms with
    | .inl e => .inl e
    | .inr (z, ms2) => .inr (lx_ne (zq A z) z, (itf, p1, zq A p1 237 8, a, l, al, (ms.length : Int), (ms2.length : Int) - (ms.length : Int)), ms2)) else .inl (1, q)
/-- the states are the same but for the lexer's places, the halt's, and what the reading of the class c changes -/
def rc_ag (b : Nat) (c m0 : Int) (S Z : wS) : Prop := ∀ (j : Nat) (i : Int), (j ≠ 240 ∨ i < 0) → (j ≠ 237 ∨ (i ≠ 6 ∧ i ≠ 7 ∧ i ≠ 8 ∧ i ≠ 9 ∧ i ≠ 10 ∧ i ≠ 12)) → (j ≠ 238 ∨ (i ≠ 5 ∧ i ≠ 6)) → (j < b ∨ b + 19 < j ∨ j = b + 1 ∨ (j = b ∧ i ≠ 1 ∧ i ≠ 11) ∨ (b + 2 ≤ j ∧ j ≤ b + 10 ∧ j ≠ b + 5 ∧ i ≠ c) ∨ (j = b + 5 ∧ (i < 60 * c ∨ 60 * c + 60 ≤ i)) ∨ (b + 11 ≤ j ∧ j ≠ b + 17 ∧ i < m0) ∨ (j = b + 17 ∧ i < 8 * m0)) → Z j i = S j i
theorem rc_ag_rf {c m0 : Int} : rc_ag b c m0 S S := fun _ _ _ _ _ _ => rfl
theorem rc_ag_lx {c m0 : Int} (h : rc_ag b c m0 S A) (h2 : lx_ag A B) : rc_ag b c m0 S B := fun j i a1 a2 a3 a4 => (h2 j i a1 a2).trans (h j i a1 a2 a3 a4)
theorem rc_ag_su {c m0 : Int} (h : rc_ag b c m0 S A) (h2 : su_ag b c A B) : rc_ag b c m0 S B := fun j i a1 a2 a3 a4 => (h2 j i a1 a2 a3 (by omega) (by omega)).trans (h j i a1 a2 a3 a4)
theorem rc_ag_mb {c m0 : Int} (hb : b = 241 ∨ b = 261) (h : rc_ag b c m0 S A) (h2 : mb_ag b c m0 A B) : rc_ag b c m0 S B := fun j i a1 a2 a3 a4 => (h2 j i a1 a2 a3 (by omega) (by omega) (by omega)).trans (h j i a1 a2 a3 a4)
theorem rc_ag_hl {c m0 n q : Int} (h : rc_ag b c m0 S A) : rc_ag b c m0 S (w_hl A n q) := by
  intro j i a1 a2 a3 a4
  rw [← h j i a1 a2 a3 a4]
  exact (if_neg (by omega)).trans (if_neg (by omega))
theorem rc_ag_up {c m0 x : Int} {k : Nat} {u : Int} (h : rc_ag b c m0 S A) (hk : (b + 2 ≤ k ∧ k ≤ b + 10 ∧ k ≠ b + 5 ∧ u = c) ∨ (k = b ∧ u = 1)) : rc_ag b c m0 S (w_up A k u x) := by
  intro j i a1 a2 a3 a4
  rw [← h j i a1 a2 a3 a4]
  exact if_neg (fun q => by omega)
theorem ho_nm_up {c x : Int} {j : Nat} (h : ho_nm A b) (hc : A b 1 = c) (hj : j ≠ b) : ho_nm (w_up A j c x) b := by
  unfold ho_nm at h ⊢
  rw [w_up_slot (fun z => hj z.symm)]
  refine ⟨h.1, fun k h0 h1 => ?_⟩
  rw [w_up_at (by omega), w_up_at (by omega)]
  exact h.2 k h0 h1
end W90
