/-! PART i5: NEW: what a new object is made from. -/
section Wi5
variable {xs : List (Nat × List Int32)} {M : Nat → Prop} {d : Nat} {S Z A B C : wS} {H : List aH} {T : List aO} {L : List (List Int)} {sl : Nat → List Int} {Q : wO → wS → Prop} {nm fn : Int}
theorem wb_xbald {G : pe_G} {Y : wY} {mt : pe_Mt} {rest : List pe_I} {L : wL} {st : List wv} {x i v : Int} (j : Nat) {tx : List Int32} (hx : x = -10 - (j : Int)) (ht : pe_at G.xs j = some (3, tx)) (hl : tx.length ≤ 2147483647) (h0 : 0 ≤ i) (h1 : i < (tx.length : Nat)) (hv : w_tx tx i = v) (k : w_rg 0 v → wJ G Y M d mt rest L ((0, v) :: st) S Q) : wJ G Y M d mt (.inl .baload :: rest) L ((0, i) :: (2, x) :: st) S Q := by
  subst hv
  refine wJ_p (fun ad Lc h hL k => ?_) (k (w_tx_rg tx i))
  obtain ⟨b1, b2, b3, b4⟩ := w_in (n := (tx.length : Nat)) ⟨rfl, hl⟩ h0 h1
  show pe_f_baload G.xs mt.mx Lc (Value.int (Int32.ofInt i) :: w_r ad x :: st.map (w_u ad)) h k = _
  rw [w_r_o ad hx]
  unfold pe_f_baload pe_xb
  try dsimp only
  rw [ht]
  show (bif pe_inb (Int32.ofInt i) tx.length then (match pe_at tx (Int32.ofInt i).toNatClampNeg with
    | some z => k Lc (Value.int z :: st.map (w_u ad)) h
    | none => none) else none) = _
  rw [b1, cond_true, b2, w_at b3 0]
  show k Lc (Value.int _ :: _) h = k Lc (Value.int (Int32.ofInt (tx.getD i.toNat 0).toInt) :: _) h
  rw [w_oi]
/-- "proto" -/
def tx_97 : List Int32 := [112, 114, 111, 116, 111]
def wpro : List Int := [112, 114, 111, 116, 111]
theorem wpro_e : sl_ (w_tx tx_97) 0 5 = wpro := by decide
/-- a property's value, and what a new object's prototype is -/
def prV (T : List aO) (nm hd : Int) : aV := ((tO T hd).2.2.2.2.2.2.getD (aIx T nm hd).toNat (0, (0, 0, []))).2
def npA (T : List aO) (H : List aH) (nm fn : Int) : Int := if nm = -1 then -1 else if aUp T H nm fn = -1 then -1 else if (prV T nm (aUp T H nm fn)).1 = 4 ∨ (prV T nm (aUp T H nm fn)).1 = 5 then (prV T nm (aUp T H nm fn)).2.1 else -1
theorem cR_pv (ht : cTh S T) {k : Int} (k0 : 0 ≤ k) (k1 : k < (T.length : Int)) (hi : 0 ≤ aIx T nm k) : cVl S (S 141 (S 133 k + aIx T nm k)) (S 142 (S 133 k + aIx T nm k)) (prV T nm k) := by
  have y := aIx_rg (T := T) (nm := nm) (k := k)
  have z := (c_th ht k0 k1).2.2 (aIx T nm k).toNat (by rw [List.length_map]; omega)
  rw [show (((aIx T nm k).toNat : Nat) : Int) = aIx T nm k by omega, List.getD_eq_getElem?_getD, List.getElem?_map, List.getElem?_eq_getElem (show (aIx T nm k).toNat < (tO T k).2.2.2.2.2.2.length by omega)] at z
  unfold prV
  rw [List.getD_eq_getElem?_getD, List.getElem?_eq_getElem (show (aIx T nm k).toNat < (tO T k).2.2.2.2.2.2.length by omega)]
  exact z
theorem fnP_i {p m : Int} {k : Nat} (h97 : pe_at (pe_GA xs).xs 97 = some (3, tx_97)) (hM : w_ML S) (hN : mN L S) (hp : 0 ≤ p ∧ p ≤ 65540) (hm : 0 ≤ m ∧ m ≤ 60 ∧ p + m ≤ 5) (hk : k < L.length) (h1 : L.getD k [] = sl_ (w_tx tx_97) p m → wJ (pe_GA xs) wY0 M d t_M_findName ((pe_at t_M_findName.bl 7).getD (0, [])).2 [(0, (2, 237)), (1, (2, (-10 - ((97 : Nat) : Int)))), (2, (0, p)), (3, (0, m)), (4, (0, (k : Int))), (5, (0, 1))] [] S Q) (h0 : L.getD k [] ≠ sl_ (w_tx tx_97) p m → wJ (pe_GA xs) wY0 M d t_M_findName ((pe_at t_M_findName.bl 7).getD (0, [])).2 [(0, (2, 237)), (1, (2, (-10 - ((97 : Nat) : Int)))), (2, (0, p)), (3, (0, m)), (4, (0, (k : Int))), (5, (0, 0))] [] S Q) : ∀ (f x : Nat) (sm : Int), (m - (x : Int)).toNat < f → (x : Int) ≤ m → ((sm = 1 ∧ ((L.getD k []).length : Int) = m ∧ ∀ y : Nat, y < x → (L.getD k []).getD y 0 = w_tx tx_97 (p + (y : Int))) ∨ (sm = 0 ∧ L.getD k [] ≠ sl_ (w_tx tx_97) p m)) → wJ (pe_GA xs) wY0 M d t_M_findName ((pe_at t_M_findName.bl 4).getD (0, [])).2 [(0, (2, 237)), (1, (2, (-10 - ((97 : Nat) : Int)))), (2, (0, p)), (3, (0, m)), (4, (0, (k : Int))), (5, (0, sm)), (6, (0, (x : Int)))] [] S Q := by
  obtain ⟨n1, n2, n3⟩ := hN
  obtain ⟨k1, k2, k3⟩ := n3 k hk
  intro f
  induction f with
  | zero => intro x sm h; exact absurd h (Nat.not_lt_zero _)
  | succ f ih =>
    intro x sm hf hx hs
    have hsr : sm = 0 ∨ sm = 1 := hs.elim (fun q => Or.inr q.1) (fun q => Or.inl q.1)
    refine wa_iload (n := 6) rfl ?_
    refine wa_iload_n (n := 3) rfl ?_
    refine wa_icmpge (w_rg0 (by omega) (by omega)) (w_rg0 (by omega) (by omega)) ⟨_, rfl⟩ (fun c101 => ?_) (fun c101 => ?_)
    · skip
      rcases hs with ⟨rfl, hs1, hs2⟩ | ⟨rfl, hs1⟩
      · first | omega | exact wJ_S (h1 ((sl_eq (by omega)).mpr ⟨hs1, fun y hy => hs2 y (by omega)⟩)) ⟨rfl, rfl, rfl, rfl, rfl, rfl, trivial⟩
      · exact wJ_S (h0 hs1) ⟨rfl, rfl, rfl, rfl, rfl, rfl, trivial⟩
    · skip
      refine wa_iload (n := 5) rfl ?_
      refine wa_ifeq (w_rg0 (by omega) (by omega)) ⟨_, rfl⟩ (fun c102 => ?_) (fun c102 => ?_)
      · skip
        rcases hs with ⟨rfl, hs1, hs2⟩ | ⟨rfl, hs1⟩
        · first | omega | exact wJ_S (h1 ((sl_eq (by omega)).mpr ⟨hs1, fun y hy => hs2 y (by omega)⟩)) ⟨rfl, rfl, rfl, rfl, rfl, rfl, trivial⟩
        · exact wJ_S (h0 hs1) ⟨rfl, rfl, rfl, rfl, rfl, rfl, trivial⟩
      · skip
        have hs1 : sm = 1 ∧ ((L.getD k []).length : Int) = m ∧ ∀ y : Nat, y < x → (L.getD k []).getD y 0 = w_tx tx_97 (p + (y : Int)) := hs.elim id (fun q => by omega)
        have hkx := k3 x (by omega)
        refine wa_aload_n (n := 0) rfl ?_
        refine wb_gf4 237 rfl (wy_pr rfl) wt_237 wf_15_17 (v := 281) wl_237_17 ?_
        refine wa_bipush (w_rg2 (by omega) (by omega)) ?_
        refine wa_iload (n := 4) rfl ?_
        refine wa_imul ?_
        refine wa_iload (n := 6) rfl ?_
        refine wa_iadd ?_
        refine wb_bald 281 rfl (wy_pr rfl) wt_281 (n := 240000) ((ml_281 hM)) (by omega) (by omega) (v := (S 281 ((60 * (k : Int)) + (x : Int)))) rfl (fun r103 => ?_)
        refine wa_aload_n (n := 1) rfl ?_
        refine wa_iload_n (n := 2) rfl ?_
        refine wa_iload (n := 6) rfl ?_
        refine wa_iadd ?_
        refine wb_xbald 97 rfl h97 (by decide) (by omega) (by rw [show (tx_97.length : Int) = 5 by decide]; omega) (v := (w_tx tx_97 (p + (x : Int)))) rfl (fun (r104 : -2147483648 ≤ w_tx tx_97 (p + (x : Int)) ∧ w_tx tx_97 (p + (x : Int)) ≤ 2147483647) => ?_)
        refine wa_icmpne (w_rg0 (by omega) (by omega)) (w_rg0 (by omega) (by omega)) ⟨_, rfl⟩ (fun c105 => ?_) (fun c105 => ?_)
        · skip
          refine wa_iconst ?_
          refine wa_fall ⟨_, rfl⟩ ?_
          refine wa_istore (n := 5) rfl ?_
          refine wa_iinc rfl rfl ?_
          refine wa_goto ⟨_, rfl⟩ ?_
          rw [show ((x : Nat) : Int) + 1 = ((x + 1 : Nat) : Int) from rfl]
          refine wJ_S (ih (x + 1) 0 (by omega) (by omega) (Or.inr ⟨rfl, fun q => ?_⟩)) ⟨rfl, rfl, rfl, rfl, rfl, rfl, rfl, trivial⟩
          have := ((sl_eq (by omega)).mp q).2 x (by omega)
          rw [← hkx] at this
          first | exact absurd this (by assumption) | omega
        · skip
          refine wa_iconst ?_
          refine wa_goto ⟨_, rfl⟩ ?_
          refine wa_istore (n := 5) rfl ?_
          refine wa_iinc rfl rfl ?_
          refine wa_goto ⟨_, rfl⟩ ?_
          rw [show ((x : Nat) : Int) + 1 = ((x + 1 : Nat) : Int) from rfl]
          refine wJ_S (ih (x + 1) 1 (by omega) (by omega) (Or.inl ⟨rfl, hs1.2.1, fun y hy => ?_⟩)) ⟨rfl, rfl, rfl, rfl, rfl, rfl, rfl, trivial⟩
          by_cases hyx : y = x
          · subst hyx; rw [← hkx]; omega
          · exact hs1.2.2 y (by omega)
theorem fnP_o {p m : Int} (h97 : pe_at (pe_GA xs).xs 97 = some (3, tx_97)) (hM : w_ML S) (hN : mN L S) (hp : 0 ≤ p ∧ p ≤ 65540) (hm : 0 ≤ m ∧ m ≤ 60 ∧ p + m ≤ 5) : ∀ (f k : Nat), L.length - k < f → k ≤ L.length → (∀ y : Nat, y < k → L.getD y [] ≠ sl_ (w_tx tx_97) p m) → wJ (pe_GA xs) wY0 M d t_M_findName ((pe_at t_M_findName.bl 1).getD (0, [])).2 [(0, (2, 237)), (1, (2, (-10 - ((97 : Nat) : Int)))), (2, (0, p)), (3, (0, m)), (4, (0, (k : Int)))] [] S (fun o Z => S = Z ∧ o = .inl (some (0, ixL L (sl_ (w_tx tx_97) p m)))) := by
  have hN0 := hN
  obtain ⟨n1, n2, n3⟩ := hN
  intro f
  induction f with
  | zero => intro k h; exact absurd h (Nat.not_lt_zero _)
  | succ f ih =>
    intro k hf hkl hbe
    refine wa_iload (n := 4) rfl ?_
    refine wa_aload_n (n := 0) rfl ?_
    refine wb_gfi 237 rfl (wy_pr rfl) wt_237 wf_15_16 (v := (L.length : Int)) (n1) (fun r101 => ?_)
    refine wa_icmpge (w_rg0 (by omega) (by omega)) (w_rg0 (by omega) (by omega)) ⟨_, rfl⟩ (fun c102 => ?_) (fun c102 => ?_)
    · skip
      refine wa_iconst ?_
      refine wa_ireturn rfl ?_
      refine ⟨rfl, congrArg (fun z => Sum.inl (some (0, z))) ?_⟩
      refine (ixL_no.mpr (fun q => ?_)).symm
      obtain ⟨g1, g2⟩ := getD_idx q
      exact hbe _ (by omega) g2
    · skip
      have hkb := (n3 k (by omega)).2.1
      refine wa_aload_n (n := 0) rfl ?_
      refine wb_gf4 237 rfl (wy_pr rfl) wt_237 wf_15_18 (v := 282) wl_237_18 ?_
      refine wa_iload (n := 4) rfl ?_
      refine wb_iald 282 rfl (wy_pr rfl) wt_282 (n := 4000) ((ml_282 hM)) (by omega) (by omega) (v := ((L.getD k []).length : Int)) (((n3 k (by omega)).1)) (fun r103 => ?_)
      refine wa_iload_n (n := 3) rfl ?_
      refine wa_icmpne (w_rg0 (by omega) (by omega)) (w_rg0 (by omega) (by omega)) ⟨_, rfl⟩ (fun c104 => ?_) (fun c104 => ?_)
      · skip
        refine wa_iconst ?_
        refine wa_fall ⟨_, rfl⟩ ?_
        refine wa_istore (n := 5) rfl ?_
        refine wa_iconst ?_
        refine wa_istore (n := 6) rfl ?_
        refine wa_fall ⟨_, rfl⟩ ?_
        refine wJ_S (fnP_i (k := k) h97 hM hN0 hp hm (by omega) (fun he => ?_) (fun hne => ?_) (m.toNat + 1) 0 0 (by omega) (by omega) (Or.inr ⟨rfl, fun q => by have := ((sl_eq (by omega)).mp q).1; omega⟩)) ⟨rfl, rfl, rfl, rfl, rfl, rfl, rfl, trivial⟩
        · skip
          refine wa_iload (n := 5) rfl ?_
          refine wa_ifeq (w_rg0 (by omega) (by omega)) ⟨_, rfl⟩ (fun c205 => ?_) (fun c205 => ?_)
          · skip
            exact absurd c205 (by omega)
          · skip
            refine wa_iload (n := 4) rfl ?_
            refine wa_ireturn rfl ?_
            refine ⟨rfl, congrArg (fun z => Sum.inl (some (0, z))) ?_⟩
            have hin : sl_ (w_tx tx_97) p m ∈ L := by
              rw [← he, List.getD_eq_getElem?_getD, List.getElem?_eq_getElem (by omega)]
              exact List.getElem_mem _
            obtain ⟨g1, g2⟩ := getD_idx hin
            have hge : k ≤ L.idxOf (sl_ (w_tx tx_97) p m) := Nat.le_of_not_lt (fun q => hbe _ q g2)
            have hle : L.idxOf (sl_ (w_tx tx_97) p m) ≤ k := by
              have hk2 : k < L.length := by omega
              have hgk : L[k] = sl_ (w_tx tx_97) p m := by rw [← he, List.getD_eq_getElem?_getD, List.getElem?_eq_getElem hk2]; rfl
              exact idx_le hk2 hgk
            unfold ixL; rw [if_pos hin]; omega
        · skip
          refine wa_iload (n := 5) rfl ?_
          refine wa_ifeq (w_rg0 (by omega) (by omega)) ⟨_, rfl⟩ (fun c155 => ?_) (fun c155 => ?_)
          · skip
            refine wa_iinc rfl rfl ?_
            refine wa_goto ⟨_, rfl⟩ ?_
            rw [show ((k : Nat) : Int) + 1 = ((k + 1 : Nat) : Int) from rfl]
            refine wJ_S (ih (k + 1) (by omega) (by omega) (fun y hy => ?_)) ⟨rfl, rfl, rfl, rfl, rfl, trivial⟩
            by_cases hyk : y = k
            · subst hyk; exact hne
            · exact hbe y (by omega)
          · skip
            exact absurd c155 (by omega)
      · skip
        refine wa_iconst ?_
        refine wa_goto ⟨_, rfl⟩ ?_
        refine wa_istore (n := 5) rfl ?_
        refine wa_iconst ?_
        refine wa_istore (n := 6) rfl ?_
        refine wa_fall ⟨_, rfl⟩ ?_
        refine wJ_S (fnP_i (k := k) h97 hM hN0 hp hm (by omega) (fun he => ?_) (fun hne => ?_) (m.toNat + 1) 0 1 (by omega) (by omega) (Or.inl ⟨rfl, by omega, fun y hy => absurd hy (Nat.not_lt_zero _)⟩)) ⟨rfl, rfl, rfl, rfl, rfl, rfl, rfl, trivial⟩
        · skip
          refine wa_iload (n := 5) rfl ?_
          refine wa_ifeq (w_rg0 (by omega) (by omega)) ⟨_, rfl⟩ (fun c205 => ?_) (fun c205 => ?_)
          · skip
            exact absurd c205 (by omega)
          · skip
            refine wa_iload (n := 4) rfl ?_
            refine wa_ireturn rfl ?_
            refine ⟨rfl, congrArg (fun z => Sum.inl (some (0, z))) ?_⟩
            have hin : sl_ (w_tx tx_97) p m ∈ L := by
              rw [← he, List.getD_eq_getElem?_getD, List.getElem?_eq_getElem (by omega)]
              exact List.getElem_mem _
            obtain ⟨g1, g2⟩ := getD_idx hin
            have hge : k ≤ L.idxOf (sl_ (w_tx tx_97) p m) := Nat.le_of_not_lt (fun q => hbe _ q g2)
            have hle : L.idxOf (sl_ (w_tx tx_97) p m) ≤ k := by
              have hk2 : k < L.length := by omega
              have hgk : L[k] = sl_ (w_tx tx_97) p m := by rw [← he, List.getD_eq_getElem?_getD, List.getElem?_eq_getElem hk2]; rfl
              exact idx_le hk2 hgk
            unfold ixL; rw [if_pos hin]; omega
        · skip
          refine wa_iload (n := 5) rfl ?_
          refine wa_ifeq (w_rg0 (by omega) (by omega)) ⟨_, rfl⟩ (fun c155 => ?_) (fun c155 => ?_)
          · skip
            refine wa_iinc rfl rfl ?_
            refine wa_goto ⟨_, rfl⟩ ?_
            rw [show ((k : Nat) : Int) + 1 = ((k + 1 : Nat) : Int) from rfl]
            refine wJ_S (ih (k + 1) (by omega) (by omega) (fun y hy => ?_)) ⟨rfl, rfl, rfl, rfl, rfl, trivial⟩
            by_cases hyk : y = k
            · subst hyk; exact hne
            · exact hbe y (by omega)
          · skip
            exact absurd c155 (by omega)
theorem fnPm {p m : Int} (h97 : pe_at (pe_GA xs).xs 97 = some (3, tx_97)) (hM : w_ML S) (hN : mN L S) (hp : 0 ≤ p ∧ p ≤ 65540) (hm : 0 ≤ m ∧ m ≤ 60 ∧ p + m ≤ 5) : wJ (pe_GA xs) wY0 M d t_M_findName ((pe_at t_M_findName.bl 0).getD (0, [])).2 [(0, (2, 237)), (1, (2, (-10 - ((97 : Nat) : Int)))), (2, (0, p)), (3, (0, m))] [] S (fun o Z => S = Z ∧ o = .inl (some (0, ixL L (sl_ (w_tx tx_97) p m)))) := by
  refine wa_iconst ?_
  refine wa_istore (n := 4) rfl ?_
  refine wa_fall ⟨_, rfl⟩ ?_
  exact wJ_S (fnP_o h97 hM hN hp hm (L.length + 1) 0 (by omega) (by omega) (fun y hy => absurd hy (Nat.not_lt_zero _))) ⟨rfl, rfl, rfl, rfl, rfl, trivial⟩
theorem mnh (hC : w_CL S) (hsw : cSw S T H) (ht : cTh S T) (hlt : cLt S T) (hz : S 142 (-1) = S 141 (-1) ∧ (0 ≤ S 140 2 ∧ S 140 2 ≤ S 141 (-1)) ∧ S 141 (-1) ≤ 480400) (hw : wSh T H) (hT8 : (T.length : Int) ≤ 8000) (hf : isO T fn) (h7 : S 7 16 = nm) (h7l : 16 < S 7 (-1)) (hnm : nm = -1 ∨ (0 ≤ nm ∧ nm ≤ 100000)) (hpo : ∀ k : Int, isO T k → 0 ≤ aIx T nm k → (prV T nm k).1 = 4 ∨ (prV T nm k).1 = 5 → isO T (prV T nm k).2.1) (hk : wJ (pe_GA xs) wY0 M (d + 2) t_XL_makeNew ((pe_at t_XL_makeNew.bl 5).getD (0, [])).2 [(0, (2, 158)), (1, (0, fn)), (4, (0, npA T H nm fn))] [] S Q) : wJ (pe_GA xs) wY0 M (d + 2) t_XL_makeNew ((pe_at t_XL_makeNew.bl 0).getD (0, [])).2 [(0, (2, 158)), (1, (0, fn))] [] S Q := by
  have hf1 := hf.1
  have hup := aUp_rg (nm := nm) hw hf
  obtain ⟨hd, hhd⟩ : ∃ z : Int, z = aUp T H nm fn := ⟨_, rfl⟩
  rw [← hhd] at hup
  have hzl := hlt.2
  refine wa_aload_n (n := 0) rfl ?_
  refine wb_gf4 158 rfl (wy_pr rfl) wt_158 wf_5_0 (v := 72) wl_158_0 ?_
  refine wb_gf4 72 rfl (wy_pr rfl) wt_72 wf_2_0 (v := 2) wl_72_0 ?_
  refine wb_gf4 2 rfl (wy_pr rfl) wt_2 wf_9_5 (v := 7) wl_2_5 ?_
  refine wa_bipush (w_rg2 (by omega) (by omega)) ?_
  refine wb_iald 7 rfl (wy_pr rfl) wt_7 (n := (S 7 (-1))) (rfl) (by omega) (by omega) (v := nm) (h7) (fun r1 => ?_)
  refine wa_istore_n (n := 2) rfl ?_
  refine wa_iload_n (n := 2) rfl ?_
  refine wa_iconst ?_
  refine wa_icmpne (w_rg0 (by omega) (by omega)) (w_rg0 (by omega) (by omega)) ⟨_, rfl⟩ (fun c2 => ?_) (fun c2 => ?_)
  · skip
    refine wa_aload_n (n := 0) rfl ?_
    refine wb_gf4 158 rfl (wy_pr rfl) wt_158 wf_5_0 (v := 72) wl_158_0 ?_
    refine wa_iload_n (n := 1) rfl ?_
    refine wa_iload_n (n := 2) rfl ?_
    refine wa_cv 72 rfl (wy_pr rfl) wt_72 (M2 := fun _ => False) rfl at_XH_holderOf ⟨_, rfl⟩ rfl rfl ⟨trivial, (Or.inr ⟨wy_pr rfl, fun q => q⟩), trivial, trivial⟩ trivial (fun _ _ q => False.elim q) (wJ_mono (c_ho (nm := nm) hC hsw ht hlt hw hf ⟨by omega, by omega⟩) (fun o Z hz => (⟨hz.1, by rw [hhd]; exact hz.2⟩ : S = Z ∧ o = .inl (some (0, hd))))) (fun oq3 Sq3 hp4 q3 => ?_)
    rcases q3 with ⟨rfl, rfl⟩
    show wJ _ _ _ _ _ _ _ _ _ _
    have hdr : hd = -1 ∨ (0 ≤ hd ∧ hd < (T.length : Int)) := hup.elim Or.inl (fun z => Or.inr z.1.1)
    refine wa_fall ⟨_, rfl⟩ ?_
    refine wa_istore_n (n := 3) rfl ?_
    refine wa_iconst ?_
    refine wa_istore (n := 4) rfl ?_
    refine wa_iload_n (n := 3) rfl ?_
    refine wa_iconst ?_
    refine wa_icmpeq (w_rg0 (by omega) (by omega)) (w_rg0 (by omega) (by omega)) ⟨_, rfl⟩ (fun c5 => ?_) (fun c5 => ?_)
    · skip
      have enp : npA T H nm fn = (-1) := by
        unfold npA
        first | exact if_pos (by omega) | (rw [if_neg (show ¬ nm = -1 by omega), ← hhd]; first | exact if_pos (by omega) | (rw [if_neg (by omega)]; first | exact if_pos (by omega) | exact if_neg (by omega)))
      rw [enp] at hk
      exact wJ_S hk ⟨rfl, rfl, rfl, trivial⟩
    · skip
      have hnv : nm ≠ -1 := by omega
      have hud := hup.resolve_left (by omega)
      have hu1 := hud.1.1
      have hir := aIx_rg (T := T) (nm := nm) (k := hd)
      have hix := hud.2
      have hc2 := (c_th ht hu1.1 hu1.2).2.1
      have hcv := cR_pv (nm := nm) ht hu1.1 hu1.2 (by omega)
      have hk1 : S 141 (S 133 hd + aIx T nm hd) = (prV T nm hd).1 := hcv.1
      have hk2 : (prV T nm hd).1 = 4 ∨ (prV T nm hd).1 = 5 → S 142 (S 133 hd + aIx T nm hd) = (prV T nm hd).2.1 := fun z => (hcv.2.1 (show (prV T nm hd).1 ≠ 3 by omega)).1
      have hk3 : (prV T nm hd).1 = 4 ∨ (prV T nm hd).1 = 5 → isO T (prV T nm hd).2.1 := hpo hd hud.1 (by omega)
      refine wa_aload_n (n := 0) rfl ?_
      refine wb_gf4 158 rfl (wy_pr rfl) wt_158 wf_5_0 (v := 72) wl_158_0 ?_
      refine wa_aload_n (n := 0) rfl ?_
      refine wb_gf4 158 rfl (wy_pr rfl) wt_158 wf_5_0 (v := 72) wl_158_0 ?_
      refine wb_gf4 72 rfl (wy_pr rfl) wt_72 wf_2_2 (v := 126) wl_72_2 ?_
      refine wa_iconst ?_
      refine wb_aald5 126 1 rfl rfl (wy_pr rfl) wt_126 (by rw [show _ = _ from ((cl_126 hC))]; omega) wl_126_1 ?_
      refine wa_iload_n (n := 3) rfl ?_
      refine wb_iald 128 rfl (wy_pr rfl) wt_128 (n := (S 127 (-1))) ((hlt.1 1 (by decide))) (by omega) (by omega) (v := (S 128 hd)) rfl (fun r6 => ?_)
      refine wa_iload_n (n := 2) rfl ?_
      refine wa_cv 72 rfl (wy_pr rfl) wt_72 (M2 := fun _ => False) rfl at_XH_indexIn ⟨_, rfl⟩ rfl rfl ⟨trivial, trivial, trivial, (Or.inr ⟨wy_pr rfl, fun q => q⟩), trivial, trivial⟩ trivial (fun _ _ q => False.elim q) (c_ixo (nm := nm) (k := hd) hC hsw ht hw hud.1 rfl ⟨by omega, by omega⟩) (fun oq7 Sq7 hp8 q7 => ?_)
      rcases q7 with ⟨rfl, rfl⟩
      show wJ _ _ _ _ _ _ _ _ _ _
      refine wa_istore (n := 5) rfl ?_
      refine wa_aload_n (n := 0) rfl ?_
      refine wb_gf4 158 rfl (wy_pr rfl) wt_158 wf_5_0 (v := 72) wl_158_0 ?_
      refine wb_gf4 72 rfl (wy_pr rfl) wt_72 wf_2_2 (v := 126) wl_72_2 ?_
      refine wa_bipush (w_rg2 (by omega) (by omega)) ?_
      refine wb_aald5 126 6 rfl rfl (wy_pr rfl) wt_126 (by rw [show _ = _ from ((cl_126 hC))]; omega) wl_126_6 ?_
      refine wa_iload_n (n := 3) rfl ?_
      refine wb_iald 133 rfl (wy_pr rfl) wt_133 (n := (S 127 (-1))) ((hlt.1 6 (by decide))) (by omega) (by omega) (v := (S 133 hd)) rfl (fun r9 => ?_)
      refine wa_iload (n := 5) rfl ?_
      refine wa_iadd ?_
      refine wa_istore (n := 6) rfl ?_
      refine wa_aload_n (n := 0) rfl ?_
      refine wb_gf4 158 rfl (wy_pr rfl) wt_158 wf_5_0 (v := 72) wl_158_0 ?_
      refine wb_gf4 72 rfl (wy_pr rfl) wt_72 wf_2_6 (v := 140) wl_72_6 ?_
      refine wb_gf4 140 rfl (wy_pr rfl) wt_140 wf_7_0 (v := 141) wl_140_0 ?_
      refine wa_iload (n := 6) rfl ?_
      refine wb_bald 141 rfl (wy_pr rfl) wt_141 (n := (S 141 (-1))) (rfl) (by omega) (by omega) (v := ((prV T nm hd).1)) (hk1) (fun r10 => ?_)
      refine wa_iconst ?_
      refine wa_icmpeq (w_rg0 (by omega) (by omega)) (w_rg0 (by omega) (by omega)) ⟨_, rfl⟩ (fun c11 => ?_) (fun c11 => ?_)
      · skip
        have hk4 := hk2 (by omega)
        have hk5 := (hk3 (by omega)).1
        refine wa_aload_n (n := 0) rfl ?_
        refine wb_gf4 158 rfl (wy_pr rfl) wt_158 wf_5_0 (v := 72) wl_158_0 ?_
        refine wb_gf4 72 rfl (wy_pr rfl) wt_72 wf_2_6 (v := 140) wl_72_6 ?_
        refine wb_gf4 140 rfl (wy_pr rfl) wt_140 wf_7_1 (v := 142) wl_140_1 ?_
        refine wa_iload (n := 6) rfl ?_
        refine wb_lald 142 rfl (wy_pr rfl) wt_142 (n := (S 141 (-1))) (hz.1) (by omega) (by omega) (v := ((prV T nm hd).2.1)) (hk4) (fun r12 => ?_)
        refine wb_l2i_r (y := ((prV T nm hd).2.1)) (wb_l2i_id ⟨by omega, by omega⟩) ?_
        refine wa_istore (n := 4) rfl ?_
        refine wa_fall ⟨_, rfl⟩ ?_
        have enp : npA T H nm fn = ((prV T nm hd).2.1) := by
          unfold npA
          first | exact if_pos (by omega) | (rw [if_neg (show ¬ nm = -1 by omega), ← hhd]; first | exact if_pos (by omega) | (rw [if_neg (by omega)]; first | exact if_pos (by omega) | exact if_neg (by omega)))
        rw [enp] at hk
        exact wJ_S hk ⟨rfl, rfl, rfl, trivial⟩
      · skip
        refine wa_aload_n (n := 0) rfl ?_
        refine wb_gf4 158 rfl (wy_pr rfl) wt_158 wf_5_0 (v := 72) wl_158_0 ?_
        refine wb_gf4 72 rfl (wy_pr rfl) wt_72 wf_2_6 (v := 140) wl_72_6 ?_
        refine wb_gf4 140 rfl (wy_pr rfl) wt_140 wf_7_0 (v := 141) wl_140_0 ?_
        refine wa_fall ⟨_, rfl⟩ ?_
        refine wa_iload (n := 6) rfl ?_
        refine wb_bald 141 rfl (wy_pr rfl) wt_141 (n := (S 141 (-1))) (rfl) (by omega) (by omega) (v := ((prV T nm hd).1)) (hk1) (fun r13 => ?_)
        refine wa_iconst ?_
        refine wa_icmpne (w_rg0 (by omega) (by omega)) (w_rg0 (by omega) (by omega)) ⟨_, rfl⟩ (fun c14 => ?_) (fun c14 => ?_)
        · skip
          have enp : npA T H nm fn = (-1) := by
            unfold npA
            first | exact if_pos (by omega) | (rw [if_neg (show ¬ nm = -1 by omega), ← hhd]; first | exact if_pos (by omega) | (rw [if_neg (by omega)]; first | exact if_pos (by omega) | exact if_neg (by omega)))
          rw [enp] at hk
          exact wJ_S hk ⟨rfl, rfl, rfl, trivial⟩
        · skip
          refine wa_fall ⟨_, rfl⟩ ?_
          have hk4 := hk2 (by omega)
          have hk5 := (hk3 (by omega)).1
          refine wa_aload_n (n := 0) rfl ?_
          refine wb_gf4 158 rfl (wy_pr rfl) wt_158 wf_5_0 (v := 72) wl_158_0 ?_
          refine wb_gf4 72 rfl (wy_pr rfl) wt_72 wf_2_6 (v := 140) wl_72_6 ?_
          refine wb_gf4 140 rfl (wy_pr rfl) wt_140 wf_7_1 (v := 142) wl_140_1 ?_
          refine wa_iload (n := 6) rfl ?_
          refine wb_lald 142 rfl (wy_pr rfl) wt_142 (n := (S 141 (-1))) (hz.1) (by omega) (by omega) (v := ((prV T nm hd).2.1)) (hk4) (fun r15 => ?_)
          refine wb_l2i_r (y := ((prV T nm hd).2.1)) (wb_l2i_id ⟨by omega, by omega⟩) ?_
          refine wa_istore (n := 4) rfl ?_
          refine wa_fall ⟨_, rfl⟩ ?_
          have enp : npA T H nm fn = ((prV T nm hd).2.1) := by
            unfold npA
            first | exact if_pos (by omega) | (rw [if_neg (show ¬ nm = -1 by omega), ← hhd]; first | exact if_pos (by omega) | (rw [if_neg (by omega)]; first | exact if_pos (by omega) | exact if_neg (by omega)))
          rw [enp] at hk
          exact wJ_S hk ⟨rfl, rfl, rfl, trivial⟩
  · skip
    refine wa_iconst ?_
    refine wa_goto ⟨_, rfl⟩ ?_
    refine wa_istore_n (n := 3) rfl ?_
    refine wa_iconst ?_
    refine wa_istore (n := 4) rfl ?_
    refine wa_iload_n (n := 3) rfl ?_
    refine wa_iconst ?_
    refine wa_icmpeq (w_rg0 (by omega) (by omega)) (w_rg0 (by omega) (by omega)) ⟨_, rfl⟩ (fun c16 => ?_) (fun c16 => ?_)
    · skip
      have enp : npA T H nm fn = (-1) := by
        unfold npA
        first | exact if_pos (by omega) | (rw [if_neg (show ¬ nm = -1 by omega), ← hhd]; first | exact if_pos (by omega) | (rw [if_neg (by omega)]; first | exact if_pos (by omega) | exact if_neg (by omega)))
      rw [enp] at hk
      exact wJ_S hk ⟨rfl, rfl, rfl, trivial⟩
    · skip
      exact absurd c16 (by omega)
theorem nwl (hM : w_ML S) (ht : rTh S sl T) (hH : rHs S H) (hw : wSh T H) (hT : (T.length : Int) ≤ 8000) (h82 : S 237 82 ≤ 60000) (hnm : 0 ≤ nm ∧ nm ≤ 100000) (hpo : ∀ k : Int, isO T k → 0 ≤ aIx T nm k → (prV T nm k).1 = 4 ∨ (prV T nm k).1 = 5 → isO T (prV T nm k).2.1) (hpv : ∀ k : Int, isO T k → 0 ≤ aIx T nm k → 0 ≤ (prV T nm k).1 ∧ (prV T nm k).1 ≤ 8) : ∀ (f : Nat) (u pr : Int), cEn (aPr T H) f u → (u = -1 ∨ isO T u) → pr = -1 → (wJ (pe_GA xs) wY0 M (d + 1) t_M_news ((pe_at t_M_news.bl 9).getD (0, [])).2 [(0, (2, 237)), (1, (0, fn)), (3, (0, (if hUp (aPr T H) (aIx T nm) f u = -1 then -1 else if (prV T nm (hUp (aPr T H) (aIx T nm) f u)).1 = 4 ∨ (prV T nm (hUp (aPr T H) (aIx T nm) f u)).1 = 5 then (prV T nm (hUp (aPr T H) (aIx T nm) f u)).2.1 else -1)))] [] S Q) → wJ (pe_GA xs) wY0 M (d + 1) t_M_news ((pe_at t_M_news.bl 2).getD (0, [])).2 [(0, (2, 237)), (1, (0, fn)), (2, (0, nm)), (3, (0, pr)), (4, (0, 0)), (5, (0, u))] [] S Q := by
  intro f
  induction f with
  | zero =>
    intro u pr hc hu hp hk
    have hc2 : u = -1 := hc
    have e : hUp (aPr T H) (aIx T nm) 0 u = -1 := rfl
    rw [e, if_pos rfl] at hk
    rw [hp]
    refine wa_iload (n := 5) rfl ?_
    refine wa_iflt (w_rg0 (by omega) (by omega)) ⟨_, rfl⟩ (fun c1 => ?_) (fun c1 => ?_)
    · skip
      exact wJ_S hk ⟨rfl, rfl, rfl, trivial⟩
    · skip
      exact absurd c1 (by omega)
  | succ f ih =>
    intro u pr hc hu hp hk
    rw [hp]
    by_cases cu : u = -1
    · rw [cu] at hk ⊢
      rw [hUp_n, if_pos rfl] at hk
      refine wa_iload (n := 5) rfl ?_
      refine wa_iflt (w_rg0 (by omega) (by omega)) ⟨_, rfl⟩ (fun c51 => ?_) (fun c51 => ?_)
      · skip
        exact wJ_S hk ⟨rfl, rfl, rfl, trivial⟩
      · skip
        exact absurd c51 (by omega)
    have hu1 : isO T u := hu.elim (fun z => absurd z cu) id
    have hs1 := wSh_sh hw hu1
    have e5 := (r_th ht hu1.1.1 hu1.1.2).2.1
    have e9 : S 329 (tO T u).2.1 = aPr T H u := (rHs_e hH hs1.1 hs1.2).1
    have hs2 := hu1.1
    have hpr := wSh_pr hw hu1
    have hpg : -1 ≤ aPr T H u ∧ aPr T H u < (T.length : Int) := by rcases hpr with z | z; omega; have := z.1; omega
    have hir := aIx_rg (T := T) (nm := nm) (k := u)
    have hH4 := hw.1.2.1
    have hl64 := (hw.2.2.2.1 u hu1).2
    have hsl := r_sl ht hu1.1.1 hu1.1.2 h82
    refine wa_iload (n := 5) rfl ?_
    refine wa_iflt (w_rg0 (by omega) (by omega)) ⟨_, rfl⟩ (fun c101 => ?_) (fun c101 => ?_)
    · skip
      exfalso; omega
    · skip
      refine wa_iload_n (n := 2) rfl ?_
      refine wa_iflt (w_rg0 (by omega) (by omega)) ⟨_, rfl⟩ (fun c102 => ?_) (fun c102 => ?_)
      · skip
        exfalso; omega
      · skip
        refine wa_iload (n := 4) rfl ?_
        refine wa_ifne (w_rg0 (by omega) (by omega)) ⟨_, rfl⟩ (fun c103 => ?_) (fun c103 => ?_)
        · skip
          exact absurd c103 (by omega)
        · skip
          refine wa_aload_n (n := 0) rfl ?_
          refine wa_iload (n := 5) rfl ?_
          refine wa_iload_n (n := 2) rfl ?_
          refine wa_cv 237 rfl (wy_pr rfl) wt_237 (M2 := fun _ => False) rfl at_M_own ⟨_, rfl⟩ rfl rfl ⟨(Or.inr ⟨wy_pr rfl, fun q => q⟩), trivial, trivial, trivial, trivial, trivial, trivial⟩ trivial (fun _ _ q => False.elim q) (r_ow hM ht ⟨hu1.1.1, hu1.1.2⟩ hT h82 (wSh_64 hw hu1) ⟨by omega, by omega⟩) (fun oq104 Sq104 hp105 q104 => ?_)
          rcases q104 with ⟨rfl, rfl⟩
          show wJ _ _ _ _ _ _ _ _ _ _
          refine wa_istore (n := 6) rfl ?_
          refine wa_iload (n := 6) rfl ?_
          refine wa_iflt (w_rg0 (by omega) (by omega)) ⟨_, rfl⟩ (fun c106 => ?_) (fun c106 => ?_)
          · skip
            refine wa_iconst ?_
            refine wa_fall ⟨_, rfl⟩ ?_
            refine wa_istore (n := 4) rfl ?_
            refine wa_iload (n := 4) rfl ?_
            refine wa_ifeq (w_rg0 (by omega) (by omega)) ⟨_, rfl⟩ (fun c107 => ?_) (fun c107 => ?_)
            · skip
              refine wa_iconst ?_
              refine wa_fall ⟨_, rfl⟩ ?_
              refine wa_istore (n := 7) rfl ?_
              refine wa_iload (n := 4) rfl ?_
              refine wa_ifeq (w_rg0 (by omega) (by omega)) ⟨_, rfl⟩ (fun c108 => ?_) (fun c108 => ?_)
              · skip
                refine wa_iconst ?_
                refine wa_fall ⟨_, rfl⟩ ?_
                refine wa_istore_n (n := 3) rfl ?_
                refine wa_aload_n (n := 0) rfl ?_
                refine wa_iload (n := 5) rfl ?_
                refine wa_cv 237 rfl (wy_pr rfl) wt_237 (M2 := fun _ => False) rfl at_M_protoOf ⟨_, rfl⟩ rfl rfl ⟨trivial, trivial, trivial, trivial, (Or.inr ⟨wy_pr rfl, fun q => q⟩), trivial, trivial, trivial, trivial⟩ trivial (fun _ _ q => False.elim q) ?_ (fun _ _ _ q => q)
                refine wa_aload_n (n := 0) rfl ?_
                refine wb_gf4 237 rfl (wy_pr rfl) wt_237 wf_15_88 (v := 329) wl_237_88 ?_
                refine wa_aload_n (n := 0) rfl ?_
                refine wb_gf4 237 rfl (wy_pr rfl) wt_237 wf_15_71 (v := 315) wl_237_71 ?_
                refine wa_iload_n (n := 1) rfl ?_
                refine wb_iald 315 rfl (wy_pr rfl) wt_315 (n := 8000) ((ml_315 hM)) (by omega) (by omega) (v := (tO T u).2.1) (e5) (fun r109 => ?_)
                refine wb_iald 329 rfl (wy_pr rfl) wt_329 (n := 4001) ((ml_329 hM)) (by omega) (by omega) (v := (aPr T H u)) (e9) (fun r110 => ?_)
                refine wa_ireturn rfl ?_
                show wJ _ _ _ _ _ _ _ _ _ _
                refine wa_istore (n := 5) rfl ?_
                refine wa_goto ⟨_, rfl⟩ ?_
                rw [hUp_g (Pr := aPr T H) (ix := aIx T nm) cu (by omega)] at hk
                exact wJ_S (ih (aPr T H u) (-1) (hc.elim (fun z => absurd z cu) id) hpr rfl hk) ⟨rfl, rfl, rfl, rfl, rfl, rfl, trivial⟩
              · skip
                exact absurd c108 (by omega)
            · skip
              exact absurd c107 (by omega)
          · skip
            refine wa_iconst ?_
            refine wa_goto ⟨_, rfl⟩ ?_
            refine wa_istore (n := 4) rfl ?_
            refine wa_iload (n := 4) rfl ?_
            refine wa_ifeq (w_rg0 (by omega) (by omega)) ⟨_, rfl⟩ (fun c111 => ?_) (fun c111 => ?_)
            · skip
              exact absurd c111 (by omega)
            · skip
              refine wa_aload_n (n := 0) rfl ?_
              refine wa_iload (n := 5) rfl ?_
              refine wa_iload (n := 6) rfl ?_
              refine wa_cv 237 rfl (wy_pr rfl) wt_237 (M2 := fun _ => False) rfl at_M_slotAt ⟨_, rfl⟩ rfl rfl ⟨trivial, trivial, (Or.inr ⟨wy_pr rfl, fun q => q⟩), trivial, trivial, trivial, trivial, trivial⟩ trivial (fun _ _ q => False.elim q) (saM_ok (l := sl u.toNat) (i := aIx T nm u) hM ⟨by omega, by omega⟩ hsl.1 ⟨by omega, by omega⟩ (by omega)) (fun oq112 Sq112 hp113 q112 => ?_)
              rcases q112 with ⟨rfl, rfl⟩
              show wJ _ _ _ _ _ _ _ _ _ _
              have hsv := hsl.2.2 (aIx T nm u).toNat (by omega)
              have hsr := (hsl.1.2.2 (aIx T nm u).toNat (by omega)).1
              have hk1 : S 325 ((sl u.toNat).getD (aIx T nm u).toNat 0) = (prV T nm u).1 := hsv.2.1
              have hk2 : (prV T nm u).1 = 4 ∨ (prV T nm u).1 = 5 → S 326 ((sl u.toNat).getD (aIx T nm u).toNat 0) = (prV T nm u).2.1 := fun z => (hsv.2.2.1 (show (prV T nm u).1 ≠ 3 by omega)).1
              have hpvu := hpv u hu1 (by omega)
              refine wa_goto ⟨_, rfl⟩ ?_
              refine wa_istore (n := 7) rfl ?_
              refine wa_iload (n := 4) rfl ?_
              refine wa_ifeq (w_rg0 (by omega) (by omega)) ⟨_, rfl⟩ (fun c114 => ?_) (fun c114 => ?_)
              · skip
                exact absurd c114 (by omega)
              · skip
                refine wa_aload_n (n := 0) rfl ?_
                refine wa_aload_n (n := 0) rfl ?_
                refine wb_gf4 237 rfl (wy_pr rfl) wt_237 wf_15_83 (v := 325) wl_237_83 ?_
                refine wa_iload (n := 7) rfl ?_
                refine wb_iald 325 rfl (wy_pr rfl) wt_325 (n := 60000) ((ml_325 hM)) (by omega) (by omega) (v := ((prV T nm u).1)) (hk1) (fun r115 => ?_)
                refine wa_cv 237 rfl (wy_pr rfl) wt_237 (M2 := fun _ => False) rfl at_M_hasShape ⟨_, rfl⟩ rfl rfl ⟨trivial, trivial, trivial, (Or.inr ⟨wy_pr rfl, fun q => q⟩), trivial, trivial, trivial, trivial, trivial⟩ trivial (fun _ _ q => False.elim q) ?_ (fun _ _ _ q => q)
                refine wa_iload_n (n := 1) rfl ?_
                refine wa_iconst ?_
                refine wa_icmpeq (w_rg0 (by omega) (by omega)) (w_rg0 (by omega) (by omega)) ⟨_, rfl⟩ (fun c116 => ?_) (fun c116 => ?_)
                · skip
                  refine wa_iconst ?_
                  refine wa_goto ⟨_, rfl⟩ ?_
                  refine wa_zreturn rfl (Or.inr rfl) ?_
                  show wJ _ _ _ _ _ _ _ _ _ _
                  refine wa_ifeq (w_rg0 (by omega) (by omega)) ⟨_, rfl⟩ (fun c117 => ?_) (fun c117 => ?_)
                  · skip
                    exact absurd c117 (by omega)
                  · skip
                    have hk4 := hk2 (by omega)
                    have hk5 := (hpo u hu1 (by omega) (by omega)).1
                    refine wa_aload_n (n := 0) rfl ?_
                    refine wb_gf4 237 rfl (wy_pr rfl) wt_237 wf_15_84 (v := 326) wl_237_84 ?_
                    refine wa_iload (n := 7) rfl ?_
                    refine wb_lald 326 rfl (wy_pr rfl) wt_326 (n := 60000) ((ml_326 hM)) (by omega) (by omega) (v := ((prV T nm u).2.1)) (hk4) (fun r118 => ?_)
                    refine wb_l2i_r (y := ((prV T nm u).2.1)) (wb_l2i_id ⟨by omega, by omega⟩) ?_
                    refine wa_goto ⟨_, rfl⟩ ?_
                    refine wa_istore_n (n := 3) rfl ?_
                    refine wa_aload_n (n := 0) rfl ?_
                    refine wa_iload (n := 5) rfl ?_
                    refine wa_cv 237 rfl (wy_pr rfl) wt_237 (M2 := fun _ => False) rfl at_M_protoOf ⟨_, rfl⟩ rfl rfl ⟨trivial, trivial, trivial, trivial, (Or.inr ⟨wy_pr rfl, fun q => q⟩), trivial, trivial, trivial, trivial⟩ trivial (fun _ _ q => False.elim q) ?_ (fun _ _ _ q => q)
                    refine wa_aload_n (n := 0) rfl ?_
                    refine wb_gf4 237 rfl (wy_pr rfl) wt_237 wf_15_88 (v := 329) wl_237_88 ?_
                    refine wa_aload_n (n := 0) rfl ?_
                    refine wb_gf4 237 rfl (wy_pr rfl) wt_237 wf_15_71 (v := 315) wl_237_71 ?_
                    refine wa_iload_n (n := 1) rfl ?_
                    refine wb_iald 315 rfl (wy_pr rfl) wt_315 (n := 8000) ((ml_315 hM)) (by omega) (by omega) (v := (tO T u).2.1) (e5) (fun r119 => ?_)
                    refine wb_iald 329 rfl (wy_pr rfl) wt_329 (n := 4001) ((ml_329 hM)) (by omega) (by omega) (v := (aPr T H u)) (e9) (fun r120 => ?_)
                    refine wa_ireturn rfl ?_
                    show wJ _ _ _ _ _ _ _ _ _ _
                    refine wa_istore (n := 5) rfl ?_
                    refine wa_goto ⟨_, rfl⟩ ?_
                    rw [hUp_h (Pr := aPr T H) (ix := aIx T nm) cu (by omega), if_neg cu] at hk
                    rw [show (if (prV T nm u).1 = 4 ∨ (prV T nm u).1 = 5 then (prV T nm u).2.1 else -1 : Int) = ((prV T nm u).2.1) by first | exact if_pos (by omega) | exact if_neg (by omega)] at hk
                    refine wa_iload (n := 5) rfl ?_
                    refine wa_iflt (w_rg0 (by omega) (by omega)) ⟨_, rfl⟩ (fun c121 => ?_) (fun c121 => ?_)
                    · skip
                      exact wJ_S hk ⟨rfl, rfl, rfl, trivial⟩
                    · skip
                      refine wa_iload_n (n := 2) rfl ?_
                      refine wa_iflt (w_rg0 (by omega) (by omega)) ⟨_, rfl⟩ (fun c122 => ?_) (fun c122 => ?_)
                      · skip
                        exfalso; omega
                      · skip
                        refine wa_iload (n := 4) rfl ?_
                        refine wa_ifne (w_rg0 (by omega) (by omega)) ⟨_, rfl⟩ (fun c123 => ?_) (fun c123 => ?_)
                        · skip
                          exact wJ_S hk ⟨rfl, rfl, rfl, trivial⟩
                        · skip
                          exact absurd c123 (by omega)
                · skip
                  refine wa_iload_n (n := 1) rfl ?_
                  refine wa_iconst ?_
                  refine wa_icmpne (w_rg0 (by omega) (by omega)) (w_rg0 (by omega) (by omega)) ⟨_, rfl⟩ (fun c124 => ?_) (fun c124 => ?_)
                  · skip
                    refine wa_iconst ?_
                    refine wa_fall ⟨_, rfl⟩ ?_
                    refine wa_zreturn rfl (Or.inl rfl) ?_
                    show wJ _ _ _ _ _ _ _ _ _ _
                    refine wa_ifeq (w_rg0 (by omega) (by omega)) ⟨_, rfl⟩ (fun c125 => ?_) (fun c125 => ?_)
                    · skip
                      refine wa_iconst ?_
                      refine wa_fall ⟨_, rfl⟩ ?_
                      refine wa_istore_n (n := 3) rfl ?_
                      refine wa_aload_n (n := 0) rfl ?_
                      refine wa_iload (n := 5) rfl ?_
                      refine wa_cv 237 rfl (wy_pr rfl) wt_237 (M2 := fun _ => False) rfl at_M_protoOf ⟨_, rfl⟩ rfl rfl ⟨trivial, trivial, trivial, trivial, (Or.inr ⟨wy_pr rfl, fun q => q⟩), trivial, trivial, trivial, trivial⟩ trivial (fun _ _ q => False.elim q) ?_ (fun _ _ _ q => q)
                      refine wa_aload_n (n := 0) rfl ?_
                      refine wb_gf4 237 rfl (wy_pr rfl) wt_237 wf_15_88 (v := 329) wl_237_88 ?_
                      refine wa_aload_n (n := 0) rfl ?_
                      refine wb_gf4 237 rfl (wy_pr rfl) wt_237 wf_15_71 (v := 315) wl_237_71 ?_
                      refine wa_iload_n (n := 1) rfl ?_
                      refine wb_iald 315 rfl (wy_pr rfl) wt_315 (n := 8000) ((ml_315 hM)) (by omega) (by omega) (v := (tO T u).2.1) (e5) (fun r126 => ?_)
                      refine wb_iald 329 rfl (wy_pr rfl) wt_329 (n := 4001) ((ml_329 hM)) (by omega) (by omega) (v := (aPr T H u)) (e9) (fun r127 => ?_)
                      refine wa_ireturn rfl ?_
                      show wJ _ _ _ _ _ _ _ _ _ _
                      refine wa_istore (n := 5) rfl ?_
                      refine wa_goto ⟨_, rfl⟩ ?_
                      rw [hUp_h (Pr := aPr T H) (ix := aIx T nm) cu (by omega), if_neg cu] at hk
                      rw [show (if (prV T nm u).1 = 4 ∨ (prV T nm u).1 = 5 then (prV T nm u).2.1 else -1 : Int) = (-1) by first | exact if_pos (by omega) | exact if_neg (by omega)] at hk
                      refine wa_iload (n := 5) rfl ?_
                      refine wa_iflt (w_rg0 (by omega) (by omega)) ⟨_, rfl⟩ (fun c128 => ?_) (fun c128 => ?_)
                      · skip
                        exact wJ_S hk ⟨rfl, rfl, rfl, trivial⟩
                      · skip
                        refine wa_iload_n (n := 2) rfl ?_
                        refine wa_iflt (w_rg0 (by omega) (by omega)) ⟨_, rfl⟩ (fun c129 => ?_) (fun c129 => ?_)
                        · skip
                          exfalso; omega
                        · skip
                          refine wa_iload (n := 4) rfl ?_
                          refine wa_ifne (w_rg0 (by omega) (by omega)) ⟨_, rfl⟩ (fun c130 => ?_) (fun c130 => ?_)
                          · skip
                            exact wJ_S hk ⟨rfl, rfl, rfl, trivial⟩
                          · skip
                            exact absurd c130 (by omega)
                    · skip
                      exact absurd c125 (by omega)
                  · skip
                    refine wa_fall ⟨_, rfl⟩ ?_
                    refine wa_iconst ?_
                    refine wa_goto ⟨_, rfl⟩ ?_
                    refine wa_zreturn rfl (Or.inr rfl) ?_
                    show wJ _ _ _ _ _ _ _ _ _ _
                    refine wa_ifeq (w_rg0 (by omega) (by omega)) ⟨_, rfl⟩ (fun c131 => ?_) (fun c131 => ?_)
                    · skip
                      exact absurd c131 (by omega)
                    · skip
                      have hk4 := hk2 (by omega)
                      have hk5 := (hpo u hu1 (by omega) (by omega)).1
                      refine wa_aload_n (n := 0) rfl ?_
                      refine wb_gf4 237 rfl (wy_pr rfl) wt_237 wf_15_84 (v := 326) wl_237_84 ?_
                      refine wa_iload (n := 7) rfl ?_
                      refine wb_lald 326 rfl (wy_pr rfl) wt_326 (n := 60000) ((ml_326 hM)) (by omega) (by omega) (v := ((prV T nm u).2.1)) (hk4) (fun r132 => ?_)
                      refine wb_l2i_r (y := ((prV T nm u).2.1)) (wb_l2i_id ⟨by omega, by omega⟩) ?_
                      refine wa_goto ⟨_, rfl⟩ ?_
                      refine wa_istore_n (n := 3) rfl ?_
                      refine wa_aload_n (n := 0) rfl ?_
                      refine wa_iload (n := 5) rfl ?_
                      refine wa_cv 237 rfl (wy_pr rfl) wt_237 (M2 := fun _ => False) rfl at_M_protoOf ⟨_, rfl⟩ rfl rfl ⟨trivial, trivial, trivial, trivial, (Or.inr ⟨wy_pr rfl, fun q => q⟩), trivial, trivial, trivial, trivial⟩ trivial (fun _ _ q => False.elim q) ?_ (fun _ _ _ q => q)
                      refine wa_aload_n (n := 0) rfl ?_
                      refine wb_gf4 237 rfl (wy_pr rfl) wt_237 wf_15_88 (v := 329) wl_237_88 ?_
                      refine wa_aload_n (n := 0) rfl ?_
                      refine wb_gf4 237 rfl (wy_pr rfl) wt_237 wf_15_71 (v := 315) wl_237_71 ?_
                      refine wa_iload_n (n := 1) rfl ?_
                      refine wb_iald 315 rfl (wy_pr rfl) wt_315 (n := 8000) ((ml_315 hM)) (by omega) (by omega) (v := (tO T u).2.1) (e5) (fun r133 => ?_)
                      refine wb_iald 329 rfl (wy_pr rfl) wt_329 (n := 4001) ((ml_329 hM)) (by omega) (by omega) (v := (aPr T H u)) (e9) (fun r134 => ?_)
                      refine wa_ireturn rfl ?_
                      show wJ _ _ _ _ _ _ _ _ _ _
                      refine wa_istore (n := 5) rfl ?_
                      refine wa_goto ⟨_, rfl⟩ ?_
                      rw [hUp_h (Pr := aPr T H) (ix := aIx T nm) cu (by omega), if_neg cu] at hk
                      rw [show (if (prV T nm u).1 = 4 ∨ (prV T nm u).1 = 5 then (prV T nm u).2.1 else -1 : Int) = ((prV T nm u).2.1) by first | exact if_pos (by omega) | exact if_neg (by omega)] at hk
                      refine wa_iload (n := 5) rfl ?_
                      refine wa_iflt (w_rg0 (by omega) (by omega)) ⟨_, rfl⟩ (fun c135 => ?_) (fun c135 => ?_)
                      · skip
                        exact wJ_S hk ⟨rfl, rfl, rfl, trivial⟩
                      · skip
                        refine wa_iload_n (n := 2) rfl ?_
                        refine wa_iflt (w_rg0 (by omega) (by omega)) ⟨_, rfl⟩ (fun c136 => ?_) (fun c136 => ?_)
                        · skip
                          exfalso; omega
                        · skip
                          refine wa_iload (n := 4) rfl ?_
                          refine wa_ifne (w_rg0 (by omega) (by omega)) ⟨_, rfl⟩ (fun c137 => ?_) (fun c137 => ?_)
                          · skip
                            exact wJ_S hk ⟨rfl, rfl, rfl, trivial⟩
                          · skip
                            exact absurd c137 (by omega)
end Wi5
