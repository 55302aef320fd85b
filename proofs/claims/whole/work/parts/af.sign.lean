/-! PART af: the class's Reader on a host's text: addSign. -/
section Waf0
variable {G : pe_G} {Y : wY} {M : Nat → Prop} {d : Nat} {mt : pe_Mt} {rest : List pe_I} {L : wL} {st : List wv} {S : wS} {Q : wO → wS → Prop}
theorem wb_si {x i v : Int} {ix : Nat} {ws : List Nat} (j : Nat) {tx : List Int32} (hx : x = -10 - (j : Int)) (ht : pe_at G.xs j = some (0, tx)) (hl : 0 < tx.length) (hd : Nat.ble 4 d = true) (hc : Nat.ble (w_cat st) 8 = true) (h0 : 0 ≤ i) (h1 : i < 128) (hv : (pe_ixo (Int32.ofInt i) tx).toInt = v) (k : wJ G Y M d mt rest L ((0, v) :: st) S Q) : wJ G Y M d mt (.inr (.inr (.inr (.inr (.inr (.inr (.inr (.inr (.inr (.inr (.inr (.inr (.inr (.inr (.inr (.inl (.inr (.inr (.inr (.inr (.inr (.inr (.inr (.inr (.inr ((ix, ws)))))))))))))))))))))))))) :: rest) L ((0, i) :: (2, x) :: st) S Q := by
  subst hv
  exact wJ_s (st2 := (0, (pe_ixo (Int32.ofInt i) tx).toInt) :: st) (fun ad Lc h f _ => by
    obtain ⟨b1, b2, b3, b4⟩ := w_in (n := (128 : Nat)) ⟨rfl, by decide⟩ h0 h1
    show (bif Nat.ble 4 d then pe_sik G.xs (.int (Int32.ofInt i) :: w_r ad x :: st.map (w_u ad)) (fun z st => bif Nat.ble (pe_cat st) 8 then pe_go G f d mt rest Lc (.int z :: st) h else none) else none) = _
    rw [hd, cond_true, w_r_o ad hx]
    unfold pe_sik
    try dsimp only
    rw [ht]
    show (bif pe_inb (Int32.ofInt i) 128 && Nat.blt 0 tx.length then pe_fi (pe_ixo (Int32.ofInt i) tx) (fun z => (bif Nat.ble (pe_cat (st.map (w_u ad))) 8 then pe_go G f d mt rest Lc (.int z :: st.map (w_u ad)) h else none)) else none) = _
    rw [b1, Bool.true_and, show Nat.blt 0 tx.length = true from by rw [Nat.blt_eq]; exact hl, cond_true, pe_fi_eq, w_cat_eq, hc, cond_true]
    show pe_go G f d mt rest Lc (Value.int _ :: _) h = pe_go G f d mt rest Lc (Value.int (Int32.ofInt (pe_ixo (Int32.ofInt i) tx).toInt) :: _) h
    rw [w_oi]) k
theorem wb_i2c_128 : ∀ c : Fin 128, wb_i2c ((c.val : Nat) : Int) = ((c.val : Nat) : Int) := by decide +kernel
theorem wb_i2c_id {x : Int} (h0 : 0 ≤ x) (h1 : x ≤ 127) : wb_i2c x = x := by
  have h := wb_i2c_128 ⟨x.toNat, by omega⟩
  rw [show (((⟨x.toNat, by omega⟩ : Fin 128).val : Nat) : Int) = x from Int.toNat_of_nonneg h0] at h
  exact h
theorem wb_i2c_r {x y : Int} (h : wb_i2c x = y) (k : wJ G Y M d mt rest L ((0, y) :: st) S Q) : wJ G Y M d mt (.inl .i2c :: rest) L ((0, x) :: st) S Q := by
  subst h
  exact wa_i2c k
end Waf0
/-- the place of a single sign among all -/
def sgx (c : Int) : Int := if sk c < 29 then sk c - 10 else -1
theorem sgx_128 : ∀ c : Fin 128, (pe_ixo (Int32.ofInt ((c.val : Nat) : Int)) tx_49).toInt = sgx ((c.val : Nat) : Int) := by decide +kernel
theorem sgx_ok {x : Int} (h0 : 0 ≤ x) (h1 : x ≤ 127) : (pe_ixo (Int32.ofInt x) tx_49).toInt = sgx x := by
  have h := sgx_128 ⟨x.toNat, by omega⟩
  rw [show (((⟨x.toNat, by omega⟩ : Fin 128).val : Nat) : Int) = x from Int.toNat_of_nonneg h0] at h
  exact h
theorem sk_lo (c : Int) : 10 ≤ sk c := by
  unfold sk
  repeat' split
  all_goals omega
theorem sgx_rg (c : Int) : -1 ≤ sgx c ∧ sgx c ≤ 18 := by
  have := sk_lo c
  unfold sgx
  split <;> omega
theorem sgx_in {T : Int → Int} {p : Int} (h : 0 ≤ sgx (T p)) : sk (T p) = 10 + sgx (T p) ∧ (T p < 128 → (T p = 40 ∨ T p = 41 ∨ T p = 123 ∨ T p = 125 ∨ T p = 91 ∨ T p = 93 ∨ T p = 44 ∨ T p = 59 ∨ T p = 46 ∨ T p = 58 ∨ T p = 61 ∨ T p = 60 ∨ T p = 62 ∨ T p = 43 ∨ T p = 45 ∨ T p = 42 ∨ T p = 47 ∨ T p = 37 ∨ T p = 33)) := by
  have e : sgx (T p) = sk (T p) - 10 := by
    unfold sgx at h ⊢
    split
    · rfl
    · rename_i q; rw [if_neg q] at h; omega
  refine ⟨by omega, fun hl => ?_⟩
  have e2 : sk (T p) < 29 := by
    unfold sgx at h
    split at h
    · assumption
    · omega
  unfold sk at e2
  repeat' split at e2
  all_goals omega
theorem sgx_no {T : Int → Int} {p : Int} (h : sgx (T p) < 0) : ¬ (T p = 40 ∨ T p = 41 ∨ T p = 123 ∨ T p = 125 ∨ T p = 91 ∨ T p = 93 ∨ T p = 44 ∨ T p = 59 ∨ T p = 46 ∨ T p = 58 ∨ T p = 61 ∨ T p = 60 ∨ T p = 62 ∨ T p = 43 ∨ T p = 45 ∨ T p = 42 ∨ T p = 47 ∨ T p = 37 ∨ T p = 33) := by
  intro q
  have : sk (T p) < 29 := by
    rcases q with q | q | q | q | q | q | q | q | q | q | q | q | q | q | q | q | q | q | q <;> (rw [q]; decide)
  have h2 := sk_lo (T p)
  unfold sgx at h
  rw [if_pos this] at h
  omega
section Waf
variable {xs : List (Nat × List Int32)} {M : Nat → Prop} {d : Nat} {S Z : wS} {Q : wO → wS → Prop} {T : Int → Int} {n : Int}
theorem as12_74 {p u : Int} (hx49 : pe_at (pe_GA xs).xs 49 = some (0, tx_49)) (hB : rd_B T n S) (h7 : S 14 7 = 74) (h8 : S 14 8 = 1) (hI : gI S) (hW : wd_at S 74 64) (hL : wd_L S 74 64) (hR : rd_L S) (hb : rb_I 74 S) (hp : 0 ≤ p ∧ p < n) (hle : lx_le (T p) = false) (hdi : lx_di (T p) = false) (h34 : T p ≠ 34) (hsf : lx_sf (T p) (lx_at T n (p + 1)) (lx_at T n (p + 2)) 1 = if (T p = 40 ∨ T p = 41 ∨ T p = 123 ∨ T p = 125 ∨ T p = 91 ∨ T p = 93 ∨ T p = 44 ∨ T p = 59 ∨ T p = 46 ∨ T p = 58 ∨ T p = 61 ∨ T p = 60 ∨ T p = 62 ∨ T p = 43 ∨ T p = 45 ∨ T p = 42 ∨ T p = 47 ∨ T p = 37 ∨ T p = 33) then (4, T p, 1) else (5, T p, 1)) : wJ (pe_GA xs) wY0 (mS [15, 16, 17, 75, 76, 77, 78, 79, 80]) (d + 6) t_XR_addSign ((pe_at t_XR_addSign.bl 12).getD (0, [])).2 [(0, (2, 14)), (1, (0, p)), (2, (0, T p)), (3, (0, u)), (4, (0, -1))] [] S (fun o Z => ∃ e : Int, o = .inl (some (0, e)) ∧ ht_ok 74 64 T n p S Z e) := by
  have hn := hB.2.2.1
  have hn1 := hB.2.2.2.1
  have hn2 := hB.2.2.2.2.1
  have hrm := rmR_rfl S
  have hTp := hB.2.2.2.2.2.2 p hp.1 hp.2
  have hr1 : 0 ≤ S 14 3 := hR.1.1
  have hr2 : S 14 3 ≤ 400000 := hb.2.2.2.2
  have htk : lx_tk T n 1 p = (lx_sf (T p) (lx_at T n (p + 1)) (lx_at T n (p + 2)) 1).1 := by unfold lx_tk; rw [if_neg (by omega), if_neg (by rw [hle]; decide), if_neg (by rw [hdi]; decide), if_neg h34]
  have hen : lx_en T n 1 p = p + (lx_sf (T p) (lx_at T n (p + 1)) (lx_at T n (p + 2)) 1).2.2 := by unfold lx_en; rw [if_neg (by omega), if_neg (by rw [hle]; decide), if_neg (by rw [hdi]; decide), if_neg h34]
  have hsi : lx_si T n 1 p = (lx_sf (T p) (lx_at T n (p + 1)) (lx_at T n (p + 2)) 1).2.1 := rfl
  have hs := sgx_rg (T p)
  refine wa_ks ?_
  refine wa_iload_n (n := 2) rfl ?_
  refine wb_i2c_r (wb_i2c_id (by omega) (by omega)) ?_
  refine wb_si 49 rfl hx49 (by decide) rfl rfl (by omega) (by omega) (v := (sgx (T p))) (sgx_ok (by omega) (by omega)) ?_
  refine wa_istore (n := 5) rfl ?_
  refine wa_iload (n := 5) rfl ?_
  refine wa_ifge (w_rg0 (by omega) (by omega)) ⟨_, rfl⟩ (fun c1 => ?_) (fun c1 => ?_)
  · skip
    refine wa_aload_n (n := 0) rfl ?_
    refine wa_bipush (w_rg2 (by omega) (by omega)) ?_
    refine wa_iload (n := 5) rfl ?_
    refine wa_iadd ?_
    refine wa_iload_n (n := 1) rfl ?_
    refine wa_iconst ?_
    refine wa_cv 14 rfl (wy_pr rfl) wt_14 (M2 := mS [15, 16, 17]) rfl at_XR_add ⟨_, rfl⟩ rfl rfl ⟨trivial, (Or.inr ⟨wy_pr rfl, mS_no rfl⟩), trivial, trivial, trivial, trivial, trivial⟩ trivial (fun _ _ q => mS_sub (by decide) q) (ad_ok (S := S) hI ⟨by omega, by omega⟩ ⟨by omega, by omega⟩ ⟨by omega, by omega⟩ hR) (fun oq4 Sq4 hp5 q4 => ?_)
    rcases q4 with ⟨rfl, ad2⟩
    show wJ _ _ _ _ _ _ _ _ _ _
    generalize Sq4 = Z3 at ad2 ⊢
    refine wa_iload_n (n := 1) rfl ?_
    refine wa_iconst ?_
    refine wa_iadd ?_
    refine wa_ireturn rfl ?_
    obtain ⟨hk1, hk2⟩ := sgx_in (T := T) (p := p) (by omega)
    rw [if_pos (hk2 (by omega))] at hsf
    refine ⟨p + 1, rfl, ht_ad (by decide) (by decide) (by decide) hW hL hR hb ?_ ?_ ?_ (by omega) ad2⟩
    · unfold kh; rw [hsi, htk, hsf]; exact hk1.symm
    · rw [htk, hen, hsf]; exact (if_neg (show ¬ (4 : Int) = 5 by decide)).symm
    · rw [htk, hsf]; exact (show (4 : Int) ≠ 1 by decide)
  · skip
    refine wa_aload_n (n := 0) rfl ?_
    refine wa_iload_n (n := 1) rfl ?_
    refine wa_cv 14 rfl (wy_pr rfl) wt_14 (M2 := mS [15, 16, 17]) rfl at_XR_addBad ⟨_, rfl⟩ rfl rfl ⟨trivial, (Or.inr ⟨wy_pr rfl, mS_no rfl⟩), trivial, trivial, trivial, trivial, trivial⟩ trivial (fun _ _ q => mS_sub (by decide) q) ?_ (fun _ _ _ q => q)
    refine wa_aload_n (n := 0) rfl ?_
    refine wa_iconst ?_
    refine wa_iload_n (n := 1) rfl ?_
    refine wa_iconst ?_
    refine wa_cv 14 rfl (wy_pr rfl) wt_14 (M2 := mS [15, 16, 17]) rfl at_XR_add ⟨_, rfl⟩ rfl rfl ⟨(Or.inr ⟨wy_pr rfl, mS_no rfl⟩), trivial, trivial⟩ trivial (fun _ _ q => mS_sub (by decide) q) (ad_ok (S := S) hI ⟨by omega, by omega⟩ ⟨by omega, by omega⟩ ⟨by omega, by omega⟩ hR) (fun oq8 Sq8 hp9 q8 => ?_)
    rcases q8 with ⟨rfl, ad6⟩
    show wJ _ _ _ _ _ _ _ _ _ _
    generalize Sq8 = Z7 at ad6 ⊢
    refine wa_aload_n (n := 0) rfl ?_
    refine wb_gfi 14 rfl (wy_pr rfl) wt_14 wf_6_6 (v := n) (((ad6.2.2.2.1 14 6 (by decide) (by decide) (by decide) (by decide) (by decide) (Or.inr (by decide))).trans (hB.2.1))) (fun r10 => ?_)
    refine wa_ireturn rfl ?_
    show wJ _ _ _ _ _ _ _ _ _ _
    refine wa_ireturn rfl ?_
    rw [if_neg (sgx_no (by omega))] at hsf
    refine ⟨n, rfl, ht_ad (by decide) (by decide) (by decide) hW hL hR hb ?_ ?_ ?_ (by omega) ad6⟩
    · unfold kh; rw [hsi, htk, hsf]; rfl
    · rw [htk, hen, hsf]; exact (if_pos rfl).symm
    · rw [htk, hsf]; exact (show (5 : Int) ≠ 1 by decide)
theorem as_74_ok (hx49 : pe_at (pe_GA xs).xs 49 = some (0, tx_49)) : as_74 xs := by
  intro d S T n p hB h7 h8 hI hW hL hR hb hp hle hdi h34
  have hn := hB.2.2.1
  have hn1 := hB.2.2.2.1
  have hn2 := hB.2.2.2.2.1
  have hrm := rmR_rfl S
  have hTp := hB.2.2.2.2.2.2 p hp.1 hp.2
  have hr1 : 0 ≤ S 14 3 := hR.1.1
  have hr2 : S 14 3 ≤ 400000 := hb.2.2.2.2
  have htk : lx_tk T n 1 p = (lx_sf (T p) (lx_at T n (p + 1)) (lx_at T n (p + 2)) 1).1 := by unfold lx_tk; rw [if_neg (by omega), if_neg (by rw [hle]; decide), if_neg (by rw [hdi]; decide), if_neg h34]
  have hen : lx_en T n 1 p = p + (lx_sf (T p) (lx_at T n (p + 1)) (lx_at T n (p + 2)) 1).2.2 := by unfold lx_en; rw [if_neg (by omega), if_neg (by rw [hle]; decide), if_neg (by rw [hdi]; decide), if_neg h34]
  have hsi : lx_si T n 1 p = (lx_sf (T p) (lx_at T n (p + 1)) (lx_at T n (p + 2)) 1).2.1 := rfl
  have ha1 := lx_at_rg (k := p + 1) hB (by omega)
  have ha2 := lx_at_rg (k := p + 2) hB (by omega)
  refine wa_aload_n (n := 0) rfl ?_
  refine wb_gf6 14 rfl (wy_pr rfl) wt_14 wf_6_5 (v := 1) (hB.1) (by decide) ?_
  refine wa_iload_n (n := 1) rfl ?_
  refine wb_bald 1 rfl (wy_pr rfl) wt_1 (n := (S 1 (-1))) rfl (by omega) (by omega) (v := (T p)) ((hB.2.2.2.2.2.1 p (by omega) (by omega))) (fun r1 => ?_)
  refine wa_istore_n (n := 2) rfl ?_
  refine wa_aload_n (n := 0) rfl ?_
  refine wa_iload_n (n := 1) rfl ?_
  refine wa_iconst ?_
  refine wa_iadd ?_
  refine wa_cv 14 rfl (wy_pr rfl) wt_14 (M2 := fun _ => False) rfl at_XR_signAt ⟨_, rfl⟩ rfl rfl ⟨trivial, (Or.inr ⟨wy_pr rfl, fun q => q⟩), trivial, trivial⟩ trivial (fun _ _ q => False.elim q) (sa_ok (S := S) hB ⟨by omega, by omega⟩) (fun oq2 Sq2 hp3 q2 => ?_)
  rcases q2 with ⟨rfl, rfl⟩
  show wJ _ _ _ _ _ _ _ _ _ _
  refine wa_istore_n (n := 3) rfl ?_
  refine wa_iconst ?_
  refine wa_istore (n := 4) rfl ?_
  refine wa_iload_n (n := 3) rfl ?_
  refine wa_bipush (w_rg2 (by omega) (by omega)) ?_
  refine wa_icmpne (w_rg0 (by omega) (by omega)) (w_rg0 (by omega) (by omega)) ⟨_, rfl⟩ (fun c4 => ?_) (fun c4 => ?_)
  · skip
    refine wa_iload_n (n := 2) rfl ?_
    refine wa_iload_n (n := 3) rfl ?_
    refine wa_icmpne (w_rg0 (by omega) (by omega)) (w_rg0 (by omega) (by omega)) ⟨_, rfl⟩ (fun c5 => ?_) (fun c5 => ?_)
    · skip
      refine wa_iload (n := 4) rfl ?_
      refine wa_iconst ?_
      refine wa_icmpeq (w_rg0 (by omega) (by omega)) (w_rg0 (by omega) (by omega)) ⟨_, rfl⟩ (fun c6 => ?_) (fun c6 => ?_)
      · skip
        refine wa_aload_n (n := 0) rfl ?_
        refine wb_gfz 14 rfl (wy_pr rfl) wt_14 wf_6_8 (v := 1) (h8) (fun r7 => ?_)
        refine wa_ifeq (w_rg0 (by omega) (by omega)) ⟨_, rfl⟩ (fun c8 => ?_) (fun c8 => ?_)
        · skip
          exact absurd c8 (by omega)
        · skip
          refine wa_iload_n (n := 2) rfl ?_
          refine wa_bipush (w_rg2 (by omega) (by omega)) ?_
          refine wa_icmpne (w_rg0 (by omega) (by omega)) (w_rg0 (by omega) (by omega)) ⟨_, rfl⟩ (fun c9 => ?_) (fun c9 => ?_)
          · skip
            exact wJ_S (as12_74 (u := lx_at T n (p + 1)) hx49 hB h7 h8 hI hW hL hR hb hp hle hdi h34 (by unfold lx_sf; rw [if_neg (by omega), if_neg (by omega), if_neg (by omega), if_neg (by omega), if_neg (by omega), if_neg (by omega), if_neg (by omega)])) ⟨rfl, rfl, rfl, rfl, rfl, trivial⟩
          · skip
            refine wa_iload_n (n := 3) rfl ?_
            refine wa_bipush (w_rg2 (by omega) (by omega)) ?_
            refine wa_icmpne (w_rg0 (by omega) (by omega)) (w_rg0 (by omega) (by omega)) ⟨_, rfl⟩ (fun c10 => ?_) (fun c10 => ?_)
            · skip
              exact wJ_S (as12_74 (u := lx_at T n (p + 1)) hx49 hB h7 h8 hI hW hL hR hb hp hle hdi h34 (by unfold lx_sf; rw [if_neg (by omega), if_neg (by omega), if_neg (by omega), if_neg (by omega), if_neg (by omega), if_neg (by omega), if_neg (by omega)])) ⟨rfl, rfl, rfl, rfl, rfl, trivial⟩
            · skip
              refine wa_aload_n (n := 0) rfl ?_
              refine wa_iload_n (n := 1) rfl ?_
              refine wa_iconst ?_
              refine wa_iadd ?_
              refine wa_cv 14 rfl (wy_pr rfl) wt_14 (M2 := fun _ => False) rfl at_XR_signAt ⟨_, rfl⟩ rfl rfl ⟨trivial, trivial, trivial, (Or.inr ⟨wy_pr rfl, fun q => q⟩), trivial, trivial⟩ trivial (fun _ _ q => False.elim q) (sa_ok (S := S) hB ⟨by omega, by omega⟩) (fun oq11 Sq11 hp12 q11 => ?_)
              rcases q11 with ⟨rfl, rfl⟩
              show wJ _ _ _ _ _ _ _ _ _ _
              refine wa_bipush (w_rg2 (by omega) (by omega)) ?_
              refine wa_icmpne (w_rg0 (by omega) (by omega)) (w_rg0 (by omega) (by omega)) ⟨_, rfl⟩ (fun c13 => ?_) (fun c13 => ?_)
              · skip
                exact wJ_S (as12_74 (u := lx_at T n (p + 1)) hx49 hB h7 h8 hI hW hL hR hb hp hle hdi h34 (by unfold lx_sf; rw [if_neg (by omega), if_neg (by omega), if_neg (by omega), if_neg (by omega), if_neg (by omega), if_neg (by omega), if_neg (by omega)])) ⟨rfl, rfl, rfl, rfl, rfl, trivial⟩
              · skip
                refine wa_aload_n (n := 0) rfl ?_
                refine wa_bipush (w_rg2 (by omega) (by omega)) ?_
                refine wa_iload_n (n := 1) rfl ?_
                refine wa_iconst ?_
                refine wa_cv 14 rfl (wy_pr rfl) wt_14 (M2 := mS [15, 16, 17]) rfl at_XR_add ⟨_, rfl⟩ rfl rfl ⟨trivial, trivial, trivial, (Or.inr ⟨wy_pr rfl, mS_no rfl⟩), trivial, trivial⟩ trivial (fun _ _ q => mS_sub (by decide) q) (ad_ok (S := S) hI ⟨by omega, by omega⟩ ⟨by omega, by omega⟩ ⟨by omega, by omega⟩ hR) (fun oq16 Sq16 hp17 q16 => ?_)
                rcases q16 with ⟨rfl, ad14⟩
                show wJ _ _ _ _ _ _ _ _ _ _
                generalize Sq16 = Z15 at ad14 ⊢
                refine wa_iload_n (n := 1) rfl ?_
                refine wa_iconst ?_
                refine wa_iadd ?_
                refine wa_ireturn rfl ?_
                have hsf : lx_sf (T p) (lx_at T n (p + 1)) (lx_at T n (p + 2)) 1 = (4, 262, 3) := by unfold lx_sf; rw [if_neg (by omega), if_neg (by omega), if_neg (by omega), if_neg (by omega), if_neg (by omega), if_neg (by omega), if_pos (by omega)]
                refine ⟨p + 3, rfl, ht_ad (by decide) (by decide) (by decide) hW hL hR hb ?_ ?_ ?_ (by omega) ad14⟩
                · unfold kh; rw [hsi, htk, hsf]; rfl
                · rw [htk, hen, hsf]; exact (if_neg (show ¬ (4 : Int) = 5 by decide)).symm
                · rw [htk, hsf]; exact (show (4 : Int) ≠ 1 by decide)
      · skip
        exact absurd c6 (by omega)
    · skip
      refine wa_iload_n (n := 2) rfl ?_
      refine wa_bipush (w_rg2 (by omega) (by omega)) ?_
      refine wa_icmpeq (w_rg0 (by omega) (by omega)) (w_rg0 (by omega) (by omega)) ⟨_, rfl⟩ (fun c18 => ?_) (fun c18 => ?_)
      · skip
        refine wa_iload_n (n := 2) rfl ?_
        refine wa_bipush (w_rg2 (by omega) (by omega)) ?_
        refine wa_icmpne (w_rg0 (by omega) (by omega)) (w_rg0 (by omega) (by omega)) ⟨_, rfl⟩ (fun c19 => ?_) (fun c19 => ?_)
        · skip
          exact absurd c19 (by omega)
        · skip
          refine wa_bipush (w_rg2 (by omega) (by omega)) ?_
          refine wa_goto ⟨_, rfl⟩ ?_
          refine wa_istore (n := 4) rfl ?_
          refine wa_fall ⟨_, rfl⟩ ?_
          refine wa_iload (n := 4) rfl ?_
          refine wa_iconst ?_
          refine wa_icmpeq (w_rg0 (by omega) (by omega)) (w_rg0 (by omega) (by omega)) ⟨_, rfl⟩ (fun c20 => ?_) (fun c20 => ?_)
          · skip
            exact absurd c20 (by omega)
          · skip
            refine wa_aload_n (n := 0) rfl ?_
            refine wa_iload (n := 4) rfl ?_
            refine wa_iload_n (n := 1) rfl ?_
            refine wa_iconst ?_
            refine wa_cv 14 rfl (wy_pr rfl) wt_14 (M2 := mS [15, 16, 17]) rfl at_XR_add ⟨_, rfl⟩ rfl rfl ⟨trivial, trivial, trivial, (Or.inr ⟨wy_pr rfl, mS_no rfl⟩), trivial, trivial⟩ trivial (fun _ _ q => mS_sub (by decide) q) (ad_ok (S := S) hI ⟨by omega, by omega⟩ ⟨by omega, by omega⟩ ⟨by omega, by omega⟩ hR) (fun oq23 Sq23 hp24 q23 => ?_)
            rcases q23 with ⟨rfl, ad21⟩
            show wJ _ _ _ _ _ _ _ _ _ _
            generalize Sq23 = Z22 at ad21 ⊢
            refine wa_iload_n (n := 1) rfl ?_
            refine wa_iconst ?_
            refine wa_iadd ?_
            refine wa_ireturn rfl ?_
            have hsf : lx_sf (T p) (lx_at T n (p + 1)) (lx_at T n (p + 2)) 1 = (4, 260, 2) := by unfold lx_sf; rw [if_neg (by omega), if_neg (by omega), if_neg (by omega), if_neg (by omega), if_pos (by omega)]
            refine ⟨p + 2, rfl, ht_ad (by decide) (by decide) (by decide) hW hL hR hb ?_ ?_ ?_ (by omega) ad21⟩
            · unfold kh; rw [hsi, htk, hsf]; rfl
            · rw [htk, hen, hsf]; exact (if_neg (show ¬ (4 : Int) = 5 by decide)).symm
            · rw [htk, hsf]; exact (show (4 : Int) ≠ 1 by decide)
      · skip
        refine wa_iload_n (n := 2) rfl ?_
        refine wa_bipush (w_rg2 (by omega) (by omega)) ?_
        refine wa_icmpne (w_rg0 (by omega) (by omega)) (w_rg0 (by omega) (by omega)) ⟨_, rfl⟩ (fun c25 => ?_) (fun c25 => ?_)
        · skip
          refine wa_iload (n := 4) rfl ?_
          refine wa_iconst ?_
          refine wa_icmpeq (w_rg0 (by omega) (by omega)) (w_rg0 (by omega) (by omega)) ⟨_, rfl⟩ (fun c26 => ?_) (fun c26 => ?_)
          · skip
            refine wa_aload_n (n := 0) rfl ?_
            refine wb_gfz 14 rfl (wy_pr rfl) wt_14 wf_6_8 (v := 1) (h8) (fun r27 => ?_)
            refine wa_ifeq (w_rg0 (by omega) (by omega)) ⟨_, rfl⟩ (fun c28 => ?_) (fun c28 => ?_)
            · skip
              exact absurd c28 (by omega)
            · skip
              refine wa_iload_n (n := 2) rfl ?_
              refine wa_bipush (w_rg2 (by omega) (by omega)) ?_
              refine wa_icmpne (w_rg0 (by omega) (by omega)) (w_rg0 (by omega) (by omega)) ⟨_, rfl⟩ (fun c29 => ?_) (fun c29 => ?_)
              · skip
                exact wJ_S (as12_74 (u := lx_at T n (p + 1)) hx49 hB h7 h8 hI hW hL hR hb hp hle hdi h34 (by unfold lx_sf; rw [if_neg (by omega), if_neg (by omega), if_neg (by omega), if_neg (by omega), if_neg (by omega), if_neg (by omega), if_neg (by omega)])) ⟨rfl, rfl, rfl, rfl, rfl, trivial⟩
              · skip
                refine wa_iload_n (n := 3) rfl ?_
                refine wa_bipush (w_rg2 (by omega) (by omega)) ?_
                refine wa_icmpne (w_rg0 (by omega) (by omega)) (w_rg0 (by omega) (by omega)) ⟨_, rfl⟩ (fun c30 => ?_) (fun c30 => ?_)
                · skip
                  exact wJ_S (as12_74 (u := lx_at T n (p + 1)) hx49 hB h7 h8 hI hW hL hR hb hp hle hdi h34 (by unfold lx_sf; rw [if_neg (by omega), if_neg (by omega), if_neg (by omega), if_neg (by omega), if_neg (by omega), if_neg (by omega), if_neg (by omega)])) ⟨rfl, rfl, rfl, rfl, rfl, trivial⟩
                · skip
                  refine wa_aload_n (n := 0) rfl ?_
                  refine wa_iload_n (n := 1) rfl ?_
                  refine wa_iconst ?_
                  refine wa_iadd ?_
                  refine wa_cv 14 rfl (wy_pr rfl) wt_14 (M2 := fun _ => False) rfl at_XR_signAt ⟨_, rfl⟩ rfl rfl ⟨trivial, trivial, trivial, (Or.inr ⟨wy_pr rfl, fun q => q⟩), trivial, trivial⟩ trivial (fun _ _ q => False.elim q) (sa_ok (S := S) hB ⟨by omega, by omega⟩) (fun oq31 Sq31 hp32 q31 => ?_)
                  rcases q31 with ⟨rfl, rfl⟩
                  show wJ _ _ _ _ _ _ _ _ _ _
                  refine wa_bipush (w_rg2 (by omega) (by omega)) ?_
                  refine wa_icmpne (w_rg0 (by omega) (by omega)) (w_rg0 (by omega) (by omega)) ⟨_, rfl⟩ (fun c33 => ?_) (fun c33 => ?_)
                  · skip
                    exact wJ_S (as12_74 (u := lx_at T n (p + 1)) hx49 hB h7 h8 hI hW hL hR hb hp hle hdi h34 (by unfold lx_sf; rw [if_neg (by omega), if_neg (by omega), if_neg (by omega), if_neg (by omega), if_neg (by omega), if_neg (by omega), if_neg (by omega)])) ⟨rfl, rfl, rfl, rfl, rfl, trivial⟩
                  · skip
                    refine wa_aload_n (n := 0) rfl ?_
                    refine wa_bipush (w_rg2 (by omega) (by omega)) ?_
                    refine wa_iload_n (n := 1) rfl ?_
                    refine wa_iconst ?_
                    refine wa_cv 14 rfl (wy_pr rfl) wt_14 (M2 := mS [15, 16, 17]) rfl at_XR_add ⟨_, rfl⟩ rfl rfl ⟨trivial, trivial, trivial, (Or.inr ⟨wy_pr rfl, mS_no rfl⟩), trivial, trivial⟩ trivial (fun _ _ q => mS_sub (by decide) q) (ad_ok (S := S) hI ⟨by omega, by omega⟩ ⟨by omega, by omega⟩ ⟨by omega, by omega⟩ hR) (fun oq36 Sq36 hp37 q36 => ?_)
                    rcases q36 with ⟨rfl, ad34⟩
                    show wJ _ _ _ _ _ _ _ _ _ _
                    generalize Sq36 = Z35 at ad34 ⊢
                    refine wa_iload_n (n := 1) rfl ?_
                    refine wa_iconst ?_
                    refine wa_iadd ?_
                    refine wa_ireturn rfl ?_
                    have hsf : lx_sf (T p) (lx_at T n (p + 1)) (lx_at T n (p + 2)) 1 = (4, 262, 3) := by unfold lx_sf; rw [if_neg (by omega), if_neg (by omega), if_neg (by omega), if_neg (by omega), if_neg (by omega), if_neg (by omega), if_pos (by omega)]
                    refine ⟨p + 3, rfl, ht_ad (by decide) (by decide) (by decide) hW hL hR hb ?_ ?_ ?_ (by omega) ad34⟩
                    · unfold kh; rw [hsi, htk, hsf]; rfl
                    · rw [htk, hen, hsf]; exact (if_neg (show ¬ (4 : Int) = 5 by decide)).symm
                    · rw [htk, hsf]; exact (show (4 : Int) ≠ 1 by decide)
          · skip
            exact absurd c26 (by omega)
        · skip
          refine wa_fall ⟨_, rfl⟩ ?_
          refine wa_iload_n (n := 2) rfl ?_
          refine wa_bipush (w_rg2 (by omega) (by omega)) ?_
          refine wa_icmpne (w_rg0 (by omega) (by omega)) (w_rg0 (by omega) (by omega)) ⟨_, rfl⟩ (fun c38 => ?_) (fun c38 => ?_)
          · skip
            refine wa_bipush (w_rg2 (by omega) (by omega)) ?_
            refine wa_fall ⟨_, rfl⟩ ?_
            refine wa_istore (n := 4) rfl ?_
            refine wa_fall ⟨_, rfl⟩ ?_
            refine wa_iload (n := 4) rfl ?_
            refine wa_iconst ?_
            refine wa_icmpeq (w_rg0 (by omega) (by omega)) (w_rg0 (by omega) (by omega)) ⟨_, rfl⟩ (fun c39 => ?_) (fun c39 => ?_)
            · skip
              exact absurd c39 (by omega)
            · skip
              refine wa_aload_n (n := 0) rfl ?_
              refine wa_iload (n := 4) rfl ?_
              refine wa_iload_n (n := 1) rfl ?_
              refine wa_iconst ?_
              refine wa_cv 14 rfl (wy_pr rfl) wt_14 (M2 := mS [15, 16, 17]) rfl at_XR_add ⟨_, rfl⟩ rfl rfl ⟨trivial, trivial, trivial, (Or.inr ⟨wy_pr rfl, mS_no rfl⟩), trivial, trivial⟩ trivial (fun _ _ q => mS_sub (by decide) q) (ad_ok (S := S) hI ⟨by omega, by omega⟩ ⟨by omega, by omega⟩ ⟨by omega, by omega⟩ hR) (fun oq42 Sq42 hp43 q42 => ?_)
              rcases q42 with ⟨rfl, ad40⟩
              show wJ _ _ _ _ _ _ _ _ _ _
              generalize Sq42 = Z41 at ad40 ⊢
              refine wa_iload_n (n := 1) rfl ?_
              refine wa_iconst ?_
              refine wa_iadd ?_
              refine wa_ireturn rfl ?_
              have hsf : lx_sf (T p) (lx_at T n (p + 1)) (lx_at T n (p + 2)) 1 = (4, 261, 2) := by unfold lx_sf; rw [if_neg (by omega), if_neg (by omega), if_neg (by omega), if_neg (by omega), if_neg (by omega), if_pos (by omega)]
              refine ⟨p + 2, rfl, ht_ad (by decide) (by decide) (by decide) hW hL hR hb ?_ ?_ ?_ (by omega) ad40⟩
              · unfold kh; rw [hsi, htk, hsf]; rfl
              · rw [htk, hen, hsf]; exact (if_neg (show ¬ (4 : Int) = 5 by decide)).symm
              · rw [htk, hsf]; exact (show (4 : Int) ≠ 1 by decide)
          · skip
            exact absurd c38 (by omega)
  · skip
    refine wa_iload_n (n := 2) rfl ?_
    refine wa_bipush (w_rg2 (by omega) (by omega)) ?_
    refine wa_icmpeq (w_rg0 (by omega) (by omega)) (w_rg0 (by omega) (by omega)) ⟨_, rfl⟩ (fun c44 => ?_) (fun c44 => ?_)
    · skip
      refine wa_iload_n (n := 2) rfl ?_
      refine wa_bipush (w_rg2 (by omega) (by omega)) ?_
      refine wa_icmpne (w_rg0 (by omega) (by omega)) (w_rg0 (by omega) (by omega)) ⟨_, rfl⟩ (fun c45 => ?_) (fun c45 => ?_)
      · skip
        exact absurd c45 (by omega)
      · skip
        refine wa_bipush (w_rg2 (by omega) (by omega)) ?_
        refine wa_goto ⟨_, rfl⟩ ?_
        refine wa_istore (n := 4) rfl ?_
        refine wa_goto ⟨_, rfl⟩ ?_
        refine wa_iload (n := 4) rfl ?_
        refine wa_iconst ?_
        refine wa_icmpeq (w_rg0 (by omega) (by omega)) (w_rg0 (by omega) (by omega)) ⟨_, rfl⟩ (fun c46 => ?_) (fun c46 => ?_)
        · skip
          exact absurd c46 (by omega)
        · skip
          refine wa_aload_n (n := 0) rfl ?_
          refine wa_iload (n := 4) rfl ?_
          refine wa_iload_n (n := 1) rfl ?_
          refine wa_iconst ?_
          refine wa_cv 14 rfl (wy_pr rfl) wt_14 (M2 := mS [15, 16, 17]) rfl at_XR_add ⟨_, rfl⟩ rfl rfl ⟨trivial, trivial, trivial, (Or.inr ⟨wy_pr rfl, mS_no rfl⟩), trivial, trivial⟩ trivial (fun _ _ q => mS_sub (by decide) q) (ad_ok (S := S) hI ⟨by omega, by omega⟩ ⟨by omega, by omega⟩ ⟨by omega, by omega⟩ hR) (fun oq49 Sq49 hp50 q49 => ?_)
          rcases q49 with ⟨rfl, ad47⟩
          show wJ _ _ _ _ _ _ _ _ _ _
          generalize Sq49 = Z48 at ad47 ⊢
          refine wa_iload_n (n := 1) rfl ?_
          refine wa_iconst ?_
          refine wa_iadd ?_
          refine wa_ireturn rfl ?_
          have hsf : lx_sf (T p) (lx_at T n (p + 1)) (lx_at T n (p + 2)) 1 = (4, 256, 2) := by unfold lx_sf; rw [if_pos (by omega)]
          refine ⟨p + 2, rfl, ht_ad (by decide) (by decide) (by decide) hW hL hR hb ?_ ?_ ?_ (by omega) ad47⟩
          · unfold kh; rw [hsi, htk, hsf]; rfl
          · rw [htk, hen, hsf]; exact (if_neg (show ¬ (4 : Int) = 5 by decide)).symm
          · rw [htk, hsf]; exact (show (4 : Int) ≠ 1 by decide)
    · skip
      refine wa_iload_n (n := 2) rfl ?_
      refine wa_bipush (w_rg2 (by omega) (by omega)) ?_
      refine wa_icmpeq (w_rg0 (by omega) (by omega)) (w_rg0 (by omega) (by omega)) ⟨_, rfl⟩ (fun c51 => ?_) (fun c51 => ?_)
      · skip
        refine wa_iload_n (n := 2) rfl ?_
        refine wa_bipush (w_rg2 (by omega) (by omega)) ?_
        refine wa_icmpne (w_rg0 (by omega) (by omega)) (w_rg0 (by omega) (by omega)) ⟨_, rfl⟩ (fun c52 => ?_) (fun c52 => ?_)
        · skip
          refine wa_iload_n (n := 2) rfl ?_
          refine wa_bipush (w_rg2 (by omega) (by omega)) ?_
          refine wa_icmpne (w_rg0 (by omega) (by omega)) (w_rg0 (by omega) (by omega)) ⟨_, rfl⟩ (fun c53 => ?_) (fun c53 => ?_)
          · skip
            exact absurd c53 (by omega)
          · skip
            refine wa_bipush (w_rg2 (by omega) (by omega)) ?_
            refine wa_goto ⟨_, rfl⟩ ?_
            refine wa_istore (n := 4) rfl ?_
            refine wa_goto ⟨_, rfl⟩ ?_
            refine wa_iload (n := 4) rfl ?_
            refine wa_iconst ?_
            refine wa_icmpeq (w_rg0 (by omega) (by omega)) (w_rg0 (by omega) (by omega)) ⟨_, rfl⟩ (fun c54 => ?_) (fun c54 => ?_)
            · skip
              exact absurd c54 (by omega)
            · skip
              refine wa_aload_n (n := 0) rfl ?_
              refine wa_iload (n := 4) rfl ?_
              refine wa_iload_n (n := 1) rfl ?_
              refine wa_iconst ?_
              refine wa_cv 14 rfl (wy_pr rfl) wt_14 (M2 := mS [15, 16, 17]) rfl at_XR_add ⟨_, rfl⟩ rfl rfl ⟨trivial, trivial, trivial, (Or.inr ⟨wy_pr rfl, mS_no rfl⟩), trivial, trivial⟩ trivial (fun _ _ q => mS_sub (by decide) q) (ad_ok (S := S) hI ⟨by omega, by omega⟩ ⟨by omega, by omega⟩ ⟨by omega, by omega⟩ hR) (fun oq57 Sq57 hp58 q57 => ?_)
              rcases q57 with ⟨rfl, ad55⟩
              show wJ _ _ _ _ _ _ _ _ _ _
              generalize Sq57 = Z56 at ad55 ⊢
              refine wa_iload_n (n := 1) rfl ?_
              refine wa_iconst ?_
              refine wa_iadd ?_
              refine wa_ireturn rfl ?_
              have hsf : lx_sf (T p) (lx_at T n (p + 1)) (lx_at T n (p + 2)) 1 = (4, 257, 2) := by unfold lx_sf; rw [if_neg (by omega), if_pos (by omega)]
              refine ⟨p + 2, rfl, ht_ad (by decide) (by decide) (by decide) hW hL hR hb ?_ ?_ ?_ (by omega) ad55⟩
              · unfold kh; rw [hsi, htk, hsf]; rfl
              · rw [htk, hen, hsf]; exact (if_neg (show ¬ (4 : Int) = 5 by decide)).symm
              · rw [htk, hsf]; exact (show (4 : Int) ≠ 1 by decide)
        · skip
          exact absurd c52 (by omega)
      · skip
        refine wa_iload_n (n := 2) rfl ?_
        refine wa_bipush (w_rg2 (by omega) (by omega)) ?_
        refine wa_icmpeq (w_rg0 (by omega) (by omega)) (w_rg0 (by omega) (by omega)) ⟨_, rfl⟩ (fun c59 => ?_) (fun c59 => ?_)
        · skip
          refine wa_iload_n (n := 2) rfl ?_
          refine wa_bipush (w_rg2 (by omega) (by omega)) ?_
          refine wa_icmpne (w_rg0 (by omega) (by omega)) (w_rg0 (by omega) (by omega)) ⟨_, rfl⟩ (fun c60 => ?_) (fun c60 => ?_)
          · skip
            refine wa_iload_n (n := 2) rfl ?_
            refine wa_bipush (w_rg2 (by omega) (by omega)) ?_
            refine wa_icmpne (w_rg0 (by omega) (by omega)) (w_rg0 (by omega) (by omega)) ⟨_, rfl⟩ (fun c61 => ?_) (fun c61 => ?_)
            · skip
              refine wa_iload_n (n := 2) rfl ?_
              refine wa_bipush (w_rg2 (by omega) (by omega)) ?_
              refine wa_icmpne (w_rg0 (by omega) (by omega)) (w_rg0 (by omega) (by omega)) ⟨_, rfl⟩ (fun c62 => ?_) (fun c62 => ?_)
              · skip
                exact absurd c62 (by omega)
              · skip
                refine wa_bipush (w_rg2 (by omega) (by omega)) ?_
                refine wa_goto ⟨_, rfl⟩ ?_
                refine wa_istore (n := 4) rfl ?_
                refine wa_goto ⟨_, rfl⟩ ?_
                refine wa_iload (n := 4) rfl ?_
                refine wa_iconst ?_
                refine wa_icmpeq (w_rg0 (by omega) (by omega)) (w_rg0 (by omega) (by omega)) ⟨_, rfl⟩ (fun c63 => ?_) (fun c63 => ?_)
                · skip
                  exact absurd c63 (by omega)
                · skip
                  refine wa_aload_n (n := 0) rfl ?_
                  refine wa_iload (n := 4) rfl ?_
                  refine wa_iload_n (n := 1) rfl ?_
                  refine wa_iconst ?_
                  refine wa_cv 14 rfl (wy_pr rfl) wt_14 (M2 := mS [15, 16, 17]) rfl at_XR_add ⟨_, rfl⟩ rfl rfl ⟨trivial, trivial, trivial, (Or.inr ⟨wy_pr rfl, mS_no rfl⟩), trivial, trivial⟩ trivial (fun _ _ q => mS_sub (by decide) q) (ad_ok (S := S) hI ⟨by omega, by omega⟩ ⟨by omega, by omega⟩ ⟨by omega, by omega⟩ hR) (fun oq66 Sq66 hp67 q66 => ?_)
                  rcases q66 with ⟨rfl, ad64⟩
                  show wJ _ _ _ _ _ _ _ _ _ _
                  generalize Sq66 = Z65 at ad64 ⊢
                  refine wa_iload_n (n := 1) rfl ?_
                  refine wa_iconst ?_
                  refine wa_iadd ?_
                  refine wa_ireturn rfl ?_
                  have hsf : lx_sf (T p) (lx_at T n (p + 1)) (lx_at T n (p + 2)) 1 = (4, 258, 2) := by unfold lx_sf; rw [if_neg (by omega), if_neg (by omega), if_pos (by omega)]
                  refine ⟨p + 2, rfl, ht_ad (by decide) (by decide) (by decide) hW hL hR hb ?_ ?_ ?_ (by omega) ad64⟩
                  · unfold kh; rw [hsi, htk, hsf]; rfl
                  · rw [htk, hen, hsf]; exact (if_neg (show ¬ (4 : Int) = 5 by decide)).symm
                  · rw [htk, hsf]; exact (show (4 : Int) ≠ 1 by decide)
            · skip
              exact absurd c61 (by omega)
          · skip
            exact absurd c60 (by omega)
        · skip
          refine wa_iload_n (n := 2) rfl ?_
          refine wa_bipush (w_rg2 (by omega) (by omega)) ?_
          refine wa_icmpne (w_rg0 (by omega) (by omega)) (w_rg0 (by omega) (by omega)) ⟨_, rfl⟩ (fun c68 => ?_) (fun c68 => ?_)
          · skip
            refine wa_iload_n (n := 2) rfl ?_
            refine wa_iload_n (n := 3) rfl ?_
            refine wa_icmpne (w_rg0 (by omega) (by omega)) (w_rg0 (by omega) (by omega)) ⟨_, rfl⟩ (fun c69 => ?_) (fun c69 => ?_)
            · skip
              refine wa_iload (n := 4) rfl ?_
              refine wa_iconst ?_
              refine wa_icmpeq (w_rg0 (by omega) (by omega)) (w_rg0 (by omega) (by omega)) ⟨_, rfl⟩ (fun c70 => ?_) (fun c70 => ?_)
              · skip
                refine wa_aload_n (n := 0) rfl ?_
                refine wb_gfz 14 rfl (wy_pr rfl) wt_14 wf_6_8 (v := 1) (h8) (fun r71 => ?_)
                refine wa_ifeq (w_rg0 (by omega) (by omega)) ⟨_, rfl⟩ (fun c72 => ?_) (fun c72 => ?_)
                · skip
                  exact absurd c72 (by omega)
                · skip
                  refine wa_iload_n (n := 2) rfl ?_
                  refine wa_bipush (w_rg2 (by omega) (by omega)) ?_
                  refine wa_icmpne (w_rg0 (by omega) (by omega)) (w_rg0 (by omega) (by omega)) ⟨_, rfl⟩ (fun c73 => ?_) (fun c73 => ?_)
                  · skip
                    exact wJ_S (as12_74 (u := lx_at T n (p + 1)) hx49 hB h7 h8 hI hW hL hR hb hp hle hdi h34 (by unfold lx_sf; rw [if_neg (by omega), if_neg (by omega), if_neg (by omega), if_neg (by omega), if_neg (by omega), if_neg (by omega), if_neg (by omega)])) ⟨rfl, rfl, rfl, rfl, rfl, trivial⟩
                  · skip
                    refine wa_iload_n (n := 3) rfl ?_
                    refine wa_bipush (w_rg2 (by omega) (by omega)) ?_
                    refine wa_icmpne (w_rg0 (by omega) (by omega)) (w_rg0 (by omega) (by omega)) ⟨_, rfl⟩ (fun c74 => ?_) (fun c74 => ?_)
                    · skip
                      exact wJ_S (as12_74 (u := lx_at T n (p + 1)) hx49 hB h7 h8 hI hW hL hR hb hp hle hdi h34 (by unfold lx_sf; rw [if_neg (by omega), if_neg (by omega), if_neg (by omega), if_neg (by omega), if_neg (by omega), if_neg (by omega), if_neg (by omega)])) ⟨rfl, rfl, rfl, rfl, rfl, trivial⟩
                    · skip
                      exact absurd c74 (by omega)
              · skip
                exact absurd c70 (by omega)
            · skip
              refine wa_iload_n (n := 2) rfl ?_
              refine wa_bipush (w_rg2 (by omega) (by omega)) ?_
              refine wa_icmpeq (w_rg0 (by omega) (by omega)) (w_rg0 (by omega) (by omega)) ⟨_, rfl⟩ (fun c75 => ?_) (fun c75 => ?_)
              · skip
                refine wa_iload_n (n := 2) rfl ?_
                refine wa_bipush (w_rg2 (by omega) (by omega)) ?_
                refine wa_icmpne (w_rg0 (by omega) (by omega)) (w_rg0 (by omega) (by omega)) ⟨_, rfl⟩ (fun c76 => ?_) (fun c76 => ?_)
                · skip
                  exact absurd c76 (by omega)
                · skip
                  refine wa_bipush (w_rg2 (by omega) (by omega)) ?_
                  refine wa_goto ⟨_, rfl⟩ ?_
                  refine wa_istore (n := 4) rfl ?_
                  refine wa_fall ⟨_, rfl⟩ ?_
                  refine wa_iload (n := 4) rfl ?_
                  refine wa_iconst ?_
                  refine wa_icmpeq (w_rg0 (by omega) (by omega)) (w_rg0 (by omega) (by omega)) ⟨_, rfl⟩ (fun c77 => ?_) (fun c77 => ?_)
                  · skip
                    exact absurd c77 (by omega)
                  · skip
                    refine wa_aload_n (n := 0) rfl ?_
                    refine wa_iload (n := 4) rfl ?_
                    refine wa_iload_n (n := 1) rfl ?_
                    refine wa_iconst ?_
                    refine wa_cv 14 rfl (wy_pr rfl) wt_14 (M2 := mS [15, 16, 17]) rfl at_XR_add ⟨_, rfl⟩ rfl rfl ⟨trivial, trivial, trivial, (Or.inr ⟨wy_pr rfl, mS_no rfl⟩), trivial, trivial⟩ trivial (fun _ _ q => mS_sub (by decide) q) (ad_ok (S := S) hI ⟨by omega, by omega⟩ ⟨by omega, by omega⟩ ⟨by omega, by omega⟩ hR) (fun oq80 Sq80 hp81 q80 => ?_)
                    rcases q80 with ⟨rfl, ad78⟩
                    show wJ _ _ _ _ _ _ _ _ _ _
                    generalize Sq80 = Z79 at ad78 ⊢
                    refine wa_iload_n (n := 1) rfl ?_
                    refine wa_iconst ?_
                    refine wa_iadd ?_
                    refine wa_ireturn rfl ?_
                    have hsf : lx_sf (T p) (lx_at T n (p + 1)) (lx_at T n (p + 2)) 1 = (4, 260, 2) := by unfold lx_sf; rw [if_neg (by omega), if_neg (by omega), if_neg (by omega), if_neg (by omega), if_pos (by omega)]
                    refine ⟨p + 2, rfl, ht_ad (by decide) (by decide) (by decide) hW hL hR hb ?_ ?_ ?_ (by omega) ad78⟩
                    · unfold kh; rw [hsi, htk, hsf]; rfl
                    · rw [htk, hen, hsf]; exact (if_neg (show ¬ (4 : Int) = 5 by decide)).symm
                    · rw [htk, hsf]; exact (show (4 : Int) ≠ 1 by decide)
              · skip
                refine wa_iload_n (n := 2) rfl ?_
                refine wa_bipush (w_rg2 (by omega) (by omega)) ?_
                refine wa_icmpne (w_rg0 (by omega) (by omega)) (w_rg0 (by omega) (by omega)) ⟨_, rfl⟩ (fun c82 => ?_) (fun c82 => ?_)
                · skip
                  refine wa_iload (n := 4) rfl ?_
                  refine wa_iconst ?_
                  refine wa_icmpeq (w_rg0 (by omega) (by omega)) (w_rg0 (by omega) (by omega)) ⟨_, rfl⟩ (fun c83 => ?_) (fun c83 => ?_)
                  · skip
                    refine wa_aload_n (n := 0) rfl ?_
                    refine wb_gfz 14 rfl (wy_pr rfl) wt_14 wf_6_8 (v := 1) (h8) (fun r84 => ?_)
                    refine wa_ifeq (w_rg0 (by omega) (by omega)) ⟨_, rfl⟩ (fun c85 => ?_) (fun c85 => ?_)
                    · skip
                      exact absurd c85 (by omega)
                    · skip
                      refine wa_iload_n (n := 2) rfl ?_
                      refine wa_bipush (w_rg2 (by omega) (by omega)) ?_
                      refine wa_icmpne (w_rg0 (by omega) (by omega)) (w_rg0 (by omega) (by omega)) ⟨_, rfl⟩ (fun c86 => ?_) (fun c86 => ?_)
                      · skip
                        exact wJ_S (as12_74 (u := lx_at T n (p + 1)) hx49 hB h7 h8 hI hW hL hR hb hp hle hdi h34 (by unfold lx_sf; rw [if_neg (by omega), if_neg (by omega), if_neg (by omega), if_neg (by omega), if_neg (by omega), if_neg (by omega), if_neg (by omega)])) ⟨rfl, rfl, rfl, rfl, rfl, trivial⟩
                      · skip
                        refine wa_iload_n (n := 3) rfl ?_
                        refine wa_bipush (w_rg2 (by omega) (by omega)) ?_
                        refine wa_icmpne (w_rg0 (by omega) (by omega)) (w_rg0 (by omega) (by omega)) ⟨_, rfl⟩ (fun c87 => ?_) (fun c87 => ?_)
                        · skip
                          exact wJ_S (as12_74 (u := lx_at T n (p + 1)) hx49 hB h7 h8 hI hW hL hR hb hp hle hdi h34 (by unfold lx_sf; rw [if_neg (by omega), if_neg (by omega), if_neg (by omega), if_neg (by omega), if_neg (by omega), if_neg (by omega), if_neg (by omega)])) ⟨rfl, rfl, rfl, rfl, rfl, trivial⟩
                        · skip
                          exact absurd c87 (by omega)
                  · skip
                    exact absurd c83 (by omega)
                · skip
                  refine wa_fall ⟨_, rfl⟩ ?_
                  refine wa_iload_n (n := 2) rfl ?_
                  refine wa_bipush (w_rg2 (by omega) (by omega)) ?_
                  refine wa_icmpne (w_rg0 (by omega) (by omega)) (w_rg0 (by omega) (by omega)) ⟨_, rfl⟩ (fun c88 => ?_) (fun c88 => ?_)
                  · skip
                    refine wa_bipush (w_rg2 (by omega) (by omega)) ?_
                    refine wa_fall ⟨_, rfl⟩ ?_
                    refine wa_istore (n := 4) rfl ?_
                    refine wa_fall ⟨_, rfl⟩ ?_
                    refine wa_iload (n := 4) rfl ?_
                    refine wa_iconst ?_
                    refine wa_icmpeq (w_rg0 (by omega) (by omega)) (w_rg0 (by omega) (by omega)) ⟨_, rfl⟩ (fun c89 => ?_) (fun c89 => ?_)
                    · skip
                      exact absurd c89 (by omega)
                    · skip
                      refine wa_aload_n (n := 0) rfl ?_
                      refine wa_iload (n := 4) rfl ?_
                      refine wa_iload_n (n := 1) rfl ?_
                      refine wa_iconst ?_
                      refine wa_cv 14 rfl (wy_pr rfl) wt_14 (M2 := mS [15, 16, 17]) rfl at_XR_add ⟨_, rfl⟩ rfl rfl ⟨trivial, trivial, trivial, (Or.inr ⟨wy_pr rfl, mS_no rfl⟩), trivial, trivial⟩ trivial (fun _ _ q => mS_sub (by decide) q) (ad_ok (S := S) hI ⟨by omega, by omega⟩ ⟨by omega, by omega⟩ ⟨by omega, by omega⟩ hR) (fun oq92 Sq92 hp93 q92 => ?_)
                      rcases q92 with ⟨rfl, ad90⟩
                      show wJ _ _ _ _ _ _ _ _ _ _
                      generalize Sq92 = Z91 at ad90 ⊢
                      refine wa_iload_n (n := 1) rfl ?_
                      refine wa_iconst ?_
                      refine wa_iadd ?_
                      refine wa_ireturn rfl ?_
                      have hsf : lx_sf (T p) (lx_at T n (p + 1)) (lx_at T n (p + 2)) 1 = (4, 261, 2) := by unfold lx_sf; rw [if_neg (by omega), if_neg (by omega), if_neg (by omega), if_neg (by omega), if_neg (by omega), if_pos (by omega)]
                      refine ⟨p + 2, rfl, ht_ad (by decide) (by decide) (by decide) hW hL hR hb ?_ ?_ ?_ (by omega) ad90⟩
                      · unfold kh; rw [hsi, htk, hsf]; rfl
                      · rw [htk, hen, hsf]; exact (if_neg (show ¬ (4 : Int) = 5 by decide)).symm
                      · rw [htk, hsf]; exact (show (4 : Int) ≠ 1 by decide)
                  · skip
                    exact absurd c88 (by omega)
          · skip
            refine wa_fall ⟨_, rfl⟩ ?_
            refine wa_iload_n (n := 2) rfl ?_
            refine wa_bipush (w_rg2 (by omega) (by omega)) ?_
            refine wa_icmpne (w_rg0 (by omega) (by omega)) (w_rg0 (by omega) (by omega)) ⟨_, rfl⟩ (fun c94 => ?_) (fun c94 => ?_)
            · skip
              refine wa_iload_n (n := 2) rfl ?_
              refine wa_bipush (w_rg2 (by omega) (by omega)) ?_
              refine wa_icmpne (w_rg0 (by omega) (by omega)) (w_rg0 (by omega) (by omega)) ⟨_, rfl⟩ (fun c95 => ?_) (fun c95 => ?_)
              · skip
                refine wa_iload_n (n := 2) rfl ?_
                refine wa_bipush (w_rg2 (by omega) (by omega)) ?_
                refine wa_icmpne (w_rg0 (by omega) (by omega)) (w_rg0 (by omega) (by omega)) ⟨_, rfl⟩ (fun c96 => ?_) (fun c96 => ?_)
                · skip
                  refine wa_bipush (w_rg2 (by omega) (by omega)) ?_
                  refine wa_fall ⟨_, rfl⟩ ?_
                  refine wa_istore (n := 4) rfl ?_
                  refine wa_goto ⟨_, rfl⟩ ?_
                  refine wa_iload (n := 4) rfl ?_
                  refine wa_iconst ?_
                  refine wa_icmpeq (w_rg0 (by omega) (by omega)) (w_rg0 (by omega) (by omega)) ⟨_, rfl⟩ (fun c97 => ?_) (fun c97 => ?_)
                  · skip
                    exact absurd c97 (by omega)
                  · skip
                    refine wa_aload_n (n := 0) rfl ?_
                    refine wa_iload (n := 4) rfl ?_
                    refine wa_iload_n (n := 1) rfl ?_
                    refine wa_iconst ?_
                    refine wa_cv 14 rfl (wy_pr rfl) wt_14 (M2 := mS [15, 16, 17]) rfl at_XR_add ⟨_, rfl⟩ rfl rfl ⟨trivial, trivial, trivial, (Or.inr ⟨wy_pr rfl, mS_no rfl⟩), trivial, trivial⟩ trivial (fun _ _ q => mS_sub (by decide) q) (ad_ok (S := S) hI ⟨by omega, by omega⟩ ⟨by omega, by omega⟩ ⟨by omega, by omega⟩ hR) (fun oq100 Sq100 hp101 q100 => ?_)
                    rcases q100 with ⟨rfl, ad98⟩
                    show wJ _ _ _ _ _ _ _ _ _ _
                    generalize Sq100 = Z99 at ad98 ⊢
                    refine wa_iload_n (n := 1) rfl ?_
                    refine wa_iconst ?_
                    refine wa_iadd ?_
                    refine wa_ireturn rfl ?_
                    have hsf : lx_sf (T p) (lx_at T n (p + 1)) (lx_at T n (p + 2)) 1 = (4, 259, 2) := by unfold lx_sf; rw [if_neg (by omega), if_neg (by omega), if_neg (by omega), if_pos (by omega)]
                    refine ⟨p + 2, rfl, ht_ad (by decide) (by decide) (by decide) hW hL hR hb ?_ ?_ ?_ (by omega) ad98⟩
                    · unfold kh; rw [hsi, htk, hsf]; rfl
                    · rw [htk, hen, hsf]; exact (if_neg (show ¬ (4 : Int) = 5 by decide)).symm
                    · rw [htk, hsf]; exact (show (4 : Int) ≠ 1 by decide)
                · skip
                  exact absurd c96 (by omega)
              · skip
                exact absurd c95 (by omega)
            · skip
              exact absurd c94 (by omega)
theorem as12_163 {p u : Int} (hx49 : pe_at (pe_GA xs).xs 49 = some (0, tx_49)) (hB : rd_B T n S) (h7 : S 14 7 = 163) (h8 : S 14 8 = 1) (hI : gI S) (hW : wd_at S 163 64) (hL : wd_L S 163 64) (hR : rd_L S) (hb : rb_I 163 S) (hp : 0 ≤ p ∧ p < n) (hle : lx_le (T p) = false) (hdi : lx_di (T p) = false) (h34 : T p ≠ 34) (hsf : lx_sf (T p) (lx_at T n (p + 1)) (lx_at T n (p + 2)) 1 = if (T p = 40 ∨ T p = 41 ∨ T p = 123 ∨ T p = 125 ∨ T p = 91 ∨ T p = 93 ∨ T p = 44 ∨ T p = 59 ∨ T p = 46 ∨ T p = 58 ∨ T p = 61 ∨ T p = 60 ∨ T p = 62 ∨ T p = 43 ∨ T p = 45 ∨ T p = 42 ∨ T p = 47 ∨ T p = 37 ∨ T p = 33) then (4, T p, 1) else (5, T p, 1)) : wJ (pe_GA xs) wY0 (mS [15, 16, 17, 164, 165, 166, 167, 168, 169]) (d + 6) t_XR_addSign ((pe_at t_XR_addSign.bl 12).getD (0, [])).2 [(0, (2, 14)), (1, (0, p)), (2, (0, T p)), (3, (0, u)), (4, (0, -1))] [] S (fun o Z => ∃ e : Int, o = .inl (some (0, e)) ∧ ht_ok 163 64 T n p S Z e) := by
  have hn := hB.2.2.1
  have hn1 := hB.2.2.2.1
  have hn2 := hB.2.2.2.2.1
  have hrm := rmR_rfl S
  have hTp := hB.2.2.2.2.2.2 p hp.1 hp.2
  have hr1 : 0 ≤ S 14 3 := hR.1.1
  have hr2 : S 14 3 ≤ 400000 := hb.2.2.2.2
  have htk : lx_tk T n 1 p = (lx_sf (T p) (lx_at T n (p + 1)) (lx_at T n (p + 2)) 1).1 := by unfold lx_tk; rw [if_neg (by omega), if_neg (by rw [hle]; decide), if_neg (by rw [hdi]; decide), if_neg h34]
  have hen : lx_en T n 1 p = p + (lx_sf (T p) (lx_at T n (p + 1)) (lx_at T n (p + 2)) 1).2.2 := by unfold lx_en; rw [if_neg (by omega), if_neg (by rw [hle]; decide), if_neg (by rw [hdi]; decide), if_neg h34]
  have hsi : lx_si T n 1 p = (lx_sf (T p) (lx_at T n (p + 1)) (lx_at T n (p + 2)) 1).2.1 := rfl
  have hs := sgx_rg (T p)
  refine wa_ks ?_
  refine wa_iload_n (n := 2) rfl ?_
  refine wb_i2c_r (wb_i2c_id (by omega) (by omega)) ?_
  refine wb_si 49 rfl hx49 (by decide) rfl rfl (by omega) (by omega) (v := (sgx (T p))) (sgx_ok (by omega) (by omega)) ?_
  refine wa_istore (n := 5) rfl ?_
  refine wa_iload (n := 5) rfl ?_
  refine wa_ifge (w_rg0 (by omega) (by omega)) ⟨_, rfl⟩ (fun c1 => ?_) (fun c1 => ?_)
  · skip
    refine wa_aload_n (n := 0) rfl ?_
    refine wa_bipush (w_rg2 (by omega) (by omega)) ?_
    refine wa_iload (n := 5) rfl ?_
    refine wa_iadd ?_
    refine wa_iload_n (n := 1) rfl ?_
    refine wa_iconst ?_
    refine wa_cv 14 rfl (wy_pr rfl) wt_14 (M2 := mS [15, 16, 17]) rfl at_XR_add ⟨_, rfl⟩ rfl rfl ⟨trivial, (Or.inr ⟨wy_pr rfl, mS_no rfl⟩), trivial, trivial, trivial, trivial, trivial⟩ trivial (fun _ _ q => mS_sub (by decide) q) (ad_ok (S := S) hI ⟨by omega, by omega⟩ ⟨by omega, by omega⟩ ⟨by omega, by omega⟩ hR) (fun oq4 Sq4 hp5 q4 => ?_)
    rcases q4 with ⟨rfl, ad2⟩
    show wJ _ _ _ _ _ _ _ _ _ _
    generalize Sq4 = Z3 at ad2 ⊢
    refine wa_iload_n (n := 1) rfl ?_
    refine wa_iconst ?_
    refine wa_iadd ?_
    refine wa_ireturn rfl ?_
    obtain ⟨hk1, hk2⟩ := sgx_in (T := T) (p := p) (by omega)
    rw [if_pos (hk2 (by omega))] at hsf
    refine ⟨p + 1, rfl, ht_ad (by decide) (by decide) (by decide) hW hL hR hb ?_ ?_ ?_ (by omega) ad2⟩
    · unfold kh; rw [hsi, htk, hsf]; exact hk1.symm
    · rw [htk, hen, hsf]; exact (if_neg (show ¬ (4 : Int) = 5 by decide)).symm
    · rw [htk, hsf]; exact (show (4 : Int) ≠ 1 by decide)
  · skip
    refine wa_aload_n (n := 0) rfl ?_
    refine wa_iload_n (n := 1) rfl ?_
    refine wa_cv 14 rfl (wy_pr rfl) wt_14 (M2 := mS [15, 16, 17]) rfl at_XR_addBad ⟨_, rfl⟩ rfl rfl ⟨trivial, (Or.inr ⟨wy_pr rfl, mS_no rfl⟩), trivial, trivial, trivial, trivial, trivial⟩ trivial (fun _ _ q => mS_sub (by decide) q) ?_ (fun _ _ _ q => q)
    refine wa_aload_n (n := 0) rfl ?_
    refine wa_iconst ?_
    refine wa_iload_n (n := 1) rfl ?_
    refine wa_iconst ?_
    refine wa_cv 14 rfl (wy_pr rfl) wt_14 (M2 := mS [15, 16, 17]) rfl at_XR_add ⟨_, rfl⟩ rfl rfl ⟨(Or.inr ⟨wy_pr rfl, mS_no rfl⟩), trivial, trivial⟩ trivial (fun _ _ q => mS_sub (by decide) q) (ad_ok (S := S) hI ⟨by omega, by omega⟩ ⟨by omega, by omega⟩ ⟨by omega, by omega⟩ hR) (fun oq8 Sq8 hp9 q8 => ?_)
    rcases q8 with ⟨rfl, ad6⟩
    show wJ _ _ _ _ _ _ _ _ _ _
    generalize Sq8 = Z7 at ad6 ⊢
    refine wa_aload_n (n := 0) rfl ?_
    refine wb_gfi 14 rfl (wy_pr rfl) wt_14 wf_6_6 (v := n) (((ad6.2.2.2.1 14 6 (by decide) (by decide) (by decide) (by decide) (by decide) (Or.inr (by decide))).trans (hB.2.1))) (fun r10 => ?_)
    refine wa_ireturn rfl ?_
    show wJ _ _ _ _ _ _ _ _ _ _
    refine wa_ireturn rfl ?_
    rw [if_neg (sgx_no (by omega))] at hsf
    refine ⟨n, rfl, ht_ad (by decide) (by decide) (by decide) hW hL hR hb ?_ ?_ ?_ (by omega) ad6⟩
    · unfold kh; rw [hsi, htk, hsf]; rfl
    · rw [htk, hen, hsf]; exact (if_pos rfl).symm
    · rw [htk, hsf]; exact (show (5 : Int) ≠ 1 by decide)
theorem as_163_ok (hx49 : pe_at (pe_GA xs).xs 49 = some (0, tx_49)) : as_163 xs := by
  intro d S T n p hB h7 h8 hI hW hL hR hb hp hle hdi h34
  have hn := hB.2.2.1
  have hn1 := hB.2.2.2.1
  have hn2 := hB.2.2.2.2.1
  have hrm := rmR_rfl S
  have hTp := hB.2.2.2.2.2.2 p hp.1 hp.2
  have hr1 : 0 ≤ S 14 3 := hR.1.1
  have hr2 : S 14 3 ≤ 400000 := hb.2.2.2.2
  have htk : lx_tk T n 1 p = (lx_sf (T p) (lx_at T n (p + 1)) (lx_at T n (p + 2)) 1).1 := by unfold lx_tk; rw [if_neg (by omega), if_neg (by rw [hle]; decide), if_neg (by rw [hdi]; decide), if_neg h34]
  have hen : lx_en T n 1 p = p + (lx_sf (T p) (lx_at T n (p + 1)) (lx_at T n (p + 2)) 1).2.2 := by unfold lx_en; rw [if_neg (by omega), if_neg (by rw [hle]; decide), if_neg (by rw [hdi]; decide), if_neg h34]
  have hsi : lx_si T n 1 p = (lx_sf (T p) (lx_at T n (p + 1)) (lx_at T n (p + 2)) 1).2.1 := rfl
  have ha1 := lx_at_rg (k := p + 1) hB (by omega)
  have ha2 := lx_at_rg (k := p + 2) hB (by omega)
  refine wa_aload_n (n := 0) rfl ?_
  refine wb_gf6 14 rfl (wy_pr rfl) wt_14 wf_6_5 (v := 1) (hB.1) (by decide) ?_
  refine wa_iload_n (n := 1) rfl ?_
  refine wb_bald 1 rfl (wy_pr rfl) wt_1 (n := (S 1 (-1))) rfl (by omega) (by omega) (v := (T p)) ((hB.2.2.2.2.2.1 p (by omega) (by omega))) (fun r1 => ?_)
  refine wa_istore_n (n := 2) rfl ?_
  refine wa_aload_n (n := 0) rfl ?_
  refine wa_iload_n (n := 1) rfl ?_
  refine wa_iconst ?_
  refine wa_iadd ?_
  refine wa_cv 14 rfl (wy_pr rfl) wt_14 (M2 := fun _ => False) rfl at_XR_signAt ⟨_, rfl⟩ rfl rfl ⟨trivial, (Or.inr ⟨wy_pr rfl, fun q => q⟩), trivial, trivial⟩ trivial (fun _ _ q => False.elim q) (sa_ok (S := S) hB ⟨by omega, by omega⟩) (fun oq2 Sq2 hp3 q2 => ?_)
  rcases q2 with ⟨rfl, rfl⟩
  show wJ _ _ _ _ _ _ _ _ _ _
  refine wa_istore_n (n := 3) rfl ?_
  refine wa_iconst ?_
  refine wa_istore (n := 4) rfl ?_
  refine wa_iload_n (n := 3) rfl ?_
  refine wa_bipush (w_rg2 (by omega) (by omega)) ?_
  refine wa_icmpne (w_rg0 (by omega) (by omega)) (w_rg0 (by omega) (by omega)) ⟨_, rfl⟩ (fun c4 => ?_) (fun c4 => ?_)
  · skip
    refine wa_iload_n (n := 2) rfl ?_
    refine wa_iload_n (n := 3) rfl ?_
    refine wa_icmpne (w_rg0 (by omega) (by omega)) (w_rg0 (by omega) (by omega)) ⟨_, rfl⟩ (fun c5 => ?_) (fun c5 => ?_)
    · skip
      refine wa_iload (n := 4) rfl ?_
      refine wa_iconst ?_
      refine wa_icmpeq (w_rg0 (by omega) (by omega)) (w_rg0 (by omega) (by omega)) ⟨_, rfl⟩ (fun c6 => ?_) (fun c6 => ?_)
      · skip
        refine wa_aload_n (n := 0) rfl ?_
        refine wb_gfz 14 rfl (wy_pr rfl) wt_14 wf_6_8 (v := 1) (h8) (fun r7 => ?_)
        refine wa_ifeq (w_rg0 (by omega) (by omega)) ⟨_, rfl⟩ (fun c8 => ?_) (fun c8 => ?_)
        · skip
          exact absurd c8 (by omega)
        · skip
          refine wa_iload_n (n := 2) rfl ?_
          refine wa_bipush (w_rg2 (by omega) (by omega)) ?_
          refine wa_icmpne (w_rg0 (by omega) (by omega)) (w_rg0 (by omega) (by omega)) ⟨_, rfl⟩ (fun c9 => ?_) (fun c9 => ?_)
          · skip
            exact wJ_S (as12_163 (u := lx_at T n (p + 1)) hx49 hB h7 h8 hI hW hL hR hb hp hle hdi h34 (by unfold lx_sf; rw [if_neg (by omega), if_neg (by omega), if_neg (by omega), if_neg (by omega), if_neg (by omega), if_neg (by omega), if_neg (by omega)])) ⟨rfl, rfl, rfl, rfl, rfl, trivial⟩
          · skip
            refine wa_iload_n (n := 3) rfl ?_
            refine wa_bipush (w_rg2 (by omega) (by omega)) ?_
            refine wa_icmpne (w_rg0 (by omega) (by omega)) (w_rg0 (by omega) (by omega)) ⟨_, rfl⟩ (fun c10 => ?_) (fun c10 => ?_)
            · skip
              exact wJ_S (as12_163 (u := lx_at T n (p + 1)) hx49 hB h7 h8 hI hW hL hR hb hp hle hdi h34 (by unfold lx_sf; rw [if_neg (by omega), if_neg (by omega), if_neg (by omega), if_neg (by omega), if_neg (by omega), if_neg (by omega), if_neg (by omega)])) ⟨rfl, rfl, rfl, rfl, rfl, trivial⟩
            · skip
              refine wa_aload_n (n := 0) rfl ?_
              refine wa_iload_n (n := 1) rfl ?_
              refine wa_iconst ?_
              refine wa_iadd ?_
              refine wa_cv 14 rfl (wy_pr rfl) wt_14 (M2 := fun _ => False) rfl at_XR_signAt ⟨_, rfl⟩ rfl rfl ⟨trivial, trivial, trivial, (Or.inr ⟨wy_pr rfl, fun q => q⟩), trivial, trivial⟩ trivial (fun _ _ q => False.elim q) (sa_ok (S := S) hB ⟨by omega, by omega⟩) (fun oq11 Sq11 hp12 q11 => ?_)
              rcases q11 with ⟨rfl, rfl⟩
              show wJ _ _ _ _ _ _ _ _ _ _
              refine wa_bipush (w_rg2 (by omega) (by omega)) ?_
              refine wa_icmpne (w_rg0 (by omega) (by omega)) (w_rg0 (by omega) (by omega)) ⟨_, rfl⟩ (fun c13 => ?_) (fun c13 => ?_)
              · skip
                exact wJ_S (as12_163 (u := lx_at T n (p + 1)) hx49 hB h7 h8 hI hW hL hR hb hp hle hdi h34 (by unfold lx_sf; rw [if_neg (by omega), if_neg (by omega), if_neg (by omega), if_neg (by omega), if_neg (by omega), if_neg (by omega), if_neg (by omega)])) ⟨rfl, rfl, rfl, rfl, rfl, trivial⟩
              · skip
                refine wa_aload_n (n := 0) rfl ?_
                refine wa_bipush (w_rg2 (by omega) (by omega)) ?_
                refine wa_iload_n (n := 1) rfl ?_
                refine wa_iconst ?_
                refine wa_cv 14 rfl (wy_pr rfl) wt_14 (M2 := mS [15, 16, 17]) rfl at_XR_add ⟨_, rfl⟩ rfl rfl ⟨trivial, trivial, trivial, (Or.inr ⟨wy_pr rfl, mS_no rfl⟩), trivial, trivial⟩ trivial (fun _ _ q => mS_sub (by decide) q) (ad_ok (S := S) hI ⟨by omega, by omega⟩ ⟨by omega, by omega⟩ ⟨by omega, by omega⟩ hR) (fun oq16 Sq16 hp17 q16 => ?_)
                rcases q16 with ⟨rfl, ad14⟩
                show wJ _ _ _ _ _ _ _ _ _ _
                generalize Sq16 = Z15 at ad14 ⊢
                refine wa_iload_n (n := 1) rfl ?_
                refine wa_iconst ?_
                refine wa_iadd ?_
                refine wa_ireturn rfl ?_
                have hsf : lx_sf (T p) (lx_at T n (p + 1)) (lx_at T n (p + 2)) 1 = (4, 262, 3) := by unfold lx_sf; rw [if_neg (by omega), if_neg (by omega), if_neg (by omega), if_neg (by omega), if_neg (by omega), if_neg (by omega), if_pos (by omega)]
                refine ⟨p + 3, rfl, ht_ad (by decide) (by decide) (by decide) hW hL hR hb ?_ ?_ ?_ (by omega) ad14⟩
                · unfold kh; rw [hsi, htk, hsf]; rfl
                · rw [htk, hen, hsf]; exact (if_neg (show ¬ (4 : Int) = 5 by decide)).symm
                · rw [htk, hsf]; exact (show (4 : Int) ≠ 1 by decide)
      · skip
        exact absurd c6 (by omega)
    · skip
      refine wa_iload_n (n := 2) rfl ?_
      refine wa_bipush (w_rg2 (by omega) (by omega)) ?_
      refine wa_icmpeq (w_rg0 (by omega) (by omega)) (w_rg0 (by omega) (by omega)) ⟨_, rfl⟩ (fun c18 => ?_) (fun c18 => ?_)
      · skip
        refine wa_iload_n (n := 2) rfl ?_
        refine wa_bipush (w_rg2 (by omega) (by omega)) ?_
        refine wa_icmpne (w_rg0 (by omega) (by omega)) (w_rg0 (by omega) (by omega)) ⟨_, rfl⟩ (fun c19 => ?_) (fun c19 => ?_)
        · skip
          exact absurd c19 (by omega)
        · skip
          refine wa_bipush (w_rg2 (by omega) (by omega)) ?_
          refine wa_goto ⟨_, rfl⟩ ?_
          refine wa_istore (n := 4) rfl ?_
          refine wa_fall ⟨_, rfl⟩ ?_
          refine wa_iload (n := 4) rfl ?_
          refine wa_iconst ?_
          refine wa_icmpeq (w_rg0 (by omega) (by omega)) (w_rg0 (by omega) (by omega)) ⟨_, rfl⟩ (fun c20 => ?_) (fun c20 => ?_)
          · skip
            exact absurd c20 (by omega)
          · skip
            refine wa_aload_n (n := 0) rfl ?_
            refine wa_iload (n := 4) rfl ?_
            refine wa_iload_n (n := 1) rfl ?_
            refine wa_iconst ?_
            refine wa_cv 14 rfl (wy_pr rfl) wt_14 (M2 := mS [15, 16, 17]) rfl at_XR_add ⟨_, rfl⟩ rfl rfl ⟨trivial, trivial, trivial, (Or.inr ⟨wy_pr rfl, mS_no rfl⟩), trivial, trivial⟩ trivial (fun _ _ q => mS_sub (by decide) q) (ad_ok (S := S) hI ⟨by omega, by omega⟩ ⟨by omega, by omega⟩ ⟨by omega, by omega⟩ hR) (fun oq23 Sq23 hp24 q23 => ?_)
            rcases q23 with ⟨rfl, ad21⟩
            show wJ _ _ _ _ _ _ _ _ _ _
            generalize Sq23 = Z22 at ad21 ⊢
            refine wa_iload_n (n := 1) rfl ?_
            refine wa_iconst ?_
            refine wa_iadd ?_
            refine wa_ireturn rfl ?_
            have hsf : lx_sf (T p) (lx_at T n (p + 1)) (lx_at T n (p + 2)) 1 = (4, 260, 2) := by unfold lx_sf; rw [if_neg (by omega), if_neg (by omega), if_neg (by omega), if_neg (by omega), if_pos (by omega)]
            refine ⟨p + 2, rfl, ht_ad (by decide) (by decide) (by decide) hW hL hR hb ?_ ?_ ?_ (by omega) ad21⟩
            · unfold kh; rw [hsi, htk, hsf]; rfl
            · rw [htk, hen, hsf]; exact (if_neg (show ¬ (4 : Int) = 5 by decide)).symm
            · rw [htk, hsf]; exact (show (4 : Int) ≠ 1 by decide)
      · skip
        refine wa_iload_n (n := 2) rfl ?_
        refine wa_bipush (w_rg2 (by omega) (by omega)) ?_
        refine wa_icmpne (w_rg0 (by omega) (by omega)) (w_rg0 (by omega) (by omega)) ⟨_, rfl⟩ (fun c25 => ?_) (fun c25 => ?_)
        · skip
          refine wa_iload (n := 4) rfl ?_
          refine wa_iconst ?_
          refine wa_icmpeq (w_rg0 (by omega) (by omega)) (w_rg0 (by omega) (by omega)) ⟨_, rfl⟩ (fun c26 => ?_) (fun c26 => ?_)
          · skip
            refine wa_aload_n (n := 0) rfl ?_
            refine wb_gfz 14 rfl (wy_pr rfl) wt_14 wf_6_8 (v := 1) (h8) (fun r27 => ?_)
            refine wa_ifeq (w_rg0 (by omega) (by omega)) ⟨_, rfl⟩ (fun c28 => ?_) (fun c28 => ?_)
            · skip
              exact absurd c28 (by omega)
            · skip
              refine wa_iload_n (n := 2) rfl ?_
              refine wa_bipush (w_rg2 (by omega) (by omega)) ?_
              refine wa_icmpne (w_rg0 (by omega) (by omega)) (w_rg0 (by omega) (by omega)) ⟨_, rfl⟩ (fun c29 => ?_) (fun c29 => ?_)
              · skip
                exact wJ_S (as12_163 (u := lx_at T n (p + 1)) hx49 hB h7 h8 hI hW hL hR hb hp hle hdi h34 (by unfold lx_sf; rw [if_neg (by omega), if_neg (by omega), if_neg (by omega), if_neg (by omega), if_neg (by omega), if_neg (by omega), if_neg (by omega)])) ⟨rfl, rfl, rfl, rfl, rfl, trivial⟩
              · skip
                refine wa_iload_n (n := 3) rfl ?_
                refine wa_bipush (w_rg2 (by omega) (by omega)) ?_
                refine wa_icmpne (w_rg0 (by omega) (by omega)) (w_rg0 (by omega) (by omega)) ⟨_, rfl⟩ (fun c30 => ?_) (fun c30 => ?_)
                · skip
                  exact wJ_S (as12_163 (u := lx_at T n (p + 1)) hx49 hB h7 h8 hI hW hL hR hb hp hle hdi h34 (by unfold lx_sf; rw [if_neg (by omega), if_neg (by omega), if_neg (by omega), if_neg (by omega), if_neg (by omega), if_neg (by omega), if_neg (by omega)])) ⟨rfl, rfl, rfl, rfl, rfl, trivial⟩
                · skip
                  refine wa_aload_n (n := 0) rfl ?_
                  refine wa_iload_n (n := 1) rfl ?_
                  refine wa_iconst ?_
                  refine wa_iadd ?_
                  refine wa_cv 14 rfl (wy_pr rfl) wt_14 (M2 := fun _ => False) rfl at_XR_signAt ⟨_, rfl⟩ rfl rfl ⟨trivial, trivial, trivial, (Or.inr ⟨wy_pr rfl, fun q => q⟩), trivial, trivial⟩ trivial (fun _ _ q => False.elim q) (sa_ok (S := S) hB ⟨by omega, by omega⟩) (fun oq31 Sq31 hp32 q31 => ?_)
                  rcases q31 with ⟨rfl, rfl⟩
                  show wJ _ _ _ _ _ _ _ _ _ _
                  refine wa_bipush (w_rg2 (by omega) (by omega)) ?_
                  refine wa_icmpne (w_rg0 (by omega) (by omega)) (w_rg0 (by omega) (by omega)) ⟨_, rfl⟩ (fun c33 => ?_) (fun c33 => ?_)
                  · skip
                    exact wJ_S (as12_163 (u := lx_at T n (p + 1)) hx49 hB h7 h8 hI hW hL hR hb hp hle hdi h34 (by unfold lx_sf; rw [if_neg (by omega), if_neg (by omega), if_neg (by omega), if_neg (by omega), if_neg (by omega), if_neg (by omega), if_neg (by omega)])) ⟨rfl, rfl, rfl, rfl, rfl, trivial⟩
                  · skip
                    refine wa_aload_n (n := 0) rfl ?_
                    refine wa_bipush (w_rg2 (by omega) (by omega)) ?_
                    refine wa_iload_n (n := 1) rfl ?_
                    refine wa_iconst ?_
                    refine wa_cv 14 rfl (wy_pr rfl) wt_14 (M2 := mS [15, 16, 17]) rfl at_XR_add ⟨_, rfl⟩ rfl rfl ⟨trivial, trivial, trivial, (Or.inr ⟨wy_pr rfl, mS_no rfl⟩), trivial, trivial⟩ trivial (fun _ _ q => mS_sub (by decide) q) (ad_ok (S := S) hI ⟨by omega, by omega⟩ ⟨by omega, by omega⟩ ⟨by omega, by omega⟩ hR) (fun oq36 Sq36 hp37 q36 => ?_)
                    rcases q36 with ⟨rfl, ad34⟩
                    show wJ _ _ _ _ _ _ _ _ _ _
                    generalize Sq36 = Z35 at ad34 ⊢
                    refine wa_iload_n (n := 1) rfl ?_
                    refine wa_iconst ?_
                    refine wa_iadd ?_
                    refine wa_ireturn rfl ?_
                    have hsf : lx_sf (T p) (lx_at T n (p + 1)) (lx_at T n (p + 2)) 1 = (4, 262, 3) := by unfold lx_sf; rw [if_neg (by omega), if_neg (by omega), if_neg (by omega), if_neg (by omega), if_neg (by omega), if_neg (by omega), if_pos (by omega)]
                    refine ⟨p + 3, rfl, ht_ad (by decide) (by decide) (by decide) hW hL hR hb ?_ ?_ ?_ (by omega) ad34⟩
                    · unfold kh; rw [hsi, htk, hsf]; rfl
                    · rw [htk, hen, hsf]; exact (if_neg (show ¬ (4 : Int) = 5 by decide)).symm
                    · rw [htk, hsf]; exact (show (4 : Int) ≠ 1 by decide)
          · skip
            exact absurd c26 (by omega)
        · skip
          refine wa_fall ⟨_, rfl⟩ ?_
          refine wa_iload_n (n := 2) rfl ?_
          refine wa_bipush (w_rg2 (by omega) (by omega)) ?_
          refine wa_icmpne (w_rg0 (by omega) (by omega)) (w_rg0 (by omega) (by omega)) ⟨_, rfl⟩ (fun c38 => ?_) (fun c38 => ?_)
          · skip
            refine wa_bipush (w_rg2 (by omega) (by omega)) ?_
            refine wa_fall ⟨_, rfl⟩ ?_
            refine wa_istore (n := 4) rfl ?_
            refine wa_fall ⟨_, rfl⟩ ?_
            refine wa_iload (n := 4) rfl ?_
            refine wa_iconst ?_
            refine wa_icmpeq (w_rg0 (by omega) (by omega)) (w_rg0 (by omega) (by omega)) ⟨_, rfl⟩ (fun c39 => ?_) (fun c39 => ?_)
            · skip
              exact absurd c39 (by omega)
            · skip
              refine wa_aload_n (n := 0) rfl ?_
              refine wa_iload (n := 4) rfl ?_
              refine wa_iload_n (n := 1) rfl ?_
              refine wa_iconst ?_
              refine wa_cv 14 rfl (wy_pr rfl) wt_14 (M2 := mS [15, 16, 17]) rfl at_XR_add ⟨_, rfl⟩ rfl rfl ⟨trivial, trivial, trivial, (Or.inr ⟨wy_pr rfl, mS_no rfl⟩), trivial, trivial⟩ trivial (fun _ _ q => mS_sub (by decide) q) (ad_ok (S := S) hI ⟨by omega, by omega⟩ ⟨by omega, by omega⟩ ⟨by omega, by omega⟩ hR) (fun oq42 Sq42 hp43 q42 => ?_)
              rcases q42 with ⟨rfl, ad40⟩
              show wJ _ _ _ _ _ _ _ _ _ _
              generalize Sq42 = Z41 at ad40 ⊢
              refine wa_iload_n (n := 1) rfl ?_
              refine wa_iconst ?_
              refine wa_iadd ?_
              refine wa_ireturn rfl ?_
              have hsf : lx_sf (T p) (lx_at T n (p + 1)) (lx_at T n (p + 2)) 1 = (4, 261, 2) := by unfold lx_sf; rw [if_neg (by omega), if_neg (by omega), if_neg (by omega), if_neg (by omega), if_neg (by omega), if_pos (by omega)]
              refine ⟨p + 2, rfl, ht_ad (by decide) (by decide) (by decide) hW hL hR hb ?_ ?_ ?_ (by omega) ad40⟩
              · unfold kh; rw [hsi, htk, hsf]; rfl
              · rw [htk, hen, hsf]; exact (if_neg (show ¬ (4 : Int) = 5 by decide)).symm
              · rw [htk, hsf]; exact (show (4 : Int) ≠ 1 by decide)
          · skip
            exact absurd c38 (by omega)
  · skip
    refine wa_iload_n (n := 2) rfl ?_
    refine wa_bipush (w_rg2 (by omega) (by omega)) ?_
    refine wa_icmpeq (w_rg0 (by omega) (by omega)) (w_rg0 (by omega) (by omega)) ⟨_, rfl⟩ (fun c44 => ?_) (fun c44 => ?_)
    · skip
      refine wa_iload_n (n := 2) rfl ?_
      refine wa_bipush (w_rg2 (by omega) (by omega)) ?_
      refine wa_icmpne (w_rg0 (by omega) (by omega)) (w_rg0 (by omega) (by omega)) ⟨_, rfl⟩ (fun c45 => ?_) (fun c45 => ?_)
      · skip
        exact absurd c45 (by omega)
      · skip
        refine wa_bipush (w_rg2 (by omega) (by omega)) ?_
        refine wa_goto ⟨_, rfl⟩ ?_
        refine wa_istore (n := 4) rfl ?_
        refine wa_goto ⟨_, rfl⟩ ?_
        refine wa_iload (n := 4) rfl ?_
        refine wa_iconst ?_
        refine wa_icmpeq (w_rg0 (by omega) (by omega)) (w_rg0 (by omega) (by omega)) ⟨_, rfl⟩ (fun c46 => ?_) (fun c46 => ?_)
        · skip
          exact absurd c46 (by omega)
        · skip
          refine wa_aload_n (n := 0) rfl ?_
          refine wa_iload (n := 4) rfl ?_
          refine wa_iload_n (n := 1) rfl ?_
          refine wa_iconst ?_
          refine wa_cv 14 rfl (wy_pr rfl) wt_14 (M2 := mS [15, 16, 17]) rfl at_XR_add ⟨_, rfl⟩ rfl rfl ⟨trivial, trivial, trivial, (Or.inr ⟨wy_pr rfl, mS_no rfl⟩), trivial, trivial⟩ trivial (fun _ _ q => mS_sub (by decide) q) (ad_ok (S := S) hI ⟨by omega, by omega⟩ ⟨by omega, by omega⟩ ⟨by omega, by omega⟩ hR) (fun oq49 Sq49 hp50 q49 => ?_)
          rcases q49 with ⟨rfl, ad47⟩
          show wJ _ _ _ _ _ _ _ _ _ _
          generalize Sq49 = Z48 at ad47 ⊢
          refine wa_iload_n (n := 1) rfl ?_
          refine wa_iconst ?_
          refine wa_iadd ?_
          refine wa_ireturn rfl ?_
          have hsf : lx_sf (T p) (lx_at T n (p + 1)) (lx_at T n (p + 2)) 1 = (4, 256, 2) := by unfold lx_sf; rw [if_pos (by omega)]
          refine ⟨p + 2, rfl, ht_ad (by decide) (by decide) (by decide) hW hL hR hb ?_ ?_ ?_ (by omega) ad47⟩
          · unfold kh; rw [hsi, htk, hsf]; rfl
          · rw [htk, hen, hsf]; exact (if_neg (show ¬ (4 : Int) = 5 by decide)).symm
          · rw [htk, hsf]; exact (show (4 : Int) ≠ 1 by decide)
    · skip
      refine wa_iload_n (n := 2) rfl ?_
      refine wa_bipush (w_rg2 (by omega) (by omega)) ?_
      refine wa_icmpeq (w_rg0 (by omega) (by omega)) (w_rg0 (by omega) (by omega)) ⟨_, rfl⟩ (fun c51 => ?_) (fun c51 => ?_)
      · skip
        refine wa_iload_n (n := 2) rfl ?_
        refine wa_bipush (w_rg2 (by omega) (by omega)) ?_
        refine wa_icmpne (w_rg0 (by omega) (by omega)) (w_rg0 (by omega) (by omega)) ⟨_, rfl⟩ (fun c52 => ?_) (fun c52 => ?_)
        · skip
          refine wa_iload_n (n := 2) rfl ?_
          refine wa_bipush (w_rg2 (by omega) (by omega)) ?_
          refine wa_icmpne (w_rg0 (by omega) (by omega)) (w_rg0 (by omega) (by omega)) ⟨_, rfl⟩ (fun c53 => ?_) (fun c53 => ?_)
          · skip
            exact absurd c53 (by omega)
          · skip
            refine wa_bipush (w_rg2 (by omega) (by omega)) ?_
            refine wa_goto ⟨_, rfl⟩ ?_
            refine wa_istore (n := 4) rfl ?_
            refine wa_goto ⟨_, rfl⟩ ?_
            refine wa_iload (n := 4) rfl ?_
            refine wa_iconst ?_
            refine wa_icmpeq (w_rg0 (by omega) (by omega)) (w_rg0 (by omega) (by omega)) ⟨_, rfl⟩ (fun c54 => ?_) (fun c54 => ?_)
            · skip
              exact absurd c54 (by omega)
            · skip
              refine wa_aload_n (n := 0) rfl ?_
              refine wa_iload (n := 4) rfl ?_
              refine wa_iload_n (n := 1) rfl ?_
              refine wa_iconst ?_
              refine wa_cv 14 rfl (wy_pr rfl) wt_14 (M2 := mS [15, 16, 17]) rfl at_XR_add ⟨_, rfl⟩ rfl rfl ⟨trivial, trivial, trivial, (Or.inr ⟨wy_pr rfl, mS_no rfl⟩), trivial, trivial⟩ trivial (fun _ _ q => mS_sub (by decide) q) (ad_ok (S := S) hI ⟨by omega, by omega⟩ ⟨by omega, by omega⟩ ⟨by omega, by omega⟩ hR) (fun oq57 Sq57 hp58 q57 => ?_)
              rcases q57 with ⟨rfl, ad55⟩
              show wJ _ _ _ _ _ _ _ _ _ _
              generalize Sq57 = Z56 at ad55 ⊢
              refine wa_iload_n (n := 1) rfl ?_
              refine wa_iconst ?_
              refine wa_iadd ?_
              refine wa_ireturn rfl ?_
              have hsf : lx_sf (T p) (lx_at T n (p + 1)) (lx_at T n (p + 2)) 1 = (4, 257, 2) := by unfold lx_sf; rw [if_neg (by omega), if_pos (by omega)]
              refine ⟨p + 2, rfl, ht_ad (by decide) (by decide) (by decide) hW hL hR hb ?_ ?_ ?_ (by omega) ad55⟩
              · unfold kh; rw [hsi, htk, hsf]; rfl
              · rw [htk, hen, hsf]; exact (if_neg (show ¬ (4 : Int) = 5 by decide)).symm
              · rw [htk, hsf]; exact (show (4 : Int) ≠ 1 by decide)
        · skip
          exact absurd c52 (by omega)
      · skip
        refine wa_iload_n (n := 2) rfl ?_
        refine wa_bipush (w_rg2 (by omega) (by omega)) ?_
        refine wa_icmpeq (w_rg0 (by omega) (by omega)) (w_rg0 (by omega) (by omega)) ⟨_, rfl⟩ (fun c59 => ?_) (fun c59 => ?_)
        · skip
          refine wa_iload_n (n := 2) rfl ?_
          refine wa_bipush (w_rg2 (by omega) (by omega)) ?_
          refine wa_icmpne (w_rg0 (by omega) (by omega)) (w_rg0 (by omega) (by omega)) ⟨_, rfl⟩ (fun c60 => ?_) (fun c60 => ?_)
          · skip
            refine wa_iload_n (n := 2) rfl ?_
            refine wa_bipush (w_rg2 (by omega) (by omega)) ?_
            refine wa_icmpne (w_rg0 (by omega) (by omega)) (w_rg0 (by omega) (by omega)) ⟨_, rfl⟩ (fun c61 => ?_) (fun c61 => ?_)
            · skip
              refine wa_iload_n (n := 2) rfl ?_
              refine wa_bipush (w_rg2 (by omega) (by omega)) ?_
              refine wa_icmpne (w_rg0 (by omega) (by omega)) (w_rg0 (by omega) (by omega)) ⟨_, rfl⟩ (fun c62 => ?_) (fun c62 => ?_)
              · skip
                exact absurd c62 (by omega)
              · skip
                refine wa_bipush (w_rg2 (by omega) (by omega)) ?_
                refine wa_goto ⟨_, rfl⟩ ?_
                refine wa_istore (n := 4) rfl ?_
                refine wa_goto ⟨_, rfl⟩ ?_
                refine wa_iload (n := 4) rfl ?_
                refine wa_iconst ?_
                refine wa_icmpeq (w_rg0 (by omega) (by omega)) (w_rg0 (by omega) (by omega)) ⟨_, rfl⟩ (fun c63 => ?_) (fun c63 => ?_)
                · skip
                  exact absurd c63 (by omega)
                · skip
                  refine wa_aload_n (n := 0) rfl ?_
                  refine wa_iload (n := 4) rfl ?_
                  refine wa_iload_n (n := 1) rfl ?_
                  refine wa_iconst ?_
                  refine wa_cv 14 rfl (wy_pr rfl) wt_14 (M2 := mS [15, 16, 17]) rfl at_XR_add ⟨_, rfl⟩ rfl rfl ⟨trivial, trivial, trivial, (Or.inr ⟨wy_pr rfl, mS_no rfl⟩), trivial, trivial⟩ trivial (fun _ _ q => mS_sub (by decide) q) (ad_ok (S := S) hI ⟨by omega, by omega⟩ ⟨by omega, by omega⟩ ⟨by omega, by omega⟩ hR) (fun oq66 Sq66 hp67 q66 => ?_)
                  rcases q66 with ⟨rfl, ad64⟩
                  show wJ _ _ _ _ _ _ _ _ _ _
                  generalize Sq66 = Z65 at ad64 ⊢
                  refine wa_iload_n (n := 1) rfl ?_
                  refine wa_iconst ?_
                  refine wa_iadd ?_
                  refine wa_ireturn rfl ?_
                  have hsf : lx_sf (T p) (lx_at T n (p + 1)) (lx_at T n (p + 2)) 1 = (4, 258, 2) := by unfold lx_sf; rw [if_neg (by omega), if_neg (by omega), if_pos (by omega)]
                  refine ⟨p + 2, rfl, ht_ad (by decide) (by decide) (by decide) hW hL hR hb ?_ ?_ ?_ (by omega) ad64⟩
                  · unfold kh; rw [hsi, htk, hsf]; rfl
                  · rw [htk, hen, hsf]; exact (if_neg (show ¬ (4 : Int) = 5 by decide)).symm
                  · rw [htk, hsf]; exact (show (4 : Int) ≠ 1 by decide)
            · skip
              exact absurd c61 (by omega)
          · skip
            exact absurd c60 (by omega)
        · skip
          refine wa_iload_n (n := 2) rfl ?_
          refine wa_bipush (w_rg2 (by omega) (by omega)) ?_
          refine wa_icmpne (w_rg0 (by omega) (by omega)) (w_rg0 (by omega) (by omega)) ⟨_, rfl⟩ (fun c68 => ?_) (fun c68 => ?_)
          · skip
            refine wa_iload_n (n := 2) rfl ?_
            refine wa_iload_n (n := 3) rfl ?_
            refine wa_icmpne (w_rg0 (by omega) (by omega)) (w_rg0 (by omega) (by omega)) ⟨_, rfl⟩ (fun c69 => ?_) (fun c69 => ?_)
            · skip
              refine wa_iload (n := 4) rfl ?_
              refine wa_iconst ?_
              refine wa_icmpeq (w_rg0 (by omega) (by omega)) (w_rg0 (by omega) (by omega)) ⟨_, rfl⟩ (fun c70 => ?_) (fun c70 => ?_)
              · skip
                refine wa_aload_n (n := 0) rfl ?_
                refine wb_gfz 14 rfl (wy_pr rfl) wt_14 wf_6_8 (v := 1) (h8) (fun r71 => ?_)
                refine wa_ifeq (w_rg0 (by omega) (by omega)) ⟨_, rfl⟩ (fun c72 => ?_) (fun c72 => ?_)
                · skip
                  exact absurd c72 (by omega)
                · skip
                  refine wa_iload_n (n := 2) rfl ?_
                  refine wa_bipush (w_rg2 (by omega) (by omega)) ?_
                  refine wa_icmpne (w_rg0 (by omega) (by omega)) (w_rg0 (by omega) (by omega)) ⟨_, rfl⟩ (fun c73 => ?_) (fun c73 => ?_)
                  · skip
                    exact wJ_S (as12_163 (u := lx_at T n (p + 1)) hx49 hB h7 h8 hI hW hL hR hb hp hle hdi h34 (by unfold lx_sf; rw [if_neg (by omega), if_neg (by omega), if_neg (by omega), if_neg (by omega), if_neg (by omega), if_neg (by omega), if_neg (by omega)])) ⟨rfl, rfl, rfl, rfl, rfl, trivial⟩
                  · skip
                    refine wa_iload_n (n := 3) rfl ?_
                    refine wa_bipush (w_rg2 (by omega) (by omega)) ?_
                    refine wa_icmpne (w_rg0 (by omega) (by omega)) (w_rg0 (by omega) (by omega)) ⟨_, rfl⟩ (fun c74 => ?_) (fun c74 => ?_)
                    · skip
                      exact wJ_S (as12_163 (u := lx_at T n (p + 1)) hx49 hB h7 h8 hI hW hL hR hb hp hle hdi h34 (by unfold lx_sf; rw [if_neg (by omega), if_neg (by omega), if_neg (by omega), if_neg (by omega), if_neg (by omega), if_neg (by omega), if_neg (by omega)])) ⟨rfl, rfl, rfl, rfl, rfl, trivial⟩
                    · skip
                      exact absurd c74 (by omega)
              · skip
                exact absurd c70 (by omega)
            · skip
              refine wa_iload_n (n := 2) rfl ?_
              refine wa_bipush (w_rg2 (by omega) (by omega)) ?_
              refine wa_icmpeq (w_rg0 (by omega) (by omega)) (w_rg0 (by omega) (by omega)) ⟨_, rfl⟩ (fun c75 => ?_) (fun c75 => ?_)
              · skip
                refine wa_iload_n (n := 2) rfl ?_
                refine wa_bipush (w_rg2 (by omega) (by omega)) ?_
                refine wa_icmpne (w_rg0 (by omega) (by omega)) (w_rg0 (by omega) (by omega)) ⟨_, rfl⟩ (fun c76 => ?_) (fun c76 => ?_)
                · skip
                  exact absurd c76 (by omega)
                · skip
                  refine wa_bipush (w_rg2 (by omega) (by omega)) ?_
                  refine wa_goto ⟨_, rfl⟩ ?_
                  refine wa_istore (n := 4) rfl ?_
                  refine wa_fall ⟨_, rfl⟩ ?_
                  refine wa_iload (n := 4) rfl ?_
                  refine wa_iconst ?_
                  refine wa_icmpeq (w_rg0 (by omega) (by omega)) (w_rg0 (by omega) (by omega)) ⟨_, rfl⟩ (fun c77 => ?_) (fun c77 => ?_)
                  · skip
                    exact absurd c77 (by omega)
                  · skip
                    refine wa_aload_n (n := 0) rfl ?_
                    refine wa_iload (n := 4) rfl ?_
                    refine wa_iload_n (n := 1) rfl ?_
                    refine wa_iconst ?_
                    refine wa_cv 14 rfl (wy_pr rfl) wt_14 (M2 := mS [15, 16, 17]) rfl at_XR_add ⟨_, rfl⟩ rfl rfl ⟨trivial, trivial, trivial, (Or.inr ⟨wy_pr rfl, mS_no rfl⟩), trivial, trivial⟩ trivial (fun _ _ q => mS_sub (by decide) q) (ad_ok (S := S) hI ⟨by omega, by omega⟩ ⟨by omega, by omega⟩ ⟨by omega, by omega⟩ hR) (fun oq80 Sq80 hp81 q80 => ?_)
                    rcases q80 with ⟨rfl, ad78⟩
                    show wJ _ _ _ _ _ _ _ _ _ _
                    generalize Sq80 = Z79 at ad78 ⊢
                    refine wa_iload_n (n := 1) rfl ?_
                    refine wa_iconst ?_
                    refine wa_iadd ?_
                    refine wa_ireturn rfl ?_
                    have hsf : lx_sf (T p) (lx_at T n (p + 1)) (lx_at T n (p + 2)) 1 = (4, 260, 2) := by unfold lx_sf; rw [if_neg (by omega), if_neg (by omega), if_neg (by omega), if_neg (by omega), if_pos (by omega)]
                    refine ⟨p + 2, rfl, ht_ad (by decide) (by decide) (by decide) hW hL hR hb ?_ ?_ ?_ (by omega) ad78⟩
                    · unfold kh; rw [hsi, htk, hsf]; rfl
                    · rw [htk, hen, hsf]; exact (if_neg (show ¬ (4 : Int) = 5 by decide)).symm
                    · rw [htk, hsf]; exact (show (4 : Int) ≠ 1 by decide)
              · skip
                refine wa_iload_n (n := 2) rfl ?_
                refine wa_bipush (w_rg2 (by omega) (by omega)) ?_
                refine wa_icmpne (w_rg0 (by omega) (by omega)) (w_rg0 (by omega) (by omega)) ⟨_, rfl⟩ (fun c82 => ?_) (fun c82 => ?_)
                · skip
                  refine wa_iload (n := 4) rfl ?_
                  refine wa_iconst ?_
                  refine wa_icmpeq (w_rg0 (by omega) (by omega)) (w_rg0 (by omega) (by omega)) ⟨_, rfl⟩ (fun c83 => ?_) (fun c83 => ?_)
                  · skip
                    refine wa_aload_n (n := 0) rfl ?_
                    refine wb_gfz 14 rfl (wy_pr rfl) wt_14 wf_6_8 (v := 1) (h8) (fun r84 => ?_)
                    refine wa_ifeq (w_rg0 (by omega) (by omega)) ⟨_, rfl⟩ (fun c85 => ?_) (fun c85 => ?_)
                    · skip
                      exact absurd c85 (by omega)
                    · skip
                      refine wa_iload_n (n := 2) rfl ?_
                      refine wa_bipush (w_rg2 (by omega) (by omega)) ?_
                      refine wa_icmpne (w_rg0 (by omega) (by omega)) (w_rg0 (by omega) (by omega)) ⟨_, rfl⟩ (fun c86 => ?_) (fun c86 => ?_)
                      · skip
                        exact wJ_S (as12_163 (u := lx_at T n (p + 1)) hx49 hB h7 h8 hI hW hL hR hb hp hle hdi h34 (by unfold lx_sf; rw [if_neg (by omega), if_neg (by omega), if_neg (by omega), if_neg (by omega), if_neg (by omega), if_neg (by omega), if_neg (by omega)])) ⟨rfl, rfl, rfl, rfl, rfl, trivial⟩
                      · skip
                        refine wa_iload_n (n := 3) rfl ?_
                        refine wa_bipush (w_rg2 (by omega) (by omega)) ?_
                        refine wa_icmpne (w_rg0 (by omega) (by omega)) (w_rg0 (by omega) (by omega)) ⟨_, rfl⟩ (fun c87 => ?_) (fun c87 => ?_)
                        · skip
                          exact wJ_S (as12_163 (u := lx_at T n (p + 1)) hx49 hB h7 h8 hI hW hL hR hb hp hle hdi h34 (by unfold lx_sf; rw [if_neg (by omega), if_neg (by omega), if_neg (by omega), if_neg (by omega), if_neg (by omega), if_neg (by omega), if_neg (by omega)])) ⟨rfl, rfl, rfl, rfl, rfl, trivial⟩
                        · skip
                          exact absurd c87 (by omega)
                  · skip
                    exact absurd c83 (by omega)
                · skip
                  refine wa_fall ⟨_, rfl⟩ ?_
                  refine wa_iload_n (n := 2) rfl ?_
                  refine wa_bipush (w_rg2 (by omega) (by omega)) ?_
                  refine wa_icmpne (w_rg0 (by omega) (by omega)) (w_rg0 (by omega) (by omega)) ⟨_, rfl⟩ (fun c88 => ?_) (fun c88 => ?_)
                  · skip
                    refine wa_bipush (w_rg2 (by omega) (by omega)) ?_
                    refine wa_fall ⟨_, rfl⟩ ?_
                    refine wa_istore (n := 4) rfl ?_
                    refine wa_fall ⟨_, rfl⟩ ?_
                    refine wa_iload (n := 4) rfl ?_
                    refine wa_iconst ?_
                    refine wa_icmpeq (w_rg0 (by omega) (by omega)) (w_rg0 (by omega) (by omega)) ⟨_, rfl⟩ (fun c89 => ?_) (fun c89 => ?_)
                    · skip
                      exact absurd c89 (by omega)
                    · skip
                      refine wa_aload_n (n := 0) rfl ?_
                      refine wa_iload (n := 4) rfl ?_
                      refine wa_iload_n (n := 1) rfl ?_
                      refine wa_iconst ?_
                      refine wa_cv 14 rfl (wy_pr rfl) wt_14 (M2 := mS [15, 16, 17]) rfl at_XR_add ⟨_, rfl⟩ rfl rfl ⟨trivial, trivial, trivial, (Or.inr ⟨wy_pr rfl, mS_no rfl⟩), trivial, trivial⟩ trivial (fun _ _ q => mS_sub (by decide) q) (ad_ok (S := S) hI ⟨by omega, by omega⟩ ⟨by omega, by omega⟩ ⟨by omega, by omega⟩ hR) (fun oq92 Sq92 hp93 q92 => ?_)
                      rcases q92 with ⟨rfl, ad90⟩
                      show wJ _ _ _ _ _ _ _ _ _ _
                      generalize Sq92 = Z91 at ad90 ⊢
                      refine wa_iload_n (n := 1) rfl ?_
                      refine wa_iconst ?_
                      refine wa_iadd ?_
                      refine wa_ireturn rfl ?_
                      have hsf : lx_sf (T p) (lx_at T n (p + 1)) (lx_at T n (p + 2)) 1 = (4, 261, 2) := by unfold lx_sf; rw [if_neg (by omega), if_neg (by omega), if_neg (by omega), if_neg (by omega), if_neg (by omega), if_pos (by omega)]
                      refine ⟨p + 2, rfl, ht_ad (by decide) (by decide) (by decide) hW hL hR hb ?_ ?_ ?_ (by omega) ad90⟩
                      · unfold kh; rw [hsi, htk, hsf]; rfl
                      · rw [htk, hen, hsf]; exact (if_neg (show ¬ (4 : Int) = 5 by decide)).symm
                      · rw [htk, hsf]; exact (show (4 : Int) ≠ 1 by decide)
                  · skip
                    exact absurd c88 (by omega)
          · skip
            refine wa_fall ⟨_, rfl⟩ ?_
            refine wa_iload_n (n := 2) rfl ?_
            refine wa_bipush (w_rg2 (by omega) (by omega)) ?_
            refine wa_icmpne (w_rg0 (by omega) (by omega)) (w_rg0 (by omega) (by omega)) ⟨_, rfl⟩ (fun c94 => ?_) (fun c94 => ?_)
            · skip
              refine wa_iload_n (n := 2) rfl ?_
              refine wa_bipush (w_rg2 (by omega) (by omega)) ?_
              refine wa_icmpne (w_rg0 (by omega) (by omega)) (w_rg0 (by omega) (by omega)) ⟨_, rfl⟩ (fun c95 => ?_) (fun c95 => ?_)
              · skip
                refine wa_iload_n (n := 2) rfl ?_
                refine wa_bipush (w_rg2 (by omega) (by omega)) ?_
                refine wa_icmpne (w_rg0 (by omega) (by omega)) (w_rg0 (by omega) (by omega)) ⟨_, rfl⟩ (fun c96 => ?_) (fun c96 => ?_)
                · skip
                  refine wa_bipush (w_rg2 (by omega) (by omega)) ?_
                  refine wa_fall ⟨_, rfl⟩ ?_
                  refine wa_istore (n := 4) rfl ?_
                  refine wa_goto ⟨_, rfl⟩ ?_
                  refine wa_iload (n := 4) rfl ?_
                  refine wa_iconst ?_
                  refine wa_icmpeq (w_rg0 (by omega) (by omega)) (w_rg0 (by omega) (by omega)) ⟨_, rfl⟩ (fun c97 => ?_) (fun c97 => ?_)
                  · skip
                    exact absurd c97 (by omega)
                  · skip
                    refine wa_aload_n (n := 0) rfl ?_
                    refine wa_iload (n := 4) rfl ?_
                    refine wa_iload_n (n := 1) rfl ?_
                    refine wa_iconst ?_
                    refine wa_cv 14 rfl (wy_pr rfl) wt_14 (M2 := mS [15, 16, 17]) rfl at_XR_add ⟨_, rfl⟩ rfl rfl ⟨trivial, trivial, trivial, (Or.inr ⟨wy_pr rfl, mS_no rfl⟩), trivial, trivial⟩ trivial (fun _ _ q => mS_sub (by decide) q) (ad_ok (S := S) hI ⟨by omega, by omega⟩ ⟨by omega, by omega⟩ ⟨by omega, by omega⟩ hR) (fun oq100 Sq100 hp101 q100 => ?_)
                    rcases q100 with ⟨rfl, ad98⟩
                    show wJ _ _ _ _ _ _ _ _ _ _
                    generalize Sq100 = Z99 at ad98 ⊢
                    refine wa_iload_n (n := 1) rfl ?_
                    refine wa_iconst ?_
                    refine wa_iadd ?_
                    refine wa_ireturn rfl ?_
                    have hsf : lx_sf (T p) (lx_at T n (p + 1)) (lx_at T n (p + 2)) 1 = (4, 259, 2) := by unfold lx_sf; rw [if_neg (by omega), if_neg (by omega), if_neg (by omega), if_pos (by omega)]
                    refine ⟨p + 2, rfl, ht_ad (by decide) (by decide) (by decide) hW hL hR hb ?_ ?_ ?_ (by omega) ad98⟩
                    · unfold kh; rw [hsi, htk, hsf]; rfl
                    · rw [htk, hen, hsf]; exact (if_neg (show ¬ (4 : Int) = 5 by decide)).symm
                    · rw [htk, hsf]; exact (show (4 : Int) ≠ 1 by decide)
                · skip
                  exact absurd c96 (by omega)
              · skip
                exact absurd c95 (by omega)
            · skip
              exact absurd c94 (by omega)
end Waf
