/-! PART ds: what a step of the class begins with; give, raise. -/
section Wds
variable {xs : List (Nat × List Int32)} {d : Nat} {S Z : wS}
theorem rw_L_mk {r a b : Nat} {h n : Int} (e1 : S r 2 = h) (e2 : S a (-1) = n) (e3 : S b (-1) = n) (h0 : 0 ≤ h) (h1 : h ≤ n) (h2 : 16 ≤ n) (h3 : n ≤ 8388608) : rw_L r a b S := ⟨⟨by omega, by omega⟩, by omega, by omega, by omega⟩
theorem ra_1e {r a b : Nat} {h k v : Int} (q : ra_ag r a b S Z k v) (e : S r 2 = h) : Z r 2 = h + 1 := by rw [q.1, e]
/-- where a step begins: calls c, the latest one's function g, its next instruction p, the function's first one e, the pile's height h -/
def xB (w : Nat) (c g p e h : Int) (S : wS) : Prop := (w_CL S ∧ gI S) ∧ (S w 4 = c ∧ 1 ≤ c ∧ c ≤ 200) ∧ (S (w + 4) (c - 1) = g ∧ 0 ≤ g ∧ g < 400) ∧ (S (w + 5) (c - 1) = p ∧ 0 ≤ p ∧ p ≤ 20000) ∧ (S 27 g = e ∧ 0 ≤ e ∧ e + p < S 31 (-1) ∧ S 32 (-1) = S 31 (-1) ∧ S 33 (-1) = S 31 (-1) ∧ S 31 (-1) ≤ 40000) ∧ (S (w + 1) 2 = h ∧ 0 ≤ h ∧ h ≤ 2001 ∧ h ≤ S (w + 2) (-1)) ∧ S (w + 3) (-1) = S (w + 2) (-1) ∧ 64 ≤ S (w + 2) (-1) ∧ S (w + 2) (-1) ≤ 4095
/-- its tries -/
def xT (w : Nat) (z : Int) (S : wS) : Prop := S w 12 = z ∧ 0 ≤ z ∧ z ≤ S (w + 10) (-1) ∧ S (w + 10) (-1) ≤ 60000 ∧ (3 ≤ z → 1 ≤ S (w + 10) (z - 3) ∧ S (w + 10) (z - 3) ≤ 200 ∧ 0 ≤ S (w + 10) (z - 3 + 2) ∧ S (w + 10) (z - 3 + 2) ≤ S (w + 2) (-1))
/-- values go, one comes, the next instruction is to be done -/
def sO (w : Nat) (h c p n k v : Int) (S Z : wS) : Prop := ∃ A : wS, ra_ag (w + 1) (w + 2) (w + 3) (w_up S (w + 1) 2 (h - n)) A k v ∧ w_up A (w + 5) (c - 1) (p + 1) = Z
/-- where an instruction begins -/
def xP (w : Nat) (c p h : Int) (S : wS) : Prop := (w_CL S ∧ gI S) ∧ (S w 4 = c ∧ 1 ≤ c ∧ c ≤ 200) ∧ (S (w + 5) (c - 1) = p ∧ 0 ≤ p ∧ p ≤ 20000) ∧ (S (w + 1) 2 = h ∧ 0 ≤ h ∧ h ≤ 2001 ∧ h ≤ S (w + 2) (-1)) ∧ S (w + 3) (-1) = S (w + 2) (-1) ∧ 64 ≤ S (w + 2) (-1) ∧ S (w + 2) (-1) ≤ 4095
/-- a value is thrown -/
def rsP (w : Nat) (z c2 n2 h2 k v : Int) (S Z : wS) : Prop := (z < 3 ∧ (w_up (w_up (w_up (w_up (w_up (w_up (w_up S w 13 0) w 4 0) (w + 1) 2 0) w 12 0) w 13 3) w 14 k) w 15 v) = Z) ∨ (3 ≤ z ∧ ra_ag (w + 1) (w + 2) (w + 3) (w_up (w_up (w_up (w_up S w 12 (z - 3)) w 4 c2) (w + 5) (c2 - 1) n2) (w + 1) 2 h2) Z k v)
theorem rsP_16 {w : Nat} {z c2 n2 h2 k v x : Int} (hw : w = 215 ∨ w = 226) (q : rsP w z c2 n2 h2 k v S Z) (e : S w 16 = x) : Z w 16 = x := by
  have hg : wG = 1000000 := rfl
  rcases q with ⟨-, q⟩ | ⟨-, q⟩
  · rw [← q, w_up_at (by decide), w_up_at (by decide), w_up_at (by decide), w_up_at (by decide), w_up_slot (by omega), w_up_at (by decide), w_up_at (by decide)]; exact e
  · rw [q.2.2.2.1 w 16 (by omega) (by omega) (by omega) (by omega) (by omega), w_up_slot (by omega), w_up_slot (by omega), w_up_at (by decide), w_up_at (by decide)]; exact e
/-- what raise wants -/
def xR (w : Nat) (S : wS) : Prop := (w_CL S ∧ gI S) ∧ (S (w + 3) (-1) = S (w + 2) (-1) ∧ 64 ≤ S (w + 2) (-1) ∧ S (w + 2) (-1) ≤ 4095) ∧ (0 ≤ S w 12 ∧ S w 12 ≤ S (w + 10) (-1) ∧ S (w + 10) (-1) ≤ 60000) ∧ (3 ≤ S w 12 → (1 ≤ S (w + 10) (S w 12 - 3) ∧ S (w + 10) (S w 12 - 3) ≤ 200) ∧ 0 ≤ S (w + 10) (S w 12 - 3 + 2) ∧ S (w + 10) (S w 12 - 3 + 2) ≤ S (w + 2) (-1))
/-- a value is thrown -/
def rsQ (w : Nat) (k v : Int) (S Z : wS) : Prop := rsP w (S w 12) (S (w + 10) (S w 12 - 3)) (S (w + 10) (S w 12 - 3 + 1)) (S (w + 10) (S w 12 - 3 + 2)) k v S Z
/-- how a step ends, Z being what its instruction left -/
def sR (w : Nat) (Z : wS) (o : wO) (Z2 : wS) : Prop := (Z w 16 = 0 ∧ o = .inl (some (0, 1)) ∧ Z = Z2) ∨ (Z w 16 = 99 ∧ o = .inl (some (0, 0)) ∧ w_up Z w 13 4 = Z2) ∨ (Z w 16 ≠ 0 ∧ Z w 16 ≠ 99 ∧ o = .inl (some (0, 1)) ∧ rsQ w 2 (Z w 16) Z Z2)
theorem gw_215 {n k v h c p ln : Int} (hC : w_CL S) (hI : gI S) (hk : -128 ≤ k ∧ k ≤ 127) (hv : -9223372036854775808 ≤ v ∧ v ≤ 9223372036854775807) (ph : S 216 2 = h) (pc : S 215 4 = c) (pp : S 220 (c - 1) = p) (pl : S 217 (-1) = ln) (p3 : S 218 (-1) = ln) (hln : 64 ≤ ln ∧ ln ≤ 4095) (hn : 0 ≤ n ∧ n ≤ h ∧ h ≤ ln) (hc : 1 ≤ c ∧ c ≤ 200) (hx : 0 ≤ p ∧ p ≤ 1000000) : wJ (pe_GA xs) wY0 (mS [217, 218]) (d + 4) t_XK_give ((pe_at t_XK_give.bl 0).getD (0, [])).2 [(0, (2, 215)), (1, (0, n)), (2, (0, k)), (3, (1, v))] [] S (fun o Z => o = .inl none ∧ ∃ A : wS, ra_ag 216 217 218 (w_up S 216 2 (h - n)) A k v ∧ w_up A 220 (c - 1) (p + 1) = Z) := by
  subst ph
  subst pc
  subst pp
  subst pl
  exact gv_215 hC hI hk hv ⟨p3, hln⟩ hn hc hx
theorem rs_215 {k v z zc zn zh ln lt : Int} (hC : w_CL S) (hI : gI S) (hk : -128 ≤ k ∧ k ≤ 127) (hv : -9223372036854775808 ≤ v ∧ v ≤ 9223372036854775807) (pl : S 217 (-1) = ln) (p3 : S 218 (-1) = ln) (plt : S 225 (-1) = lt) (bz : S 215 12 = z) (q0 : S 225 (z - 3) = zc) (q1 : S 225 (z - 3 + 1) = zn) (q2 : S 225 (z - 3 + 2) = zh) (hln : 64 ≤ ln ∧ ln ≤ 4095) (hz : 0 ≤ z ∧ z ≤ lt ∧ lt ≤ 60000) (hT : 3 ≤ z → (1 ≤ zc ∧ zc ≤ 200) ∧ 0 ≤ zh ∧ zh ≤ ln) : wJ (pe_GA xs) wY0 (mS [217, 218]) (d + 4) t_XK_raise ((pe_at t_XK_raise.bl 0).getD (0, [])).2 [(0, (2, 215)), (1, (0, k)), (2, (1, v))] [] S (fun o Z => o = .inl none ∧ rsP 215 z zc zn zh k v S Z) := by
  refine wa_aload_n (n := 0) rfl ?_
  refine wb_gfi 215 rfl (wy_pr rfl) wt_215 wf_8_12 (v := z) (bz) (fun r1 => ?_)
  refine wa_iconst ?_
  refine wa_icmpge (w_rg0 (by omega) (by omega)) (w_rg0 (by omega) (by omega)) ⟨_, rfl⟩ (fun c2 => ?_) (fun c2 => ?_)
  · skip
    have hT1 := hT (by omega)
    refine wa_aload_n (n := 0) rfl ?_
    refine wa_dup (by decide) ?_
    refine wb_gfi 215 rfl (wy_pr rfl) wt_215 wf_8_12 (v := z) (bz) (fun r3 => ?_)
    refine wa_iconst ?_
    refine wa_isub ?_
    refine wb_pfi 215 rfl (wy_pr rfl) wt_215 wf_8_12 (n := 12) rfl ⟨(by omega), (by omega)⟩ ?_
    refine wa_aload_n (n := 0) rfl ?_
    refine wa_aload_n (n := 0) rfl ?_
    refine wb_gf4 215 rfl (wy_pr rfl) wt_215 wf_8_11 (v := 225) wl_215_11 ?_
    refine wa_aload_n (n := 0) rfl ?_
    refine wb_gfi 215 rfl (wy_pr rfl) wt_215 wf_8_12 (v := (z - 3)) (w_up_same _ _ _ _) (fun r4 => ?_)
    refine wb_iald 225 rfl (wy_pr rfl) wt_225 (n := lt) ((w_up_slot (by decide)).trans (plt)) (by omega) (by omega) (v := zc) ((w_up_slot (by decide)).trans (q0)) (fun r5 => ?_)
    refine wb_pfi 215 rfl (wy_pr rfl) wt_215 wf_8_4 (n := 4) rfl ⟨(by omega), (by omega)⟩ ?_
    refine wa_aload_n (n := 0) rfl ?_
    refine wb_gf4 215 rfl (wy_pr rfl) wt_215 wf_8_6 (v := 220) wl_215_6 ?_
    refine wa_aload_n (n := 0) rfl ?_
    refine wb_gfi 215 rfl (wy_pr rfl) wt_215 wf_8_4 (v := zc) (w_up_same _ _ _ _) (fun r6 => ?_)
    refine wa_iconst ?_
    refine wa_isub ?_
    refine wa_aload_n (n := 0) rfl ?_
    refine wb_gf4 215 rfl (wy_pr rfl) wt_215 wf_8_11 (v := 225) wl_215_11 ?_
    refine wa_aload_n (n := 0) rfl ?_
    refine wb_gfi 215 rfl (wy_pr rfl) wt_215 wf_8_12 (v := (z - 3)) ((w_up_at (by decide)).trans (w_up_same _ _ _ _)) (fun r7 => ?_)
    refine wa_iconst ?_
    refine wa_iadd ?_
    refine wb_iald 225 rfl (wy_pr rfl) wt_225 (n := lt) ((w_up_slot (by decide)).trans ((w_up_slot (by decide)).trans (plt))) (by omega) (by omega) (v := zn) ((w_up_slot (by decide)).trans ((w_up_slot (by decide)).trans (q1))) (fun r8 => ?_)
    refine wb_iast 220 rfl (wy_pr rfl) wt_220 (n := 200) ((w_up_slot (by decide)).trans ((w_up_slot (by decide)).trans ((cl_220 hC)))) (by omega) (by omega) ⟨(by omega), (by omega)⟩ ?_
    refine wa_aload_n (n := 0) rfl ?_
    refine wb_gf4 215 rfl (wy_pr rfl) wt_215 wf_8_3 (v := 216) wl_215_3 ?_
    refine wa_aload_n (n := 0) rfl ?_
    refine wb_gf4 215 rfl (wy_pr rfl) wt_215 wf_8_11 (v := 225) wl_215_11 ?_
    refine wa_aload_n (n := 0) rfl ?_
    refine wb_gfi 215 rfl (wy_pr rfl) wt_215 wf_8_12 (v := (z - 3)) ((w_up_slot (by decide)).trans ((w_up_at (by decide)).trans (w_up_same _ _ _ _))) (fun r9 => ?_)
    refine wa_iconst ?_
    refine wa_iadd ?_
    refine wb_iald 225 rfl (wy_pr rfl) wt_225 (n := lt) ((w_up_slot (by decide)).trans ((w_up_slot (by decide)).trans ((w_up_slot (by decide)).trans (plt)))) (by omega) (by omega) (v := zh) ((w_up_slot (by decide)).trans ((w_up_slot (by decide)).trans ((w_up_slot (by decide)).trans (q2)))) (fun r10 => ?_)
    refine wb_pfi 216 rfl (wy_pr rfl) wt_216 wf_7_2 (n := 2) rfl ⟨(by omega), (by omega)⟩ ?_
    refine wa_aload_n (n := 0) rfl ?_
    refine wb_gf4 215 rfl (wy_pr rfl) wt_215 wf_8_3 (v := 216) wl_215_3 ?_
    refine wa_iload_n (n := 1) rfl ?_
    refine wa_lload_n (n := 2) rfl ?_
    refine wa_cv 216 rfl (wy_pr rfl) wt_216 (M2 := mS [217, 218]) rfl at_XV_add ⟨_, rfl⟩ rfl rfl ⟨(Or.inr ⟨wy_pr rfl, mS_no rfl⟩), trivial, trivial, trivial⟩ trivial (fun _ _ q => q) (ra_216 (S := (w_up (w_up (w_up (w_up S 215 12 (z - 3)) 215 4 zc) 220 (zc - 1) zn) 216 2 zh)) (k := k) (v := v) (gI_up (gI_up (gI_up (gI_up hI (by omega) (by omega) (by omega)) (by omega) (by omega) (by omega)) (by omega) (by omega) (by omega)) (by omega) (by omega) (by omega)) ⟨by omega, by omega⟩ ⟨by omega, by omega⟩ (rw_L_mk (S := (w_up (w_up (w_up (w_up S 215 12 (z - 3)) 215 4 zc) 220 (zc - 1) zn) 216 2 zh)) (r := 216) (a := 217) (b := 218) (h := zh) (n := ln) (w_up_same _ _ _ _) ((w_up_slot (by decide)).trans ((w_up_slot (by decide)).trans ((w_up_slot (by decide)).trans ((w_up_slot (by decide)).trans (pl))))) ((w_up_slot (by decide)).trans ((w_up_slot (by decide)).trans ((w_up_slot (by decide)).trans ((w_up_slot (by decide)).trans (p3))))) (by omega) (by omega) (by omega) (by omega))) (fun oq11 Sq11 hp12 q11 => ?_)
    rcases q11 with ⟨rfl, ra11⟩
    show wJ _ _ _ _ _ _ _ _ _ _
    refine wa_return rfl ?_
    exact ⟨rfl, Or.inr ⟨by omega, ra11⟩⟩
  · skip
    refine wa_aload_n (n := 0) rfl ?_
    refine wa_iconst ?_
    refine wa_iload_n (n := 1) rfl ?_
    refine wa_lload_n (n := 2) rfl ?_
    refine wa_cv 215 rfl (wy_pr rfl) wt_215 (M2 := mS [217, 218]) rfl at_XK_end ⟨_, rfl⟩ rfl rfl ⟨(Or.inr ⟨wy_pr rfl, mS_no rfl⟩), trivial, trivial, trivial⟩ trivial (fun _ _ q => q) ?_ (fun _ _ _ q => q)
    refine wa_aload_n (n := 0) rfl ?_
    refine wa_cv 215 rfl (wy_pr rfl) wt_215 (M2 := mS [217, 218]) rfl at_XK_clear ⟨_, rfl⟩ rfl rfl ⟨(Or.inr ⟨wy_pr rfl, mS_no rfl⟩), trivial, trivial, trivial, trivial⟩ trivial (fun _ _ q => q) ?_ (fun _ _ _ q => q)
    refine wa_aload_n (n := 0) rfl ?_
    refine wa_iconst ?_
    refine wb_pfi 215 rfl (wy_pr rfl) wt_215 wf_8_13 (n := 13) rfl ⟨(by omega), (by omega)⟩ ?_
    refine wa_aload_n (n := 0) rfl ?_
    refine wa_iconst ?_
    refine wb_pfi 215 rfl (wy_pr rfl) wt_215 wf_8_4 (n := 4) rfl ⟨(by omega), (by omega)⟩ ?_
    refine wa_aload_n (n := 0) rfl ?_
    refine wb_gf4 215 rfl (wy_pr rfl) wt_215 wf_8_3 (v := 216) wl_215_3 ?_
    refine wa_iconst ?_
    refine wb_pfi 216 rfl (wy_pr rfl) wt_216 wf_7_2 (n := 2) rfl ⟨(by omega), (by omega)⟩ ?_
    refine wa_aload_n (n := 0) rfl ?_
    refine wa_iconst ?_
    refine wb_pfi 215 rfl (wy_pr rfl) wt_215 wf_8_12 (n := 12) rfl ⟨(by omega), (by omega)⟩ ?_
    refine wa_return rfl ?_
    show wJ _ _ _ _ _ _ _ _ _ _
    refine wa_aload_n (n := 0) rfl ?_
    refine wa_iload_n (n := 1) rfl ?_
    refine wb_pfi 215 rfl (wy_pr rfl) wt_215 wf_8_13 (n := 13) rfl ⟨(by omega), (by omega)⟩ ?_
    refine wa_aload_n (n := 0) rfl ?_
    refine wa_iload_n (n := 2) rfl ?_
    refine wb_pfi 215 rfl (wy_pr rfl) wt_215 wf_8_14 (n := 14) rfl ⟨(by omega), (by omega)⟩ ?_
    refine wa_aload_n (n := 0) rfl ?_
    refine wa_lload_n (n := 3) rfl ?_
    refine wb_pfl 215 rfl (wy_pr rfl) wt_215 wf_8_15 (n := 15) rfl ⟨(by omega), (by omega)⟩ ?_
    refine wa_return rfl ?_
    show wJ _ _ _ _ _ _ _ _ _ _
    refine wa_return rfl ?_
    exact ⟨rfl, Or.inl ⟨by omega, rfl⟩⟩
theorem gw_226 {n k v h c p ln : Int} (hC : w_CL S) (hI : gI S) (hk : -128 ≤ k ∧ k ≤ 127) (hv : -9223372036854775808 ≤ v ∧ v ≤ 9223372036854775807) (ph : S 227 2 = h) (pc : S 226 4 = c) (pp : S 231 (c - 1) = p) (pl : S 228 (-1) = ln) (p3 : S 229 (-1) = ln) (hln : 64 ≤ ln ∧ ln ≤ 4095) (hn : 0 ≤ n ∧ n ≤ h ∧ h ≤ ln) (hc : 1 ≤ c ∧ c ≤ 200) (hx : 0 ≤ p ∧ p ≤ 1000000) : wJ (pe_GA xs) wY0 (mS [228, 229]) (d + 4) t_XK_give ((pe_at t_XK_give.bl 0).getD (0, [])).2 [(0, (2, 226)), (1, (0, n)), (2, (0, k)), (3, (1, v))] [] S (fun o Z => o = .inl none ∧ ∃ A : wS, ra_ag 227 228 229 (w_up S 227 2 (h - n)) A k v ∧ w_up A 231 (c - 1) (p + 1) = Z) := by
  subst ph
  subst pc
  subst pp
  subst pl
  exact gv_226 hC hI hk hv ⟨p3, hln⟩ hn hc hx
theorem rs_226 {k v z zc zn zh ln lt : Int} (hC : w_CL S) (hI : gI S) (hk : -128 ≤ k ∧ k ≤ 127) (hv : -9223372036854775808 ≤ v ∧ v ≤ 9223372036854775807) (pl : S 228 (-1) = ln) (p3 : S 229 (-1) = ln) (plt : S 236 (-1) = lt) (bz : S 226 12 = z) (q0 : S 236 (z - 3) = zc) (q1 : S 236 (z - 3 + 1) = zn) (q2 : S 236 (z - 3 + 2) = zh) (hln : 64 ≤ ln ∧ ln ≤ 4095) (hz : 0 ≤ z ∧ z ≤ lt ∧ lt ≤ 60000) (hT : 3 ≤ z → (1 ≤ zc ∧ zc ≤ 200) ∧ 0 ≤ zh ∧ zh ≤ ln) : wJ (pe_GA xs) wY0 (mS [228, 229]) (d + 4) t_XK_raise ((pe_at t_XK_raise.bl 0).getD (0, [])).2 [(0, (2, 226)), (1, (0, k)), (2, (1, v))] [] S (fun o Z => o = .inl none ∧ rsP 226 z zc zn zh k v S Z) := by
  refine wa_aload_n (n := 0) rfl ?_
  refine wb_gfi 226 rfl (wy_pr rfl) wt_226 wf_8_12 (v := z) (bz) (fun r1 => ?_)
  refine wa_iconst ?_
  refine wa_icmpge (w_rg0 (by omega) (by omega)) (w_rg0 (by omega) (by omega)) ⟨_, rfl⟩ (fun c2 => ?_) (fun c2 => ?_)
  · skip
    have hT1 := hT (by omega)
    refine wa_aload_n (n := 0) rfl ?_
    refine wa_dup (by decide) ?_
    refine wb_gfi 226 rfl (wy_pr rfl) wt_226 wf_8_12 (v := z) (bz) (fun r3 => ?_)
    refine wa_iconst ?_
    refine wa_isub ?_
    refine wb_pfi 226 rfl (wy_pr rfl) wt_226 wf_8_12 (n := 12) rfl ⟨(by omega), (by omega)⟩ ?_
    refine wa_aload_n (n := 0) rfl ?_
    refine wa_aload_n (n := 0) rfl ?_
    refine wb_gf4 226 rfl (wy_pr rfl) wt_226 wf_8_11 (v := 236) wl_226_11 ?_
    refine wa_aload_n (n := 0) rfl ?_
    refine wb_gfi 226 rfl (wy_pr rfl) wt_226 wf_8_12 (v := (z - 3)) (w_up_same _ _ _ _) (fun r4 => ?_)
    refine wb_iald 236 rfl (wy_pr rfl) wt_236 (n := lt) ((w_up_slot (by decide)).trans (plt)) (by omega) (by omega) (v := zc) ((w_up_slot (by decide)).trans (q0)) (fun r5 => ?_)
    refine wb_pfi 226 rfl (wy_pr rfl) wt_226 wf_8_4 (n := 4) rfl ⟨(by omega), (by omega)⟩ ?_
    refine wa_aload_n (n := 0) rfl ?_
    refine wb_gf4 226 rfl (wy_pr rfl) wt_226 wf_8_6 (v := 231) wl_226_6 ?_
    refine wa_aload_n (n := 0) rfl ?_
    refine wb_gfi 226 rfl (wy_pr rfl) wt_226 wf_8_4 (v := zc) (w_up_same _ _ _ _) (fun r6 => ?_)
    refine wa_iconst ?_
    refine wa_isub ?_
    refine wa_aload_n (n := 0) rfl ?_
    refine wb_gf4 226 rfl (wy_pr rfl) wt_226 wf_8_11 (v := 236) wl_226_11 ?_
    refine wa_aload_n (n := 0) rfl ?_
    refine wb_gfi 226 rfl (wy_pr rfl) wt_226 wf_8_12 (v := (z - 3)) ((w_up_at (by decide)).trans (w_up_same _ _ _ _)) (fun r7 => ?_)
    refine wa_iconst ?_
    refine wa_iadd ?_
    refine wb_iald 236 rfl (wy_pr rfl) wt_236 (n := lt) ((w_up_slot (by decide)).trans ((w_up_slot (by decide)).trans (plt))) (by omega) (by omega) (v := zn) ((w_up_slot (by decide)).trans ((w_up_slot (by decide)).trans (q1))) (fun r8 => ?_)
    refine wb_iast 231 rfl (wy_pr rfl) wt_231 (n := 200) ((w_up_slot (by decide)).trans ((w_up_slot (by decide)).trans ((cl_231 hC)))) (by omega) (by omega) ⟨(by omega), (by omega)⟩ ?_
    refine wa_aload_n (n := 0) rfl ?_
    refine wb_gf4 226 rfl (wy_pr rfl) wt_226 wf_8_3 (v := 227) wl_226_3 ?_
    refine wa_aload_n (n := 0) rfl ?_
    refine wb_gf4 226 rfl (wy_pr rfl) wt_226 wf_8_11 (v := 236) wl_226_11 ?_
    refine wa_aload_n (n := 0) rfl ?_
    refine wb_gfi 226 rfl (wy_pr rfl) wt_226 wf_8_12 (v := (z - 3)) ((w_up_slot (by decide)).trans ((w_up_at (by decide)).trans (w_up_same _ _ _ _))) (fun r9 => ?_)
    refine wa_iconst ?_
    refine wa_iadd ?_
    refine wb_iald 236 rfl (wy_pr rfl) wt_236 (n := lt) ((w_up_slot (by decide)).trans ((w_up_slot (by decide)).trans ((w_up_slot (by decide)).trans (plt)))) (by omega) (by omega) (v := zh) ((w_up_slot (by decide)).trans ((w_up_slot (by decide)).trans ((w_up_slot (by decide)).trans (q2)))) (fun r10 => ?_)
    refine wb_pfi 227 rfl (wy_pr rfl) wt_227 wf_7_2 (n := 2) rfl ⟨(by omega), (by omega)⟩ ?_
    refine wa_aload_n (n := 0) rfl ?_
    refine wb_gf4 226 rfl (wy_pr rfl) wt_226 wf_8_3 (v := 227) wl_226_3 ?_
    refine wa_iload_n (n := 1) rfl ?_
    refine wa_lload_n (n := 2) rfl ?_
    refine wa_cv 227 rfl (wy_pr rfl) wt_227 (M2 := mS [228, 229]) rfl at_XV_add ⟨_, rfl⟩ rfl rfl ⟨(Or.inr ⟨wy_pr rfl, mS_no rfl⟩), trivial, trivial, trivial⟩ trivial (fun _ _ q => q) (ra_227 (S := (w_up (w_up (w_up (w_up S 226 12 (z - 3)) 226 4 zc) 231 (zc - 1) zn) 227 2 zh)) (k := k) (v := v) (gI_up (gI_up (gI_up (gI_up hI (by omega) (by omega) (by omega)) (by omega) (by omega) (by omega)) (by omega) (by omega) (by omega)) (by omega) (by omega) (by omega)) ⟨by omega, by omega⟩ ⟨by omega, by omega⟩ (rw_L_mk (S := (w_up (w_up (w_up (w_up S 226 12 (z - 3)) 226 4 zc) 231 (zc - 1) zn) 227 2 zh)) (r := 227) (a := 228) (b := 229) (h := zh) (n := ln) (w_up_same _ _ _ _) ((w_up_slot (by decide)).trans ((w_up_slot (by decide)).trans ((w_up_slot (by decide)).trans ((w_up_slot (by decide)).trans (pl))))) ((w_up_slot (by decide)).trans ((w_up_slot (by decide)).trans ((w_up_slot (by decide)).trans ((w_up_slot (by decide)).trans (p3))))) (by omega) (by omega) (by omega) (by omega))) (fun oq11 Sq11 hp12 q11 => ?_)
    rcases q11 with ⟨rfl, ra11⟩
    show wJ _ _ _ _ _ _ _ _ _ _
    refine wa_return rfl ?_
    exact ⟨rfl, Or.inr ⟨by omega, ra11⟩⟩
  · skip
    refine wa_aload_n (n := 0) rfl ?_
    refine wa_iconst ?_
    refine wa_iload_n (n := 1) rfl ?_
    refine wa_lload_n (n := 2) rfl ?_
    refine wa_cv 226 rfl (wy_pr rfl) wt_226 (M2 := mS [228, 229]) rfl at_XK_end ⟨_, rfl⟩ rfl rfl ⟨(Or.inr ⟨wy_pr rfl, mS_no rfl⟩), trivial, trivial, trivial⟩ trivial (fun _ _ q => q) ?_ (fun _ _ _ q => q)
    refine wa_aload_n (n := 0) rfl ?_
    refine wa_cv 226 rfl (wy_pr rfl) wt_226 (M2 := mS [228, 229]) rfl at_XK_clear ⟨_, rfl⟩ rfl rfl ⟨(Or.inr ⟨wy_pr rfl, mS_no rfl⟩), trivial, trivial, trivial, trivial⟩ trivial (fun _ _ q => q) ?_ (fun _ _ _ q => q)
    refine wa_aload_n (n := 0) rfl ?_
    refine wa_iconst ?_
    refine wb_pfi 226 rfl (wy_pr rfl) wt_226 wf_8_13 (n := 13) rfl ⟨(by omega), (by omega)⟩ ?_
    refine wa_aload_n (n := 0) rfl ?_
    refine wa_iconst ?_
    refine wb_pfi 226 rfl (wy_pr rfl) wt_226 wf_8_4 (n := 4) rfl ⟨(by omega), (by omega)⟩ ?_
    refine wa_aload_n (n := 0) rfl ?_
    refine wb_gf4 226 rfl (wy_pr rfl) wt_226 wf_8_3 (v := 227) wl_226_3 ?_
    refine wa_iconst ?_
    refine wb_pfi 227 rfl (wy_pr rfl) wt_227 wf_7_2 (n := 2) rfl ⟨(by omega), (by omega)⟩ ?_
    refine wa_aload_n (n := 0) rfl ?_
    refine wa_iconst ?_
    refine wb_pfi 226 rfl (wy_pr rfl) wt_226 wf_8_12 (n := 12) rfl ⟨(by omega), (by omega)⟩ ?_
    refine wa_return rfl ?_
    show wJ _ _ _ _ _ _ _ _ _ _
    refine wa_aload_n (n := 0) rfl ?_
    refine wa_iload_n (n := 1) rfl ?_
    refine wb_pfi 226 rfl (wy_pr rfl) wt_226 wf_8_13 (n := 13) rfl ⟨(by omega), (by omega)⟩ ?_
    refine wa_aload_n (n := 0) rfl ?_
    refine wa_iload_n (n := 2) rfl ?_
    refine wb_pfi 226 rfl (wy_pr rfl) wt_226 wf_8_14 (n := 14) rfl ⟨(by omega), (by omega)⟩ ?_
    refine wa_aload_n (n := 0) rfl ?_
    refine wa_lload_n (n := 3) rfl ?_
    refine wb_pfl 226 rfl (wy_pr rfl) wt_226 wf_8_15 (n := 15) rfl ⟨(by omega), (by omega)⟩ ?_
    refine wa_return rfl ?_
    show wJ _ _ _ _ _ _ _ _ _ _
    refine wa_return rfl ?_
    exact ⟨rfl, Or.inl ⟨by omega, rfl⟩⟩
theorem rq_215 {k v : Int} (h : xR 215 S) (hk : -128 ≤ k ∧ k ≤ 127) (hv : -9223372036854775808 ≤ v ∧ v ≤ 9223372036854775807) : wJ (pe_GA xs) wY0 (mS [217, 218]) (d + 4) t_XK_raise ((pe_at t_XK_raise.bl 0).getD (0, [])).2 [(0, (2, 215)), (1, (0, k)), (2, (1, v))] [] S (fun o Z => o = .inl none ∧ rsQ 215 k v S Z) := by
  obtain ⟨⟨hC, hI⟩, ⟨l1, l2, l3⟩, ⟨z0, z1, z2⟩, hT⟩ := h
  exact rs_215 hC hI hk hv rfl l1 rfl rfl rfl rfl rfl ⟨l2, l3⟩ ⟨z0, z1, z2⟩ hT
theorem rq_226 {k v : Int} (h : xR 226 S) (hk : -128 ≤ k ∧ k ≤ 127) (hv : -9223372036854775808 ≤ v ∧ v ≤ 9223372036854775807) : wJ (pe_GA xs) wY0 (mS [228, 229]) (d + 4) t_XK_raise ((pe_at t_XK_raise.bl 0).getD (0, [])).2 [(0, (2, 226)), (1, (0, k)), (2, (1, v))] [] S (fun o Z => o = .inl none ∧ rsQ 226 k v S Z) := by
  obtain ⟨⟨hC, hI⟩, ⟨l1, l2, l3⟩, ⟨z0, z1, z2⟩, hT⟩ := h
  exact rs_226 hC hI hk hv rfl l1 rfl rfl rfl rfl rfl ⟨l2, l3⟩ ⟨z0, z1, z2⟩ hT
end Wds
