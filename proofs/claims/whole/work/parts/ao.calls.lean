/-! PART ao: feed, host, type, member, subtype by the relation of both objects. -/
section Wao
variable {xs : List (Nat × List Int32)} {M : Nat → Prop} {d c : Nat} {A B C S Z : wS} {Q : wO → wS → Prop} {T : Int → Int} {n : Int}
theorem RA_t {t0 m0 ob p q b b2 : Nat} (hp : 18 < p ∧ p < 237) (hb : 239 < b ∧ b + 19 < 400 ∧ 18 < t0 ∧ t0 + 4 < 237 ∧ 18 < m0 ∧ m0 + 14 < 237 ∧ 18 < ob ∧ ob < 237) (hR : RA t0 m0 ob p q b b2 S) : RA t0 m0 ob p q b b2 (w_up S 237 0 0) := by
  obtain ⟨r1, r2, r3, ⟨r4, r5⟩, r6, r7, r8⟩ := hR
  have es : ∀ j : Nat, j ≠ 237 → w_up S 237 0 0 j = S j := fun j hj => w_up_row hj
  refine ⟨cW_ag r1 (gI_up r1.2.1 (by decide) (Or.inl (by decide)) (Or.inl (Or.inl (by decide)))) (fun j hj => es j (by omega)), cH_ag r2 hp.2 (fun j hj => es j (by omega)), fun y hy => (w_up_at (by decide)).trans (r3 y hy), ⟨(w_up_at (by decide)).trans r4, (w_up_at (by decide)).trans r5⟩, ?_, ?_, ?_⟩
  · rw [es 0 (by decide), w_up_at (by decide)]; exact r6
  · rw [es 0 (by decide), es 1 (by decide), es 239 (by decide)]; exact r7
  · exact KQ_ag (lo := 18) (hi := 236) r8 (fun j j0 j1 => es j (by omega)) (fun j j0 j1 => es j (by omega)) (by omega)
/-! the class has 73, the reference 241 -/
theorem c2_73 {k wh : Int} (hR : RA 87 97 115 73 162 241 261 S) (hk : -2147483648 ≤ k ∧ k ≤ 2147483647) (hw : -2147483648 ≤ wh ∧ wh ≤ 2147483647) : wJ (pe_GA xs) wY0 M d t_X_type ((pe_at t_X_type.bl 0).getD (0, [])).2 [(0, (2, 0)), (1, (0, k)), (2, (0, wh))] [] S (fun o Z => S = Z ∧ o = .inl (some (0, ty_r 241 S k wh))) := by
  rw [← KQ_ty hR.2.2.2.2.2.2]
  exact xty_73 hR.1.1 hR.2.1.1 (by have := hR.2.2.2.2.2.2.1; omega) hk hw
theorem m2_73 {k wh : Int} (hR : RA 87 97 115 73 162 241 261 S) (hk : -2147483648 ≤ k ∧ k ≤ 2147483647) (hw : -2147483648 ≤ wh ∧ wh ≤ 2147483647) : wJ (pe_GA xs) wY0 M (d + 1) t_M_type ((pe_at t_M_type.bl 0).getD (0, [])).2 [(0, (2, 237)), (1, (0, k)), (2, (0, wh))] [] S (fun o Z => RA 87 97 115 73 162 241 261 Z ∧ o = .inl (some (0, ty_r 241 S k wh))) :=
  wJ_mono (mty_241 hR.2.2.1 hR.2.2.2.1.1 hR.2.2.2.2.2.2.1.2 hk hw) (fun o Z hz => ⟨by rw [← hz.1]; exact RA_t (by decide) (by decide) hR, hz.2⟩)
theorem c3_73 {k wh : Int} (hR : RA 87 97 115 73 162 241 261 S) (hk : -2147483648 ≤ k ∧ k ≤ 2147483647) (hw : -2147483648 ≤ wh ∧ wh ≤ 2147483647) : wJ (pe_GA xs) wY0 M d t_X_member ((pe_at t_X_member.bl 0).getD (0, [])).2 [(0, (2, 0)), (1, (0, k)), (2, (0, wh))] [] S (fun o Z => S = Z ∧ o = .inl (some (0, me_r 241 S k wh))) := by
  rw [← KQ_me hR.2.2.2.2.2.2]
  have h3 := hR.2.2.2.2.2.2.2.2
  exact xme_73 hR.1.1 hR.2.1.1 (by have := h3.1; omega) (fun i i0 i1 => by
    have := h3.2 i i0 (by have := h3.1; omega)
    have e := this.1.2.2.2.2.1
    have := this.2.1
    rw [show (101 : Nat) = 97 + 4 from rfl]
    omega) hk hw
theorem m3_73 {k wh : Int} (hR : RA 87 97 115 73 162 241 261 S) (hk : -2147483648 ≤ k ∧ k ≤ 2147483647) (hw : -2147483648 ≤ wh ∧ wh ≤ 2147483647) : wJ (pe_GA xs) wY0 M (d + 1) t_M_member ((pe_at t_M_member.bl 0).getD (0, [])).2 [(0, (2, 237)), (1, (0, k)), (2, (0, wh))] [] S (fun o Z => RA 87 97 115 73 162 241 261 Z ∧ o = .inl (some (0, me_r 241 S k wh))) :=
  wJ_mono (mme_241 hR.2.2.1 hR.2.2.2.1.1 hR.2.2.2.2.2.2.2.2.1.2 (fun i i0 i1 => (hR.2.2.2.2.2.2.2.2.2 i i0 i1).2.1) hk hw) (fun o Z hz => ⟨by rw [← hz.1]; exact RA_t (by decide) (by decide) hR, hz.2⟩)
theorem c4_73 {k wh : Int} (hR : RA 87 97 115 73 162 241 261 S) (hk : -2147483648 ≤ k ∧ k ≤ 2147483647) (hw : -2147483648 ≤ wh ∧ wh ≤ 2147483647) : wJ (pe_GA xs) wY0 M (d + 1) t_X_subtype ((pe_at t_X_subtype.bl 0).getD (0, [])).2 [(0, (2, 0)), (1, (0, k)), (2, (0, wh))] [] S (fun o Z => S = Z ∧ o = .inl (some (0, su_v (S 247) (S 241 1) k wh))) := by
  rw [← show su_v (S 115) (S 73 2) k wh = su_v (S 247) (S 241 1) k wh from KQ_su hR.2.2.2.2.2.2]
  exact xsu_73 hR.1.1 hR.2.1.1 (by have := hR.2.2.2.2.2.2.1; omega) hk hw
theorem m4_73 {k wh : Int} (hR : RA 87 97 115 73 162 241 261 S) (hk : -2147483648 ≤ k ∧ k ≤ 2147483647) (hw : -2147483648 ≤ wh ∧ wh ≤ 2147483647) : wJ (pe_GA xs) wY0 M (d + 1) t_M_subtype ((pe_at t_M_subtype.bl 0).getD (0, [])).2 [(0, (2, 237)), (1, (0, k)), (2, (0, wh))] [] S (fun o Z => RA 87 97 115 73 162 241 261 Z ∧ o = .inl (some (0, su_v (S 247) (S 241 1) k wh))) :=
  wJ_mono (msu_241 hR.2.2.1 hR.2.2.2.1.1 hR.2.2.2.2.2.2.1.2 hk hw) (fun o Z hz => ⟨by rw [← hz.1]; exact RA_t (by decide) (by decide) hR, hz.2⟩)
/-- feed: what the reference does from where the class has come -/
theorem c0_73 {a e : Int} (hR : RA 87 97 115 73 162 241 261 S) : wJ (pe_GA xs) wY0 (mS [1]) (d + 3) t_X_feed ((pe_at t_X_feed.bl 0).getD (0, [])).2 [(0, (2, 0)), (1, (1, a)), (3, (1, e))] [] S (fun o1 Z => ∀ (M2 : Nat → Prop) (d2 : Nat), w_rg 1 a → w_rg 1 e → wJ (pe_GA xs) wY0 M2 (d2 + 2) t_M_feed ((pe_at t_M_feed.bl 0).getD (0, [])).2 [(0, (2, 237)), (1, (1, a)), (3, (1, e))] [] Z (fun o2 S2 => (∃ v : Int, o1 = .inl (some (0, v)) ∧ o2 = .inl (some (0, v))) ∧ RA 87 97 115 73 162 241 261 S2)) := by
  have hw := hR.1.2.2.2.2.2.2.2.1
  refine wJ_mono (feed_c hR.1.2.1 ⟨hw.1, hw.2.1, hw.2.2.1, hw.2.2.2⟩) (fun o1 Z hz M2 d2 ha he => ?_)
  have hG : ∀ j : Nat, j < 400 → j ≠ wG := fun j hj => by unfold wG; omega
  have zl : ∀ (j : Nat) (i : Int), 236 < j → j < 388 → Z j i = S j i := fun j i j0 j1 => by
    rcases hz with ⟨-, rfl, -⟩ | ⟨-, x, -⟩
    · rfl
    · exact x.2.2.2.2.2.1 j i (by omega) (hG j (by omega)) (by omega) (by omega) (by omega)
  refine wJ_mono (mf_feed (fun y hy => (zl y.1 (-1) (wy_lt y hy).1 (wy_lt y hy).2).trans (hR.2.2.1 y hy)) (by rw [zl 237 3 (by decide) (by decide), ← hR.2.2.2.2.1]; exact ⟨hw.1, hw.2.1⟩) ha he) (fun o2 S2 h2 => bf (by decide) (by decide) hR hz h2)
/-- host -/
theorem c1_73 (hX : w_X xs) (hx1 : pe_at (pe_GA xs).xs 1 = some (1, tx_1)) (hR : RA 87 97 115 73 162 241 261 S) (h76 : S 0 1 ≤ 8176) : wJ (pe_GA xs) wY0 (mS [15, 16, 17, 164, 165, 166, 167, 168, 169, 206, 207]) (d + 14) t_X_host ((pe_at t_X_host.bl 0).getD (0, [])).2 [(0, (2, 0))] [] S (fun o1 Z => ∀ (M2 : Nat → Prop) (d2 : Nat), wJ (pe_GA xs) wY0 M2 (d2 + 9) t_M_host ((pe_at t_M_host.bl 0).getD (0, [])).2 [(0, (2, 237))] [] Z (fun o2 S2 => (∃ v : Int, o1 = .inl (some (0, v)) ∧ o2 = .inl (some (0, v))) ∧ (o1 = .inl (some (0, 0)) → RA 176 186 204 162 73 261 241 S2) ∧ (o1 ≠ .inl (some (0, 0)) → RA 87 97 115 73 162 241 261 S2))) := by
  have hw := hR.1.2.2.2.2.2.2.2.1
  have h6 := hR.2.2.2.2.1
  refine wJ_mono (xh_162 (JE := fun cs _ os _ => JO cs os) (A := hb_0 S) (T := S 239) (n := S 237 3) (fun c => JO_162) hX hx1 ⟨?_, ?_, rfl⟩ hR.1 hR.2.1 h6 (by rw [← h6]; exact h76) (by rw [← h6]; exact hR.2.2.2.2.2.1)) (fun o1 Z hz M2 d2 => ?_)
  · show w_up (w_up S 237 4 (S 237 3)) 237 5 1 239 = S 239
    rw [w_up_row (by decide), w_up_row (by decide)]
  · show w_up (w_up S 237 4 (S 237 3)) 237 5 1 237 4 = S 237 3
    rw [w_up_at (by decide), w_up_same]
  have hG : ∀ j : Nat, j < 400 → j ≠ wG := fun j hj => by unfold wG; omega
  have zl : ∀ (j : Nat) (i : Int), 236 < j → j < 388 → Z j i = S j i := fun j i j0 j1 => by
    rcases hz with ⟨c, cs, ms, os, Zr, -, -, -, g1, -, -, g2⟩ | ⟨e, x, Zr, -, -, -, g1, -, rfl⟩
    · exact ((cl_all_162 g2).2.2 j i (cl_fr_lo (fun _ => by omega) (by decide))).trans (g1.1 j i (by omega) (hG j (by omega)) (by omega) (by omega) (by omega) (by omega))
    · exact (w_up_slot (by omega)).trans (g1.1 j i (by omega) (hG j (by omega)) (by omega) (by omega) (by omega) (by omega))
  refine wJ_mono (host_261 hX (fun y hy => (zl y.1 (-1) (wy_lt y hy).1 (wy_lt y hy).2).trans (hR.2.2.1 y hy)) (by rw [zl 237 3 (by decide) (by decide), ← h6]; exact ⟨hw.1, hw.2.1⟩) ((zl 237 14 (by decide) (by decide)).trans hR.2.2.2.1.2) ((zl 237 13 (by decide) (by decide)).trans hR.2.2.2.1.1)) (fun o2 S2 h2 => bh_162 hR hz h2)
/-! the class has 162, the reference 261 -/
theorem c2_162 {k wh : Int} (hR : RA 176 186 204 162 73 261 241 S) (hk : -2147483648 ≤ k ∧ k ≤ 2147483647) (hw : -2147483648 ≤ wh ∧ wh ≤ 2147483647) : wJ (pe_GA xs) wY0 M d t_X_type ((pe_at t_X_type.bl 0).getD (0, [])).2 [(0, (2, 0)), (1, (0, k)), (2, (0, wh))] [] S (fun o Z => S = Z ∧ o = .inl (some (0, ty_r 261 S k wh))) := by
  rw [← KQ_ty hR.2.2.2.2.2.2]
  exact xty_162 hR.1.1 hR.2.1.1 (by have := hR.2.2.2.2.2.2.1; omega) hk hw
theorem m2_162 {k wh : Int} (hR : RA 176 186 204 162 73 261 241 S) (hk : -2147483648 ≤ k ∧ k ≤ 2147483647) (hw : -2147483648 ≤ wh ∧ wh ≤ 2147483647) : wJ (pe_GA xs) wY0 M (d + 1) t_M_type ((pe_at t_M_type.bl 0).getD (0, [])).2 [(0, (2, 237)), (1, (0, k)), (2, (0, wh))] [] S (fun o Z => RA 176 186 204 162 73 261 241 Z ∧ o = .inl (some (0, ty_r 261 S k wh))) :=
  wJ_mono (mty_261 hR.2.2.1 hR.2.2.2.1.1 hR.2.2.2.2.2.2.1.2 hk hw) (fun o Z hz => ⟨by rw [← hz.1]; exact RA_t (by decide) (by decide) hR, hz.2⟩)
theorem c3_162 {k wh : Int} (hR : RA 176 186 204 162 73 261 241 S) (hk : -2147483648 ≤ k ∧ k ≤ 2147483647) (hw : -2147483648 ≤ wh ∧ wh ≤ 2147483647) : wJ (pe_GA xs) wY0 M d t_X_member ((pe_at t_X_member.bl 0).getD (0, [])).2 [(0, (2, 0)), (1, (0, k)), (2, (0, wh))] [] S (fun o Z => S = Z ∧ o = .inl (some (0, me_r 261 S k wh))) := by
  rw [← KQ_me hR.2.2.2.2.2.2]
  have h3 := hR.2.2.2.2.2.2.2.2
  exact xme_162 hR.1.1 hR.2.1.1 (by have := h3.1; omega) (fun i i0 i1 => by
    have := h3.2 i i0 (by have := h3.1; omega)
    have e := this.1.2.2.2.2.1
    have := this.2.1
    rw [show (190 : Nat) = 186 + 4 from rfl]
    omega) hk hw
theorem m3_162 {k wh : Int} (hR : RA 176 186 204 162 73 261 241 S) (hk : -2147483648 ≤ k ∧ k ≤ 2147483647) (hw : -2147483648 ≤ wh ∧ wh ≤ 2147483647) : wJ (pe_GA xs) wY0 M (d + 1) t_M_member ((pe_at t_M_member.bl 0).getD (0, [])).2 [(0, (2, 237)), (1, (0, k)), (2, (0, wh))] [] S (fun o Z => RA 176 186 204 162 73 261 241 Z ∧ o = .inl (some (0, me_r 261 S k wh))) :=
  wJ_mono (mme_261 hR.2.2.1 hR.2.2.2.1.1 hR.2.2.2.2.2.2.2.2.1.2 (fun i i0 i1 => (hR.2.2.2.2.2.2.2.2.2 i i0 i1).2.1) hk hw) (fun o Z hz => ⟨by rw [← hz.1]; exact RA_t (by decide) (by decide) hR, hz.2⟩)
theorem c4_162 {k wh : Int} (hR : RA 176 186 204 162 73 261 241 S) (hk : -2147483648 ≤ k ∧ k ≤ 2147483647) (hw : -2147483648 ≤ wh ∧ wh ≤ 2147483647) : wJ (pe_GA xs) wY0 M (d + 1) t_X_subtype ((pe_at t_X_subtype.bl 0).getD (0, [])).2 [(0, (2, 0)), (1, (0, k)), (2, (0, wh))] [] S (fun o Z => S = Z ∧ o = .inl (some (0, su_v (S 267) (S 261 1) k wh))) := by
  rw [← show su_v (S 204) (S 162 2) k wh = su_v (S 267) (S 261 1) k wh from KQ_su hR.2.2.2.2.2.2]
  exact xsu_162 hR.1.1 hR.2.1.1 (by have := hR.2.2.2.2.2.2.1; omega) hk hw
theorem m4_162 {k wh : Int} (hR : RA 176 186 204 162 73 261 241 S) (hk : -2147483648 ≤ k ∧ k ≤ 2147483647) (hw : -2147483648 ≤ wh ∧ wh ≤ 2147483647) : wJ (pe_GA xs) wY0 M (d + 1) t_M_subtype ((pe_at t_M_subtype.bl 0).getD (0, [])).2 [(0, (2, 237)), (1, (0, k)), (2, (0, wh))] [] S (fun o Z => RA 176 186 204 162 73 261 241 Z ∧ o = .inl (some (0, su_v (S 267) (S 261 1) k wh))) :=
  wJ_mono (msu_261 hR.2.2.1 hR.2.2.2.1.1 hR.2.2.2.2.2.2.1.2 hk hw) (fun o Z hz => ⟨by rw [← hz.1]; exact RA_t (by decide) (by decide) hR, hz.2⟩)
/-- feed: what the reference does from where the class has come -/
theorem c0_162 {a e : Int} (hR : RA 176 186 204 162 73 261 241 S) : wJ (pe_GA xs) wY0 (mS [1]) (d + 3) t_X_feed ((pe_at t_X_feed.bl 0).getD (0, [])).2 [(0, (2, 0)), (1, (1, a)), (3, (1, e))] [] S (fun o1 Z => ∀ (M2 : Nat → Prop) (d2 : Nat), w_rg 1 a → w_rg 1 e → wJ (pe_GA xs) wY0 M2 (d2 + 2) t_M_feed ((pe_at t_M_feed.bl 0).getD (0, [])).2 [(0, (2, 237)), (1, (1, a)), (3, (1, e))] [] Z (fun o2 S2 => (∃ v : Int, o1 = .inl (some (0, v)) ∧ o2 = .inl (some (0, v))) ∧ RA 176 186 204 162 73 261 241 S2)) := by
  have hw := hR.1.2.2.2.2.2.2.2.1
  refine wJ_mono (feed_c hR.1.2.1 ⟨hw.1, hw.2.1, hw.2.2.1, hw.2.2.2⟩) (fun o1 Z hz M2 d2 ha he => ?_)
  have hG : ∀ j : Nat, j < 400 → j ≠ wG := fun j hj => by unfold wG; omega
  have zl : ∀ (j : Nat) (i : Int), 236 < j → j < 388 → Z j i = S j i := fun j i j0 j1 => by
    rcases hz with ⟨-, rfl, -⟩ | ⟨-, x, -⟩
    · rfl
    · exact x.2.2.2.2.2.1 j i (by omega) (hG j (by omega)) (by omega) (by omega) (by omega)
  refine wJ_mono (mf_feed (fun y hy => (zl y.1 (-1) (wy_lt y hy).1 (wy_lt y hy).2).trans (hR.2.2.1 y hy)) (by rw [zl 237 3 (by decide) (by decide), ← hR.2.2.2.2.1]; exact ⟨hw.1, hw.2.1⟩) ha he) (fun o2 S2 h2 => bf (by decide) (by decide) hR hz h2)
/-- host -/
theorem c1_162 (hX : w_X xs) (hx1 : pe_at (pe_GA xs).xs 1 = some (1, tx_1)) (hR : RA 176 186 204 162 73 261 241 S) (h76 : S 0 1 ≤ 8176) : wJ (pe_GA xs) wY0 (mS [15, 16, 17, 75, 76, 77, 78, 79, 80, 117, 118]) (d + 14) t_X_host ((pe_at t_X_host.bl 0).getD (0, [])).2 [(0, (2, 0))] [] S (fun o1 Z => ∀ (M2 : Nat → Prop) (d2 : Nat), wJ (pe_GA xs) wY0 M2 (d2 + 9) t_M_host ((pe_at t_M_host.bl 0).getD (0, [])).2 [(0, (2, 237))] [] Z (fun o2 S2 => (∃ v : Int, o1 = .inl (some (0, v)) ∧ o2 = .inl (some (0, v))) ∧ (o1 = .inl (some (0, 0)) → RA 87 97 115 73 162 241 261 S2) ∧ (o1 ≠ .inl (some (0, 0)) → RA 176 186 204 162 73 261 241 S2))) := by
  have hw := hR.1.2.2.2.2.2.2.2.1
  have h6 := hR.2.2.2.2.1
  refine wJ_mono (xh_73 (JE := fun cs _ os _ => JO cs os) (A := hb_0 S) (T := S 239) (n := S 237 3) (fun c => JO_73) hX hx1 ⟨?_, ?_, rfl⟩ hR.1 hR.2.1 h6 (by rw [← h6]; exact h76) (by rw [← h6]; exact hR.2.2.2.2.2.1)) (fun o1 Z hz M2 d2 => ?_)
  · show w_up (w_up S 237 4 (S 237 3)) 237 5 1 239 = S 239
    rw [w_up_row (by decide), w_up_row (by decide)]
  · show w_up (w_up S 237 4 (S 237 3)) 237 5 1 237 4 = S 237 3
    rw [w_up_at (by decide), w_up_same]
  have hG : ∀ j : Nat, j < 400 → j ≠ wG := fun j hj => by unfold wG; omega
  have zl : ∀ (j : Nat) (i : Int), 236 < j → j < 388 → Z j i = S j i := fun j i j0 j1 => by
    rcases hz with ⟨c, cs, ms, os, Zr, -, -, -, g1, -, -, g2⟩ | ⟨e, x, Zr, -, -, -, g1, -, rfl⟩
    · exact ((cl_all_73 g2).2.2 j i (cl_fr_lo (fun _ => by omega) (by decide))).trans (g1.1 j i (by omega) (hG j (by omega)) (by omega) (by omega) (by omega) (by omega))
    · exact (w_up_slot (by omega)).trans (g1.1 j i (by omega) (hG j (by omega)) (by omega) (by omega) (by omega) (by omega))
  refine wJ_mono (host_241 hX (fun y hy => (zl y.1 (-1) (wy_lt y hy).1 (wy_lt y hy).2).trans (hR.2.2.1 y hy)) (by rw [zl 237 3 (by decide) (by decide), ← h6]; exact ⟨hw.1, hw.2.1⟩) ((zl 237 14 (by decide) (by decide)).trans hR.2.2.2.1.2) ((zl 237 13 (by decide) (by decide)).trans hR.2.2.2.1.1)) (fun o2 S2 h2 => bh_73 hR hz h2)
end Wao
