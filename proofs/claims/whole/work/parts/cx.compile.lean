/-! PART cx: the reference's compile. -/
section Wcx
variable {xs : List (Nat × List Int32)} {M : Nat → Prop} {d : Nat} {A B C S Z : wS} {Q : wO → wS → Prop}
variable {f0 u a b op : Int} {I : List pz_I} {F : List pz_F} {x : pz_I} {k r : Nat}
variable {p sb un n b0 b1 : Int} {T : Int → Int} {N X L J : List (List Int)} {S0 : wS} {i pm D : Nat} {o : pz_O}
theorem gD_ll {α : Type} {l m : List α} {z : α} {k : Nat} (h : k < l.length) : (l ++ m).getD k z = l.getD k z := by
  rw [List.getD_eq_getElem?_getD, List.getElem?_append_left h, ← List.getD_eq_getElem?_getD]
theorem adL_pr (L : List (List Int)) (x : List Int) : ∃ J : List (List Int), adL L x = L ++ J := by
  unfold adL
  by_cases e : x ∈ L ∨ 4000 ≤ L.length
  · rw [if_pos e]; exact ⟨[], (List.append_nil _).symm⟩
  · rw [if_neg e]; exact ⟨[x], rfl⟩
theorem NL_pr (T : Int → Int) (n : Int) (N : List (List Int)) (i : Nat) : ∃ J : List (List Int), NL T n N i = N ++ J := by
  induction i with
  | zero => exact ⟨[], (List.append_nil _).symm⟩
  | succ i ih =>
    obtain ⟨J, hJ⟩ := ih
    show ∃ J, Nn T n (tp T n 0 i) (NL T n N i) = N ++ J
    unfold Nn
    by_cases e : lx_tk T n 0 (tp T n 0 i) = 1 ∧ kwL (nmx T n (tp T n 0 i)) = -1
    · rw [if_pos e]
      obtain ⟨J2, h2⟩ := adL_pr (NL T n N i) (nmx T n (tp T n 0 i))
      exact ⟨J ++ J2, by rw [h2, hJ, List.append_assoc]⟩
    · rw [if_neg e]; exact ⟨J, hJ⟩
theorem XL_pr (T : Int → Int) (n : Int) (X : List (List Int)) (i : Nat) : ∃ J : List (List Int), XL T n X i = X ++ J := by
  induction i with
  | zero => exact ⟨[], (List.append_nil _).symm⟩
  | succ i ih =>
    obtain ⟨J, hJ⟩ := ih
    show ∃ J, Xn T n (tp T n 0 i) (XL T n X i) = X ++ J
    unfold Xn
    by_cases e : lx_tk T n 0 (tp T n 0 i) = 3
    · rw [if_pos e]
      obtain ⟨J2, h2⟩ := adL_pr (XL T n X i) (lx_by T n (tp T n 0 i))
      exact ⟨J ++ J2, by rw [h2, hJ, List.append_assoc]⟩
    · rw [if_neg e]; exact ⟨J, hJ⟩
theorem mN_tk (h : mN (L ++ J) S) (e : ∀ (j : Nat) (x : Int), (j = 281 ∨ j = 282) → Z j x = S j x) (e16 : Z 237 16 = (L.length : Int)) : mN L Z := by
  obtain ⟨h1, h2, h3⟩ := h
  rw [List.length_append] at h2 h3
  refine ⟨e16, by omega, fun k hk => ?_⟩
  obtain ⟨a1, a2, a3⟩ := h3 k (by omega)
  rw [gD_ll hk] at a1 a2 a3
  exact ⟨(e 282 _ (Or.inr rfl)).trans a1, a2, fun x hx => (e 281 _ (Or.inl rfl)).trans (a3 x hx)⟩
theorem mX_tk (h : mX (L ++ J) S) (e : ∀ (j : Nat) (x : Int), (283 ≤ j ∧ j ≤ 285) → Z j x = S j x) (e19 : Z 237 19 = (L.length : Int)) (e20 : Z 237 20 = (tls L : Int)) : mX L Z := by
  obtain ⟨h1, h2, h2b, h3⟩ := h
  rw [List.length_append] at h2 h3
  refine ⟨e19, by omega, e20, fun k hk => ?_⟩
  obtain ⟨a1, a2, a3, a4⟩ := h3 k (by omega)
  rw [gD_ll hk] at a2 a3 a4
  rw [List.take_append_of_le_length (by omega)] at a1 a4
  exact ⟨(e 284 _ (by omega)).trans a1, (e 285 _ (by omega)).trans a2, a3, fun y hy => (e 283 _ (by omega)).trans (a4 y hy)⟩
theorem rZ_ag (h : rZ pm S) (e : ∀ (j : Nat) (x : Int), ((j = 237 ∧ x = 25) ∨ (286 ≤ j ∧ j ≤ 292) ∨ (2000000 ≤ j ∧ j < 4000000)) → Z j x = S j x) : rZ pm Z ∧ phA pm Z = phA pm S := by
  obtain ⟨h1, h2, h3, h4, ⟨h5, h6⟩, l1, l2, l3, h7, h8, h9⟩ := h
  have eP : ∀ k : Nat, k ≤ 400 → ∀ (j : Nat) (x : Int), nP k ≤ j → j < nP k + 64 → Z j x = S j x := fun k hk j x q1 q2 => e j x (Or.inr (Or.inr (by unfold nP at q1 q2; omega)))
  have eI : ∀ (r : Nat) (j : Nat) (x : Int), r < 3 → (j = 287 + 2 * r ∨ ∃ g : Nat, g ≤ 11 ∧ j = fs r g) → Z j x = S j x := fun r j x hr hj => e j x (by have := fs_rg hr hj; omega)
  obtain ⟨a1, a2⟩ := iI_ag h7 (fun j x => eI 0 j x (by first | decide | omega))
  obtain ⟨c1, c2⟩ := iI_ag h8 (fun j x => eI 1 j x (by first | decide | omega))
  obtain ⟨d1, d2⟩ := iI_ag h9 (fun j x => eI 2 j x (by first | decide | omega))
  refine ⟨⟨(e 237 25 (by omega)).trans h1, h2, fun k hk => (rSh_ag (h3 k hk) (eP k (by omega))).1, fun k k1 k2 c hc q => h4 k k1 k2 c hc ⟨by rw [← eP k (by omega) (nP k + c) (-1) (by omega) (by omega)]; exact q.1, q.2⟩, ⟨fun k hk => (e 286 _ (by omega)).trans (h5 k hk), (e 286 _ (by omega)).trans h6⟩, l1, l2, l3, a1, c1, d1⟩, ?_⟩
  unfold phA
  rw [a2, c2, d2, phs_ag pm (fun q hq => (rSh_ag (h3 q hq) (eP q (by omega))).2)]
/-- texts of sources stay ahead of those that are made, whatever is read -/
def gX (S : wS) : Prop := ∀ X : List (List Int), mX X S → xTb (S 239) (S 237 3) X
/-- what compile may change, but for the tables of functions, instructions and sites -/
def cpr (S Z : wS) : Prop := ∀ (j : Nat) (x : Int), j ≠ wG → (j < 2000000 ∨ 4000000 ≤ j) → j ≠ 240 → (j < 281 ∨ 292 < j ∨ (gX S ∧ (((j = 284 ∨ j = 285) ∧ 4000 ≤ x) ∨ (j = 283 ∧ 69632 ≤ x)))) → (j ≠ 238 ∨ (x ≠ 5 ∧ x ≠ 6)) → (j ≠ 237 ∨ (x < 0 ∨ x = 1 ∨ x = 2 ∨ (12 < x ∧ x < 16) ∨ (16 < x ∧ x < 19) ∨ (20 < x ∧ x < 25) ∨ (29 < x ∧ x < 59) ∨ 61 < x)) → Z j x = S j x
/-- names, texts, parts, room behind a compile -/
def cpE (N X : List (List Int)) (pm : Nat) (n : Int) (S Z : wS) : Prop := (mN N Z ∧ mX X Z) ∧ (∃ pm2 : Nat, rZ pm2 Z ∧ Z wG 0 + phA pm2 Z ≤ S wG 0 + phA pm S + 24 * n + 240 ∧ 8 * Z wG 1 - Z wG 0 ≤ 8 * S wG 1 - S wG 0) ∧ Z 237 0 = 0 ∧ Z 237 3 = 0 ∧ w_ML Z
/-- the number and place of a fault -/
def cpF (T : Int → Int) (n : Int) (N X : List (List Int)) (f0 un p sb : Int) (o : pz_O) (v : Int) : Prop := (un = 16 ∧ v = 7) ∨ (un < 16 ∧ 400 ≤ f0 ∧ (((kq T n N X 0 = 0 ∨ pz_bs (kq T n N X 0)) ∧ v = 7 + 16 * tp T n 0 0) ∨ ((kq T n N X 0 ≠ 0 ∧ ¬ pz_bs (kq T n N X 0)) ∧ v = 1 + 16 * tp T n 0 0))) ∨ (un < 16 ∧ f0 < 400 ∧ o = .inl v) ∨ (un < 16 ∧ f0 < 400 ∧ ∃ (i2 : Nat) (I2 : List pz_I) (F2 : List pz_F) (t : Int), o = .inr (i2, I2, F2, t) ∧ ((kq T n N X i2 ≠ 0 ∧ v = 1 + 16 * tp T n 0 i2) ∨ (kq T n N X i2 = 0 ∧ ¬ (p + (I2.length : Int) + 2 ≤ 20000 ∧ sb + pz_s I2 ≤ 4000) ∧ v = 7 + 16 * tp T n 0 i2)))
/-- what the functions of a unit are -/
def fW (f0 : Int) (I : List pz_I) (F : List pz_F) : Prop := (0 ≤ f0 ∧ 0 < F.length) ∧ (∀ x ∈ I, f0 ≤ x.2.2.2 ∧ x.2.2.2 < f0 + (F.length : Int)) ∧ ∀ k : Nat, k < F.length → ((k = 0 ∧ (F.getD k (-1, 0, [])).1 = -1 ∧ (F.getD k (-1, 0, [])).2.2 = []) ∨ (f0 ≤ (F.getD k (-1, 0, [])).1 ∧ (F.getD k (-1, 0, [])).1 < f0 + (k : Int))) ∧ (F.getD k (-1, 0, [])).2.2.length ≤ 60
theorem fW_of {f0 u : Int} {I : List pz_I} {F : List pz_F} {m : Nat} (h : rFv f0 u I F m) : fW f0 I F := ⟨⟨h.1.1, by have := h.2.1; omega⟩, h.2.2.1, fun k hk => ⟨(h.2.2.2 k hk).1, (h.2.2.2 k hk).2.2.1⟩⟩
/-- a unit has come -/
def kW (f0 : Int) (I : List pz_I) (F : List pz_F) (un p sb : Int) (S Z : wS) : Prop := (Z 237 33 = un + 1 ∧ Z 237 34 = f0 + (F.length : Int) ∧ Z 237 43 = p + (I.length : Int) ∧ Z 237 47 = sb + pz_s I ∧ Z 294 un = f0) ∧ (∀ k : Nat, k < F.length → kR f0 I F un p sb k Z) ∧ (∀ (j : Nat) (x : Int), j ≠ wG → (j < 2000000 ∨ 4000000 ≤ j) → j ≠ 240 → (j < 281 ∨ 292 < j ∨ (gX S ∧ (((j = 284 ∨ j = 285) ∧ 4000 ≤ x) ∨ (j = 283 ∧ 69632 ≤ x)))) → (j ≠ 238 ∨ (x ≠ 5 ∧ x ≠ 6)) → (j ≠ 237 ∨ (x < 0 ∨ x = 1 ∨ x = 2 ∨ (12 < x ∧ x < 16) ∨ (16 < x ∧ x < 19) ∨ (20 < x ∧ x < 25) ∨ (29 < x ∧ x < 59) ∨ 61 < x)) → (x < 0 ∨ (293 ≤ j ∧ j ≤ 300 ∧ j ≠ 294 ∧ (x < f0 ∨ f0 + (F.length : Int) ≤ x)) ∨ (j = 294 ∧ x ≠ un) ∨ (301 ≤ j ∧ j ≤ 303 ∧ x < p) ∨ (((304 ≤ j ∧ j ≤ 313) ∨ j = 376) ∧ x < sb) ∨ ((j < 293 ∨ 313 < j) ∧ j ≠ 376)) → (j ≠ 237 ∨ (x ≠ 33 ∧ x ≠ 34 ∧ x ≠ 43 ∧ x ≠ 47 ∧ x ≠ 48)) → Z j x = S j x) ∧ rD Z ∧ fW f0 I F
theorem of_ok {a b : Int} (ha : -2147483648 ≤ a ∧ a ≤ 2147483647) (hb : -2147483648 ≤ b ∧ b ≤ 2147483647) : wJ (pe_GA xs) wY0 M d t_MH_of ((pe_at t_MH_of.bl 0).getD (0, [])).2 [(0, (2, 238)), (1, (0, a)), (2, (0, b))] [] S (fun o Z => o = .inl (some (2, 238)) ∧ w_hl S a b = Z) := by
  refine wa_aload_n (n := 0) rfl ?_
  refine wa_iload_n (n := 1) rfl ?_
  refine wb_pfi 238 rfl (wy_pr rfl) wt_238 wf_11_5 (n := 5) rfl ⟨(by omega), (by omega)⟩ ?_
  refine wa_aload_n (n := 0) rfl ?_
  refine wa_iload_n (n := 2) rfl ?_
  refine wb_pfi 238 rfl (wy_pr rfl) wt_238 wf_11_6 (n := 6) rfl ⟨(by omega), (by omega)⟩ ?_
  refine wa_aload_n (n := 0) rfl ?_
  refine wa_oreturn rfl ?_
  exact ⟨rfl, rfl⟩
/-- behind a fault -/
theorem cp_h {a b : Int} (h5 : Z 238 5 = a) (h6 : Z 238 6 = b) (hN : N.length ≤ 4000) (hX : X.length ≤ 4000 ∧ tls X ≤ 1000000) : wJ (pe_GA xs) wY0 M d t_M_compile ((pe_at t_M_compile.bl 2).getD (0, [])).2 [(0, (2, 237)), (1, (0, un)), (2, (0, (N.length : Int))), (3, (0, (X.length : Int))), (4, (0, (tls X : Int)))] [(2, 238)] Z (fun q Z2 => q = .inl (some (0, -1 - (a + 16 * b))) ∧ (w_up (w_up (w_up (w_up Z 237 16 (N.length : Int)) 237 19 (X.length : Int)) 237 20 (tls X : Int)) 237 3 0) = Z2) := by
  refine wa_astore (n := 5) rfl ?_
  refine wa_aload_n (n := 0) rfl ?_
  refine wa_iload_n (n := 2) rfl ?_
  refine wb_pfi 237 rfl (wy_pr rfl) wt_237 wf_15_16 (n := 16) rfl ⟨(by omega), (by omega)⟩ ?_
  refine wa_aload_n (n := 0) rfl ?_
  refine wa_iload_n (n := 3) rfl ?_
  refine wb_pfi 237 rfl (wy_pr rfl) wt_237 wf_15_19 (n := 19) rfl ⟨(by omega), (by omega)⟩ ?_
  refine wa_aload_n (n := 0) rfl ?_
  refine wa_iload (n := 4) rfl ?_
  refine wb_pfi 237 rfl (wy_pr rfl) wt_237 wf_15_20 (n := 20) rfl ⟨(by omega), (by omega)⟩ ?_
  refine wa_iconst ?_
  refine wa_aload (n := 5) rfl ?_
  refine wb_gfi 238 rfl (wy_pr rfl) wt_238 wf_11_5 (v := a) ((w_up_slot (by decide)).trans ((w_up_slot (by decide)).trans ((w_up_slot (by decide)).trans (h5)))) (fun r101 => ?_)
  refine wa_bipush (w_rg2 (by omega) (by omega)) ?_
  refine wa_aload (n := 5) rfl ?_
  refine wb_gfi 238 rfl (wy_pr rfl) wt_238 wf_11_6 (v := b) ((w_up_slot (by decide)).trans ((w_up_slot (by decide)).trans ((w_up_slot (by decide)).trans (h6)))) (fun r102 => ?_)
  refine wa_imul ?_
  refine wa_iadd ?_
  refine wa_isub ?_
  refine wa_istore_n (n := 1) rfl ?_
  refine wa_fall ⟨_, rfl⟩ ?_
  refine wa_aload_n (n := 0) rfl ?_
  refine wa_iconst ?_
  refine wb_pfi 237 rfl (wy_pr rfl) wt_237 wf_15_3 (n := 3) rfl ⟨(by omega), (by omega)⟩ ?_
  refine wa_iload_n (n := 1) rfl ?_
  refine wa_ireturn rfl ?_
  exact ⟨by first | rfl | (congr 3; omega), rfl⟩
/-- from a refused unit's state to that behind compile -/
theorem cp_e {A : wS} {v : Int} (fA : (∀ (j : Nat) (x : Int), (j ≠ 240 ∨ x < 0) → (j ≠ 237 ∨ (x ≠ 0 ∧ x ≠ 4 ∧ x ≠ 5 ∧ x ≠ 6 ∧ x ≠ 7 ∧ x ≠ 8 ∧ x ≠ 9 ∧ x ≠ 10 ∧ x ≠ 12)) → A j x = S j x)) (hA0 : A 237 0 = 0) (hb0 : b0 = A wG 0 + phA pm A) (hb1 : b1 = 8 * A wG 1 - A wG 0) (hZ : rZ pm S) (hn : 0 ≤ n) (hgx : gX S → xTb T n X) (hx : rFx T n N X b0 b1 A v Z) : ∃ a b : Int, (Z 238 5 = a ∧ Z 238 6 = b ∧ v = a + 16 * b) ∧ cpE N X pm n S (w_up (w_up (w_up (w_up Z 237 16 (N.length : Int)) 237 19 (X.length : Int)) 237 20 (tls X : Int)) 237 3 0) ∧ cpr S (w_up (w_up (w_up (w_up Z 237 16 (N.length : Int)) 237 19 (X.length : Int)) 237 20 (tls X : Int)) 237 3 0) := by
  obtain ⟨S1, i, pm2, a, b, ⟨h1, h2, h3⟩, h4, h5, ⟨h6, h7⟩, rfl, h9⟩ := hx
  have hw : wG = 1000000 := rfl
  have eA := (rZ_ag (Z := A) hZ (fun j x hj => fA j x (by omega) (by omega))).2
  have eG : ∀ x : Int, A wG x = S wG x := fun x => fA wG x (by omega) (by omega)
  have e : ∀ (j : Nat) (x : Int), (j ≠ 238 ∨ (x ≠ 5 ∧ x ≠ 6)) → (j ≠ 237 ∨ (x ≠ 3 ∧ x ≠ 16 ∧ x ≠ 19 ∧ x ≠ 20)) → (w_up (w_up (w_up (w_up (w_hl S1 a b) 237 16 (N.length : Int)) 237 19 (X.length : Int)) 237 20 (tls X : Int)) 237 3 0) j x = S1 j x := fun j x q1 q2 => (w_up_no (by omega)).trans ((w_up_no (by omega)).trans ((w_up_no (by omega)).trans ((w_up_no (by omega)).trans ((w_up_no (by omega)).trans (w_up_no (by omega))))))
  obtain ⟨J1, hJ1⟩ := NL_pr T n N i
  obtain ⟨J2, hJ2⟩ := XL_pr T n X i
  rw [hJ1] at h2
  rw [hJ2] at h3
  obtain ⟨z1, z2⟩ := rZ_ag (Z := w_up (w_up (w_up (w_up (w_hl S1 a b) 237 16 (N.length : Int)) 237 19 (X.length : Int)) 237 20 (tls X : Int)) 237 3 0) h5 (fun j x hj => e j x (by omega) (by omega))
  have r0 : S1 237 0 = 0 := (h4 237 0 (by first | decide | omega) (by first | decide | omega) (by first | decide | omega) (by first | decide | omega) (by omega)).trans hA0
  have g0 := e wG 0 (by omega) (by omega)
  have g1 := e wG 1 (by omega) (by omega)
  refine ⟨a, b, ⟨(w_up_at (by first | decide | omega)).trans (w_up_same _ _ _ _), w_up_same _ _ _ _, h9⟩, ⟨⟨mN_tk h2 (fun j x hj => e j x (by omega) (by omega)) ((w_up_at (by first | decide | omega)).trans ((w_up_at (by first | decide | omega)).trans ((w_up_at (by first | decide | omega)).trans (w_up_same _ _ _ _)))), mX_tk h3 (fun j x hj => e j x (by omega) (by omega)) ((w_up_at (by first | decide | omega)).trans ((w_up_at (by first | decide | omega)).trans (w_up_same _ _ _ _))) ((w_up_at (by first | decide | omega)).trans (w_up_same _ _ _ _))⟩, ⟨pm2, z1, ?_, ?_⟩, (e 237 0 (by omega) (by omega)).trans r0, w_up_same _ _ _ _, fun q hq => (e q.1 (-1) (by omega) (by omega)).trans (h1.2.2.2.1 q hq)⟩, fun j x q1 q2 q3 q4 q5 q6 => (e j x q5 (by omega)).trans ((h4 j x q1 q2 q3 (q4.imp id (fun z => z.imp id (fun y => ⟨hgx y.1, y.2⟩))) (by omega)).trans (fA j x (by omega) (by omega)))⟩
  · rw [z2, g0]
    have := eG 0
    omega
  · rw [g0, g1]
    have := eG 0
    have := eG 1
    omega
theorem pz_s_2 (I : List pz_I) (u : Int) : pz_s (I ++ [(0, 0, 0, u)] ++ [(29, 0, 0, u)]) = pz_s I := by
  rw [pz_s_ap, pz_s_ap, pz_s_x, pz_s_x, if_neg (by show (0 : Int) ≠ 27; decide), if_neg (by show (29 : Int) ≠ 27; decide)]
  omega
set_option maxHeartbeats 4000000 in
theorem cp_w (hX : w_X xs) (hM : w_ML S) (h3 : 0 ≤ S 237 3 ∧ S 237 3 ≤ 65536) (hT : S 239 = T) (hnn : S 237 3 = n) (hN : mN N S) (hX2 : mX X S) (h33 : S 237 33 = un) (hu : 0 ≤ un ∧ un ≤ 16) (h34 : S 237 34 = f0) (hf : 0 ≤ f0 ∧ f0 ≤ 400) (hZ : rZ pm S) (h43 : S 237 43 = p) (hp : 0 ≤ p ∧ p ≤ 20000) (h47 : S 237 47 = sb) (hsb : 0 ≤ sb ∧ sb ≤ 4000) (hd : rD S) (hder : ∀ b0 b1 : Int, un < 16 → f0 < 400 → (rRA xs T n N X f0 b0 b1) 0 0 [] 0 0 f0 [] [(-1, 0, [])] o) (h9 : ∀ (i2 : Nat) (I2 : List pz_I) (F2 : List pz_F) (t : Int), o = .inr (i2, I2, F2, t) → nK f0 I2) : wJ (pe_GA xs) wY0 M (D + 1061) t_M_compile ((pe_at t_M_compile.bl 0).getD (0, [])).2 [(0, (2, 237))] [] S (fun q Z => (∃ v : Int, cpF T n N X f0 un p sb o v ∧ q = .inl (some (0, -1 - v)) ∧ cpE N X pm n S Z ∧ cpr S Z) ∨ (∃ (i2 : Nat) (I2 : List pz_I) (F2 : List pz_F) (t : Int), o = .inr (i2, I2, F2, t) ∧ (un < 16 ∧ f0 < 400) ∧ kq T n N X i2 = 0 ∧ (p + (I2.length : Int) + 2 ≤ 20000 ∧ sb + pz_s I2 ≤ 4000) ∧ q = .inl (some (0, un)) ∧ cpE (NL T n N i2) (XL T n X i2) pm n S Z ∧ kW f0 (I2 ++ [(0, 0, 0, f0)] ++ [(29, 0, 0, f0)]) F2 un p sb S Z)) := by
  have m1 := hN.1
  have m2 := hN.2.1
  have x1 := hX2.1
  have x2 := hX2.2.1
  have x3 := hX2.2.2.1
  have x4 := tls_60 (fun k hk => (hX2.2.2.2 k hk).2.2.1)
  have hw : wG = 1000000 := rfl
  refine wa_aload_n (n := 0) rfl ?_
  refine wa_iconst ?_
  refine wb_pfi 237 rfl (wy_pr rfl) wt_237 wf_15_0 (n := 0) rfl ⟨(by omega), (by omega)⟩ ?_
  refine wa_aload_n (n := 0) rfl ?_
  refine wa_iconst ?_
  refine wa_cv 237 rfl (wy_pr rfl) wt_237 (M2 := fun _ => False) rfl at_M_begins ⟨_, rfl⟩ rfl rfl ⟨(Or.inr ⟨wy_pr rfl, fun q => q⟩), trivial⟩ trivial (fun _ _ q => False.elim q) (begins_ok (S := (w_up S 237 0 0)) (h := 0) (w_ML_up hM (by omega)) h3 ⟨by omega, by omega⟩) (fun oq101 Sq101 hp102 q101 => ?_)
  rcases q101 with ⟨rfl, a1, a2⟩
  show wJ _ _ _ _ _ _ _ _ _ _
  have fA : (∀ (j : Nat) (x : Int), (j ≠ 240 ∨ x < 0) → (j ≠ 237 ∨ (x ≠ 0 ∧ x ≠ 4 ∧ x ≠ 5 ∧ x ≠ 6 ∧ x ≠ 7 ∧ x ≠ 8 ∧ x ≠ 9 ∧ x ≠ 10 ∧ x ≠ 12)) → Sq101 j x = S j x) := fun j x q1 q2 => by
    rw [a1 j x q1 (by omega)]
    unfold lx_b0
    exact (w_up_no (by omega)).trans ((w_up_no (by omega)).trans ((w_up_no (by omega)).trans (w_up_no (by omega))))
  have a33 : Sq101 237 33 = un := (fA 237 33 (by omega) (by omega)).trans h33
  have a16 : Sq101 237 16 = (N.length : Int) := (fA 237 16 (by omega) (by omega)).trans m1
  have a19 : Sq101 237 19 = (X.length : Int) := (fA 237 19 (by omega) (by omega)).trans x1
  have a20 : Sq101 237 20 = (tls X : Int) := (fA 237 20 (by omega) (by omega)).trans x3
  have a0 : Sq101 237 0 = 0 := (a1 237 0 (by omega) (by omega)).trans rfl
  have aT : Sq101 239 = T := (funext fun x => fA 239 x (by omega) (by omega)).trans hT
  have a4 : Sq101 237 4 = n := (a1 237 4 (by omega) (by omega)).trans hnn
  have a5 : Sq101 237 5 = 0 := (a1 237 5 (by omega) (by omega)).trans rfl
  have hL : rL T n 0 Sq101 := ⟨aT, a4, a5, by have z := a2; rw [show (w_up S 237 0 0) 239 = T from hT, show (w_up S 237 0 0) 237 3 = n from hnn] at z; exact z⟩
  have hgx : gX S → xTb T n X := fun g => by
    have z := g X hX2
    rw [hT, hnn] at z
    exact z
  have el : ∀ (j : Nat) (x : Int), ((x = -1 ∧ j < 400) ∨ j = 239 ∨ (281 ≤ j ∧ j ≤ 285) ∨ (j = 237 ∧ 16 ≤ x ∧ x ≤ 20)) → Sq101 j x = S j x := fun j x hj => fA j x (by omega) (by omega)
  have aN : mN N Sq101 := by
    have e1 : Sq101 281 = S 281 := funext fun x => el 281 x (by omega)
    have e2 : Sq101 282 = S 282 := funext fun x => el 282 x (by omega)
    unfold mN at hN ⊢
    rw [e1, e2, el 237 16 (by omega)]
    exact hN
  have aX : mX X Sq101 := by
    have e1 : Sq101 283 = S 283 := funext fun x => el 283 x (by omega)
    have e2 : Sq101 284 = S 284 := funext fun x => el 284 x (by omega)
    have e3 : Sq101 285 = S 285 := funext fun x => el 285 x (by omega)
    unfold mX at hX2 ⊢
    rw [e1, e2, e3, el 237 19 (by omega), el 237 20 (by omega)]
    exact hX2
  obtain ⟨aZ, aP⟩ := rZ_ag (Z := Sq101) hZ (fun j x hj => fA j x (by omega) (by omega))
  have eG : ∀ x : Int, Sq101 wG x = S wG x := fun x => fA wG x (by omega) (by omega)
  refine wa_aload_n (n := 0) rfl ?_
  refine wb_gfi 237 rfl (wy_pr rfl) wt_237 wf_15_33 (v := un) (a33) (fun r103 => ?_)
  refine wa_istore_n (n := 1) rfl ?_
  refine wa_aload_n (n := 0) rfl ?_
  refine wb_gfi 237 rfl (wy_pr rfl) wt_237 wf_15_16 (v := (N.length : Int)) (a16) (fun r104 => ?_)
  refine wa_istore_n (n := 2) rfl ?_
  refine wa_aload_n (n := 0) rfl ?_
  refine wb_gfi 237 rfl (wy_pr rfl) wt_237 wf_15_19 (v := (X.length : Int)) (a19) (fun r105 => ?_)
  refine wa_istore_n (n := 3) rfl ?_
  refine wa_aload_n (n := 0) rfl ?_
  refine wb_gfi 237 rfl (wy_pr rfl) wt_237 wf_15_20 (v := (tls X : Int)) (a20) (fun r106 => ?_)
  refine wa_istore (n := 4) rfl ?_
  refine wa_aload_n (n := 0) rfl ?_
  refine wb_gfi 237 rfl (wy_pr rfl) wt_237 wf_15_33 (v := un) (a33) (fun r107 => ?_)
  refine wa_bipush (w_rg2 (by omega) (by omega)) ?_
  refine wa_icmpne (w_rg0 (by omega) (by omega)) (w_rg0 (by omega) (by omega)) ⟨_, rfl⟩ (fun c108 => ?_) (fun c108 => ?_)
  · skip
    have hu2 : un < 16 := by omega
    have a34 : Sq101 237 34 = f0 := (fA 237 34 (by omega) (by omega)).trans h34
    have hder2 := hder (Sq101 wG 0 + phA pm Sq101) (8 * Sq101 wG 1 - Sq101 wG 0) hu2
    have hflt : ∀ (v : Int) (Z : wS), cpF T n N X f0 un p sb o v → rFx T n N X (Sq101 wG 0 + phA pm Sq101) (8 * Sq101 wG 1 - Sq101 wG 0) Sq101 v Z → wJ (pe_GA xs) wY0 M (D + 1061) t_M_compile ((pe_at t_M_compile.bl 2).getD (0, [])).2 [(0, (2, 237)), (1, (0, un)), (2, (0, (N.length : Int))), (3, (0, (X.length : Int))), (4, (0, (tls X : Int)))] [(2, 238)] Z (fun q Z => (∃ v : Int, cpF T n N X f0 un p sb o v ∧ q = .inl (some (0, -1 - v)) ∧ cpE N X pm n S Z ∧ cpr S Z) ∨ (∃ (i2 : Nat) (I2 : List pz_I) (F2 : List pz_F) (t : Int), o = .inr (i2, I2, F2, t) ∧ (un < 16 ∧ f0 < 400) ∧ kq T n N X i2 = 0 ∧ (p + (I2.length : Int) + 2 ≤ 20000 ∧ sb + pz_s I2 ≤ 4000) ∧ q = .inl (some (0, un)) ∧ cpE (NL T n N i2) (XL T n X i2) pm n S Z ∧ kW f0 (I2 ++ [(0, 0, 0, f0)] ++ [(29, 0, 0, f0)]) F2 un p sb S Z)) := fun v Z hcf hfx => by
      obtain ⟨a, b, ⟨q1, q2, rfl⟩, q4, q5⟩ := cp_e fA a0 rfl rfl hZ (by omega) hgx hfx
      refine wJ_mono (cp_h q1 q2 m2 ⟨x2, by omega⟩) (fun q Z2 hq => ?_)
      obtain ⟨rfl, rfl⟩ := hq
      exact Or.inl ⟨_, hcf, rfl, q4, q5⟩
    refine wa_aload_n (n := 0) rfl ?_
    refine wa_cx (M2 := fun _ => False) 237 rfl (wy_pr rfl) wt_237 rfl at_M_readsUnit ⟨_, rfl⟩ rfl rfl ⟨trivial, trivial, trivial, trivial, (Or.inr ⟨wy_pr rfl, fun q => q⟩), trivial⟩ trivial (fun _ _ q => False.elim q) (ru_w (D := D) hX hL aN aX hf a34 aZ rfl rfl hder2) (fun q1 Z1 hp1 hq1 => ?_)
    rcases hq1 with ⟨hf4, rfl, hq1⟩ | ⟨hf4, hq1⟩
    · rcases hq1 with ⟨hk, hfx⟩ | ⟨hk, hfx⟩
      · exact ⟨11, _, _, wy_pr rfl, wt_238, rfl, ⟨_, rfl⟩, wJ_S (hflt _ _ (Or.inr (Or.inl ⟨hu2, hf4, Or.inl ⟨hk, rfl⟩⟩)) hfx) ⟨rfl, rfl, rfl, rfl, rfl, trivial⟩⟩
      · exact ⟨11, _, _, wy_pr rfl, wt_238, rfl, ⟨_, rfl⟩, wJ_S (hflt _ _ (Or.inr (Or.inl ⟨hu2, hf4, Or.inr ⟨hk, rfl⟩⟩)) hfx) ⟨rfl, rfl, rfl, rfl, rfl, trivial⟩⟩
    rcases o with v | ⟨i2, I2, F2, t2⟩
    · obtain ⟨rfl, hfx⟩ := hq1
      exact ⟨11, _, _, wy_pr rfl, wt_238, rfl, ⟨_, rfl⟩, wJ_S (hflt _ _ (Or.inr (Or.inr (Or.inl ⟨hu2, hf4, rfl⟩))) hfx) ⟨rfl, rfl, rfl, rfl, rfl, trivial⟩⟩
    rcases hq1 with ⟨hk0, rfl, hQ, hip⟩ | ⟨hk0, rfl, hfx⟩
    rotate_left
    · exact ⟨11, _, _, wy_pr rfl, wt_238, rfl, ⟨_, rfl⟩, wJ_S (hflt _ _ (Or.inr (Or.inr (Or.inr ⟨hu2, hf4, i2, I2, F2, t2, rfl, Or.inl ⟨hk0, rfl⟩⟩))) hfx) ⟨rfl, rfl, rfl, rfl, rfl, trivial⟩⟩
    show wJ _ _ _ _ _ _ _ _ _ _
    have hnq := rQ_n hQ
    have hRm : ∃ pm2 : Nat, rRm (Sq101 wG 0 + phA pm Sq101) (8 * Sq101 wG 1 - Sq101 wG 0) i2 (I2 ++ [(0, 0, 0, f0)] ++ [(29, 0, 0, f0)]) F2 pm2 Z1 := by
      obtain ⟨pm2, -, -, r⟩ := hQ.2.2.2.2
      exact ⟨pm2, r⟩
    obtain ⟨pm3, -, -, hIl⟩ := hRm
    have hFr := hQ.2.2.2.1
    have z33 : Z1 237 33 = un := (hFr 237 33 (by first | decide | omega) (by first | decide | omega) (by first | decide | omega) (by first | decide | omega) (by omega)).trans a33
    have z43 : Z1 237 43 = p := (hFr 237 43 (by first | decide | omega) (by first | decide | omega) (by first | decide | omega) (by first | decide | omega) (by omega)).trans ((fA 237 43 (by omega) (by omega)).trans h43)
    have z47 : Z1 237 47 = sb := (hFr 237 47 (by first | decide | omega) (by first | decide | omega) (by first | decide | omega) (by first | decide | omega) (by omega)).trans ((fA 237 47 (by omega) (by omega)).trans h47)
    have zD : rD Z1 := rD_ag hd (fun j x hj => (hFr j x (by omega) (by omega) (by omega) (by omega) (by omega)).trans (fA j x (by omega) (by omega)))
    have n9 : nK f0 (I2 ++ [(0, 0, 0, f0)] ++ [(29, 0, 0, f0)]) := nK_ap (nK_ap (h9 i2 I2 F2 t2 rfl) (nK_1 (nzz (by show (0 : Int) ≠ -9; decide) ⟨by show (0 : Int) ≤ 0; decide, by show (0 : Int) ≠ 24; decide, fun _ => rfl, fun q => absurd q (by show ¬ ((0 : Int) = 27); decide)⟩))) (nK_1 (nzz (by show (0 : Int) ≠ -9; decide) ⟨by show (0 : Int) ≤ 29; decide, by show (29 : Int) ≠ 24; decide, fun _ => rfl, fun q => absurd q (by show ¬ ((29 : Int) = 27); decide)⟩))
    have hl3 : ((I2 ++ [(0, 0, 0, f0)] ++ [(29, 0, 0, f0)]).length : Int) = (I2.length : Int) + 2 := by rw [List.length_append, List.length_append]; show ((I2.length + 1 + 1 : Nat) : Int) = _; omega
    have hs3 := pz_s_2 I2 f0
    refine wa_aload_n (n := 0) rfl ?_
    refine wa_cx (M2 := fun _ => False) 237 rfl (wy_pr rfl) wt_237 rfl at_M_keeps ⟨_, rfl⟩ rfl rfl ⟨trivial, trivial, trivial, trivial, (Or.inr ⟨wy_pr rfl, fun q => q⟩), trivial⟩ trivial (fun _ _ q => False.elim q) (ke_w (d := D + 1056) hQ n9 (by omega) z33 ⟨hu.1, hu2⟩ z43 hp z47 hsb zD) (fun q2 Z2 hp2 hq2 => ?_)
    rw [hl3, hs3] at hq2
    obtain ⟨pm4, hz4, hr4, hr5⟩ := rQ_rZ hQ
    have htn : tp T n 0 i2 = n := by
      have hq := kq_cs T n N X i2
      have hs := sk_rx (lx_si T n 0 (tp T n 0 i2))
      have h0 := tk_x0 (T := T) (n := n) (h := 0) (p := tp T n 0 i2)
      omega
    rcases hq2 with ⟨hno, rfl, hzz⟩ | ⟨hfit, rfl, hV⟩
    · refine ⟨11, _, _, wy_pr rfl, wt_238, rfl, ⟨_, rfl⟩, wJ_S (hflt _ _ (Or.inr (Or.inr (Or.inr ⟨hu2, hf4, i2, I2, F2, t2, rfl, Or.inr ⟨hk0, by omega, rfl⟩⟩))) ?_) ⟨rfl, rfl, rfl, rfl, rfl, trivial⟩⟩
      exact ⟨Z1, i2, pm4, 7, n, ⟨hQ.1, hQ.2.1.1, hQ.2.1.2⟩, hFr, hz4, ⟨by omega, hr5⟩, hzz, by rw [htn]⟩
    show wJ _ _ _ _ _ _ _ _ _ _
    refine wa_goto ⟨_, rfl⟩ ?_
    refine wa_aload_n (n := 0) rfl ?_
    refine wa_iconst ?_
    refine wb_pfi 237 rfl (wy_pr rfl) wt_237 wf_15_3 (n := 3) rfl ⟨(by omega), (by omega)⟩ ?_
    refine wa_iload_n (n := 1) rfl ?_
    refine wa_ireturn rfl ?_
    obtain ⟨⟨k1, k2, k3, k4, k5⟩, kR1, kFr, kD⟩ := hV
    have e : ∀ (j : Nat) (x : Int), (j ≠ 237 ∨ x ≠ 3) → (w_up Z2 237 3 0) j x = Z2 j x := fun j x q => w_up_no (by omega)
    have kf : ∀ (j : Nat) (x : Int), (x < 0 ∨ ((j < 293 ∨ 313 < j) ∧ j ≠ 376)) → (j ≠ 237 ∨ (x ≠ 3 ∧ x ≠ 33 ∧ x ≠ 34 ∧ x ≠ 43 ∧ x ≠ 47 ∧ x ≠ 48)) → (w_up Z2 237 3 0) j x = Z1 j x := fun j x q1 q2 => (e j x (by omega)).trans (kFr j x (by omega) (by omega))
    obtain ⟨y1, y2⟩ := rZ_ag (Z := (w_up Z2 237 3 0)) hz4 (fun j x hj => kf j x (by omega) (by omega))
    have el2 : ∀ (j : Nat) (x : Int), ((281 ≤ j ∧ j ≤ 285) ∨ (j = 237 ∧ 16 ≤ x ∧ x ≤ 20)) → (w_up Z2 237 3 0) j x = Z1 j x := fun j x hj => kf j x (by omega) (by omega)
    have g0 := kf wG 0 (by omega) (by omega)
    have g1 := kf wG 1 (by omega) (by omega)
    have b0 := eG 0
    have b1 := eG 1
    refine Or.inr ⟨i2, I2, F2, t2, rfl, ⟨hu2, hf4⟩, hk0, ⟨by omega, by omega⟩, rfl, ⟨⟨?_, ?_⟩, ⟨pm4, y1, ?_, ?_⟩, ?_, w_up_same _ _ _ _, fun q hq => ?_⟩, ⟨(e 237 33 (by omega)).trans k1, (e 237 34 (by omega)).trans k2, (e 237 43 (by omega)).trans (k3.trans (by omega)), (e 237 47 (by omega)).trans (k4.trans (by omega)), (e 294 _ (by omega)).trans k5⟩, fun k hk => ?_, fun j x q1 q2 q3 q4 q5 q6 q7 q8 => ?_, rD_ag kD (fun j x q => e j x (by omega)), fW_of hQ.2.2.1⟩
    · have z := hQ.2.1.1
      have e1 : (w_up Z2 237 3 0) 281 = Z1 281 := funext fun x => el2 281 x (by omega)
      have e2 : (w_up Z2 237 3 0) 282 = Z1 282 := funext fun x => el2 282 x (by omega)
      unfold mN at z ⊢
      rw [e1, e2, el2 237 16 (by omega)]
      exact z
    · have z := hQ.2.1.2
      have e1 : (w_up Z2 237 3 0) 283 = Z1 283 := funext fun x => el2 283 x (by omega)
      have e2 : (w_up Z2 237 3 0) 284 = Z1 284 := funext fun x => el2 284 x (by omega)
      have e3 : (w_up Z2 237 3 0) 285 = Z1 285 := funext fun x => el2 285 x (by omega)
      unfold mX at z ⊢
      rw [e1, e2, e3, el2 237 19 (by omega), el2 237 20 (by omega)]
      exact z
    · rw [y2, g0]; omega
    · rw [g0, g1]; omega
    · exact (kf 237 0 (by omega) (by omega)).trans ((hFr 237 0 (by first | decide | omega) (by first | decide | omega) (by first | decide | omega) (by first | decide | omega) (by omega)).trans a0)
    · exact (kf q.1 (-1) (by omega) (by omega)).trans (hQ.1.2.2.2.1 q hq)
    · obtain ⟨⟨c1, c2, c3, c4, c5, c6, c7⟩, c8⟩ := kR1 k hk
      exact ⟨⟨(e 293 _ (by omega)).trans c1, (e 295 _ (by omega)).trans c2, (e 296 _ (by omega)).trans c3, (e 297 _ (by omega)).trans c4, (e 298 _ (by omega)).trans c5, (e 299 _ (by omega)).trans c6, (e 300 _ (by omega)).trans c7⟩, kpD_ag (Nat.le_refl _) c8 (fun j x j0 j1 _ _ => e j x (by omega)) (fun j x j0 _ _ => e j x (by omega))⟩
    · exact (e j x (by omega)).trans ((kFr j x q7 (by omega)).trans ((hFr j x q1 q2 q3 (q4.imp id (fun z => z.imp id (fun y => ⟨hgx y.1, y.2⟩))) (by omega)).trans (fA j x (by omega) (by omega))))
  · skip
    refine wa_aload_n (n := 0) rfl ?_
    refine wb_gf4 237 rfl (wy_pr rfl) wt_237 wf_15_1 (v := 238) wl_237_1 ?_
    refine wa_bipush (w_rg2 (by omega) (by omega)) ?_
    refine wa_iconst ?_
    have hu3 : un = 16 := by omega
    refine wa_cx (M2 := fun _ => False) 238 rfl (wy_pr rfl) wt_238 rfl at_MH_of ⟨_, rfl⟩ rfl rfl ⟨trivial, trivial, trivial, trivial, (Or.inr ⟨wy_pr rfl, fun q => q⟩), trivial⟩ trivial (fun _ _ q => False.elim q) (of_ok ⟨by omega, by omega⟩ ⟨by omega, by omega⟩) (fun q1 Z1 hp1 hq1 => ?_)
    obtain ⟨rfl, hzz⟩ := hq1
    show wJ _ _ _ _ _ _ _ _ _ _
    refine wa_tc (ci := 11) 238 rfl (wy_pr rfl) wt_238 rfl ⟨_, rfl⟩ ?_
    have hfx : rFx T n N X (Sq101 wG 0 + phA pm Sq101) (8 * Sq101 wG 1 - Sq101 wG 0) Sq101 (7 + 16 * 0) Z1 := ⟨Sq101, 0, pm, 7, 0, ⟨hL, aN, aX⟩, fun _ _ _ _ _ _ _ => rfl, aZ, ⟨by omega, by omega⟩, hzz, rfl⟩
    obtain ⟨a, b, ⟨q1, q2, hab⟩, q4, q5⟩ := cp_e fA a0 rfl rfl hZ (by omega) hgx hfx
    refine wJ_S (wJ_mono (cp_h (un := un) q1 q2 m2 ⟨x2, by omega⟩) (fun q Z2 hq => ?_)) ⟨rfl, rfl, rfl, rfl, rfl, trivial⟩
    obtain ⟨rfl, rfl⟩ := hq
    rw [← hab]
    exact Or.inl ⟨_, Or.inl ⟨hu3, rfl⟩, rfl, q4, q5⟩
end Wcx
