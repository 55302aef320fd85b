/-! PART 9b: room; the class's Words.append and Words.wordFor. -/
section W9b
variable {xs : List (Nat × List Int32)} {M : Nat → Prop} {d : Nat} {A S : wS} {Q : wO → wS → Prop}
/-- all lengths of the class's arrays, together -/
def gl_l : List Nat := (List.range 237).filter (fun a => Nat.blt ((wY0.ty a)) 4)
def gl_s (S : wS) : List Nat → Int
  | [] => 0
  | a :: l => S a (-1) + gl_s S l
def gl (S : wS) : Int := gl_s S gl_l
theorem gl_same {S Z : wS} : ∀ l : List Nat, (∀ a ∈ l, Z a (-1) = S a (-1)) → gl_s Z l = gl_s S l := by
  intro l
  induction l with
  | nil => intro _; rfl
  | cons a l ih =>
    intro h
    show Z a (-1) + gl_s Z l = S a (-1) + gl_s S l
    rw [h a (List.mem_cons_self), ih (fun x hx => h x (List.mem_cons_of_mem _ hx))]
theorem gl_one {S Z : wS} {a : Nat} (hz : ∀ k : Nat, k ≠ a → k < 237 → Z k (-1) = S k (-1)) : ∀ l : List Nat, (∀ x ∈ l, x < 237) → l.Nodup → a ∈ l → gl_s Z l = gl_s S l + (Z a (-1) - S a (-1)) := by
  intro l
  induction l with
  | nil => intro _ _ h; exact absurd h (List.not_mem_nil)
  | cons b l ih =>
    intro h1 h2 h3
    have h4 := List.nodup_cons.1 h2
    show Z b (-1) + gl_s Z l = S b (-1) + gl_s S l + _
    by_cases hb : b = a
    · subst hb
      rw [gl_same l (fun x hx => hz x (fun e => h4.1 (e ▸ hx)) (h1 x (List.mem_cons_of_mem _ hx)))]
      omega
    · rw [hz b hb (h1 b (List.mem_cons_self)), ih (fun x hx => h1 x (List.mem_cons_of_mem _ hx)) h4.2 ((List.mem_cons.1 h3).resolve_left (fun e => hb e.symm))]
      omega
theorem gl_lt : ∀ x ∈ gl_l, x < 237 := by
  intro x hx
  exact List.mem_range.1 (List.mem_filter.1 hx).1
theorem gl_nd : gl_l.Nodup := List.Nodup.sublist List.filter_sublist List.nodup_range
theorem gl_in {a : Nat} (h : (Nat.blt a 237 && Nat.blt (wY0.ty a) 4) = true) : a ∈ gl_l := by
  rw [Bool.and_eq_true] at h
  exact List.mem_filter.2 ⟨List.mem_range.2 (Nat.le_of_ble_eq_true h.1), h.2⟩
/-- arrays that only double, with their first lengths -/
def gxl : List (Nat × Nat) := [(1, 256), (3, 1024), (75, 1024), (164, 1024), (4, 64), (5, 64), (6, 64), (7, 64), (8, 64), (9, 64), (10, 64), (15, 64), (16, 64), (17, 64), (35, 64), (36, 64), (37, 64), (38, 64), (39, 64), (40, 64), (41, 64), (42, 64), (43, 64), (44, 64), (45, 64), (46, 64), (48, 64), (49, 64), (50, 64), (51, 64), (52, 64), (53, 64), (54, 64), (55, 64), (56, 64), (57, 64), (58, 64), (59, 64), (64, 256), (65, 256), (66, 256), (67, 256), (69, 64), (70, 64), (76, 64), (77, 64), (78, 64), (79, 64), (80, 64), (117, 16), (118, 16), (120, 64), (121, 64), (122, 64), (123, 64), (124, 64), (127, 64), (128, 64), (129, 64), (130, 64), (131, 64), (132, 64), (133, 64), (134, 64), (135, 64), (136, 64), (138, 64), (139, 64), (144, 64), (145, 64), (146, 64), (147, 64), (148, 64), (152, 256), (154, 64), (155, 64), (165, 64), (166, 64), (167, 64), (168, 64), (169, 64), (206, 16), (207, 16), (209, 64), (210, 64), (211, 64), (212, 64), (213, 64), (217, 64), (218, 64), (225, 48), (228, 64), (229, 64), (236, 48)]
def gxb (a : Nat) : Bool := gxl.any (fun q => Nat.beq q.1 a)
/-- how long an array may become -/
def gcl : List (Nat × Int) := [(1, 100000000), (3, 100000000), (4, 100000000), (5, 100000000), (6, 100000000), (7, 100000000), (8, 100000000), (9, 100000000), (10, 100000000), (15, 100000000), (16, 100000000), (17, 100000000), (31, 100000000), (32, 100000000), (33, 100000000), (35, 100000000), (36, 100000000), (37, 100000000), (38, 100000000), (39, 100000000), (40, 100000000), (41, 100000000), (42, 100000000), (43, 100000000), (44, 100000000), (45, 100000000), (46, 100000000), (48, 100000000), (49, 100000000), (50, 100000000), (51, 100000000), (52, 100000000), (53, 100000000), (54, 100000000), (55, 100000000), (56, 100000000), (57, 100000000), (58, 100000000), (59, 100000000), (64, 100000000), (65, 100000000), (66, 100000000), (67, 100000000), (69, 100000000), (70, 100000000), (75, 100000000), (76, 100000000), (77, 100000000), (78, 100000000), (79, 100000000), (80, 100000000), (117, 100000000), (118, 100000000), (120, 100000000), (121, 100000000), (122, 100000000), (123, 100000000), (124, 100000000), (127, 100000000), (128, 100000000), (129, 100000000), (130, 100000000), (131, 100000000), (132, 100000000), (133, 100000000), (134, 100000000), (135, 100000000), (136, 100000000), (138, 100000000), (139, 100000000), (141, 100000000), (142, 100000000), (144, 100000000), (145, 100000000), (146, 100000000), (147, 100000000), (148, 100000000), (151, 100000000), (152, 100000000), (154, 100000000), (155, 100000000), (164, 100000000), (165, 100000000), (166, 100000000), (167, 100000000), (168, 100000000), (169, 100000000), (206, 100000000), (207, 100000000), (209, 100000000), (210, 100000000), (211, 100000000), (212, 100000000), (213, 100000000), (217, 100000000), (218, 100000000), (225, 100000000), (228, 100000000), (229, 100000000), (236, 100000000)]
def gck (a : Nat) : List (Nat × Int) → Int
  | [] => 0
  | q :: l => bif Nat.beq q.1 a then q.2 else gck a l
def gcap (a : Nat) : Int := gck a gcl
/-- how arrays have grown: doubled, and not beyond their caps -/
def rX (S Z : wS) : Prop := (∀ q ∈ gxl, ∃ k : Nat, Z q.1 (-1) = S q.1 (-1) * 2 ^ k) ∧ ∀ a : Nat, a < 237 → Z a (-1) ≤ max (S a (-1)) (gcap a)
theorem gxl_lt : ∀ q ∈ gxl, q.1 < 237 := by decide +kernel
theorem gxb_in {a : Nat} {q : Nat × Nat} (h : q ∈ gxl) (e : q.1 = a) : gxb a = true := List.any_eq_true.2 ⟨q, h, by rw [e]; exact Nat.beq_refl a⟩
theorem rX_rfl (S : wS) : rX S S := ⟨fun q _ => ⟨0, by rw [Int.pow_zero, Int.mul_one]⟩, fun a _ => by omega⟩
theorem rX_tr {A B C : wS} (h : rX A B) (k : rX B C) : rX A C := by
  refine ⟨fun q hq => ?_, fun a ha => ?_⟩
  · obtain ⟨x, hx⟩ := h.1 q hq
    obtain ⟨y, hy⟩ := k.1 q hq
    exact ⟨x + y, by rw [hy, hx, Int.pow_add, Int.mul_assoc]⟩
  · have := h.2 a ha
    have := k.2 a ha
    omega
theorem rX_ag {A S Z : wS} (h : rX A S) (hz : ∀ k : Nat, k < 237 → Z k (-1) = S k (-1)) : rX A Z := by
  refine ⟨fun q hq => ?_, fun a ha => ?_⟩
  · rw [hz q.1 (gxl_lt q hq)]
    exact h.1 q hq
  · rw [hz a ha]
    exact h.2 a ha
theorem rX_gr {A S Z : wS} {a : Nat} {n len : Int} (h : rX A S) (e1 : Z a (-1) = n) (e2 : ∀ k : Nat, k < 237 → k ≠ a → Z k (-1) = S k (-1)) (hl : S a (-1) = len) (hx : (gxb a = true → n = 2 * len) ∧ n ≤ gcap a) : rX A Z := by
  refine ⟨fun q hq => ?_, fun b hb => ?_⟩
  · obtain ⟨x, hk⟩ := h.1 q hq
    by_cases e : q.1 = a
    · refine ⟨x + 1, ?_⟩
      rw [e] at hk ⊢
      rw [e1, hx.1 (gxb_in hq e), ← hl, hk, Int.pow_succ]
      ac_rfl
    · rw [e2 q.1 (gxl_lt q hq) e]
      exact ⟨x, hk⟩
  · have h2 := h.2 b hb
    by_cases e : b = a
    · subst e
      rw [e1]
      have := hx.2
      omega
    · rw [e2 b hb e]
      exact h2
/-- the room that was used, by what arrays have grown -/
def rmR (S Z : wS) : Prop := (Z wG 0 ≤ S wG 0 + 2 * (gl Z - gl S) ∧ 16 * Z wG 1 ≤ 16 * S wG 1 + (gl Z - gl S)) ∧ rX S Z
theorem rmR_rfl (S : wS) : rmR S S := ⟨⟨by omega, by omega⟩, rX_rfl S⟩
theorem rmR_tr {A B C : wS} (h : rmR A B) (k : rmR B C) : rmR A C := ⟨⟨by have := h.1.1; have := k.1.1; omega, by have := h.1.2; have := k.1.2; omega⟩, rX_tr h.2 k.2⟩
theorem rmR_ag {A S Z : wS} (h : rmR A S) (hz : ∀ k : Nat, k < 237 → Z k (-1) = S k (-1)) (h0 : Z wG 0 = S wG 0) (h1 : Z wG 1 = S wG 1) : rmR A Z := by
  have e : gl Z = gl S := gl_same gl_l (fun a ha => hz a (gl_lt a ha))
  exact ⟨⟨by have := h.1.1; omega, by have := h.1.2; omega⟩, rX_ag h.2 hz⟩
/-- the same, and a throw -/
def rm6 (S Z : wS) : Prop := (Z wG 0 ≤ S wG 0 + 2 * (gl Z - gl S) + 6 ∧ 16 * Z wG 1 ≤ 16 * S wG 1 + (gl Z - gl S) + 16) ∧ rX S Z
theorem rm6_R {S Z : wS} (h : rmR S Z) : rm6 S Z := ⟨⟨by have := h.1.1; omega, by have := h.1.2; omega⟩, h.2⟩
theorem rm6_ag {A S Z : wS} (h : rm6 A S) (hz : ∀ k : Nat, k < 237 → Z k (-1) = S k (-1)) (h0 : Z wG 0 = S wG 0) (h1 : Z wG 1 = S wG 1) : rm6 A Z := by
  have e : gl Z = gl S := gl_same gl_l (fun a ha => hz a (gl_lt a ha))
  exact ⟨⟨by have := h.1.1; omega, by have := h.1.2; omega⟩, rX_ag h.2 hz⟩
theorem rm6_x {A S Z : wS} (h : rmR A S) (hz : ∀ k : Nat, k < 237 → Z k (-1) = S k (-1)) (h0 : Z wG 0 = S wG 0 + 6) (h1 : Z wG 1 = S wG 1 + 1) : rm6 A Z := by
  have e : gl Z = gl S := gl_same gl_l (fun a ha => hz a (gl_lt a ha))
  exact ⟨⟨by have := h.1.1; omega, by have := h.1.2; omega⟩, rX_ag h.2 hz⟩
theorem rX_fr {A B Z : wS} (h : rX A Z) (hz : ∀ k : Nat, k < 237 → B k (-1) = A k (-1)) : rX B Z := by
  refine ⟨fun q hq => ?_, fun a ha => ?_⟩
  · rw [hz q.1 (gxl_lt q hq)]
    exact h.1 q hq
  · rw [hz a ha]
    exact h.2 a ha
theorem rm6_fr {A B Z : wS} (h : rm6 A Z) (hz : ∀ k : Nat, k < 237 → B k (-1) = A k (-1)) (h0 : B wG 0 = A wG 0) (h1 : B wG 1 = A wG 1) : rm6 B Z := by
  have e : gl B = gl A := gl_same gl_l (fun a ha => hz a (gl_lt a ha))
  exact ⟨⟨by have := h.1.1; omega, by have := h.1.2; omega⟩, rX_fr h.2 hz⟩
theorem rmR_up {A S : wS} {j : Nat} {i x : Int} (h : rmR A S) (hi : 0 ≤ i) (hj : j ≠ wG) : rmR A (w_up S j i x) := rmR_ag h (fun k _ => w_up_at (by omega)) (w_up_slot (fun e => hj e.symm)) (w_up_slot (fun e => hj e.symm))
theorem rmR_gr {A S Z : wS} {a : Nat} {n len : Int} (h : rmR A S) (g : gr_ag S Z a n) (ha : (Nat.blt a 237 && Nat.blt (wY0.ty a) 4) = true) (hl : S a (-1) = len) (hn : 2 * len ≤ n ∧ 16 ≤ len) (hx : (gxb a = true → n = 2 * len) ∧ n ≤ gcap a) : rmR A Z := by
  have hw : ∀ k : Nat, k < 237 → k ≠ wG := fun k hk => by unfold wG; omega
  have e : gl Z = gl S + (Z a (-1) - S a (-1)) := gl_one (fun k hk hk2 => congrFun (g.2.2.1 k hk (by omega) (hw k hk2)) (-1)) gl_l gl_lt gl_nd (gl_in ha)
  have e1 := g.1
  have e2 := g.2.2.2.1
  have e3 := g.2.2.2.2
  exact ⟨⟨by have := h.1.1; omega, by have := h.1.2; omega⟩, rX_gr h.2 e1 (fun k hk hk2 => congrFun (g.2.2.1 k hk2 (by omega) (hw k hk)) (-1)) hl hx⟩
theorem gI_ag {S Z : wS} (hI : gI S) (h : ∀ j : Nat, (4000000 ≤ j ∨ j = 238 ∨ j = 14) → Z j = S j) : gI Z := by
  refine ⟨fun k q1 q2 => hI.1 k q1 ?_, fun i hi => ?_, ?_⟩
  · rw [h k (Or.inl q1)] at q2; exact q2
  · rw [h 238 (Or.inr (Or.inl rfl))]; exact hI.2.1 i hi
  · rw [h 14 (Or.inr (Or.inr rfl))]; exact hI.2.2
/-- n elements of a, from sp on, have been copied to b, from dp on -/
def cp_ag (S Z : wS) (a b : Nat) (sp dp n : Int) : Prop := (∀ (j : Nat) (i : Int), (j ≠ b ∨ i < dp ∨ dp + n ≤ i) → Z j i = S j i) ∧ ∀ i : Int, 0 ≤ i → i < n → Z b (dp + i) = S a (sp + i)
theorem wb_acB {G : pe_G} {mt : pe_Mt} {rest : List pe_I} {L : wL} {st : List wv} {x y n dp sp : Int} {ix : Nat} {ws : List Nat} (a b : Nat) (hx : x = a) (hy : y = b) (ha : w_pr wY0 S a) (hb : w_pr wY0 S b) (hta : wY0.ty a = 2) (htb : wY0.ty b = 2) (hI : gI S) (hR : rmR A S) (hb2 : b < 237 ∧ b ≠ 14) (hn : 0 ≤ n) (hs : 0 ≤ sp) (hd0 : 0 ≤ dp) (hs1 : sp + n ≤ S a (-1)) (hd1 : dp + n ≤ S b (-1)) (hd : 0 < d) (hc : Nat.ble (w_cat st) 8 = true) (k : ∀ Z, cp_ag S Z a b sp dp n → gI Z → rmR A Z → wJ G wY0 M d mt rest L st Z Q) : wJ G wY0 M d mt (.inr (.inr (.inr (.inr (.inr (.inr (.inr (.inr (.inr (.inr (.inr (.inr (.inr (.inr (.inr (.inl (.inr (.inr (.inl (ix, ws))))))))))))))))))) :: rest) L ((0, n) :: (0, dp) :: (2, y) :: (0, sp) :: (2, x) :: st) S Q := by
  refine wa_acB a b hx hy ha hb hta htb hn hs hd0 hs1 hd1 hd hc (k _ ⟨fun j i h => ?_, fun i i0 i1 => ?_⟩ (gI_ag hI (fun j hj => funext fun i => w_cp_of (by omega) i)) (rmR_ag hR (fun k _ => w_cp_out (by omega)) (w_cp_of (by unfold wG; omega) _) (w_cp_of (by unfold wG; omega) _)))
  · rcases h with h | h
    · exact w_cp_of h i
    · exact w_cp_out h
  · rw [w_cp_in (by omega) (by omega), show dp + i - dp = i by omega]
/-- n bytes have been put behind the pool -/
def ap_ag (S Z : wS) (w b : Nat) (a0 n : Int) : Prop := Z w 1 = S w 1 + n ∧ (∀ i : Int, 0 ≤ i → i < S w 1 → Z (w + 1) i = S (w + 1) i) ∧ (∀ i : Int, 0 ≤ i → i < n → Z (w + 1) (S w 1 + i) = S b (a0 + i)) ∧ (∀ (j : Nat) (i : Int), j < 4000000 → j ≠ wG → j ≠ w + 1 → (j ≠ w ∨ i ≠ 1) → Z j i = S j i) ∧ (S w 1 + n ≤ Z (w + 1) (-1) ∧ S (w + 1) (-1) ≤ Z (w + 1) (-1) ∧ (Z (w + 1) (-1) = S (w + 1) (-1) ∨ Z (w + 1) (-1) ≤ 2 * (S w 1 + n))) ∧ gI Z ∧ rmR S Z
theorem wd_cg {H used plen cnt cap plen2 cap2 : Int} {P ST SZ NX HD P2 ST2 SZ2 NX2 HD2 : Int → Int} (h : wd_I H P ST SZ NX HD used plen cnt cap) (h1 : plen ≤ plen2) (h2 : cap ≤ cap2) (hP : ∀ i : Int, 0 ≤ i → i < used → P2 i = P i) (hK : ∀ k : Int, 0 ≤ k → k < cnt → ST2 k = ST k ∧ SZ2 k = SZ k ∧ NX2 k = NX k) (hH : ∀ x : Int, 0 ≤ x → x < H → HD2 x = HD x) : wd_I H P2 ST2 SZ2 NX2 HD2 used plen2 cnt cap2 := by
  obtain ⟨c1, c2, c3, c4, c5, c6⟩ := h
  have hs2 : ∀ k : Int, 0 ≤ k → k < cnt → hs H P2 ST2 SZ2 k = hs H P ST SZ k := by
    intro k k0 k1
    obtain ⟨e1, e2, e3⟩ := hK k k0 k1
    have := c3 k k0 k1
    unfold hs
    rw [e1, e2]
    exact hd_of_cg (fun i hi => hP _ (by omega) (by omega))
  refine ⟨⟨c1.1, by omega⟩, ⟨c2.1, by omega⟩, fun k k0 k1 => ?_, fun x x0 x1 => ?_, fun k k1 => ?_, fun k q k0 k1 q0 q1 hw => ?_⟩
  · obtain ⟨e1, e2, e3⟩ := hK k k0 k1
    rw [e1, e2]
    exact c3 k k0 k1
  · rw [hH x x0 x1, c4 x x0 x1]
    exact wl_cg _ (fun q hq => (hs2 q (by omega) (by omega)).symm)
  · rw [(hK k (by omega) k1).2.2, c5 k k1, hs2 k (by omega) k1]
    exact wl_cg _ (fun q hq => (hs2 q (by omega) (by omega)).symm)
  · refine c6 k q k0 k1 q0 q1 ⟨?_, fun i hi => ?_⟩
    · rw [← (hK k k0 k1).2.1, ← (hK q q0 q1).2.1]; exact hw.1
    · have h3 := c3 k k0 k1
      have h4 := c3 q q0 q1
      have e := hw.1
      rw [(hK k k0 k1).2.1, (hK q q0 q1).2.1] at e
      have := hw.2 i (by rw [(hK q q0 q1).2.1]; exact hi)
      rw [(hK k k0 k1).1, (hK q q0 q1).1, hP _ (by omega) (by omega), hP _ (by omega) (by omega)] at this
      exact this
/-- one more word -/
def wn_ag (w b : Nat) (H a0 n : Int) (S Z : wS) : Prop :=
  (Z w 1 = S w 1 + n ∧ Z w 7 = S w 7 + 1) ∧
  (∀ k : Int, 0 ≤ k → k < S w 7 → Z (w + 2) k = S (w + 2) k ∧ Z (w + 3) k = S (w + 3) k ∧ Z (w + 4) k = S (w + 4) k ∧ Z (w + 5) k = S (w + 5) k ∧ Z (w + 6) k = S (w + 6) k) ∧
  (Z (w + 2) (S w 7) = S w 1 ∧ Z (w + 3) (S w 7) = n ∧ Z (w + 4) (S w 7) = S (w + 10) (hd_of (S b) a0 n H) ∧ Z (w + 5) (S w 7) = -1 ∧ Z (w + 6) (S w 7) = -1) ∧
  (Z (w + 10) (hd_of (S b) a0 n H) = S w 7 + 1 ∧ ∀ x : Int, x ≠ hd_of (S b) a0 n H → Z (w + 10) x = S (w + 10) x) ∧
  (∀ i : Int, 0 ≤ i → i < S w 1 → Z (w + 1) i = S (w + 1) i) ∧ (∀ i : Int, 0 ≤ i → i < n → Z (w + 1) (S w 1 + i) = S b (a0 + i)) ∧
  (∀ (j : Nat) (i : Int), j < 4000000 → j ≠ wG → (j < w ∨ w + 10 < j ∨ (j = w ∧ i ≠ 1 ∧ i ≠ 7) ∨ j = w + 7 ∨ j = w + 8 ∨ j = w + 9) → Z j i = S j i) ∧
  (Z (w + 3) (-1) = Z (w + 2) (-1) ∧ Z (w + 4) (-1) = Z (w + 2) (-1) ∧ Z (w + 5) (-1) = Z (w + 2) (-1) ∧ Z (w + 6) (-1) = Z (w + 2) (-1) ∧ S w 7 + 1 ≤ Z (w + 2) (-1) ∧ (Z (w + 2) (-1) = S (w + 2) (-1) ∨ (S w 7 = S (w + 2) (-1) ∧ Z (w + 2) (-1) = 2 * S w 7))) ∧
  (S w 1 + n ≤ Z (w + 1) (-1) ∧ S (w + 1) (-1) ≤ Z (w + 1) (-1) ∧ (Z (w + 1) (-1) = S (w + 1) (-1) ∨ Z (w + 1) (-1) ≤ 2 * (S w 1 + n))) ∧ gI Z ∧ rmR S Z
def wd_at (S : wS) (w : Nat) (H : Int) : Prop := wd_I H (S (w + 1)) (S (w + 2)) (S (w + 3)) (S (w + 4)) (S (w + 10)) (S w 1) (S (w + 1) (-1)) (S w 7) (S (w + 2) (-1))
theorem wn_I {S Z : wS} {w b : Nat} {H a0 n : Int} (hH : H = 64 ∨ H = 1024) (h : wd_at S w H) (g : wn_ag w b H a0 n S Z) (hn : 0 ≤ n ∧ n ≤ 60) (hno : ∀ k : Int, 0 ≤ k → k < S w 7 → ¬ wq (S (w + 1)) (S (w + 2)) (S (w + 3)) (S b) a0 n k) : wd_at Z w H := by
  obtain ⟨⟨g1, g2⟩, g3, ⟨g4, g5, g6, -, -⟩, ⟨g7, g8⟩, g9, g10, g11, ⟨-, -, -, -, g12, -⟩, ⟨g13, -, -⟩, -, -⟩ := g
  obtain ⟨c1, c2, c3, c4, c5, c6⟩ := h
  have hr := hd_rg (f := S b) (a := a0) (n := n) (H := H) hH
  have hs2 : ∀ k : Int, 0 ≤ k → k < S w 7 → hs H (Z (w + 1)) (Z (w + 2)) (Z (w + 3)) k = hs H (S (w + 1)) (S (w + 2)) (S (w + 3)) k := by
    intro k k0 k1
    obtain ⟨e1, e2, -⟩ := g3 k k0 k1
    have := c3 k k0 k1
    unfold hs
    rw [e1, e2]
    exact hd_of_cg (fun i hi => g9 _ (by omega) (by omega))
  have hsn : hs H (Z (w + 1)) (Z (w + 2)) (Z (w + 3)) (S w 7) = hd_of (S b) a0 n H := by
    unfold hs
    rw [g4, g5]
    exact hd_of_cg (fun i hi => g10 _ (by omega) (by omega))
  have ht : (Z w 7).toNat = (S w 7).toNat + 1 := by omega
  have hc : (((S w 7).toNat : Nat) : Int) = S w 7 := Int.toNat_of_nonneg c1.1
  have hw0 : ∀ x : Int, wl_of (hs H (Z (w + 1)) (Z (w + 2)) (Z (w + 3))) x (S w 7).toNat = wl_of (hs H (S (w + 1)) (S (w + 2)) (S (w + 3))) x (S w 7).toNat := fun x => wl_cg _ (fun q hq => hs2 q (by omega) (by omega))
  refine ⟨⟨by omega, by omega⟩, ⟨by omega, by omega⟩, fun k k0 k1 => ?_, fun x x0 x1 => ?_, fun k k1 => ?_, fun k q k0 k1 q0 q1 hw => ?_⟩
  · by_cases hk : k < S w 7
    · obtain ⟨e1, e2, -⟩ := g3 k k0 hk
      have := c3 k k0 hk
      omega
    · rw [show k = S w 7 by omega, g4, g5]
      omega
  · rw [ht]
    show _ = if hs H (Z (w + 1)) (Z (w + 2)) (Z (w + 3)) (((S w 7).toNat : Nat) : Int) = x then (((S w 7).toNat : Nat) : Int) + 1 else wl_of _ x (S w 7).toNat
    rw [hc, hsn, hw0]
    by_cases hx : hd_of (S b) a0 n H = x
    · rw [if_pos hx, ← hx]; exact g7
    · rw [if_neg hx, g8 x (fun e => hx e.symm)]; exact c4 x x0 x1
  · by_cases hk : (k : Int) < S w 7
    · rw [(g3 k (by omega) hk).2.2.1, c5 k hk, hs2 k (by omega) hk]
      exact wl_cg _ (fun q hq => (hs2 q (by omega) (by omega)).symm)
    · have hk2 : k = (S w 7).toNat := by omega
      subst hk2
      rw [hc, g6, hsn, hw0]
      exact c4 _ hr.1 hr.2
  · have hcut : ∀ m : Int, 0 ≤ m → m < S w 7 → wq (Z (w + 1)) (Z (w + 2)) (Z (w + 3)) (S b) a0 n m → False := by
      intro m m0 m1 hm
      refine hno m m0 m1 ⟨?_, fun i hi => ?_⟩
      · rw [← (g3 m m0 m1).2.1]; exact hm.1
      · have := hm.2 i hi
        have h3 := c3 m m0 m1
        have e := hm.1
        rw [(g3 m m0 m1).2.1] at e
        rw [(g3 m m0 m1).1, g9 _ (by omega) (by omega)] at this
        exact this
    by_cases hk : k < S w 7
    · by_cases hq : q < S w 7
      · obtain ⟨e1, e2, -⟩ := g3 k k0 hk
        obtain ⟨e3, e4, -⟩ := g3 q q0 hq
        have h3 := c3 k k0 hk
        have h4 := c3 q q0 hq
        have e := hw.1
        rw [e2, e4] at e
        refine c6 k q k0 hk q0 hq ⟨e, fun i hi => ?_⟩
        have := hw.2 i (by rw [e4]; exact hi)
        rw [e1, e3, g9 _ (by omega) (by omega), g9 _ (by omega) (by omega)] at this
        exact this
      · exfalso
        have hq2 : q = S w 7 := by omega
        subst hq2
        refine hcut k k0 hk ⟨by rw [← g5]; exact hw.1, fun i hi => ?_⟩
        have := hw.2 i (by rw [g5]; exact hi)
        rw [this, g4]
        exact g10 _ (by omega) (by omega)
    · have hk2 : k = S w 7 := by omega
      by_cases hq : q < S w 7
      · exfalso
        subst hk2
        obtain ⟨e3, e4, -⟩ := g3 q q0 hq
        have e := hw.1
        rw [g5, e4] at e
        refine hcut q q0 hq ⟨by rw [e4]; exact e.symm, fun i hi => ?_⟩
        have := hw.2 i (by rw [e4, ← e]; exact hi)
        rw [← this, g4]
        exact g10 _ (by omega) (by omega)
      · omega
theorem ap_2_1 {a0 n : Int} (hI : gI S) (h0 : 0 ≤ S 2 1 ∧ S 2 1 ≤ S 3 (-1) ∧ 1024 ≤ S 3 (-1) ∧ S 3 (-1) ≤ 16777216) (hn : 0 ≤ n ∧ n ≤ 1024) (ha : 0 ≤ a0 ∧ a0 + n ≤ S 1 (-1)) : wJ (pe_GA xs) wY0 (mS [3]) (d + 3) t_XW_append ((pe_at t_XW_append.bl 0).getD (0, [])).2 [(0, (2, 2)), (1, (2, 1)), (2, (0, a0)), (3, (0, n))] [] S (fun o Z => o = .inl (some (0, S 2 1)) ∧ ap_ag S Z 2 1 a0 n) := by
  have hR := rmR_rfl S
  refine wa_aload_n (n := 0) rfl ?_
  refine wb_gfi 2 rfl (wy_pr rfl) wt_2 wf_9_1 (v := (S 2 1)) rfl (fun r1 => ?_)
  refine wa_iload_n (n := 3) rfl ?_
  refine wa_iadd ?_
  refine wa_aload_n (n := 0) rfl ?_
  refine wb_gf4 2 rfl (wy_pr rfl) wt_2 wf_9_0 (v := 3) wl_2_0 ?_
  refine wb_alen 3 rfl (wy_pr rfl) (by rw [wt_3]; rfl) (v := (S 3 (-1))) rfl (fun r2 => ?_)
  refine wa_icmple (w_rg0 (by omega) (by omega)) (w_rg0 (by omega) (by omega)) ⟨_, rfl⟩ (fun c3 => ?_) (fun c3 => ?_)
  · skip
    refine wa_aload_n (n := 1) rfl ?_
    refine wa_iload_n (n := 2) rfl ?_
    refine wa_aload_n (n := 0) rfl ?_
    refine wb_gf4 2 rfl (wy_pr rfl) wt_2 wf_9_0 (v := 3) wl_2_0 ?_
    refine wa_aload_n (n := 0) rfl ?_
    refine wb_gfi 2 rfl (wy_pr rfl) wt_2 wf_9_1 (v := (S 2 1)) rfl (fun r4 => ?_)
    refine wa_iload_n (n := 3) rfl ?_
    refine wb_acB (S := S) 1 3 rfl rfl (wy_pr rfl) (wy_pr rfl) wt_1 wt_3 hI hR (by decide) (by omega) (by omega) (by omega) (by have e : S 1 (-1) = (S 1 (-1)) := rfl; omega) (by have e : S 3 (-1) = (S 3 (-1)) := rfl; omega) (by omega) rfl (fun Z5 g6 gi7 rm8 => ?_)
    refine wa_aload_n (n := 0) rfl ?_
    refine wa_dup (by decide) ?_
    refine wb_gfi 2 rfl (wy_pr rfl) wt_2 wf_9_1 (v := (S 2 1)) ((g6.1 2 1 (Or.inl (by decide)))) (fun r9 => ?_)
    refine wa_iload_n (n := 3) rfl ?_
    refine wa_iadd ?_
    refine wb_pfi 2 rfl (wy_pr rfl) wt_2 wf_9_1 (n := 1) rfl ⟨(by omega), (by omega)⟩ ?_
    refine wa_aload_n (n := 0) rfl ?_
    refine wb_gfi 2 rfl (wy_pr rfl) wt_2 wf_9_1 (v := ((S 2 1) + n)) (w_up_same _ _ _ _) (fun r10 => ?_)
    refine wa_iload_n (n := 3) rfl ?_
    refine wa_isub ?_
    refine wa_ireturn rfl ?_
    have e0 : ∀ (j : Nat) (i : Int), (j ≠ 3 ∨ i < S 2 1 ∨ S 2 1 + n ≤ i) → Z5 j i = S j i := g6.1
    refine ⟨congrArg (fun z => Sum.inl (some (0, z))) (by omega), w_up_same _ _ _ _, fun i i0 i1 => (w_up_slot (by decide)).trans (e0 3 i (by omega)), fun i i0 i1 => (w_up_slot (by decide)).trans (g6.2 i i0 i1), fun j i j0 j1 j2 j3 => (w_up_no (by omega)).trans (e0 j i (by omega)), ?_, gI_up gi7 (by omega) (by omega) (by omega), rmR_up rm8 (by omega) (by decide)⟩
    have e1 : (w_up Z5 2 1 (S 2 1 + n)) 3 (-1) = S 3 (-1) := (w_up_slot (by decide)).trans (e0 3 (-1) (by omega))
    show S 2 1 + n ≤ (w_up Z5 2 1 (S 2 1 + n)) 3 (-1) ∧ S 3 (-1) ≤ (w_up Z5 2 1 (S 2 1 + n)) 3 (-1) ∧ ((w_up Z5 2 1 (S 2 1 + n)) 3 (-1) = S 3 (-1) ∨ (w_up Z5 2 1 (S 2 1 + n)) 3 (-1) ≤ 2 * (S 2 1 + n))
    rw [e1]; omega
  · skip
    refine wa_aload_n (n := 0) rfl ?_
    refine wa_aload_n (n := 0) rfl ?_
    refine wb_gf4 2 rfl (wy_pr rfl) wt_2 wf_9_0 (v := 3) wl_2_0 ?_
    refine wa_aload_n (n := 0) rfl ?_
    refine wb_gfi 2 rfl (wy_pr rfl) wt_2 wf_9_1 (v := (S 2 1)) rfl (fun r11 => ?_)
    refine wa_iload_n (n := 3) rfl ?_
    refine wa_iadd ?_
    refine wa_aload_n (n := 0) rfl ?_
    refine wb_gf4 2 rfl (wy_pr rfl) wt_2 wf_9_0 (v := 3) wl_2_0 ?_
    refine wb_alen 3 rfl (wy_pr rfl) (by rw [wt_3]; rfl) (v := (S 3 (-1))) rfl (fun r12 => ?_)
    refine wa_iconst ?_
    refine wa_imul ?_
    refine wa_cs (M2 := fun _ => False) rfl at_JM_max ⟨_, rfl⟩ rfl rfl ⟨(Or.inr ⟨wy_pr rfl, fun q => q⟩), (Or.inr ⟨wy_pr rfl, fun q => q⟩), trivial, trivial, trivial⟩ ⟨(Or.inr ⟨wy_pr rfl, fun q => q⟩), (Or.inr ⟨wy_pr rfl, fun q => q⟩), trivial⟩ (fun _ _ q => False.elim q) (mx_ok (S := S) ⟨by omega, by omega⟩ ⟨by omega, by omega⟩) (fun oq14 Sq14 hp15 q14 => ?_)
    rcases q14 with ⟨rfl, rfl⟩
    show wJ _ _ _ _ _ _ _ _ _ _
    generalize hvv13 : (if ((S 2 1) + n) ≥ ((S 3 (-1)) * 2) then ((S 2 1) + n) else ((S 3 (-1)) * 2)) = v13
    have hwv13 : ((S 2 1) + n) ≤ v13 ∧ ((S 3 (-1)) * 2) ≤ v13 ∧ (v13 = ((S 2 1) + n) ∨ v13 = ((S 3 (-1)) * 2)) := by subst hvv13; split <;> omega
    refine wa_cs (M2 := fun _ => False) rfl at_JA_copyOf ⟨_, rfl⟩ rfl rfl ⟨(Or.inr ⟨wy_pr rfl, fun q => q⟩), (Or.inr ⟨wy_pr rfl, fun q => q⟩), trivial, trivial, trivial⟩ ⟨(Or.inr ⟨wy_pr rfl, fun q => q⟩), trivial⟩ (fun _ _ q => False.elim q) (cp_B (S := S) (a := 3) (n := v13) (len := (S 3 (-1))) (wy_pr rfl) wt_3 rfl ⟨by omega, by omega, by omega⟩) (fun oq16 Sq16 _ q16 => ?_)
    rcases q16 with ⟨rfl, rfl⟩
    show wJ _ _ _ _ _ _ _ _ _ _
    refine wg_pf (S := S) (len := (S 3 (-1))) 2 2 3 rfl rfl rfl wt_2 wf_9_0 wl_2_0 (by decide +kernel) wt_3 (by decide) (by decide +kernel) hI (fun q => absurd q (by decide)) (by decide) ⟨by omega, by omega⟩ rfl (fun _ => ⟨Or.inr (by decide), Or.inl (nN_ge _)⟩) ⟨(Or.inr ⟨wy_pr rfl, mS_no rfl⟩), (Or.inr ⟨wy_pr rfl, mS_no rfl⟩), trivial, trivial, trivial⟩ trivial (fun Z17 g18 gi19 => ?_)
    have rm20 := rmR_gr hR g18 (by decide +kernel) (len := (S 3 (-1))) rfl ⟨by omega, by omega⟩ ⟨fun q => by first | omega | exact absurd q (by decide), by show _ ≤ (100000000 : Int); omega⟩
    refine wa_fall ⟨_, rfl⟩ ?_
    refine wa_aload_n (n := 1) rfl ?_
    refine wa_iload_n (n := 2) rfl ?_
    refine wa_aload_n (n := 0) rfl ?_
    refine wb_gf4 2 rfl (wy_pr rfl) wt_2 wf_9_0 (v := 3) wl_2_0 ?_
    refine wa_aload_n (n := 0) rfl ?_
    refine wb_gfi 2 rfl (wy_pr rfl) wt_2 wf_9_1 (v := (S 2 1)) ((congrFun (g18.2.2.1 2 (by decide) (by decide) (by decide)) 1)) (fun r21 => ?_)
    refine wa_iload_n (n := 3) rfl ?_
    refine wb_acB (S := Z17) 1 3 rfl rfl (wy_pr rfl) (wy_pr rfl) wt_1 wt_3 gi19 rm20 (by decide) (by omega) (by omega) (by omega) (by have e : Z17 1 (-1) = (S 1 (-1)) := ((congrFun (g18.2.2.1 1 (by decide) (by decide) (by decide)) (-1))); omega) (by have e : Z17 3 (-1) = v13 := (g18.1); omega) (by omega) rfl (fun Z22 g23 gi24 rm25 => ?_)
    refine wa_aload_n (n := 0) rfl ?_
    refine wa_dup (by decide) ?_
    refine wb_gfi 2 rfl (wy_pr rfl) wt_2 wf_9_1 (v := (S 2 1)) (((g23.1 2 1 (Or.inl (by decide))).trans ((congrFun (g18.2.2.1 2 (by decide) (by decide) (by decide)) 1)))) (fun r26 => ?_)
    refine wa_iload_n (n := 3) rfl ?_
    refine wa_iadd ?_
    refine wb_pfi 2 rfl (wy_pr rfl) wt_2 wf_9_1 (n := 1) rfl ⟨(by omega), (by omega)⟩ ?_
    refine wa_aload_n (n := 0) rfl ?_
    refine wb_gfi 2 rfl (wy_pr rfl) wt_2 wf_9_1 (v := ((S 2 1) + n)) (w_up_same _ _ _ _) (fun r27 => ?_)
    refine wa_iload_n (n := 3) rfl ?_
    refine wa_isub ?_
    refine wa_ireturn rfl ?_
    have e0 : ∀ (j : Nat) (i : Int), (j ≠ 3 ∨ i < S 2 1 ∨ S 2 1 + n ≤ i) → Z22 j i = Z17 j i := g23.1
    have zz : ∀ (j : Nat) (i : Int), j < 4000000 → j ≠ wG → j ≠ 3 → Z17 j i = S j i := fun j i j1 j2 j3 => congrFun (g18.2.2.1 j j3 j1 j2) i
    have zl : Z17 3 (-1) = v13 := g18.1
    refine ⟨congrArg (fun z => Sum.inl (some (0, z))) (by omega), w_up_same _ _ _ _, fun i i0 i1 => (w_up_slot (by decide)).trans ((e0 3 i (by omega)).trans (g18.2.1 i i0 (by omega))), fun i i0 i1 => (w_up_slot (by decide)).trans ((g23.2 i i0 i1).trans (zz 1 _ (by decide) (by decide) (by decide))), fun j i j0 j1 j2 j3 => (w_up_no (by omega)).trans ((e0 j i (by omega)).trans (zz j i j0 j1 j2)), ?_, gI_up gi24 (by omega) (by omega) (by omega), rmR_up rm25 (by omega) (by decide)⟩
    have e1 : (w_up Z22 2 1 (S 2 1 + n)) 3 (-1) = v13 := (w_up_slot (by decide)).trans ((e0 3 (-1) (by omega)).trans zl)
    show S 2 1 + n ≤ (w_up Z22 2 1 (S 2 1 + n)) 3 (-1) ∧ S 3 (-1) ≤ (w_up Z22 2 1 (S 2 1 + n)) 3 (-1) ∧ ((w_up Z22 2 1 (S 2 1 + n)) 3 (-1) = S 3 (-1) ∨ (w_up Z22 2 1 (S 2 1 + n)) 3 (-1) ≤ 2 * (S 2 1 + n))
    rw [e1]; omega
theorem ap_2_18 {a0 n : Int} (hI : gI S) (h0 : 0 ≤ S 2 1 ∧ S 2 1 ≤ S 3 (-1) ∧ 1024 ≤ S 3 (-1) ∧ S 3 (-1) ≤ 16777216) (hn : 0 ≤ n ∧ n ≤ 1024) (ha : 0 ≤ a0 ∧ a0 + n ≤ S 18 (-1)) : wJ (pe_GA xs) wY0 (mS [3]) (d + 3) t_XW_append ((pe_at t_XW_append.bl 0).getD (0, [])).2 [(0, (2, 2)), (1, (2, 18)), (2, (0, a0)), (3, (0, n))] [] S (fun o Z => o = .inl (some (0, S 2 1)) ∧ ap_ag S Z 2 18 a0 n) := by
  have hR := rmR_rfl S
  refine wa_aload_n (n := 0) rfl ?_
  refine wb_gfi 2 rfl (wy_pr rfl) wt_2 wf_9_1 (v := (S 2 1)) rfl (fun r1 => ?_)
  refine wa_iload_n (n := 3) rfl ?_
  refine wa_iadd ?_
  refine wa_aload_n (n := 0) rfl ?_
  refine wb_gf4 2 rfl (wy_pr rfl) wt_2 wf_9_0 (v := 3) wl_2_0 ?_
  refine wb_alen 3 rfl (wy_pr rfl) (by rw [wt_3]; rfl) (v := (S 3 (-1))) rfl (fun r2 => ?_)
  refine wa_icmple (w_rg0 (by omega) (by omega)) (w_rg0 (by omega) (by omega)) ⟨_, rfl⟩ (fun c3 => ?_) (fun c3 => ?_)
  · skip
    refine wa_aload_n (n := 1) rfl ?_
    refine wa_iload_n (n := 2) rfl ?_
    refine wa_aload_n (n := 0) rfl ?_
    refine wb_gf4 2 rfl (wy_pr rfl) wt_2 wf_9_0 (v := 3) wl_2_0 ?_
    refine wa_aload_n (n := 0) rfl ?_
    refine wb_gfi 2 rfl (wy_pr rfl) wt_2 wf_9_1 (v := (S 2 1)) rfl (fun r4 => ?_)
    refine wa_iload_n (n := 3) rfl ?_
    refine wb_acB (S := S) 18 3 rfl rfl (wy_pr rfl) (wy_pr rfl) wt_18 wt_3 hI hR (by decide) (by omega) (by omega) (by omega) (by have e : S 18 (-1) = (S 18 (-1)) := rfl; omega) (by have e : S 3 (-1) = (S 3 (-1)) := rfl; omega) (by omega) rfl (fun Z5 g6 gi7 rm8 => ?_)
    refine wa_aload_n (n := 0) rfl ?_
    refine wa_dup (by decide) ?_
    refine wb_gfi 2 rfl (wy_pr rfl) wt_2 wf_9_1 (v := (S 2 1)) ((g6.1 2 1 (Or.inl (by decide)))) (fun r9 => ?_)
    refine wa_iload_n (n := 3) rfl ?_
    refine wa_iadd ?_
    refine wb_pfi 2 rfl (wy_pr rfl) wt_2 wf_9_1 (n := 1) rfl ⟨(by omega), (by omega)⟩ ?_
    refine wa_aload_n (n := 0) rfl ?_
    refine wb_gfi 2 rfl (wy_pr rfl) wt_2 wf_9_1 (v := ((S 2 1) + n)) (w_up_same _ _ _ _) (fun r10 => ?_)
    refine wa_iload_n (n := 3) rfl ?_
    refine wa_isub ?_
    refine wa_ireturn rfl ?_
    have e0 : ∀ (j : Nat) (i : Int), (j ≠ 3 ∨ i < S 2 1 ∨ S 2 1 + n ≤ i) → Z5 j i = S j i := g6.1
    refine ⟨congrArg (fun z => Sum.inl (some (0, z))) (by omega), w_up_same _ _ _ _, fun i i0 i1 => (w_up_slot (by decide)).trans (e0 3 i (by omega)), fun i i0 i1 => (w_up_slot (by decide)).trans (g6.2 i i0 i1), fun j i j0 j1 j2 j3 => (w_up_no (by omega)).trans (e0 j i (by omega)), ?_, gI_up gi7 (by omega) (by omega) (by omega), rmR_up rm8 (by omega) (by decide)⟩
    have e1 : (w_up Z5 2 1 (S 2 1 + n)) 3 (-1) = S 3 (-1) := (w_up_slot (by decide)).trans (e0 3 (-1) (by omega))
    show S 2 1 + n ≤ (w_up Z5 2 1 (S 2 1 + n)) 3 (-1) ∧ S 3 (-1) ≤ (w_up Z5 2 1 (S 2 1 + n)) 3 (-1) ∧ ((w_up Z5 2 1 (S 2 1 + n)) 3 (-1) = S 3 (-1) ∨ (w_up Z5 2 1 (S 2 1 + n)) 3 (-1) ≤ 2 * (S 2 1 + n))
    rw [e1]; omega
  · skip
    refine wa_aload_n (n := 0) rfl ?_
    refine wa_aload_n (n := 0) rfl ?_
    refine wb_gf4 2 rfl (wy_pr rfl) wt_2 wf_9_0 (v := 3) wl_2_0 ?_
    refine wa_aload_n (n := 0) rfl ?_
    refine wb_gfi 2 rfl (wy_pr rfl) wt_2 wf_9_1 (v := (S 2 1)) rfl (fun r11 => ?_)
    refine wa_iload_n (n := 3) rfl ?_
    refine wa_iadd ?_
    refine wa_aload_n (n := 0) rfl ?_
    refine wb_gf4 2 rfl (wy_pr rfl) wt_2 wf_9_0 (v := 3) wl_2_0 ?_
    refine wb_alen 3 rfl (wy_pr rfl) (by rw [wt_3]; rfl) (v := (S 3 (-1))) rfl (fun r12 => ?_)
    refine wa_iconst ?_
    refine wa_imul ?_
    refine wa_cs (M2 := fun _ => False) rfl at_JM_max ⟨_, rfl⟩ rfl rfl ⟨(Or.inr ⟨wy_pr rfl, fun q => q⟩), (Or.inr ⟨wy_pr rfl, fun q => q⟩), trivial, trivial, trivial⟩ ⟨(Or.inr ⟨wy_pr rfl, fun q => q⟩), (Or.inr ⟨wy_pr rfl, fun q => q⟩), trivial⟩ (fun _ _ q => False.elim q) (mx_ok (S := S) ⟨by omega, by omega⟩ ⟨by omega, by omega⟩) (fun oq14 Sq14 hp15 q14 => ?_)
    rcases q14 with ⟨rfl, rfl⟩
    show wJ _ _ _ _ _ _ _ _ _ _
    generalize hvv13 : (if ((S 2 1) + n) ≥ ((S 3 (-1)) * 2) then ((S 2 1) + n) else ((S 3 (-1)) * 2)) = v13
    have hwv13 : ((S 2 1) + n) ≤ v13 ∧ ((S 3 (-1)) * 2) ≤ v13 ∧ (v13 = ((S 2 1) + n) ∨ v13 = ((S 3 (-1)) * 2)) := by subst hvv13; split <;> omega
    refine wa_cs (M2 := fun _ => False) rfl at_JA_copyOf ⟨_, rfl⟩ rfl rfl ⟨(Or.inr ⟨wy_pr rfl, fun q => q⟩), (Or.inr ⟨wy_pr rfl, fun q => q⟩), trivial, trivial, trivial⟩ ⟨(Or.inr ⟨wy_pr rfl, fun q => q⟩), trivial⟩ (fun _ _ q => False.elim q) (cp_B (S := S) (a := 3) (n := v13) (len := (S 3 (-1))) (wy_pr rfl) wt_3 rfl ⟨by omega, by omega, by omega⟩) (fun oq16 Sq16 _ q16 => ?_)
    rcases q16 with ⟨rfl, rfl⟩
    show wJ _ _ _ _ _ _ _ _ _ _
    refine wg_pf (S := S) (len := (S 3 (-1))) 2 2 3 rfl rfl rfl wt_2 wf_9_0 wl_2_0 (by decide +kernel) wt_3 (by decide) (by decide +kernel) hI (fun q => absurd q (by decide)) (by decide) ⟨by omega, by omega⟩ rfl (fun _ => ⟨Or.inr (by decide), Or.inl (nN_ge _)⟩) ⟨(Or.inr ⟨wy_pr rfl, mS_no rfl⟩), (Or.inr ⟨wy_pr rfl, mS_no rfl⟩), trivial, trivial, trivial⟩ trivial (fun Z17 g18 gi19 => ?_)
    have rm20 := rmR_gr hR g18 (by decide +kernel) (len := (S 3 (-1))) rfl ⟨by omega, by omega⟩ ⟨fun q => by first | omega | exact absurd q (by decide), by show _ ≤ (100000000 : Int); omega⟩
    refine wa_fall ⟨_, rfl⟩ ?_
    refine wa_aload_n (n := 1) rfl ?_
    refine wa_iload_n (n := 2) rfl ?_
    refine wa_aload_n (n := 0) rfl ?_
    refine wb_gf4 2 rfl (wy_pr rfl) wt_2 wf_9_0 (v := 3) wl_2_0 ?_
    refine wa_aload_n (n := 0) rfl ?_
    refine wb_gfi 2 rfl (wy_pr rfl) wt_2 wf_9_1 (v := (S 2 1)) ((congrFun (g18.2.2.1 2 (by decide) (by decide) (by decide)) 1)) (fun r21 => ?_)
    refine wa_iload_n (n := 3) rfl ?_
    refine wb_acB (S := Z17) 18 3 rfl rfl (wy_pr rfl) (wy_pr rfl) wt_18 wt_3 gi19 rm20 (by decide) (by omega) (by omega) (by omega) (by have e : Z17 18 (-1) = (S 18 (-1)) := ((congrFun (g18.2.2.1 18 (by decide) (by decide) (by decide)) (-1))); omega) (by have e : Z17 3 (-1) = v13 := (g18.1); omega) (by omega) rfl (fun Z22 g23 gi24 rm25 => ?_)
    refine wa_aload_n (n := 0) rfl ?_
    refine wa_dup (by decide) ?_
    refine wb_gfi 2 rfl (wy_pr rfl) wt_2 wf_9_1 (v := (S 2 1)) (((g23.1 2 1 (Or.inl (by decide))).trans ((congrFun (g18.2.2.1 2 (by decide) (by decide) (by decide)) 1)))) (fun r26 => ?_)
    refine wa_iload_n (n := 3) rfl ?_
    refine wa_iadd ?_
    refine wb_pfi 2 rfl (wy_pr rfl) wt_2 wf_9_1 (n := 1) rfl ⟨(by omega), (by omega)⟩ ?_
    refine wa_aload_n (n := 0) rfl ?_
    refine wb_gfi 2 rfl (wy_pr rfl) wt_2 wf_9_1 (v := ((S 2 1) + n)) (w_up_same _ _ _ _) (fun r27 => ?_)
    refine wa_iload_n (n := 3) rfl ?_
    refine wa_isub ?_
    refine wa_ireturn rfl ?_
    have e0 : ∀ (j : Nat) (i : Int), (j ≠ 3 ∨ i < S 2 1 ∨ S 2 1 + n ≤ i) → Z22 j i = Z17 j i := g23.1
    have zz : ∀ (j : Nat) (i : Int), j < 4000000 → j ≠ wG → j ≠ 3 → Z17 j i = S j i := fun j i j1 j2 j3 => congrFun (g18.2.2.1 j j3 j1 j2) i
    have zl : Z17 3 (-1) = v13 := g18.1
    refine ⟨congrArg (fun z => Sum.inl (some (0, z))) (by omega), w_up_same _ _ _ _, fun i i0 i1 => (w_up_slot (by decide)).trans ((e0 3 i (by omega)).trans (g18.2.1 i i0 (by omega))), fun i i0 i1 => (w_up_slot (by decide)).trans ((g23.2 i i0 i1).trans (zz 18 _ (by decide) (by decide) (by decide))), fun j i j0 j1 j2 j3 => (w_up_no (by omega)).trans ((e0 j i (by omega)).trans (zz j i j0 j1 j2)), ?_, gI_up gi24 (by omega) (by omega) (by omega), rmR_up rm25 (by omega) (by decide)⟩
    have e1 : (w_up Z22 2 1 (S 2 1 + n)) 3 (-1) = v13 := (w_up_slot (by decide)).trans ((e0 3 (-1) (by omega)).trans zl)
    show S 2 1 + n ≤ (w_up Z22 2 1 (S 2 1 + n)) 3 (-1) ∧ S 3 (-1) ≤ (w_up Z22 2 1 (S 2 1 + n)) 3 (-1) ∧ ((w_up Z22 2 1 (S 2 1 + n)) 3 (-1) = S 3 (-1) ∨ (w_up Z22 2 1 (S 2 1 + n)) 3 (-1) ≤ 2 * (S 2 1 + n))
    rw [e1]; omega
theorem ap_74_1 {a0 n : Int} (hI : gI S) (h0 : 0 ≤ S 74 1 ∧ S 74 1 ≤ S 75 (-1) ∧ 1024 ≤ S 75 (-1) ∧ S 75 (-1) ≤ 16777216) (hn : 0 ≤ n ∧ n ≤ 1024) (ha : 0 ≤ a0 ∧ a0 + n ≤ S 1 (-1)) : wJ (pe_GA xs) wY0 (mS [75]) (d + 3) t_XW_append ((pe_at t_XW_append.bl 0).getD (0, [])).2 [(0, (2, 74)), (1, (2, 1)), (2, (0, a0)), (3, (0, n))] [] S (fun o Z => o = .inl (some (0, S 74 1)) ∧ ap_ag S Z 74 1 a0 n) := by
  have hR := rmR_rfl S
  refine wa_aload_n (n := 0) rfl ?_
  refine wb_gfi 74 rfl (wy_pr rfl) wt_74 wf_9_1 (v := (S 74 1)) rfl (fun r1 => ?_)
  refine wa_iload_n (n := 3) rfl ?_
  refine wa_iadd ?_
  refine wa_aload_n (n := 0) rfl ?_
  refine wb_gf4 74 rfl (wy_pr rfl) wt_74 wf_9_0 (v := 75) wl_74_0 ?_
  refine wb_alen 75 rfl (wy_pr rfl) (by rw [wt_75]; rfl) (v := (S 75 (-1))) rfl (fun r2 => ?_)
  refine wa_icmple (w_rg0 (by omega) (by omega)) (w_rg0 (by omega) (by omega)) ⟨_, rfl⟩ (fun c3 => ?_) (fun c3 => ?_)
  · skip
    refine wa_aload_n (n := 1) rfl ?_
    refine wa_iload_n (n := 2) rfl ?_
    refine wa_aload_n (n := 0) rfl ?_
    refine wb_gf4 74 rfl (wy_pr rfl) wt_74 wf_9_0 (v := 75) wl_74_0 ?_
    refine wa_aload_n (n := 0) rfl ?_
    refine wb_gfi 74 rfl (wy_pr rfl) wt_74 wf_9_1 (v := (S 74 1)) rfl (fun r4 => ?_)
    refine wa_iload_n (n := 3) rfl ?_
    refine wb_acB (S := S) 1 75 rfl rfl (wy_pr rfl) (wy_pr rfl) wt_1 wt_75 hI hR (by decide) (by omega) (by omega) (by omega) (by have e : S 1 (-1) = (S 1 (-1)) := rfl; omega) (by have e : S 75 (-1) = (S 75 (-1)) := rfl; omega) (by omega) rfl (fun Z5 g6 gi7 rm8 => ?_)
    refine wa_aload_n (n := 0) rfl ?_
    refine wa_dup (by decide) ?_
    refine wb_gfi 74 rfl (wy_pr rfl) wt_74 wf_9_1 (v := (S 74 1)) ((g6.1 74 1 (Or.inl (by decide)))) (fun r9 => ?_)
    refine wa_iload_n (n := 3) rfl ?_
    refine wa_iadd ?_
    refine wb_pfi 74 rfl (wy_pr rfl) wt_74 wf_9_1 (n := 1) rfl ⟨(by omega), (by omega)⟩ ?_
    refine wa_aload_n (n := 0) rfl ?_
    refine wb_gfi 74 rfl (wy_pr rfl) wt_74 wf_9_1 (v := ((S 74 1) + n)) (w_up_same _ _ _ _) (fun r10 => ?_)
    refine wa_iload_n (n := 3) rfl ?_
    refine wa_isub ?_
    refine wa_ireturn rfl ?_
    have e0 : ∀ (j : Nat) (i : Int), (j ≠ 75 ∨ i < S 74 1 ∨ S 74 1 + n ≤ i) → Z5 j i = S j i := g6.1
    refine ⟨congrArg (fun z => Sum.inl (some (0, z))) (by omega), w_up_same _ _ _ _, fun i i0 i1 => (w_up_slot (by decide)).trans (e0 75 i (by omega)), fun i i0 i1 => (w_up_slot (by decide)).trans (g6.2 i i0 i1), fun j i j0 j1 j2 j3 => (w_up_no (by omega)).trans (e0 j i (by omega)), ?_, gI_up gi7 (by omega) (by omega) (by omega), rmR_up rm8 (by omega) (by decide)⟩
    have e1 : (w_up Z5 74 1 (S 74 1 + n)) 75 (-1) = S 75 (-1) := (w_up_slot (by decide)).trans (e0 75 (-1) (by omega))
    show S 74 1 + n ≤ (w_up Z5 74 1 (S 74 1 + n)) 75 (-1) ∧ S 75 (-1) ≤ (w_up Z5 74 1 (S 74 1 + n)) 75 (-1) ∧ ((w_up Z5 74 1 (S 74 1 + n)) 75 (-1) = S 75 (-1) ∨ (w_up Z5 74 1 (S 74 1 + n)) 75 (-1) ≤ 2 * (S 74 1 + n))
    rw [e1]; omega
  · skip
    refine wa_aload_n (n := 0) rfl ?_
    refine wa_aload_n (n := 0) rfl ?_
    refine wb_gf4 74 rfl (wy_pr rfl) wt_74 wf_9_0 (v := 75) wl_74_0 ?_
    refine wa_aload_n (n := 0) rfl ?_
    refine wb_gfi 74 rfl (wy_pr rfl) wt_74 wf_9_1 (v := (S 74 1)) rfl (fun r11 => ?_)
    refine wa_iload_n (n := 3) rfl ?_
    refine wa_iadd ?_
    refine wa_aload_n (n := 0) rfl ?_
    refine wb_gf4 74 rfl (wy_pr rfl) wt_74 wf_9_0 (v := 75) wl_74_0 ?_
    refine wb_alen 75 rfl (wy_pr rfl) (by rw [wt_75]; rfl) (v := (S 75 (-1))) rfl (fun r12 => ?_)
    refine wa_iconst ?_
    refine wa_imul ?_
    refine wa_cs (M2 := fun _ => False) rfl at_JM_max ⟨_, rfl⟩ rfl rfl ⟨(Or.inr ⟨wy_pr rfl, fun q => q⟩), (Or.inr ⟨wy_pr rfl, fun q => q⟩), trivial, trivial, trivial⟩ ⟨(Or.inr ⟨wy_pr rfl, fun q => q⟩), (Or.inr ⟨wy_pr rfl, fun q => q⟩), trivial⟩ (fun _ _ q => False.elim q) (mx_ok (S := S) ⟨by omega, by omega⟩ ⟨by omega, by omega⟩) (fun oq14 Sq14 hp15 q14 => ?_)
    rcases q14 with ⟨rfl, rfl⟩
    show wJ _ _ _ _ _ _ _ _ _ _
    generalize hvv13 : (if ((S 74 1) + n) ≥ ((S 75 (-1)) * 2) then ((S 74 1) + n) else ((S 75 (-1)) * 2)) = v13
    have hwv13 : ((S 74 1) + n) ≤ v13 ∧ ((S 75 (-1)) * 2) ≤ v13 ∧ (v13 = ((S 74 1) + n) ∨ v13 = ((S 75 (-1)) * 2)) := by subst hvv13; split <;> omega
    refine wa_cs (M2 := fun _ => False) rfl at_JA_copyOf ⟨_, rfl⟩ rfl rfl ⟨(Or.inr ⟨wy_pr rfl, fun q => q⟩), (Or.inr ⟨wy_pr rfl, fun q => q⟩), trivial, trivial, trivial⟩ ⟨(Or.inr ⟨wy_pr rfl, fun q => q⟩), trivial⟩ (fun _ _ q => False.elim q) (cp_B (S := S) (a := 75) (n := v13) (len := (S 75 (-1))) (wy_pr rfl) wt_75 rfl ⟨by omega, by omega, by omega⟩) (fun oq16 Sq16 _ q16 => ?_)
    rcases q16 with ⟨rfl, rfl⟩
    show wJ _ _ _ _ _ _ _ _ _ _
    refine wg_pf (S := S) (len := (S 75 (-1))) 2 74 75 rfl rfl rfl wt_74 wf_9_0 wl_74_0 (by decide +kernel) wt_75 (by decide) (by decide +kernel) hI (fun q => absurd q (by decide)) (by decide) ⟨by omega, by omega⟩ rfl (fun _ => ⟨Or.inr (by decide), Or.inl (nN_ge _)⟩) ⟨(Or.inr ⟨wy_pr rfl, mS_no rfl⟩), (Or.inr ⟨wy_pr rfl, mS_no rfl⟩), trivial, trivial, trivial⟩ trivial (fun Z17 g18 gi19 => ?_)
    have rm20 := rmR_gr hR g18 (by decide +kernel) (len := (S 75 (-1))) rfl ⟨by omega, by omega⟩ ⟨fun q => by first | omega | exact absurd q (by decide), by show _ ≤ (100000000 : Int); omega⟩
    refine wa_fall ⟨_, rfl⟩ ?_
    refine wa_aload_n (n := 1) rfl ?_
    refine wa_iload_n (n := 2) rfl ?_
    refine wa_aload_n (n := 0) rfl ?_
    refine wb_gf4 74 rfl (wy_pr rfl) wt_74 wf_9_0 (v := 75) wl_74_0 ?_
    refine wa_aload_n (n := 0) rfl ?_
    refine wb_gfi 74 rfl (wy_pr rfl) wt_74 wf_9_1 (v := (S 74 1)) ((congrFun (g18.2.2.1 74 (by decide) (by decide) (by decide)) 1)) (fun r21 => ?_)
    refine wa_iload_n (n := 3) rfl ?_
    refine wb_acB (S := Z17) 1 75 rfl rfl (wy_pr rfl) (wy_pr rfl) wt_1 wt_75 gi19 rm20 (by decide) (by omega) (by omega) (by omega) (by have e : Z17 1 (-1) = (S 1 (-1)) := ((congrFun (g18.2.2.1 1 (by decide) (by decide) (by decide)) (-1))); omega) (by have e : Z17 75 (-1) = v13 := (g18.1); omega) (by omega) rfl (fun Z22 g23 gi24 rm25 => ?_)
    refine wa_aload_n (n := 0) rfl ?_
    refine wa_dup (by decide) ?_
    refine wb_gfi 74 rfl (wy_pr rfl) wt_74 wf_9_1 (v := (S 74 1)) (((g23.1 74 1 (Or.inl (by decide))).trans ((congrFun (g18.2.2.1 74 (by decide) (by decide) (by decide)) 1)))) (fun r26 => ?_)
    refine wa_iload_n (n := 3) rfl ?_
    refine wa_iadd ?_
    refine wb_pfi 74 rfl (wy_pr rfl) wt_74 wf_9_1 (n := 1) rfl ⟨(by omega), (by omega)⟩ ?_
    refine wa_aload_n (n := 0) rfl ?_
    refine wb_gfi 74 rfl (wy_pr rfl) wt_74 wf_9_1 (v := ((S 74 1) + n)) (w_up_same _ _ _ _) (fun r27 => ?_)
    refine wa_iload_n (n := 3) rfl ?_
    refine wa_isub ?_
    refine wa_ireturn rfl ?_
    have e0 : ∀ (j : Nat) (i : Int), (j ≠ 75 ∨ i < S 74 1 ∨ S 74 1 + n ≤ i) → Z22 j i = Z17 j i := g23.1
    have zz : ∀ (j : Nat) (i : Int), j < 4000000 → j ≠ wG → j ≠ 75 → Z17 j i = S j i := fun j i j1 j2 j3 => congrFun (g18.2.2.1 j j3 j1 j2) i
    have zl : Z17 75 (-1) = v13 := g18.1
    refine ⟨congrArg (fun z => Sum.inl (some (0, z))) (by omega), w_up_same _ _ _ _, fun i i0 i1 => (w_up_slot (by decide)).trans ((e0 75 i (by omega)).trans (g18.2.1 i i0 (by omega))), fun i i0 i1 => (w_up_slot (by decide)).trans ((g23.2 i i0 i1).trans (zz 1 _ (by decide) (by decide) (by decide))), fun j i j0 j1 j2 j3 => (w_up_no (by omega)).trans ((e0 j i (by omega)).trans (zz j i j0 j1 j2)), ?_, gI_up gi24 (by omega) (by omega) (by omega), rmR_up rm25 (by omega) (by decide)⟩
    have e1 : (w_up Z22 74 1 (S 74 1 + n)) 75 (-1) = v13 := (w_up_slot (by decide)).trans ((e0 75 (-1) (by omega)).trans zl)
    show S 74 1 + n ≤ (w_up Z22 74 1 (S 74 1 + n)) 75 (-1) ∧ S 75 (-1) ≤ (w_up Z22 74 1 (S 74 1 + n)) 75 (-1) ∧ ((w_up Z22 74 1 (S 74 1 + n)) 75 (-1) = S 75 (-1) ∨ (w_up Z22 74 1 (S 74 1 + n)) 75 (-1) ≤ 2 * (S 74 1 + n))
    rw [e1]; omega
theorem ap_163_1 {a0 n : Int} (hI : gI S) (h0 : 0 ≤ S 163 1 ∧ S 163 1 ≤ S 164 (-1) ∧ 1024 ≤ S 164 (-1) ∧ S 164 (-1) ≤ 16777216) (hn : 0 ≤ n ∧ n ≤ 1024) (ha : 0 ≤ a0 ∧ a0 + n ≤ S 1 (-1)) : wJ (pe_GA xs) wY0 (mS [164]) (d + 3) t_XW_append ((pe_at t_XW_append.bl 0).getD (0, [])).2 [(0, (2, 163)), (1, (2, 1)), (2, (0, a0)), (3, (0, n))] [] S (fun o Z => o = .inl (some (0, S 163 1)) ∧ ap_ag S Z 163 1 a0 n) := by
  have hR := rmR_rfl S
  refine wa_aload_n (n := 0) rfl ?_
  refine wb_gfi 163 rfl (wy_pr rfl) wt_163 wf_9_1 (v := (S 163 1)) rfl (fun r1 => ?_)
  refine wa_iload_n (n := 3) rfl ?_
  refine wa_iadd ?_
  refine wa_aload_n (n := 0) rfl ?_
  refine wb_gf4 163 rfl (wy_pr rfl) wt_163 wf_9_0 (v := 164) wl_163_0 ?_
  refine wb_alen 164 rfl (wy_pr rfl) (by rw [wt_164]; rfl) (v := (S 164 (-1))) rfl (fun r2 => ?_)
  refine wa_icmple (w_rg0 (by omega) (by omega)) (w_rg0 (by omega) (by omega)) ⟨_, rfl⟩ (fun c3 => ?_) (fun c3 => ?_)
  · skip
    refine wa_aload_n (n := 1) rfl ?_
    refine wa_iload_n (n := 2) rfl ?_
    refine wa_aload_n (n := 0) rfl ?_
    refine wb_gf4 163 rfl (wy_pr rfl) wt_163 wf_9_0 (v := 164) wl_163_0 ?_
    refine wa_aload_n (n := 0) rfl ?_
    refine wb_gfi 163 rfl (wy_pr rfl) wt_163 wf_9_1 (v := (S 163 1)) rfl (fun r4 => ?_)
    refine wa_iload_n (n := 3) rfl ?_
    refine wb_acB (S := S) 1 164 rfl rfl (wy_pr rfl) (wy_pr rfl) wt_1 wt_164 hI hR (by decide) (by omega) (by omega) (by omega) (by have e : S 1 (-1) = (S 1 (-1)) := rfl; omega) (by have e : S 164 (-1) = (S 164 (-1)) := rfl; omega) (by omega) rfl (fun Z5 g6 gi7 rm8 => ?_)
    refine wa_aload_n (n := 0) rfl ?_
    refine wa_dup (by decide) ?_
    refine wb_gfi 163 rfl (wy_pr rfl) wt_163 wf_9_1 (v := (S 163 1)) ((g6.1 163 1 (Or.inl (by decide)))) (fun r9 => ?_)
    refine wa_iload_n (n := 3) rfl ?_
    refine wa_iadd ?_
    refine wb_pfi 163 rfl (wy_pr rfl) wt_163 wf_9_1 (n := 1) rfl ⟨(by omega), (by omega)⟩ ?_
    refine wa_aload_n (n := 0) rfl ?_
    refine wb_gfi 163 rfl (wy_pr rfl) wt_163 wf_9_1 (v := ((S 163 1) + n)) (w_up_same _ _ _ _) (fun r10 => ?_)
    refine wa_iload_n (n := 3) rfl ?_
    refine wa_isub ?_
    refine wa_ireturn rfl ?_
    have e0 : ∀ (j : Nat) (i : Int), (j ≠ 164 ∨ i < S 163 1 ∨ S 163 1 + n ≤ i) → Z5 j i = S j i := g6.1
    refine ⟨congrArg (fun z => Sum.inl (some (0, z))) (by omega), w_up_same _ _ _ _, fun i i0 i1 => (w_up_slot (by decide)).trans (e0 164 i (by omega)), fun i i0 i1 => (w_up_slot (by decide)).trans (g6.2 i i0 i1), fun j i j0 j1 j2 j3 => (w_up_no (by omega)).trans (e0 j i (by omega)), ?_, gI_up gi7 (by omega) (by omega) (by omega), rmR_up rm8 (by omega) (by decide)⟩
    have e1 : (w_up Z5 163 1 (S 163 1 + n)) 164 (-1) = S 164 (-1) := (w_up_slot (by decide)).trans (e0 164 (-1) (by omega))
    show S 163 1 + n ≤ (w_up Z5 163 1 (S 163 1 + n)) 164 (-1) ∧ S 164 (-1) ≤ (w_up Z5 163 1 (S 163 1 + n)) 164 (-1) ∧ ((w_up Z5 163 1 (S 163 1 + n)) 164 (-1) = S 164 (-1) ∨ (w_up Z5 163 1 (S 163 1 + n)) 164 (-1) ≤ 2 * (S 163 1 + n))
    rw [e1]; omega
  · skip
    refine wa_aload_n (n := 0) rfl ?_
    refine wa_aload_n (n := 0) rfl ?_
    refine wb_gf4 163 rfl (wy_pr rfl) wt_163 wf_9_0 (v := 164) wl_163_0 ?_
    refine wa_aload_n (n := 0) rfl ?_
    refine wb_gfi 163 rfl (wy_pr rfl) wt_163 wf_9_1 (v := (S 163 1)) rfl (fun r11 => ?_)
    refine wa_iload_n (n := 3) rfl ?_
    refine wa_iadd ?_
    refine wa_aload_n (n := 0) rfl ?_
    refine wb_gf4 163 rfl (wy_pr rfl) wt_163 wf_9_0 (v := 164) wl_163_0 ?_
    refine wb_alen 164 rfl (wy_pr rfl) (by rw [wt_164]; rfl) (v := (S 164 (-1))) rfl (fun r12 => ?_)
    refine wa_iconst ?_
    refine wa_imul ?_
    refine wa_cs (M2 := fun _ => False) rfl at_JM_max ⟨_, rfl⟩ rfl rfl ⟨(Or.inr ⟨wy_pr rfl, fun q => q⟩), (Or.inr ⟨wy_pr rfl, fun q => q⟩), trivial, trivial, trivial⟩ ⟨(Or.inr ⟨wy_pr rfl, fun q => q⟩), (Or.inr ⟨wy_pr rfl, fun q => q⟩), trivial⟩ (fun _ _ q => False.elim q) (mx_ok (S := S) ⟨by omega, by omega⟩ ⟨by omega, by omega⟩) (fun oq14 Sq14 hp15 q14 => ?_)
    rcases q14 with ⟨rfl, rfl⟩
    show wJ _ _ _ _ _ _ _ _ _ _
    generalize hvv13 : (if ((S 163 1) + n) ≥ ((S 164 (-1)) * 2) then ((S 163 1) + n) else ((S 164 (-1)) * 2)) = v13
    have hwv13 : ((S 163 1) + n) ≤ v13 ∧ ((S 164 (-1)) * 2) ≤ v13 ∧ (v13 = ((S 163 1) + n) ∨ v13 = ((S 164 (-1)) * 2)) := by subst hvv13; split <;> omega
    refine wa_cs (M2 := fun _ => False) rfl at_JA_copyOf ⟨_, rfl⟩ rfl rfl ⟨(Or.inr ⟨wy_pr rfl, fun q => q⟩), (Or.inr ⟨wy_pr rfl, fun q => q⟩), trivial, trivial, trivial⟩ ⟨(Or.inr ⟨wy_pr rfl, fun q => q⟩), trivial⟩ (fun _ _ q => False.elim q) (cp_B (S := S) (a := 164) (n := v13) (len := (S 164 (-1))) (wy_pr rfl) wt_164 rfl ⟨by omega, by omega, by omega⟩) (fun oq16 Sq16 _ q16 => ?_)
    rcases q16 with ⟨rfl, rfl⟩
    show wJ _ _ _ _ _ _ _ _ _ _
    refine wg_pf (S := S) (len := (S 164 (-1))) 2 163 164 rfl rfl rfl wt_163 wf_9_0 wl_163_0 (by decide +kernel) wt_164 (by decide) (by decide +kernel) hI (fun q => absurd q (by decide)) (by decide) ⟨by omega, by omega⟩ rfl (fun _ => ⟨Or.inr (by decide), Or.inl (nN_ge _)⟩) ⟨(Or.inr ⟨wy_pr rfl, mS_no rfl⟩), (Or.inr ⟨wy_pr rfl, mS_no rfl⟩), trivial, trivial, trivial⟩ trivial (fun Z17 g18 gi19 => ?_)
    have rm20 := rmR_gr hR g18 (by decide +kernel) (len := (S 164 (-1))) rfl ⟨by omega, by omega⟩ ⟨fun q => by first | omega | exact absurd q (by decide), by show _ ≤ (100000000 : Int); omega⟩
    refine wa_fall ⟨_, rfl⟩ ?_
    refine wa_aload_n (n := 1) rfl ?_
    refine wa_iload_n (n := 2) rfl ?_
    refine wa_aload_n (n := 0) rfl ?_
    refine wb_gf4 163 rfl (wy_pr rfl) wt_163 wf_9_0 (v := 164) wl_163_0 ?_
    refine wa_aload_n (n := 0) rfl ?_
    refine wb_gfi 163 rfl (wy_pr rfl) wt_163 wf_9_1 (v := (S 163 1)) ((congrFun (g18.2.2.1 163 (by decide) (by decide) (by decide)) 1)) (fun r21 => ?_)
    refine wa_iload_n (n := 3) rfl ?_
    refine wb_acB (S := Z17) 1 164 rfl rfl (wy_pr rfl) (wy_pr rfl) wt_1 wt_164 gi19 rm20 (by decide) (by omega) (by omega) (by omega) (by have e : Z17 1 (-1) = (S 1 (-1)) := ((congrFun (g18.2.2.1 1 (by decide) (by decide) (by decide)) (-1))); omega) (by have e : Z17 164 (-1) = v13 := (g18.1); omega) (by omega) rfl (fun Z22 g23 gi24 rm25 => ?_)
    refine wa_aload_n (n := 0) rfl ?_
    refine wa_dup (by decide) ?_
    refine wb_gfi 163 rfl (wy_pr rfl) wt_163 wf_9_1 (v := (S 163 1)) (((g23.1 163 1 (Or.inl (by decide))).trans ((congrFun (g18.2.2.1 163 (by decide) (by decide) (by decide)) 1)))) (fun r26 => ?_)
    refine wa_iload_n (n := 3) rfl ?_
    refine wa_iadd ?_
    refine wb_pfi 163 rfl (wy_pr rfl) wt_163 wf_9_1 (n := 1) rfl ⟨(by omega), (by omega)⟩ ?_
    refine wa_aload_n (n := 0) rfl ?_
    refine wb_gfi 163 rfl (wy_pr rfl) wt_163 wf_9_1 (v := ((S 163 1) + n)) (w_up_same _ _ _ _) (fun r27 => ?_)
    refine wa_iload_n (n := 3) rfl ?_
    refine wa_isub ?_
    refine wa_ireturn rfl ?_
    have e0 : ∀ (j : Nat) (i : Int), (j ≠ 164 ∨ i < S 163 1 ∨ S 163 1 + n ≤ i) → Z22 j i = Z17 j i := g23.1
    have zz : ∀ (j : Nat) (i : Int), j < 4000000 → j ≠ wG → j ≠ 164 → Z17 j i = S j i := fun j i j1 j2 j3 => congrFun (g18.2.2.1 j j3 j1 j2) i
    have zl : Z17 164 (-1) = v13 := g18.1
    refine ⟨congrArg (fun z => Sum.inl (some (0, z))) (by omega), w_up_same _ _ _ _, fun i i0 i1 => (w_up_slot (by decide)).trans ((e0 164 i (by omega)).trans (g18.2.1 i i0 (by omega))), fun i i0 i1 => (w_up_slot (by decide)).trans ((g23.2 i i0 i1).trans (zz 1 _ (by decide) (by decide) (by decide))), fun j i j0 j1 j2 j3 => (w_up_no (by omega)).trans ((e0 j i (by omega)).trans (zz j i j0 j1 j2)), ?_, gI_up gi24 (by omega) (by omega) (by omega), rmR_up rm25 (by omega) (by decide)⟩
    have e1 : (w_up Z22 163 1 (S 163 1 + n)) 164 (-1) = v13 := (w_up_slot (by decide)).trans ((e0 164 (-1) (by omega)).trans zl)
    show S 163 1 + n ≤ (w_up Z22 163 1 (S 163 1 + n)) 164 (-1) ∧ S 164 (-1) ≤ (w_up Z22 163 1 (S 163 1 + n)) 164 (-1) ∧ ((w_up Z22 163 1 (S 163 1 + n)) 164 (-1) = S 164 (-1) ∨ (w_up Z22 163 1 (S 163 1 + n)) 164 (-1) ≤ 2 * (S 163 1 + n))
    rw [e1]; omega
theorem wf3_2_1 {a0 n : Int} (hI : gI S) (hL : wd_L S 2 1024) (h0 : 0 ≤ S 2 1 ∧ S 2 1 ≤ S 3 (-1) ∧ 1024 ≤ S 3 (-1) ∧ S 3 (-1) ≤ 16777216) (hn : 0 ≤ n ∧ n ≤ 60) (ha : 0 ≤ a0 ∧ a0 + n ≤ S 1 (-1) ∧ S 1 (-1) ≤ 2147483647) (hc : 0 ≤ (S 2 7) ∧ (S 2 7) < S 4 (-1) ∧ S 4 (-1) ≤ 16777216) : wJ (pe_GA xs) wY0 (mS [3, 4, 5, 6, 7, 8]) (d + 4) t_XW_wordFor ((pe_at t_XW_wordFor.bl 3).getD (0, [])).2 [(0, (2, 2)), (1, (2, 1)), (2, (0, a0)), (3, (0, n)), (4, (0, (S 2 7)))] [] S (fun o Z => o = .inl (some (0, (S 2 7))) ∧ wn_ag 2 1 1024 a0 n S Z) := by
  have hR := rmR_rfl S
  have hr := hd_rg (f := S 1) (a := a0) (n := n) (H := 1024) (by omega)
  have l10 : S 12 (-1) = 1024 := hL.1
  have l3 : S 5 (-1) = S 4 (-1) := hL.2.1
  have l4 : S 6 (-1) = S 4 (-1) := hL.2.2.1
  have l5 : S 7 (-1) = S 4 (-1) := hL.2.2.2.1
  have l6 : S 8 (-1) = S 4 (-1) := hL.2.2.2.2.1
  refine wa_aload_n (n := 0) rfl ?_
  refine wa_aload_n (n := 1) rfl ?_
  refine wa_iload_n (n := 2) rfl ?_
  refine wa_iload_n (n := 3) rfl ?_
  refine wa_cv 2 rfl (wy_pr rfl) wt_2 (M2 := fun _ => False) rfl at_XW_headOf ⟨_, rfl⟩ rfl rfl ⟨(Or.inr ⟨wy_pr rfl, fun q => q⟩), (Or.inr ⟨wy_pr rfl, fun q => q⟩), trivial, trivial, trivial, trivial⟩ trivial (fun _ _ q => False.elim q) (hd_2 (b := 1) (wy_pr rfl) wt_1 ⟨by omega, by omega, by omega, by omega⟩ l10) (fun oq1 Sq1 hp2 q1 => ?_)
  rcases q1 with ⟨rfl, rfl⟩
  show wJ _ _ _ _ _ _ _ _ _ _
  refine wa_istore (n := 5) rfl ?_
  refine wa_aload_n (n := 0) rfl ?_
  refine wb_gf4 2 rfl (wy_pr rfl) wt_2 wf_9_2 (v := 4) wl_2_2 ?_
  refine wa_iload (n := 4) rfl ?_
  refine wa_aload_n (n := 0) rfl ?_
  refine wa_aload_n (n := 1) rfl ?_
  refine wa_iload_n (n := 2) rfl ?_
  refine wa_iload_n (n := 3) rfl ?_
  refine wa_cv 2 rfl (wy_pr rfl) wt_2 (M2 := mS [3]) rfl at_XW_append ⟨_, rfl⟩ rfl rfl ⟨trivial, (Or.inr ⟨wy_pr rfl, mS_no rfl⟩), (Or.inr ⟨wy_pr rfl, mS_no rfl⟩), trivial, trivial, trivial, trivial⟩ ⟨trivial, (Or.inr ⟨wy_pr rfl, mS_no rfl⟩), trivial⟩ (fun _ _ q => mS_sub (by decide) q) (ap_2_1 (S := S) hI h0 ⟨by omega, by omega⟩ ⟨by omega, by omega⟩) (fun oq3 Sq3 hp4 q3 => ?_)
  rcases q3 with ⟨rfl, ap2⟩
  show wJ _ _ _ _ _ _ _ _ _ _
  generalize Sq3 = Zq at ap2 ⊢
  refine wb_iast 4 rfl (wy_pr rfl) wt_4 (n := (S 4 (-1))) ((ap2.2.2.2.1 4 (-1) (by decide) (by decide) (by decide) (Or.inl (by decide)))) (by omega) (by omega) ⟨(by omega), (by omega)⟩ ?_
  refine wa_aload_n (n := 0) rfl ?_
  refine wb_gf4 2 rfl (wy_pr rfl) wt_2 wf_9_3 (v := 5) wl_2_3 ?_
  refine wa_iload (n := 4) rfl ?_
  refine wa_iload_n (n := 3) rfl ?_
  refine wb_iast 5 rfl (wy_pr rfl) wt_5 (n := (S 4 (-1))) ((w_up_slot (by decide)).trans (((ap2.2.2.2.1 5 (-1) (by decide) (by decide) (by decide) (Or.inl (by decide))).trans (l3)))) (by omega) (by omega) ⟨(by omega), (by omega)⟩ ?_
  refine wa_aload_n (n := 0) rfl ?_
  refine wb_gf4 2 rfl (wy_pr rfl) wt_2 wf_9_4 (v := 6) wl_2_4 ?_
  refine wa_iload (n := 4) rfl ?_
  refine wa_aload_n (n := 0) rfl ?_
  refine wb_gf4 2 rfl (wy_pr rfl) wt_2 wf_9_8 (v := 12) wl_2_8 ?_
  refine wa_iload (n := 5) rfl ?_
  refine wb_iald 12 rfl (wy_pr rfl) wt_12 (n := 1024) ((w_up_slot (by decide)).trans ((w_up_slot (by decide)).trans (((ap2.2.2.2.1 12 (-1) (by decide) (by decide) (by decide) (Or.inl (by decide))).trans (l10))))) (by omega) (by omega) (v := (S 12 (hd_of (S 1) a0 n 1024))) ((w_up_slot (by decide)).trans ((w_up_slot (by decide)).trans ((ap2.2.2.2.1 12 (hd_of (S 1) a0 n 1024) (by decide) (by decide) (by decide) (Or.inl (by decide)))))) (fun r5 => ?_)
  refine wb_iast 6 rfl (wy_pr rfl) wt_6 (n := (S 4 (-1))) ((w_up_slot (by decide)).trans ((w_up_slot (by decide)).trans (((ap2.2.2.2.1 6 (-1) (by decide) (by decide) (by decide) (Or.inl (by decide))).trans (l4))))) (by omega) (by omega) ⟨(by omega), (by omega)⟩ ?_
  refine wa_aload_n (n := 0) rfl ?_
  refine wb_gf4 2 rfl (wy_pr rfl) wt_2 wf_9_8 (v := 12) wl_2_8 ?_
  refine wa_iload (n := 5) rfl ?_
  refine wa_iload (n := 4) rfl ?_
  refine wa_iconst ?_
  refine wa_iadd ?_
  refine wb_iast 12 rfl (wy_pr rfl) wt_12 (n := 1024) ((w_up_slot (by decide)).trans ((w_up_slot (by decide)).trans ((w_up_slot (by decide)).trans (((ap2.2.2.2.1 12 (-1) (by decide) (by decide) (by decide) (Or.inl (by decide))).trans (l10)))))) (by omega) (by omega) ⟨(by omega), (by omega)⟩ ?_
  refine wa_aload_n (n := 0) rfl ?_
  refine wb_gf4 2 rfl (wy_pr rfl) wt_2 wf_9_5 (v := 7) wl_2_5 ?_
  refine wa_iload (n := 4) rfl ?_
  refine wa_iconst ?_
  refine wb_iast 7 rfl (wy_pr rfl) wt_7 (n := (S 4 (-1))) ((w_up_slot (by decide)).trans ((w_up_slot (by decide)).trans ((w_up_slot (by decide)).trans ((w_up_slot (by decide)).trans (((ap2.2.2.2.1 7 (-1) (by decide) (by decide) (by decide) (Or.inl (by decide))).trans (l5))))))) (by omega) (by omega) ⟨(by omega), (by omega)⟩ ?_
  refine wa_fall ⟨_, rfl⟩ ?_
  refine wa_aload_n (n := 0) rfl ?_
  refine wb_gf4 2 rfl (wy_pr rfl) wt_2 wf_9_6 (v := 8) wl_2_6 ?_
  refine wa_iload (n := 4) rfl ?_
  refine wa_iconst ?_
  refine wb_iast 8 rfl (wy_pr rfl) wt_8 (n := (S 4 (-1))) ((w_up_slot (by decide)).trans ((w_up_slot (by decide)).trans ((w_up_slot (by decide)).trans ((w_up_slot (by decide)).trans ((w_up_slot (by decide)).trans (((ap2.2.2.2.1 8 (-1) (by decide) (by decide) (by decide) (Or.inl (by decide))).trans (l6)))))))) (by omega) (by omega) ⟨(by omega), (by omega)⟩ ?_
  refine wa_aload_n (n := 0) rfl ?_
  refine wa_dup (by decide) ?_
  refine wb_gfi 2 rfl (wy_pr rfl) wt_2 wf_9_7 (v := (S 2 7)) ((w_up_slot (by decide)).trans ((w_up_slot (by decide)).trans ((w_up_slot (by decide)).trans ((w_up_slot (by decide)).trans ((w_up_slot (by decide)).trans ((w_up_slot (by decide)).trans ((ap2.2.2.2.1 2 7 (by decide) (by decide) (by decide) (Or.inr (by decide)))))))))) (fun r6 => ?_)
  refine wa_iconst ?_
  refine wa_iadd ?_
  refine wb_pfi 2 rfl (wy_pr rfl) wt_2 wf_9_7 (n := 7) rfl ⟨(by omega), (by omega)⟩ ?_
  refine wa_iload (n := 4) rfl ?_
  refine wa_ireturn rfl ?_
  have hq5 : S 2 1 + n ≤ Zq 3 (-1) ∧ S 3 (-1) ≤ Zq 3 (-1) ∧ (Zq 3 (-1) = S 3 (-1) ∨ Zq 3 (-1) ≤ 2 * (S 2 1 + n)) := ap2.2.2.2.2.1
  refine ⟨rfl, ⟨((w_up_at (by decide)).trans ((w_up_slot (by decide)).trans ((w_up_slot (by decide)).trans ((w_up_slot (by decide)).trans ((w_up_slot (by decide)).trans ((w_up_slot (by decide)).trans ((w_up_slot (by decide)).trans (ap2.1)))))))), (w_up_same _ _ _ _)⟩, fun k k0 k1 => ⟨((w_up_slot (by decide)).trans ((w_up_slot (by decide)).trans ((w_up_slot (by decide)).trans ((w_up_slot (by decide)).trans ((w_up_slot (by decide)).trans ((w_up_slot (by decide)).trans ((w_up_at (by omega)).trans ((ap2.2.2.2.1 4 k (by decide) (by decide) (by decide) (Or.inl (by decide))))))))))), ((w_up_slot (by decide)).trans ((w_up_slot (by decide)).trans ((w_up_slot (by decide)).trans ((w_up_slot (by decide)).trans ((w_up_slot (by decide)).trans ((w_up_at (by omega)).trans ((w_up_slot (by decide)).trans ((ap2.2.2.2.1 5 k (by decide) (by decide) (by decide) (Or.inl (by decide))))))))))), ((w_up_slot (by decide)).trans ((w_up_slot (by decide)).trans ((w_up_slot (by decide)).trans ((w_up_slot (by decide)).trans ((w_up_at (by omega)).trans ((w_up_slot (by decide)).trans ((w_up_slot (by decide)).trans ((ap2.2.2.2.1 6 k (by decide) (by decide) (by decide) (Or.inl (by decide))))))))))), ((w_up_slot (by decide)).trans ((w_up_slot (by decide)).trans ((w_up_at (by omega)).trans ((w_up_slot (by decide)).trans ((w_up_slot (by decide)).trans ((w_up_slot (by decide)).trans ((w_up_slot (by decide)).trans ((ap2.2.2.2.1 7 k (by decide) (by decide) (by decide) (Or.inl (by decide))))))))))), ((w_up_slot (by decide)).trans ((w_up_at (by omega)).trans ((w_up_slot (by decide)).trans ((w_up_slot (by decide)).trans ((w_up_slot (by decide)).trans ((w_up_slot (by decide)).trans ((w_up_slot (by decide)).trans ((ap2.2.2.2.1 8 k (by decide) (by decide) (by decide) (Or.inl (by decide)))))))))))⟩, ⟨((w_up_slot (by decide)).trans ((w_up_slot (by decide)).trans ((w_up_slot (by decide)).trans ((w_up_slot (by decide)).trans ((w_up_slot (by decide)).trans ((w_up_slot (by decide)).trans (w_up_same _ _ _ _))))))), ((w_up_slot (by decide)).trans ((w_up_slot (by decide)).trans ((w_up_slot (by decide)).trans ((w_up_slot (by decide)).trans ((w_up_slot (by decide)).trans (w_up_same _ _ _ _)))))), ((w_up_slot (by decide)).trans ((w_up_slot (by decide)).trans ((w_up_slot (by decide)).trans ((w_up_slot (by decide)).trans (w_up_same _ _ _ _))))), ((w_up_slot (by decide)).trans ((w_up_slot (by decide)).trans (w_up_same _ _ _ _))), ((w_up_slot (by decide)).trans (w_up_same _ _ _ _))⟩, ⟨((w_up_slot (by decide)).trans ((w_up_slot (by decide)).trans ((w_up_slot (by decide)).trans (w_up_same _ _ _ _)))), fun x hx => ((w_up_slot (by decide)).trans ((w_up_slot (by decide)).trans ((w_up_slot (by decide)).trans ((w_up_at hx).trans ((w_up_slot (by decide)).trans ((w_up_slot (by decide)).trans ((w_up_slot (by decide)).trans ((ap2.2.2.2.1 12 x (by decide) (by decide) (by decide) (Or.inl (by decide)))))))))))⟩, fun i i0 i1 => Eq.trans ((w_up_slot (by decide)).trans ((w_up_slot (by decide)).trans ((w_up_slot (by decide)).trans ((w_up_slot (by decide)).trans ((w_up_slot (by decide)).trans ((w_up_slot (by decide)).trans (w_up_slot (by decide)))))))) (ap2.2.1 i i0 i1), fun i i0 i1 => Eq.trans ((w_up_slot (by decide)).trans ((w_up_slot (by decide)).trans ((w_up_slot (by decide)).trans ((w_up_slot (by decide)).trans ((w_up_slot (by decide)).trans ((w_up_slot (by decide)).trans (w_up_slot (by decide)))))))) (ap2.2.2.1 i i0 i1), fun j i j0 j1 j2 => ?_, ?_, ?_, (gI_up (gI_up (gI_up (gI_up (gI_up (gI_up (gI_up ap2.2.2.2.2.2.1 (by omega) (by omega) (by omega)) (by omega) (by omega) (by omega)) (by omega) (by omega) (by omega)) (by omega) (by omega) (by omega)) (by omega) (by omega) (by omega)) (by omega) (by omega) (by omega)) (by omega) (by omega) (by omega)), (rmR_up (rmR_up (rmR_up (rmR_up (rmR_up (rmR_up (rmR_up ap2.2.2.2.2.2.2 (by omega) (by decide)) (by omega) (by decide)) (by omega) (by decide)) (by omega) (by decide)) (by omega) (by decide)) (by omega) (by decide)) (by omega) (by decide))⟩
  · exact (w_up_no (by omega)).trans ((w_up_no (by omega)).trans ((w_up_no (by omega)).trans ((w_up_no (by omega)).trans ((w_up_no (by omega)).trans ((w_up_no (by omega)).trans ((w_up_no (by omega)).trans (ap2.2.2.2.1 j i j0 j1 (by omega) (by omega))))))))
  · have m2 : (w_up (w_up (w_up (w_up (w_up (w_up (w_up Zq 4 (S 2 7) (S 2 1)) 5 (S 2 7) n) 6 (S 2 7) (S 12 (hd_of (S 1) a0 n 1024))) 12 (hd_of (S 1) a0 n 1024) ((S 2 7) + 1)) 7 (S 2 7) (-1)) 8 (S 2 7) (-1)) 2 7 ((S 2 7) + 1)) 4 (-1) = S 4 (-1) := ((w_up_slot (by decide)).trans ((w_up_slot (by decide)).trans ((w_up_slot (by decide)).trans ((w_up_slot (by decide)).trans ((w_up_slot (by decide)).trans ((w_up_slot (by decide)).trans ((w_up_at (by omega)).trans ((ap2.2.2.2.1 4 (-1) (by decide) (by decide) (by decide) (Or.inl (by decide)))))))))))
    have m3 : (w_up (w_up (w_up (w_up (w_up (w_up (w_up Zq 4 (S 2 7) (S 2 1)) 5 (S 2 7) n) 6 (S 2 7) (S 12 (hd_of (S 1) a0 n 1024))) 12 (hd_of (S 1) a0 n 1024) ((S 2 7) + 1)) 7 (S 2 7) (-1)) 8 (S 2 7) (-1)) 2 7 ((S 2 7) + 1)) 5 (-1) = S 4 (-1) := ((w_up_slot (by decide)).trans ((w_up_slot (by decide)).trans ((w_up_slot (by decide)).trans ((w_up_slot (by decide)).trans ((w_up_slot (by decide)).trans ((w_up_at (by omega)).trans ((w_up_slot (by decide)).trans (((ap2.2.2.2.1 5 (-1) (by decide) (by decide) (by decide) (Or.inl (by decide))).trans (l3))))))))))
    have m4 : (w_up (w_up (w_up (w_up (w_up (w_up (w_up Zq 4 (S 2 7) (S 2 1)) 5 (S 2 7) n) 6 (S 2 7) (S 12 (hd_of (S 1) a0 n 1024))) 12 (hd_of (S 1) a0 n 1024) ((S 2 7) + 1)) 7 (S 2 7) (-1)) 8 (S 2 7) (-1)) 2 7 ((S 2 7) + 1)) 6 (-1) = S 4 (-1) := ((w_up_slot (by decide)).trans ((w_up_slot (by decide)).trans ((w_up_slot (by decide)).trans ((w_up_slot (by decide)).trans ((w_up_at (by omega)).trans ((w_up_slot (by decide)).trans ((w_up_slot (by decide)).trans (((ap2.2.2.2.1 6 (-1) (by decide) (by decide) (by decide) (Or.inl (by decide))).trans (l4))))))))))
    have m5 : (w_up (w_up (w_up (w_up (w_up (w_up (w_up Zq 4 (S 2 7) (S 2 1)) 5 (S 2 7) n) 6 (S 2 7) (S 12 (hd_of (S 1) a0 n 1024))) 12 (hd_of (S 1) a0 n 1024) ((S 2 7) + 1)) 7 (S 2 7) (-1)) 8 (S 2 7) (-1)) 2 7 ((S 2 7) + 1)) 7 (-1) = S 4 (-1) := ((w_up_slot (by decide)).trans ((w_up_slot (by decide)).trans ((w_up_at (by omega)).trans ((w_up_slot (by decide)).trans ((w_up_slot (by decide)).trans ((w_up_slot (by decide)).trans ((w_up_slot (by decide)).trans (((ap2.2.2.2.1 7 (-1) (by decide) (by decide) (by decide) (Or.inl (by decide))).trans (l5))))))))))
    have m6 : (w_up (w_up (w_up (w_up (w_up (w_up (w_up Zq 4 (S 2 7) (S 2 1)) 5 (S 2 7) n) 6 (S 2 7) (S 12 (hd_of (S 1) a0 n 1024))) 12 (hd_of (S 1) a0 n 1024) ((S 2 7) + 1)) 7 (S 2 7) (-1)) 8 (S 2 7) (-1)) 2 7 ((S 2 7) + 1)) 8 (-1) = S 4 (-1) := ((w_up_slot (by decide)).trans ((w_up_at (by omega)).trans ((w_up_slot (by decide)).trans ((w_up_slot (by decide)).trans ((w_up_slot (by decide)).trans ((w_up_slot (by decide)).trans ((w_up_slot (by decide)).trans (((ap2.2.2.2.1 8 (-1) (by decide) (by decide) (by decide) (Or.inl (by decide))).trans (l6))))))))))
    exact ⟨m3.trans m2.symm, m4.trans m2.symm, m5.trans m2.symm, m6.trans m2.symm, by rw [show (w_up (w_up (w_up (w_up (w_up (w_up (w_up Zq 4 (S 2 7) (S 2 1)) 5 (S 2 7) n) 6 (S 2 7) (S 12 (hd_of (S 1) a0 n 1024))) 12 (hd_of (S 1) a0 n 1024) ((S 2 7) + 1)) 7 (S 2 7) (-1)) 8 (S 2 7) (-1)) 2 7 ((S 2 7) + 1)) (2 + 2) (-1) = S 4 (-1) from m2]; omega, Or.inl m2⟩
  · have m1 : (w_up (w_up (w_up (w_up (w_up (w_up (w_up Zq 4 (S 2 7) (S 2 1)) 5 (S 2 7) n) 6 (S 2 7) (S 12 (hd_of (S 1) a0 n 1024))) 12 (hd_of (S 1) a0 n 1024) ((S 2 7) + 1)) 7 (S 2 7) (-1)) 8 (S 2 7) (-1)) 2 7 ((S 2 7) + 1)) 3 (-1) = Zq 3 (-1) := ((w_up_slot (by decide)).trans ((w_up_slot (by decide)).trans ((w_up_slot (by decide)).trans ((w_up_slot (by decide)).trans ((w_up_slot (by decide)).trans ((w_up_slot (by decide)).trans (w_up_slot (by decide))))))))
    rw [show (w_up (w_up (w_up (w_up (w_up (w_up (w_up Zq 4 (S 2 7) (S 2 1)) 5 (S 2 7) n) 6 (S 2 7) (S 12 (hd_of (S 1) a0 n 1024))) 12 (hd_of (S 1) a0 n 1024) ((S 2 7) + 1)) 7 (S 2 7) (-1)) 8 (S 2 7) (-1)) 2 7 ((S 2 7) + 1)) (2 + 1) (-1) = Zq 3 (-1) from m1]; exact hq5
theorem wo_2_1 {a0 n : Int} (hI : gI S) (hL : wd_L S 2 1024) (h0 : 0 ≤ S 2 1 ∧ S 2 1 ≤ S 3 (-1) ∧ 1024 ≤ S 3 (-1) ∧ S 3 (-1) ≤ 16777216) (hn : 0 ≤ n ∧ n ≤ 60) (ha : 0 ≤ a0 ∧ a0 + n ≤ S 1 (-1) ∧ S 1 (-1) ≤ 2147483647) (hW : wd_at S 2 1024) (hc : S 4 (-1) ≤ 8388608) : wJ (pe_GA xs) wY0 (mS [3, 4, 5, 6, 7, 8]) (d + 4) t_XW_wordFor ((pe_at t_XW_wordFor.bl 0).getD (0, [])).2 [(0, (2, 2)), (1, (2, 1)), (2, (0, a0)), (3, (0, n))] [] S (fun o Z => (∃ k : Int, o = .inl (some (0, k)) ∧ 0 ≤ k ∧ k < (S 2 7) ∧ wq (S 3) (S 4) (S 5) (S 1) a0 n k ∧ S = Z) ∨ (o = .inl (some (0, (S 2 7))) ∧ (∀ k : Int, 0 ≤ k → k < (S 2 7) → ¬ wq (S 3) (S 4) (S 5) (S 1) a0 n k) ∧ wn_ag 2 1 1024 a0 n S Z ∧ wd_at Z 2 1024)) := by
  have hR := rmR_rfl S
  have l10 : S 12 (-1) = 1024 := hL.1
  have l3 : S 5 (-1) = S 4 (-1) := hL.2.1
  have l4 : S 6 (-1) = S 4 (-1) := hL.2.2.1
  have l5 : S 7 (-1) = S 4 (-1) := hL.2.2.2.1
  have l6 : S 8 (-1) = S 4 (-1) := hL.2.2.2.2.1
  have l64 : 64 ≤ S 4 (-1) := hL.2.2.2.2.2.1
  have hc1 : 0 ≤ (S 2 7) ∧ (S 2 7) ≤ S 4 (-1) := hW.1
  refine wa_aload_n (n := 0) rfl ?_
  refine wa_aload_n (n := 1) rfl ?_
  refine wa_iload_n (n := 2) rfl ?_
  refine wa_iload_n (n := 3) rfl ?_
  refine wa_cv 2 rfl (wy_pr rfl) wt_2 (M2 := fun _ => False) rfl at_XW_wordAt ⟨_, rfl⟩ rfl rfl ⟨(Or.inr ⟨wy_pr rfl, fun q => q⟩), (Or.inr ⟨wy_pr rfl, fun q => q⟩), trivial, trivial, trivial⟩ trivial (fun _ _ q => False.elim q) (wa_2 (S := S) (b := 1) (wy_pr rfl) wt_1 ⟨by omega, by omega, by omega, by omega⟩ hW hL) (fun oq1 Sq1 hp2 q1 => ?_)
  rcases q1 with ⟨rfl, k, rfl, hk | ⟨rfl, hno⟩⟩
  · skip
    show wJ _ _ _ _ _ _ _ _ _ _
    have hk0 := hk.1
    have hk1 := hk.2.1
    refine wa_istore (n := 4) rfl ?_
    refine wa_iload (n := 4) rfl ?_
    refine wa_iconst ?_
    refine wa_icmpeq (w_rg0 (by omega) (by omega)) (w_rg0 (by omega) (by omega)) ⟨_, rfl⟩ (fun c3 => ?_) (fun c3 => ?_)
    · skip
      exact absurd c3 (by omega)
    · skip
      refine wa_iload (n := 4) rfl ?_
      refine wa_ireturn rfl ?_
      exact Or.inl ⟨k, rfl, hk.1, hk.2.1, hk.2.2, rfl⟩
  · skip
    show wJ _ _ _ _ _ _ _ _ _ _
    refine wa_istore (n := 4) rfl ?_
    refine wa_iload (n := 4) rfl ?_
    refine wa_iconst ?_
    refine wa_icmpeq (w_rg0 (by omega) (by omega)) (w_rg0 (by omega) (by omega)) ⟨_, rfl⟩ (fun c4 => ?_) (fun c4 => ?_)
    · skip
      refine wa_aload_n (n := 0) rfl ?_
      refine wb_gfi 2 rfl (wy_pr rfl) wt_2 wf_9_7 (v := (S 2 7)) rfl (fun r5 => ?_)
      refine wa_istore (n := 4) rfl ?_
      refine wa_iload (n := 4) rfl ?_
      refine wa_aload_n (n := 0) rfl ?_
      refine wb_gf4 2 rfl (wy_pr rfl) wt_2 wf_9_2 (v := 4) wl_2_2 ?_
      refine wb_alen 4 rfl (wy_pr rfl) (by rw [wt_4]; rfl) (v := (S 4 (-1))) rfl (fun r6 => ?_)
      refine wa_icmpne (w_rg0 (by omega) (by omega)) (w_rg0 (by omega) (by omega)) ⟨_, rfl⟩ (fun c7 => ?_) (fun c7 => ?_)
      · skip
        refine wJ_mono (wJ_S (wf3_2_1 hI hL h0 hn ha ⟨by omega, by omega, by omega⟩) ⟨rfl, rfl, rfl, rfl, rfl, trivial⟩) (fun o Z hz => Or.inr ⟨hz.1, hno, hz.2, wn_I (by omega) hW hz.2 hn hno⟩)
      · skip
        refine wa_aload_n (n := 0) rfl ?_
        refine wa_aload_n (n := 0) rfl ?_
        refine wb_gf4 2 rfl (wy_pr rfl) wt_2 wf_9_2 (v := 4) wl_2_2 ?_
        refine wa_iload (n := 4) rfl ?_
        refine wa_iconst ?_
        refine wa_imul ?_
        refine wa_cs (M2 := fun _ => False) rfl at_JA_copyOf_2 ⟨_, rfl⟩ rfl rfl ⟨trivial, (Or.inr ⟨wy_pr rfl, fun q => q⟩), (Or.inr ⟨wy_pr rfl, fun q => q⟩), trivial, trivial, trivial⟩ ⟨(Or.inr ⟨wy_pr rfl, fun q => q⟩), trivial⟩ (fun _ _ q => False.elim q) (cp_I (S := S) (a := 4) (n := ((S 2 7) * 2)) (len := (S 4 (-1))) (wy_pr rfl) wt_4 rfl ⟨by omega, by omega, by omega⟩) (fun oq8 Sq8 _ q8 => ?_)
        rcases q8 with ⟨rfl, rfl⟩
        show wJ _ _ _ _ _ _ _ _ _ _
        refine wg_pf (S := S) (len := (S 4 (-1))) 0 2 4 rfl rfl rfl wt_2 wf_9_2 wl_2_2 (by decide +kernel) wt_4 (by decide) (by decide +kernel) hI (fun q => absurd q (by decide)) (by decide) ⟨by omega, by omega⟩ rfl (fun _ => ⟨Or.inr (by decide), Or.inl (nN_ge _)⟩) ⟨trivial, (Or.inr ⟨wy_pr rfl, mS_no rfl⟩), (Or.inr ⟨wy_pr rfl, mS_no rfl⟩), trivial, trivial, trivial⟩ trivial (fun Z9 g10 gi11 => ?_)
        have rm12 := rmR_gr hR g10 (by decide +kernel) (len := (S 4 (-1))) rfl ⟨by omega, by omega⟩ ⟨fun q => by first | omega | exact absurd q (by decide), by show _ ≤ (100000000 : Int); omega⟩
        refine wa_aload_n (n := 0) rfl ?_
        refine wa_aload_n (n := 0) rfl ?_
        refine wb_gf4 2 rfl (wy_pr rfl) wt_2 wf_9_3 (v := 5) wl_2_3 ?_
        refine wa_iload (n := 4) rfl ?_
        refine wa_iconst ?_
        refine wa_imul ?_
        refine wa_cs (M2 := fun _ => False) rfl at_JA_copyOf_2 ⟨_, rfl⟩ rfl rfl ⟨trivial, (Or.inr ⟨wy_pr rfl, fun q => q⟩), (Or.inr ⟨wy_pr rfl, fun q => q⟩), trivial, trivial, trivial⟩ ⟨(Or.inr ⟨wy_pr rfl, fun q => q⟩), trivial⟩ (fun _ _ q => False.elim q) (cp_I (S := Z9) (a := 5) (n := ((S 2 7) * 2)) (len := (S 4 (-1))) (wy_pr rfl) wt_5 (((congrFun (g10.2.2.1 5 (by decide) (by decide) (by decide)) (-1)).trans (l3))) ⟨by omega, by omega, by omega⟩) (fun oq13 Sq13 _ q13 => ?_)
        rcases q13 with ⟨rfl, rfl⟩
        show wJ _ _ _ _ _ _ _ _ _ _
        refine wg_pf (S := Z9) (len := (S 4 (-1))) 0 2 5 rfl rfl rfl wt_2 wf_9_3 wl_2_3 (by decide +kernel) wt_5 (by decide) (by decide +kernel) gi11 (fun q => absurd q (by decide)) (by decide) ⟨by omega, by omega⟩ (((congrFun (g10.2.2.1 5 (by decide) (by decide) (by decide)) (-1)).trans (l3))) (fun _ => ⟨Or.inr (by decide), Or.inl (nN_ge _)⟩) ⟨trivial, (Or.inr ⟨wy_pr rfl, mS_no rfl⟩), (Or.inr ⟨wy_pr rfl, mS_no rfl⟩), trivial, trivial, trivial⟩ trivial (fun Z14 g15 gi16 => ?_)
        have rm17 := rmR_gr rm12 g15 (by decide +kernel) (len := (S 4 (-1))) (((congrFun (g10.2.2.1 5 (by decide) (by decide) (by decide)) (-1)).trans (l3))) ⟨by omega, by omega⟩ ⟨fun q => by first | omega | exact absurd q (by decide), by show _ ≤ (100000000 : Int); omega⟩
        refine wa_aload_n (n := 0) rfl ?_
        refine wa_aload_n (n := 0) rfl ?_
        refine wb_gf4 2 rfl (wy_pr rfl) wt_2 wf_9_4 (v := 6) wl_2_4 ?_
        refine wa_iload (n := 4) rfl ?_
        refine wa_iconst ?_
        refine wa_imul ?_
        refine wa_cs (M2 := fun _ => False) rfl at_JA_copyOf_2 ⟨_, rfl⟩ rfl rfl ⟨trivial, (Or.inr ⟨wy_pr rfl, fun q => q⟩), (Or.inr ⟨wy_pr rfl, fun q => q⟩), trivial, trivial, trivial⟩ ⟨(Or.inr ⟨wy_pr rfl, fun q => q⟩), trivial⟩ (fun _ _ q => False.elim q) (cp_I (S := Z14) (a := 6) (n := ((S 2 7) * 2)) (len := (S 4 (-1))) (wy_pr rfl) wt_6 (((congrFun (g15.2.2.1 6 (by decide) (by decide) (by decide)) (-1)).trans (((congrFun (g10.2.2.1 6 (by decide) (by decide) (by decide)) (-1)).trans (l4))))) ⟨by omega, by omega, by omega⟩) (fun oq18 Sq18 _ q18 => ?_)
        rcases q18 with ⟨rfl, rfl⟩
        show wJ _ _ _ _ _ _ _ _ _ _
        refine wg_pf (S := Z14) (len := (S 4 (-1))) 0 2 6 rfl rfl rfl wt_2 wf_9_4 wl_2_4 (by decide +kernel) wt_6 (by decide) (by decide +kernel) gi16 (fun q => absurd q (by decide)) (by decide) ⟨by omega, by omega⟩ (((congrFun (g15.2.2.1 6 (by decide) (by decide) (by decide)) (-1)).trans (((congrFun (g10.2.2.1 6 (by decide) (by decide) (by decide)) (-1)).trans (l4))))) (fun _ => ⟨Or.inr (by decide), Or.inl (nN_ge _)⟩) ⟨trivial, (Or.inr ⟨wy_pr rfl, mS_no rfl⟩), (Or.inr ⟨wy_pr rfl, mS_no rfl⟩), trivial, trivial, trivial⟩ trivial (fun Z19 g20 gi21 => ?_)
        have rm22 := rmR_gr rm17 g20 (by decide +kernel) (len := (S 4 (-1))) (((congrFun (g15.2.2.1 6 (by decide) (by decide) (by decide)) (-1)).trans (((congrFun (g10.2.2.1 6 (by decide) (by decide) (by decide)) (-1)).trans (l4))))) ⟨by omega, by omega⟩ ⟨fun q => by first | omega | exact absurd q (by decide), by show _ ≤ (100000000 : Int); omega⟩
        refine wa_aload_n (n := 0) rfl ?_
        refine wa_aload_n (n := 0) rfl ?_
        refine wb_gf4 2 rfl (wy_pr rfl) wt_2 wf_9_5 (v := 7) wl_2_5 ?_
        refine wa_iload (n := 4) rfl ?_
        refine wa_iconst ?_
        refine wa_imul ?_
        refine wa_cs (M2 := fun _ => False) rfl at_JA_copyOf_2 ⟨_, rfl⟩ rfl rfl ⟨trivial, (Or.inr ⟨wy_pr rfl, fun q => q⟩), (Or.inr ⟨wy_pr rfl, fun q => q⟩), trivial, trivial, trivial⟩ ⟨(Or.inr ⟨wy_pr rfl, fun q => q⟩), trivial⟩ (fun _ _ q => False.elim q) (cp_I (S := Z19) (a := 7) (n := ((S 2 7) * 2)) (len := (S 4 (-1))) (wy_pr rfl) wt_7 (((congrFun (g20.2.2.1 7 (by decide) (by decide) (by decide)) (-1)).trans (((congrFun (g15.2.2.1 7 (by decide) (by decide) (by decide)) (-1)).trans (((congrFun (g10.2.2.1 7 (by decide) (by decide) (by decide)) (-1)).trans (l5))))))) ⟨by omega, by omega, by omega⟩) (fun oq23 Sq23 _ q23 => ?_)
        rcases q23 with ⟨rfl, rfl⟩
        show wJ _ _ _ _ _ _ _ _ _ _
        refine wg_pf (S := Z19) (len := (S 4 (-1))) 0 2 7 rfl rfl rfl wt_2 wf_9_5 wl_2_5 (by decide +kernel) wt_7 (by decide) (by decide +kernel) gi21 (fun q => absurd q (by decide)) (by decide) ⟨by omega, by omega⟩ (((congrFun (g20.2.2.1 7 (by decide) (by decide) (by decide)) (-1)).trans (((congrFun (g15.2.2.1 7 (by decide) (by decide) (by decide)) (-1)).trans (((congrFun (g10.2.2.1 7 (by decide) (by decide) (by decide)) (-1)).trans (l5))))))) (fun _ => ⟨Or.inr (by decide), Or.inl (nN_ge _)⟩) ⟨trivial, (Or.inr ⟨wy_pr rfl, mS_no rfl⟩), (Or.inr ⟨wy_pr rfl, mS_no rfl⟩), trivial, trivial, trivial⟩ trivial (fun Z24 g25 gi26 => ?_)
        have rm27 := rmR_gr rm22 g25 (by decide +kernel) (len := (S 4 (-1))) (((congrFun (g20.2.2.1 7 (by decide) (by decide) (by decide)) (-1)).trans (((congrFun (g15.2.2.1 7 (by decide) (by decide) (by decide)) (-1)).trans (((congrFun (g10.2.2.1 7 (by decide) (by decide) (by decide)) (-1)).trans (l5))))))) ⟨by omega, by omega⟩ ⟨fun q => by first | omega | exact absurd q (by decide), by show _ ≤ (100000000 : Int); omega⟩
        refine wa_fall ⟨_, rfl⟩ ?_
        refine wa_aload_n (n := 0) rfl ?_
        refine wa_aload_n (n := 0) rfl ?_
        refine wb_gf4 2 rfl (wy_pr rfl) wt_2 wf_9_6 (v := 8) wl_2_6 ?_
        refine wa_iload (n := 4) rfl ?_
        refine wa_iconst ?_
        refine wa_imul ?_
        refine wa_cs (M2 := fun _ => False) rfl at_JA_copyOf_2 ⟨_, rfl⟩ rfl rfl ⟨trivial, (Or.inr ⟨wy_pr rfl, fun q => q⟩), (Or.inr ⟨wy_pr rfl, fun q => q⟩), trivial, trivial, trivial⟩ ⟨(Or.inr ⟨wy_pr rfl, fun q => q⟩), trivial⟩ (fun _ _ q => False.elim q) (cp_I (S := Z24) (a := 8) (n := ((S 2 7) * 2)) (len := (S 4 (-1))) (wy_pr rfl) wt_8 (((congrFun (g25.2.2.1 8 (by decide) (by decide) (by decide)) (-1)).trans (((congrFun (g20.2.2.1 8 (by decide) (by decide) (by decide)) (-1)).trans (((congrFun (g15.2.2.1 8 (by decide) (by decide) (by decide)) (-1)).trans (((congrFun (g10.2.2.1 8 (by decide) (by decide) (by decide)) (-1)).trans (l6))))))))) ⟨by omega, by omega, by omega⟩) (fun oq28 Sq28 _ q28 => ?_)
        rcases q28 with ⟨rfl, rfl⟩
        show wJ _ _ _ _ _ _ _ _ _ _
        refine wg_pf (S := Z24) (len := (S 4 (-1))) 0 2 8 rfl rfl rfl wt_2 wf_9_6 wl_2_6 (by decide +kernel) wt_8 (by decide) (by decide +kernel) gi26 (fun q => absurd q (by decide)) (by decide) ⟨by omega, by omega⟩ (((congrFun (g25.2.2.1 8 (by decide) (by decide) (by decide)) (-1)).trans (((congrFun (g20.2.2.1 8 (by decide) (by decide) (by decide)) (-1)).trans (((congrFun (g15.2.2.1 8 (by decide) (by decide) (by decide)) (-1)).trans (((congrFun (g10.2.2.1 8 (by decide) (by decide) (by decide)) (-1)).trans (l6))))))))) (fun _ => ⟨Or.inr (by decide), Or.inl (nN_ge _)⟩) ⟨trivial, (Or.inr ⟨wy_pr rfl, mS_no rfl⟩), (Or.inr ⟨wy_pr rfl, mS_no rfl⟩), trivial, trivial, trivial⟩ trivial (fun Z29 g30 gi31 => ?_)
        have rm32 := rmR_gr rm27 g30 (by decide +kernel) (len := (S 4 (-1))) (((congrFun (g25.2.2.1 8 (by decide) (by decide) (by decide)) (-1)).trans (((congrFun (g20.2.2.1 8 (by decide) (by decide) (by decide)) (-1)).trans (((congrFun (g15.2.2.1 8 (by decide) (by decide) (by decide)) (-1)).trans (((congrFun (g10.2.2.1 8 (by decide) (by decide) (by decide)) (-1)).trans (l6))))))))) ⟨by omega, by omega⟩ ⟨fun q => by first | omega | exact absurd q (by decide), by show _ ≤ (100000000 : Int); omega⟩
        refine wa_fall ⟨_, rfl⟩ ?_
        have zz : ∀ (j : Nat) (i : Int), j < 4000000 → j ≠ wG → (j < 4 ∨ 8 < j) → Z29 j i = S j i := fun j i j0 j1 j2 => (congrFun (g30.2.2.1 j (by omega) j0 j1) i).trans ((congrFun (g25.2.2.1 j (by omega) j0 j1) i).trans ((congrFun (g20.2.2.1 j (by omega) j0 j1) i).trans ((congrFun (g15.2.2.1 j (by omega) j0 j1) i).trans ((congrFun (g10.2.2.1 j (by omega) j0 j1) i).trans (rfl)))))
        have y2 : ∀ k : Int, 0 ≤ k → k < (S 2 7) → Z29 4 k = S 4 k := by
          intro k k0 k1
          have f0 : Z29 4 k = Z24 4 k := congrFun (g30.2.2.1 4 (by decide) (by decide) (by decide)) k
          have f1 : Z24 4 k = Z19 4 k := congrFun (g25.2.2.1 4 (by decide) (by decide) (by decide)) k
          have f2 : Z19 4 k = Z14 4 k := congrFun (g20.2.2.1 4 (by decide) (by decide) (by decide)) k
          have f3 : Z14 4 k = Z9 4 k := congrFun (g15.2.2.1 4 (by decide) (by decide) (by decide)) k
          have e4 : S 4 (-1) = S 4 (-1) := rfl
          have f4 : Z9 4 k = S 4 k := g10.2.1 k k0 (by rw [e4]; omega)
          rw [f0, f1, f2, f3, f4]
        have n2 : Z29 4 (-1) = (S 2 7) * 2 := (((congrFun (g30.2.2.1 4 (by decide) (by decide) (by decide)) (-1)).trans (((congrFun (g25.2.2.1 4 (by decide) (by decide) (by decide)) (-1)).trans (((congrFun (g20.2.2.1 4 (by decide) (by decide) (by decide)) (-1)).trans (((congrFun (g15.2.2.1 4 (by decide) (by decide) (by decide)) (-1)).trans (g10.1)))))))))
        have y3 : ∀ k : Int, 0 ≤ k → k < (S 2 7) → Z29 5 k = S 5 k := by
          intro k k0 k1
          have f0 : Z29 5 k = Z24 5 k := congrFun (g30.2.2.1 5 (by decide) (by decide) (by decide)) k
          have f1 : Z24 5 k = Z19 5 k := congrFun (g25.2.2.1 5 (by decide) (by decide) (by decide)) k
          have f2 : Z19 5 k = Z14 5 k := congrFun (g20.2.2.1 5 (by decide) (by decide) (by decide)) k
          have e3 : Z9 5 (-1) = S 5 (-1) := ((congrFun (g10.2.2.1 5 (by decide) (by decide) (by decide)) (-1)))
          have f3 : Z14 5 k = Z9 5 k := g15.2.1 k k0 (by rw [e3]; omega)
          have f4 : Z9 5 k = S 5 k := congrFun (g10.2.2.1 5 (by decide) (by decide) (by decide)) k
          rw [f0, f1, f2, f3, f4]
        have n3 : Z29 5 (-1) = (S 2 7) * 2 := (((congrFun (g30.2.2.1 5 (by decide) (by decide) (by decide)) (-1)).trans (((congrFun (g25.2.2.1 5 (by decide) (by decide) (by decide)) (-1)).trans (((congrFun (g20.2.2.1 5 (by decide) (by decide) (by decide)) (-1)).trans (g15.1)))))))
        have y4 : ∀ k : Int, 0 ≤ k → k < (S 2 7) → Z29 6 k = S 6 k := by
          intro k k0 k1
          have f0 : Z29 6 k = Z24 6 k := congrFun (g30.2.2.1 6 (by decide) (by decide) (by decide)) k
          have f1 : Z24 6 k = Z19 6 k := congrFun (g25.2.2.1 6 (by decide) (by decide) (by decide)) k
          have e2 : Z14 6 (-1) = S 6 (-1) := (((congrFun (g15.2.2.1 6 (by decide) (by decide) (by decide)) (-1))).trans ((congrFun (g10.2.2.1 6 (by decide) (by decide) (by decide)) (-1))))
          have f2 : Z19 6 k = Z14 6 k := g20.2.1 k k0 (by rw [e2]; omega)
          have f3 : Z14 6 k = Z9 6 k := congrFun (g15.2.2.1 6 (by decide) (by decide) (by decide)) k
          have f4 : Z9 6 k = S 6 k := congrFun (g10.2.2.1 6 (by decide) (by decide) (by decide)) k
          rw [f0, f1, f2, f3, f4]
        have n4 : Z29 6 (-1) = (S 2 7) * 2 := (((congrFun (g30.2.2.1 6 (by decide) (by decide) (by decide)) (-1)).trans (((congrFun (g25.2.2.1 6 (by decide) (by decide) (by decide)) (-1)).trans (g20.1)))))
        have y5 : ∀ k : Int, 0 ≤ k → k < (S 2 7) → Z29 7 k = S 7 k := by
          intro k k0 k1
          have f0 : Z29 7 k = Z24 7 k := congrFun (g30.2.2.1 7 (by decide) (by decide) (by decide)) k
          have e1 : Z19 7 (-1) = S 7 (-1) := (((congrFun (g20.2.2.1 7 (by decide) (by decide) (by decide)) (-1))).trans (((congrFun (g15.2.2.1 7 (by decide) (by decide) (by decide)) (-1))).trans ((congrFun (g10.2.2.1 7 (by decide) (by decide) (by decide)) (-1)))))
          have f1 : Z24 7 k = Z19 7 k := g25.2.1 k k0 (by rw [e1]; omega)
          have f2 : Z19 7 k = Z14 7 k := congrFun (g20.2.2.1 7 (by decide) (by decide) (by decide)) k
          have f3 : Z14 7 k = Z9 7 k := congrFun (g15.2.2.1 7 (by decide) (by decide) (by decide)) k
          have f4 : Z9 7 k = S 7 k := congrFun (g10.2.2.1 7 (by decide) (by decide) (by decide)) k
          rw [f0, f1, f2, f3, f4]
        have n5 : Z29 7 (-1) = (S 2 7) * 2 := (((congrFun (g30.2.2.1 7 (by decide) (by decide) (by decide)) (-1)).trans (g25.1)))
        have y6 : ∀ k : Int, 0 ≤ k → k < (S 2 7) → Z29 8 k = S 8 k := by
          intro k k0 k1
          have e0 : Z24 8 (-1) = S 8 (-1) := (((congrFun (g25.2.2.1 8 (by decide) (by decide) (by decide)) (-1))).trans (((congrFun (g20.2.2.1 8 (by decide) (by decide) (by decide)) (-1))).trans (((congrFun (g15.2.2.1 8 (by decide) (by decide) (by decide)) (-1))).trans ((congrFun (g10.2.2.1 8 (by decide) (by decide) (by decide)) (-1))))))
          have f0 : Z29 8 k = Z24 8 k := g30.2.1 k k0 (by rw [e0]; omega)
          have f1 : Z24 8 k = Z19 8 k := congrFun (g25.2.2.1 8 (by decide) (by decide) (by decide)) k
          have f2 : Z19 8 k = Z14 8 k := congrFun (g20.2.2.1 8 (by decide) (by decide) (by decide)) k
          have f3 : Z14 8 k = Z9 8 k := congrFun (g15.2.2.1 8 (by decide) (by decide) (by decide)) k
          have f4 : Z9 8 k = S 8 k := congrFun (g10.2.2.1 8 (by decide) (by decide) (by decide)) k
          rw [f0, f1, f2, f3, f4]
        have n6 : Z29 8 (-1) = (S 2 7) * 2 := (g30.1)
        have zI : wd_at Z29 2 1024 := by
          have h := wd_cg (P2 := Z29 3) (ST2 := Z29 4) (SZ2 := Z29 5) (NX2 := Z29 6) (HD2 := Z29 12) (plen2 := Z29 3 (-1)) (cap2 := Z29 4 (-1)) hW (Int.le_of_eq (zz 3 (-1) (by decide) (by decide) (by omega)).symm) (by rw [n2]; show S 4 (-1) ≤ _; omega) (fun i _ _ => zz 3 i (by decide) (by decide) (by omega)) (fun k k0 k1 => ⟨y2 k k0 k1, y3 k k0 k1, y4 k k0 k1⟩) (fun x _ _ => zz 12 x (by decide) (by decide) (by omega))
          unfold wd_at; rw [show Z29 2 1 = S 2 1 from zz 2 1 (by decide) (by decide) (by omega), show Z29 2 7 = S 2 7 from zz 2 7 (by decide) (by decide) (by omega)]; exact h
        have e1 : Z29 2 1 = S 2 1 := zz 2 1 (by decide) (by decide) (by omega)
        have e7 : Z29 2 7 = S 2 7 := zz 2 7 (by decide) (by decide) (by omega)
        have el : Z29 3 (-1) = S 3 (-1) := zz 3 (-1) (by decide) (by decide) (by omega)
        have eb : Z29 1 = S 1 := funext fun i => zz 1 i (by decide) (by decide) (by omega)
        have ep : Z29 3 = S 3 := funext fun i => zz 3 i (by decide) (by decide) (by omega)
        have eh : Z29 12 = S 12 := funext fun i => zz 12 i (by decide) (by decide) (by omega)
        have zL : wd_L Z29 2 1024 := ⟨(congrFun eh (-1)).trans l10, n3.trans n2.symm, n4.trans n2.symm, n5.trans n2.symm, n6.trans n2.symm, by rw [show Z29 (2 + 2) (-1) = (S 2 7) * 2 from n2]; omega, by rw [show Z29 (2 + 1) (-1) = S 3 (-1) from el]; omega, by rw [show Z29 (2 + 2) (-1) = (S 2 7) * 2 from n2]; omega, by rw [show Z29 (2 + 1) (-1) = S 3 (-1) from el]; omega⟩
        refine wJ_mono (wJ_S (wf3_2_1 (S := Z29) gi31 zL ⟨by omega, by omega, by omega, by omega⟩ hn (by rw [eb]; exact ha) ⟨by omega, by omega, by omega⟩) ⟨rfl, rfl, rfl, rfl, by rw [e7]; rfl, trivial⟩) (fun o Z hz => ?_)
        obtain ⟨ho, hz⟩ := hz
        rw [e7] at ho
        have hno2 : ∀ k : Int, 0 ≤ k → k < Z29 2 7 → ¬ wq (Z29 3) (Z29 4) (Z29 5) (Z29 1) a0 n k := by
          intro k k0 k1 hk
          rw [e7] at k1
          rw [eb, ep] at hk
          exact hno k k0 k1 ⟨by rw [← y3 k k0 k1]; exact hk.1, fun i hi => by rw [← y2 k k0 k1]; exact hk.2 i hi⟩
        have hzI := wn_I (b := 1) (by omega) zI hz hn hno2
        refine Or.inr ⟨ho, hno, ?_, hzI⟩
        obtain ⟨⟨a1, a2⟩, a3, ⟨a4, a5, a6, a7, a8⟩, ⟨a9, a10⟩, a11, a12, a13, ⟨a14, a15, a16, a17, a18, a19⟩, a20, a21, a22⟩ := hz
        rw [e1] at a1 a4 a11 a12 a20
        rw [e7] at a2 a3 a4 a5 a6 a7 a8 a9 a18 a19
        rw [eb] at a6 a9 a10 a12
        rw [show Z29 (2 + 10) = S 12 from eh] at a6 a10
        rw [show Z29 (2 + 1) = S 3 from ep] at a11 a20
        refine ⟨⟨a1, a2⟩, fun k k0 k1 => ?_, ⟨a4, a5, a6, a7, a8⟩, ⟨a9, a10⟩, a11, a12, fun j i j0 j1 j2 => (a13 j i j0 j1 j2).trans (zz j i j0 j1 (by omega)), ⟨a14, a15, a16, a17, a18, ?_⟩, a20, a21, rmR_tr rm32 a22⟩
        · obtain ⟨b1, b2, b3, b4, b5⟩ := a3 k k0 k1
          exact ⟨b1.trans (y2 k k0 k1), b2.trans (y3 k k0 k1), b3.trans (y4 k k0 k1), b4.trans (y5 k k0 k1), b5.trans (y6 k k0 k1)⟩
        · rw [show Z29 (2 + 2) (-1) = (S 2 7) * 2 from n2] at a19
          refine Or.inr ⟨by show (S 2 7) = S 4 (-1); omega, by omega⟩
    · skip
      exact absurd c4 (by omega)
theorem wf3_2_18 {a0 n : Int} (hI : gI S) (hL : wd_L S 2 1024) (h0 : 0 ≤ S 2 1 ∧ S 2 1 ≤ S 3 (-1) ∧ 1024 ≤ S 3 (-1) ∧ S 3 (-1) ≤ 16777216) (hn : 0 ≤ n ∧ n ≤ 60) (ha : 0 ≤ a0 ∧ a0 + n ≤ S 18 (-1) ∧ S 18 (-1) ≤ 2147483647) (hc : 0 ≤ (S 2 7) ∧ (S 2 7) < S 4 (-1) ∧ S 4 (-1) ≤ 16777216) : wJ (pe_GA xs) wY0 (mS [3, 4, 5, 6, 7, 8]) (d + 4) t_XW_wordFor ((pe_at t_XW_wordFor.bl 3).getD (0, [])).2 [(0, (2, 2)), (1, (2, 18)), (2, (0, a0)), (3, (0, n)), (4, (0, (S 2 7)))] [] S (fun o Z => o = .inl (some (0, (S 2 7))) ∧ wn_ag 2 18 1024 a0 n S Z) := by
  have hR := rmR_rfl S
  have hr := hd_rg (f := S 18) (a := a0) (n := n) (H := 1024) (by omega)
  have l10 : S 12 (-1) = 1024 := hL.1
  have l3 : S 5 (-1) = S 4 (-1) := hL.2.1
  have l4 : S 6 (-1) = S 4 (-1) := hL.2.2.1
  have l5 : S 7 (-1) = S 4 (-1) := hL.2.2.2.1
  have l6 : S 8 (-1) = S 4 (-1) := hL.2.2.2.2.1
  refine wa_aload_n (n := 0) rfl ?_
  refine wa_aload_n (n := 1) rfl ?_
  refine wa_iload_n (n := 2) rfl ?_
  refine wa_iload_n (n := 3) rfl ?_
  refine wa_cv 2 rfl (wy_pr rfl) wt_2 (M2 := fun _ => False) rfl at_XW_headOf ⟨_, rfl⟩ rfl rfl ⟨(Or.inr ⟨wy_pr rfl, fun q => q⟩), (Or.inr ⟨wy_pr rfl, fun q => q⟩), trivial, trivial, trivial, trivial⟩ trivial (fun _ _ q => False.elim q) (hd_2 (b := 18) (wy_pr rfl) wt_18 ⟨by omega, by omega, by omega, by omega⟩ l10) (fun oq1 Sq1 hp2 q1 => ?_)
  rcases q1 with ⟨rfl, rfl⟩
  show wJ _ _ _ _ _ _ _ _ _ _
  refine wa_istore (n := 5) rfl ?_
  refine wa_aload_n (n := 0) rfl ?_
  refine wb_gf4 2 rfl (wy_pr rfl) wt_2 wf_9_2 (v := 4) wl_2_2 ?_
  refine wa_iload (n := 4) rfl ?_
  refine wa_aload_n (n := 0) rfl ?_
  refine wa_aload_n (n := 1) rfl ?_
  refine wa_iload_n (n := 2) rfl ?_
  refine wa_iload_n (n := 3) rfl ?_
  refine wa_cv 2 rfl (wy_pr rfl) wt_2 (M2 := mS [3]) rfl at_XW_append ⟨_, rfl⟩ rfl rfl ⟨trivial, (Or.inr ⟨wy_pr rfl, mS_no rfl⟩), (Or.inr ⟨wy_pr rfl, mS_no rfl⟩), trivial, trivial, trivial, trivial⟩ ⟨trivial, (Or.inr ⟨wy_pr rfl, mS_no rfl⟩), trivial⟩ (fun _ _ q => mS_sub (by decide) q) (ap_2_18 (S := S) hI h0 ⟨by omega, by omega⟩ ⟨by omega, by omega⟩) (fun oq3 Sq3 hp4 q3 => ?_)
  rcases q3 with ⟨rfl, ap2⟩
  show wJ _ _ _ _ _ _ _ _ _ _
  generalize Sq3 = Zq at ap2 ⊢
  refine wb_iast 4 rfl (wy_pr rfl) wt_4 (n := (S 4 (-1))) ((ap2.2.2.2.1 4 (-1) (by decide) (by decide) (by decide) (Or.inl (by decide)))) (by omega) (by omega) ⟨(by omega), (by omega)⟩ ?_
  refine wa_aload_n (n := 0) rfl ?_
  refine wb_gf4 2 rfl (wy_pr rfl) wt_2 wf_9_3 (v := 5) wl_2_3 ?_
  refine wa_iload (n := 4) rfl ?_
  refine wa_iload_n (n := 3) rfl ?_
  refine wb_iast 5 rfl (wy_pr rfl) wt_5 (n := (S 4 (-1))) ((w_up_slot (by decide)).trans (((ap2.2.2.2.1 5 (-1) (by decide) (by decide) (by decide) (Or.inl (by decide))).trans (l3)))) (by omega) (by omega) ⟨(by omega), (by omega)⟩ ?_
  refine wa_aload_n (n := 0) rfl ?_
  refine wb_gf4 2 rfl (wy_pr rfl) wt_2 wf_9_4 (v := 6) wl_2_4 ?_
  refine wa_iload (n := 4) rfl ?_
  refine wa_aload_n (n := 0) rfl ?_
  refine wb_gf4 2 rfl (wy_pr rfl) wt_2 wf_9_8 (v := 12) wl_2_8 ?_
  refine wa_iload (n := 5) rfl ?_
  refine wb_iald 12 rfl (wy_pr rfl) wt_12 (n := 1024) ((w_up_slot (by decide)).trans ((w_up_slot (by decide)).trans (((ap2.2.2.2.1 12 (-1) (by decide) (by decide) (by decide) (Or.inl (by decide))).trans (l10))))) (by omega) (by omega) (v := (S 12 (hd_of (S 18) a0 n 1024))) ((w_up_slot (by decide)).trans ((w_up_slot (by decide)).trans ((ap2.2.2.2.1 12 (hd_of (S 18) a0 n 1024) (by decide) (by decide) (by decide) (Or.inl (by decide)))))) (fun r5 => ?_)
  refine wb_iast 6 rfl (wy_pr rfl) wt_6 (n := (S 4 (-1))) ((w_up_slot (by decide)).trans ((w_up_slot (by decide)).trans (((ap2.2.2.2.1 6 (-1) (by decide) (by decide) (by decide) (Or.inl (by decide))).trans (l4))))) (by omega) (by omega) ⟨(by omega), (by omega)⟩ ?_
  refine wa_aload_n (n := 0) rfl ?_
  refine wb_gf4 2 rfl (wy_pr rfl) wt_2 wf_9_8 (v := 12) wl_2_8 ?_
  refine wa_iload (n := 5) rfl ?_
  refine wa_iload (n := 4) rfl ?_
  refine wa_iconst ?_
  refine wa_iadd ?_
  refine wb_iast 12 rfl (wy_pr rfl) wt_12 (n := 1024) ((w_up_slot (by decide)).trans ((w_up_slot (by decide)).trans ((w_up_slot (by decide)).trans (((ap2.2.2.2.1 12 (-1) (by decide) (by decide) (by decide) (Or.inl (by decide))).trans (l10)))))) (by omega) (by omega) ⟨(by omega), (by omega)⟩ ?_
  refine wa_aload_n (n := 0) rfl ?_
  refine wb_gf4 2 rfl (wy_pr rfl) wt_2 wf_9_5 (v := 7) wl_2_5 ?_
  refine wa_iload (n := 4) rfl ?_
  refine wa_iconst ?_
  refine wb_iast 7 rfl (wy_pr rfl) wt_7 (n := (S 4 (-1))) ((w_up_slot (by decide)).trans ((w_up_slot (by decide)).trans ((w_up_slot (by decide)).trans ((w_up_slot (by decide)).trans (((ap2.2.2.2.1 7 (-1) (by decide) (by decide) (by decide) (Or.inl (by decide))).trans (l5))))))) (by omega) (by omega) ⟨(by omega), (by omega)⟩ ?_
  refine wa_fall ⟨_, rfl⟩ ?_
  refine wa_aload_n (n := 0) rfl ?_
  refine wb_gf4 2 rfl (wy_pr rfl) wt_2 wf_9_6 (v := 8) wl_2_6 ?_
  refine wa_iload (n := 4) rfl ?_
  refine wa_iconst ?_
  refine wb_iast 8 rfl (wy_pr rfl) wt_8 (n := (S 4 (-1))) ((w_up_slot (by decide)).trans ((w_up_slot (by decide)).trans ((w_up_slot (by decide)).trans ((w_up_slot (by decide)).trans ((w_up_slot (by decide)).trans (((ap2.2.2.2.1 8 (-1) (by decide) (by decide) (by decide) (Or.inl (by decide))).trans (l6)))))))) (by omega) (by omega) ⟨(by omega), (by omega)⟩ ?_
  refine wa_aload_n (n := 0) rfl ?_
  refine wa_dup (by decide) ?_
  refine wb_gfi 2 rfl (wy_pr rfl) wt_2 wf_9_7 (v := (S 2 7)) ((w_up_slot (by decide)).trans ((w_up_slot (by decide)).trans ((w_up_slot (by decide)).trans ((w_up_slot (by decide)).trans ((w_up_slot (by decide)).trans ((w_up_slot (by decide)).trans ((ap2.2.2.2.1 2 7 (by decide) (by decide) (by decide) (Or.inr (by decide)))))))))) (fun r6 => ?_)
  refine wa_iconst ?_
  refine wa_iadd ?_
  refine wb_pfi 2 rfl (wy_pr rfl) wt_2 wf_9_7 (n := 7) rfl ⟨(by omega), (by omega)⟩ ?_
  refine wa_iload (n := 4) rfl ?_
  refine wa_ireturn rfl ?_
  have hq5 : S 2 1 + n ≤ Zq 3 (-1) ∧ S 3 (-1) ≤ Zq 3 (-1) ∧ (Zq 3 (-1) = S 3 (-1) ∨ Zq 3 (-1) ≤ 2 * (S 2 1 + n)) := ap2.2.2.2.2.1
  refine ⟨rfl, ⟨((w_up_at (by decide)).trans ((w_up_slot (by decide)).trans ((w_up_slot (by decide)).trans ((w_up_slot (by decide)).trans ((w_up_slot (by decide)).trans ((w_up_slot (by decide)).trans ((w_up_slot (by decide)).trans (ap2.1)))))))), (w_up_same _ _ _ _)⟩, fun k k0 k1 => ⟨((w_up_slot (by decide)).trans ((w_up_slot (by decide)).trans ((w_up_slot (by decide)).trans ((w_up_slot (by decide)).trans ((w_up_slot (by decide)).trans ((w_up_slot (by decide)).trans ((w_up_at (by omega)).trans ((ap2.2.2.2.1 4 k (by decide) (by decide) (by decide) (Or.inl (by decide))))))))))), ((w_up_slot (by decide)).trans ((w_up_slot (by decide)).trans ((w_up_slot (by decide)).trans ((w_up_slot (by decide)).trans ((w_up_slot (by decide)).trans ((w_up_at (by omega)).trans ((w_up_slot (by decide)).trans ((ap2.2.2.2.1 5 k (by decide) (by decide) (by decide) (Or.inl (by decide))))))))))), ((w_up_slot (by decide)).trans ((w_up_slot (by decide)).trans ((w_up_slot (by decide)).trans ((w_up_slot (by decide)).trans ((w_up_at (by omega)).trans ((w_up_slot (by decide)).trans ((w_up_slot (by decide)).trans ((ap2.2.2.2.1 6 k (by decide) (by decide) (by decide) (Or.inl (by decide))))))))))), ((w_up_slot (by decide)).trans ((w_up_slot (by decide)).trans ((w_up_at (by omega)).trans ((w_up_slot (by decide)).trans ((w_up_slot (by decide)).trans ((w_up_slot (by decide)).trans ((w_up_slot (by decide)).trans ((ap2.2.2.2.1 7 k (by decide) (by decide) (by decide) (Or.inl (by decide))))))))))), ((w_up_slot (by decide)).trans ((w_up_at (by omega)).trans ((w_up_slot (by decide)).trans ((w_up_slot (by decide)).trans ((w_up_slot (by decide)).trans ((w_up_slot (by decide)).trans ((w_up_slot (by decide)).trans ((ap2.2.2.2.1 8 k (by decide) (by decide) (by decide) (Or.inl (by decide)))))))))))⟩, ⟨((w_up_slot (by decide)).trans ((w_up_slot (by decide)).trans ((w_up_slot (by decide)).trans ((w_up_slot (by decide)).trans ((w_up_slot (by decide)).trans ((w_up_slot (by decide)).trans (w_up_same _ _ _ _))))))), ((w_up_slot (by decide)).trans ((w_up_slot (by decide)).trans ((w_up_slot (by decide)).trans ((w_up_slot (by decide)).trans ((w_up_slot (by decide)).trans (w_up_same _ _ _ _)))))), ((w_up_slot (by decide)).trans ((w_up_slot (by decide)).trans ((w_up_slot (by decide)).trans ((w_up_slot (by decide)).trans (w_up_same _ _ _ _))))), ((w_up_slot (by decide)).trans ((w_up_slot (by decide)).trans (w_up_same _ _ _ _))), ((w_up_slot (by decide)).trans (w_up_same _ _ _ _))⟩, ⟨((w_up_slot (by decide)).trans ((w_up_slot (by decide)).trans ((w_up_slot (by decide)).trans (w_up_same _ _ _ _)))), fun x hx => ((w_up_slot (by decide)).trans ((w_up_slot (by decide)).trans ((w_up_slot (by decide)).trans ((w_up_at hx).trans ((w_up_slot (by decide)).trans ((w_up_slot (by decide)).trans ((w_up_slot (by decide)).trans ((ap2.2.2.2.1 12 x (by decide) (by decide) (by decide) (Or.inl (by decide)))))))))))⟩, fun i i0 i1 => Eq.trans ((w_up_slot (by decide)).trans ((w_up_slot (by decide)).trans ((w_up_slot (by decide)).trans ((w_up_slot (by decide)).trans ((w_up_slot (by decide)).trans ((w_up_slot (by decide)).trans (w_up_slot (by decide)))))))) (ap2.2.1 i i0 i1), fun i i0 i1 => Eq.trans ((w_up_slot (by decide)).trans ((w_up_slot (by decide)).trans ((w_up_slot (by decide)).trans ((w_up_slot (by decide)).trans ((w_up_slot (by decide)).trans ((w_up_slot (by decide)).trans (w_up_slot (by decide)))))))) (ap2.2.2.1 i i0 i1), fun j i j0 j1 j2 => ?_, ?_, ?_, (gI_up (gI_up (gI_up (gI_up (gI_up (gI_up (gI_up ap2.2.2.2.2.2.1 (by omega) (by omega) (by omega)) (by omega) (by omega) (by omega)) (by omega) (by omega) (by omega)) (by omega) (by omega) (by omega)) (by omega) (by omega) (by omega)) (by omega) (by omega) (by omega)) (by omega) (by omega) (by omega)), (rmR_up (rmR_up (rmR_up (rmR_up (rmR_up (rmR_up (rmR_up ap2.2.2.2.2.2.2 (by omega) (by decide)) (by omega) (by decide)) (by omega) (by decide)) (by omega) (by decide)) (by omega) (by decide)) (by omega) (by decide)) (by omega) (by decide))⟩
  · exact (w_up_no (by omega)).trans ((w_up_no (by omega)).trans ((w_up_no (by omega)).trans ((w_up_no (by omega)).trans ((w_up_no (by omega)).trans ((w_up_no (by omega)).trans ((w_up_no (by omega)).trans (ap2.2.2.2.1 j i j0 j1 (by omega) (by omega))))))))
  · have m2 : (w_up (w_up (w_up (w_up (w_up (w_up (w_up Zq 4 (S 2 7) (S 2 1)) 5 (S 2 7) n) 6 (S 2 7) (S 12 (hd_of (S 18) a0 n 1024))) 12 (hd_of (S 18) a0 n 1024) ((S 2 7) + 1)) 7 (S 2 7) (-1)) 8 (S 2 7) (-1)) 2 7 ((S 2 7) + 1)) 4 (-1) = S 4 (-1) := ((w_up_slot (by decide)).trans ((w_up_slot (by decide)).trans ((w_up_slot (by decide)).trans ((w_up_slot (by decide)).trans ((w_up_slot (by decide)).trans ((w_up_slot (by decide)).trans ((w_up_at (by omega)).trans ((ap2.2.2.2.1 4 (-1) (by decide) (by decide) (by decide) (Or.inl (by decide)))))))))))
    have m3 : (w_up (w_up (w_up (w_up (w_up (w_up (w_up Zq 4 (S 2 7) (S 2 1)) 5 (S 2 7) n) 6 (S 2 7) (S 12 (hd_of (S 18) a0 n 1024))) 12 (hd_of (S 18) a0 n 1024) ((S 2 7) + 1)) 7 (S 2 7) (-1)) 8 (S 2 7) (-1)) 2 7 ((S 2 7) + 1)) 5 (-1) = S 4 (-1) := ((w_up_slot (by decide)).trans ((w_up_slot (by decide)).trans ((w_up_slot (by decide)).trans ((w_up_slot (by decide)).trans ((w_up_slot (by decide)).trans ((w_up_at (by omega)).trans ((w_up_slot (by decide)).trans (((ap2.2.2.2.1 5 (-1) (by decide) (by decide) (by decide) (Or.inl (by decide))).trans (l3))))))))))
    have m4 : (w_up (w_up (w_up (w_up (w_up (w_up (w_up Zq 4 (S 2 7) (S 2 1)) 5 (S 2 7) n) 6 (S 2 7) (S 12 (hd_of (S 18) a0 n 1024))) 12 (hd_of (S 18) a0 n 1024) ((S 2 7) + 1)) 7 (S 2 7) (-1)) 8 (S 2 7) (-1)) 2 7 ((S 2 7) + 1)) 6 (-1) = S 4 (-1) := ((w_up_slot (by decide)).trans ((w_up_slot (by decide)).trans ((w_up_slot (by decide)).trans ((w_up_slot (by decide)).trans ((w_up_at (by omega)).trans ((w_up_slot (by decide)).trans ((w_up_slot (by decide)).trans (((ap2.2.2.2.1 6 (-1) (by decide) (by decide) (by decide) (Or.inl (by decide))).trans (l4))))))))))
    have m5 : (w_up (w_up (w_up (w_up (w_up (w_up (w_up Zq 4 (S 2 7) (S 2 1)) 5 (S 2 7) n) 6 (S 2 7) (S 12 (hd_of (S 18) a0 n 1024))) 12 (hd_of (S 18) a0 n 1024) ((S 2 7) + 1)) 7 (S 2 7) (-1)) 8 (S 2 7) (-1)) 2 7 ((S 2 7) + 1)) 7 (-1) = S 4 (-1) := ((w_up_slot (by decide)).trans ((w_up_slot (by decide)).trans ((w_up_at (by omega)).trans ((w_up_slot (by decide)).trans ((w_up_slot (by decide)).trans ((w_up_slot (by decide)).trans ((w_up_slot (by decide)).trans (((ap2.2.2.2.1 7 (-1) (by decide) (by decide) (by decide) (Or.inl (by decide))).trans (l5))))))))))
    have m6 : (w_up (w_up (w_up (w_up (w_up (w_up (w_up Zq 4 (S 2 7) (S 2 1)) 5 (S 2 7) n) 6 (S 2 7) (S 12 (hd_of (S 18) a0 n 1024))) 12 (hd_of (S 18) a0 n 1024) ((S 2 7) + 1)) 7 (S 2 7) (-1)) 8 (S 2 7) (-1)) 2 7 ((S 2 7) + 1)) 8 (-1) = S 4 (-1) := ((w_up_slot (by decide)).trans ((w_up_at (by omega)).trans ((w_up_slot (by decide)).trans ((w_up_slot (by decide)).trans ((w_up_slot (by decide)).trans ((w_up_slot (by decide)).trans ((w_up_slot (by decide)).trans (((ap2.2.2.2.1 8 (-1) (by decide) (by decide) (by decide) (Or.inl (by decide))).trans (l6))))))))))
    exact ⟨m3.trans m2.symm, m4.trans m2.symm, m5.trans m2.symm, m6.trans m2.symm, by rw [show (w_up (w_up (w_up (w_up (w_up (w_up (w_up Zq 4 (S 2 7) (S 2 1)) 5 (S 2 7) n) 6 (S 2 7) (S 12 (hd_of (S 18) a0 n 1024))) 12 (hd_of (S 18) a0 n 1024) ((S 2 7) + 1)) 7 (S 2 7) (-1)) 8 (S 2 7) (-1)) 2 7 ((S 2 7) + 1)) (2 + 2) (-1) = S 4 (-1) from m2]; omega, Or.inl m2⟩
  · have m1 : (w_up (w_up (w_up (w_up (w_up (w_up (w_up Zq 4 (S 2 7) (S 2 1)) 5 (S 2 7) n) 6 (S 2 7) (S 12 (hd_of (S 18) a0 n 1024))) 12 (hd_of (S 18) a0 n 1024) ((S 2 7) + 1)) 7 (S 2 7) (-1)) 8 (S 2 7) (-1)) 2 7 ((S 2 7) + 1)) 3 (-1) = Zq 3 (-1) := ((w_up_slot (by decide)).trans ((w_up_slot (by decide)).trans ((w_up_slot (by decide)).trans ((w_up_slot (by decide)).trans ((w_up_slot (by decide)).trans ((w_up_slot (by decide)).trans (w_up_slot (by decide))))))))
    rw [show (w_up (w_up (w_up (w_up (w_up (w_up (w_up Zq 4 (S 2 7) (S 2 1)) 5 (S 2 7) n) 6 (S 2 7) (S 12 (hd_of (S 18) a0 n 1024))) 12 (hd_of (S 18) a0 n 1024) ((S 2 7) + 1)) 7 (S 2 7) (-1)) 8 (S 2 7) (-1)) 2 7 ((S 2 7) + 1)) (2 + 1) (-1) = Zq 3 (-1) from m1]; exact hq5
theorem wo_2_18 {a0 n : Int} (hI : gI S) (hL : wd_L S 2 1024) (h0 : 0 ≤ S 2 1 ∧ S 2 1 ≤ S 3 (-1) ∧ 1024 ≤ S 3 (-1) ∧ S 3 (-1) ≤ 16777216) (hn : 0 ≤ n ∧ n ≤ 60) (ha : 0 ≤ a0 ∧ a0 + n ≤ S 18 (-1) ∧ S 18 (-1) ≤ 2147483647) (hW : wd_at S 2 1024) (hc : S 4 (-1) ≤ 8388608) : wJ (pe_GA xs) wY0 (mS [3, 4, 5, 6, 7, 8]) (d + 4) t_XW_wordFor ((pe_at t_XW_wordFor.bl 0).getD (0, [])).2 [(0, (2, 2)), (1, (2, 18)), (2, (0, a0)), (3, (0, n))] [] S (fun o Z => (∃ k : Int, o = .inl (some (0, k)) ∧ 0 ≤ k ∧ k < (S 2 7) ∧ wq (S 3) (S 4) (S 5) (S 18) a0 n k ∧ S = Z) ∨ (o = .inl (some (0, (S 2 7))) ∧ (∀ k : Int, 0 ≤ k → k < (S 2 7) → ¬ wq (S 3) (S 4) (S 5) (S 18) a0 n k) ∧ wn_ag 2 18 1024 a0 n S Z ∧ wd_at Z 2 1024)) := by
  have hR := rmR_rfl S
  have l10 : S 12 (-1) = 1024 := hL.1
  have l3 : S 5 (-1) = S 4 (-1) := hL.2.1
  have l4 : S 6 (-1) = S 4 (-1) := hL.2.2.1
  have l5 : S 7 (-1) = S 4 (-1) := hL.2.2.2.1
  have l6 : S 8 (-1) = S 4 (-1) := hL.2.2.2.2.1
  have l64 : 64 ≤ S 4 (-1) := hL.2.2.2.2.2.1
  have hc1 : 0 ≤ (S 2 7) ∧ (S 2 7) ≤ S 4 (-1) := hW.1
  refine wa_aload_n (n := 0) rfl ?_
  refine wa_aload_n (n := 1) rfl ?_
  refine wa_iload_n (n := 2) rfl ?_
  refine wa_iload_n (n := 3) rfl ?_
  refine wa_cv 2 rfl (wy_pr rfl) wt_2 (M2 := fun _ => False) rfl at_XW_wordAt ⟨_, rfl⟩ rfl rfl ⟨(Or.inr ⟨wy_pr rfl, fun q => q⟩), (Or.inr ⟨wy_pr rfl, fun q => q⟩), trivial, trivial, trivial⟩ trivial (fun _ _ q => False.elim q) (wa_2 (S := S) (b := 18) (wy_pr rfl) wt_18 ⟨by omega, by omega, by omega, by omega⟩ hW hL) (fun oq1 Sq1 hp2 q1 => ?_)
  rcases q1 with ⟨rfl, k, rfl, hk | ⟨rfl, hno⟩⟩
  · skip
    show wJ _ _ _ _ _ _ _ _ _ _
    have hk0 := hk.1
    have hk1 := hk.2.1
    refine wa_istore (n := 4) rfl ?_
    refine wa_iload (n := 4) rfl ?_
    refine wa_iconst ?_
    refine wa_icmpeq (w_rg0 (by omega) (by omega)) (w_rg0 (by omega) (by omega)) ⟨_, rfl⟩ (fun c3 => ?_) (fun c3 => ?_)
    · skip
      exact absurd c3 (by omega)
    · skip
      refine wa_iload (n := 4) rfl ?_
      refine wa_ireturn rfl ?_
      exact Or.inl ⟨k, rfl, hk.1, hk.2.1, hk.2.2, rfl⟩
  · skip
    show wJ _ _ _ _ _ _ _ _ _ _
    refine wa_istore (n := 4) rfl ?_
    refine wa_iload (n := 4) rfl ?_
    refine wa_iconst ?_
    refine wa_icmpeq (w_rg0 (by omega) (by omega)) (w_rg0 (by omega) (by omega)) ⟨_, rfl⟩ (fun c4 => ?_) (fun c4 => ?_)
    · skip
      refine wa_aload_n (n := 0) rfl ?_
      refine wb_gfi 2 rfl (wy_pr rfl) wt_2 wf_9_7 (v := (S 2 7)) rfl (fun r5 => ?_)
      refine wa_istore (n := 4) rfl ?_
      refine wa_iload (n := 4) rfl ?_
      refine wa_aload_n (n := 0) rfl ?_
      refine wb_gf4 2 rfl (wy_pr rfl) wt_2 wf_9_2 (v := 4) wl_2_2 ?_
      refine wb_alen 4 rfl (wy_pr rfl) (by rw [wt_4]; rfl) (v := (S 4 (-1))) rfl (fun r6 => ?_)
      refine wa_icmpne (w_rg0 (by omega) (by omega)) (w_rg0 (by omega) (by omega)) ⟨_, rfl⟩ (fun c7 => ?_) (fun c7 => ?_)
      · skip
        refine wJ_mono (wJ_S (wf3_2_18 hI hL h0 hn ha ⟨by omega, by omega, by omega⟩) ⟨rfl, rfl, rfl, rfl, rfl, trivial⟩) (fun o Z hz => Or.inr ⟨hz.1, hno, hz.2, wn_I (by omega) hW hz.2 hn hno⟩)
      · skip
        refine wa_aload_n (n := 0) rfl ?_
        refine wa_aload_n (n := 0) rfl ?_
        refine wb_gf4 2 rfl (wy_pr rfl) wt_2 wf_9_2 (v := 4) wl_2_2 ?_
        refine wa_iload (n := 4) rfl ?_
        refine wa_iconst ?_
        refine wa_imul ?_
        refine wa_cs (M2 := fun _ => False) rfl at_JA_copyOf_2 ⟨_, rfl⟩ rfl rfl ⟨trivial, (Or.inr ⟨wy_pr rfl, fun q => q⟩), (Or.inr ⟨wy_pr rfl, fun q => q⟩), trivial, trivial, trivial⟩ ⟨(Or.inr ⟨wy_pr rfl, fun q => q⟩), trivial⟩ (fun _ _ q => False.elim q) (cp_I (S := S) (a := 4) (n := ((S 2 7) * 2)) (len := (S 4 (-1))) (wy_pr rfl) wt_4 rfl ⟨by omega, by omega, by omega⟩) (fun oq8 Sq8 _ q8 => ?_)
        rcases q8 with ⟨rfl, rfl⟩
        show wJ _ _ _ _ _ _ _ _ _ _
        refine wg_pf (S := S) (len := (S 4 (-1))) 0 2 4 rfl rfl rfl wt_2 wf_9_2 wl_2_2 (by decide +kernel) wt_4 (by decide) (by decide +kernel) hI (fun q => absurd q (by decide)) (by decide) ⟨by omega, by omega⟩ rfl (fun _ => ⟨Or.inr (by decide), Or.inl (nN_ge _)⟩) ⟨trivial, (Or.inr ⟨wy_pr rfl, mS_no rfl⟩), (Or.inr ⟨wy_pr rfl, mS_no rfl⟩), trivial, trivial, trivial⟩ trivial (fun Z9 g10 gi11 => ?_)
        have rm12 := rmR_gr hR g10 (by decide +kernel) (len := (S 4 (-1))) rfl ⟨by omega, by omega⟩ ⟨fun q => by first | omega | exact absurd q (by decide), by show _ ≤ (100000000 : Int); omega⟩
        refine wa_aload_n (n := 0) rfl ?_
        refine wa_aload_n (n := 0) rfl ?_
        refine wb_gf4 2 rfl (wy_pr rfl) wt_2 wf_9_3 (v := 5) wl_2_3 ?_
        refine wa_iload (n := 4) rfl ?_
        refine wa_iconst ?_
        refine wa_imul ?_
        refine wa_cs (M2 := fun _ => False) rfl at_JA_copyOf_2 ⟨_, rfl⟩ rfl rfl ⟨trivial, (Or.inr ⟨wy_pr rfl, fun q => q⟩), (Or.inr ⟨wy_pr rfl, fun q => q⟩), trivial, trivial, trivial⟩ ⟨(Or.inr ⟨wy_pr rfl, fun q => q⟩), trivial⟩ (fun _ _ q => False.elim q) (cp_I (S := Z9) (a := 5) (n := ((S 2 7) * 2)) (len := (S 4 (-1))) (wy_pr rfl) wt_5 (((congrFun (g10.2.2.1 5 (by decide) (by decide) (by decide)) (-1)).trans (l3))) ⟨by omega, by omega, by omega⟩) (fun oq13 Sq13 _ q13 => ?_)
        rcases q13 with ⟨rfl, rfl⟩
        show wJ _ _ _ _ _ _ _ _ _ _
        refine wg_pf (S := Z9) (len := (S 4 (-1))) 0 2 5 rfl rfl rfl wt_2 wf_9_3 wl_2_3 (by decide +kernel) wt_5 (by decide) (by decide +kernel) gi11 (fun q => absurd q (by decide)) (by decide) ⟨by omega, by omega⟩ (((congrFun (g10.2.2.1 5 (by decide) (by decide) (by decide)) (-1)).trans (l3))) (fun _ => ⟨Or.inr (by decide), Or.inl (nN_ge _)⟩) ⟨trivial, (Or.inr ⟨wy_pr rfl, mS_no rfl⟩), (Or.inr ⟨wy_pr rfl, mS_no rfl⟩), trivial, trivial, trivial⟩ trivial (fun Z14 g15 gi16 => ?_)
        have rm17 := rmR_gr rm12 g15 (by decide +kernel) (len := (S 4 (-1))) (((congrFun (g10.2.2.1 5 (by decide) (by decide) (by decide)) (-1)).trans (l3))) ⟨by omega, by omega⟩ ⟨fun q => by first | omega | exact absurd q (by decide), by show _ ≤ (100000000 : Int); omega⟩
        refine wa_aload_n (n := 0) rfl ?_
        refine wa_aload_n (n := 0) rfl ?_
        refine wb_gf4 2 rfl (wy_pr rfl) wt_2 wf_9_4 (v := 6) wl_2_4 ?_
        refine wa_iload (n := 4) rfl ?_
        refine wa_iconst ?_
        refine wa_imul ?_
        refine wa_cs (M2 := fun _ => False) rfl at_JA_copyOf_2 ⟨_, rfl⟩ rfl rfl ⟨trivial, (Or.inr ⟨wy_pr rfl, fun q => q⟩), (Or.inr ⟨wy_pr rfl, fun q => q⟩), trivial, trivial, trivial⟩ ⟨(Or.inr ⟨wy_pr rfl, fun q => q⟩), trivial⟩ (fun _ _ q => False.elim q) (cp_I (S := Z14) (a := 6) (n := ((S 2 7) * 2)) (len := (S 4 (-1))) (wy_pr rfl) wt_6 (((congrFun (g15.2.2.1 6 (by decide) (by decide) (by decide)) (-1)).trans (((congrFun (g10.2.2.1 6 (by decide) (by decide) (by decide)) (-1)).trans (l4))))) ⟨by omega, by omega, by omega⟩) (fun oq18 Sq18 _ q18 => ?_)
        rcases q18 with ⟨rfl, rfl⟩
        show wJ _ _ _ _ _ _ _ _ _ _
        refine wg_pf (S := Z14) (len := (S 4 (-1))) 0 2 6 rfl rfl rfl wt_2 wf_9_4 wl_2_4 (by decide +kernel) wt_6 (by decide) (by decide +kernel) gi16 (fun q => absurd q (by decide)) (by decide) ⟨by omega, by omega⟩ (((congrFun (g15.2.2.1 6 (by decide) (by decide) (by decide)) (-1)).trans (((congrFun (g10.2.2.1 6 (by decide) (by decide) (by decide)) (-1)).trans (l4))))) (fun _ => ⟨Or.inr (by decide), Or.inl (nN_ge _)⟩) ⟨trivial, (Or.inr ⟨wy_pr rfl, mS_no rfl⟩), (Or.inr ⟨wy_pr rfl, mS_no rfl⟩), trivial, trivial, trivial⟩ trivial (fun Z19 g20 gi21 => ?_)
        have rm22 := rmR_gr rm17 g20 (by decide +kernel) (len := (S 4 (-1))) (((congrFun (g15.2.2.1 6 (by decide) (by decide) (by decide)) (-1)).trans (((congrFun (g10.2.2.1 6 (by decide) (by decide) (by decide)) (-1)).trans (l4))))) ⟨by omega, by omega⟩ ⟨fun q => by first | omega | exact absurd q (by decide), by show _ ≤ (100000000 : Int); omega⟩
        refine wa_aload_n (n := 0) rfl ?_
        refine wa_aload_n (n := 0) rfl ?_
        refine wb_gf4 2 rfl (wy_pr rfl) wt_2 wf_9_5 (v := 7) wl_2_5 ?_
        refine wa_iload (n := 4) rfl ?_
        refine wa_iconst ?_
        refine wa_imul ?_
        refine wa_cs (M2 := fun _ => False) rfl at_JA_copyOf_2 ⟨_, rfl⟩ rfl rfl ⟨trivial, (Or.inr ⟨wy_pr rfl, fun q => q⟩), (Or.inr ⟨wy_pr rfl, fun q => q⟩), trivial, trivial, trivial⟩ ⟨(Or.inr ⟨wy_pr rfl, fun q => q⟩), trivial⟩ (fun _ _ q => False.elim q) (cp_I (S := Z19) (a := 7) (n := ((S 2 7) * 2)) (len := (S 4 (-1))) (wy_pr rfl) wt_7 (((congrFun (g20.2.2.1 7 (by decide) (by decide) (by decide)) (-1)).trans (((congrFun (g15.2.2.1 7 (by decide) (by decide) (by decide)) (-1)).trans (((congrFun (g10.2.2.1 7 (by decide) (by decide) (by decide)) (-1)).trans (l5))))))) ⟨by omega, by omega, by omega⟩) (fun oq23 Sq23 _ q23 => ?_)
        rcases q23 with ⟨rfl, rfl⟩
        show wJ _ _ _ _ _ _ _ _ _ _
        refine wg_pf (S := Z19) (len := (S 4 (-1))) 0 2 7 rfl rfl rfl wt_2 wf_9_5 wl_2_5 (by decide +kernel) wt_7 (by decide) (by decide +kernel) gi21 (fun q => absurd q (by decide)) (by decide) ⟨by omega, by omega⟩ (((congrFun (g20.2.2.1 7 (by decide) (by decide) (by decide)) (-1)).trans (((congrFun (g15.2.2.1 7 (by decide) (by decide) (by decide)) (-1)).trans (((congrFun (g10.2.2.1 7 (by decide) (by decide) (by decide)) (-1)).trans (l5))))))) (fun _ => ⟨Or.inr (by decide), Or.inl (nN_ge _)⟩) ⟨trivial, (Or.inr ⟨wy_pr rfl, mS_no rfl⟩), (Or.inr ⟨wy_pr rfl, mS_no rfl⟩), trivial, trivial, trivial⟩ trivial (fun Z24 g25 gi26 => ?_)
        have rm27 := rmR_gr rm22 g25 (by decide +kernel) (len := (S 4 (-1))) (((congrFun (g20.2.2.1 7 (by decide) (by decide) (by decide)) (-1)).trans (((congrFun (g15.2.2.1 7 (by decide) (by decide) (by decide)) (-1)).trans (((congrFun (g10.2.2.1 7 (by decide) (by decide) (by decide)) (-1)).trans (l5))))))) ⟨by omega, by omega⟩ ⟨fun q => by first | omega | exact absurd q (by decide), by show _ ≤ (100000000 : Int); omega⟩
        refine wa_fall ⟨_, rfl⟩ ?_
        refine wa_aload_n (n := 0) rfl ?_
        refine wa_aload_n (n := 0) rfl ?_
        refine wb_gf4 2 rfl (wy_pr rfl) wt_2 wf_9_6 (v := 8) wl_2_6 ?_
        refine wa_iload (n := 4) rfl ?_
        refine wa_iconst ?_
        refine wa_imul ?_
        refine wa_cs (M2 := fun _ => False) rfl at_JA_copyOf_2 ⟨_, rfl⟩ rfl rfl ⟨trivial, (Or.inr ⟨wy_pr rfl, fun q => q⟩), (Or.inr ⟨wy_pr rfl, fun q => q⟩), trivial, trivial, trivial⟩ ⟨(Or.inr ⟨wy_pr rfl, fun q => q⟩), trivial⟩ (fun _ _ q => False.elim q) (cp_I (S := Z24) (a := 8) (n := ((S 2 7) * 2)) (len := (S 4 (-1))) (wy_pr rfl) wt_8 (((congrFun (g25.2.2.1 8 (by decide) (by decide) (by decide)) (-1)).trans (((congrFun (g20.2.2.1 8 (by decide) (by decide) (by decide)) (-1)).trans (((congrFun (g15.2.2.1 8 (by decide) (by decide) (by decide)) (-1)).trans (((congrFun (g10.2.2.1 8 (by decide) (by decide) (by decide)) (-1)).trans (l6))))))))) ⟨by omega, by omega, by omega⟩) (fun oq28 Sq28 _ q28 => ?_)
        rcases q28 with ⟨rfl, rfl⟩
        show wJ _ _ _ _ _ _ _ _ _ _
        refine wg_pf (S := Z24) (len := (S 4 (-1))) 0 2 8 rfl rfl rfl wt_2 wf_9_6 wl_2_6 (by decide +kernel) wt_8 (by decide) (by decide +kernel) gi26 (fun q => absurd q (by decide)) (by decide) ⟨by omega, by omega⟩ (((congrFun (g25.2.2.1 8 (by decide) (by decide) (by decide)) (-1)).trans (((congrFun (g20.2.2.1 8 (by decide) (by decide) (by decide)) (-1)).trans (((congrFun (g15.2.2.1 8 (by decide) (by decide) (by decide)) (-1)).trans (((congrFun (g10.2.2.1 8 (by decide) (by decide) (by decide)) (-1)).trans (l6))))))))) (fun _ => ⟨Or.inr (by decide), Or.inl (nN_ge _)⟩) ⟨trivial, (Or.inr ⟨wy_pr rfl, mS_no rfl⟩), (Or.inr ⟨wy_pr rfl, mS_no rfl⟩), trivial, trivial, trivial⟩ trivial (fun Z29 g30 gi31 => ?_)
        have rm32 := rmR_gr rm27 g30 (by decide +kernel) (len := (S 4 (-1))) (((congrFun (g25.2.2.1 8 (by decide) (by decide) (by decide)) (-1)).trans (((congrFun (g20.2.2.1 8 (by decide) (by decide) (by decide)) (-1)).trans (((congrFun (g15.2.2.1 8 (by decide) (by decide) (by decide)) (-1)).trans (((congrFun (g10.2.2.1 8 (by decide) (by decide) (by decide)) (-1)).trans (l6))))))))) ⟨by omega, by omega⟩ ⟨fun q => by first | omega | exact absurd q (by decide), by show _ ≤ (100000000 : Int); omega⟩
        refine wa_fall ⟨_, rfl⟩ ?_
        have zz : ∀ (j : Nat) (i : Int), j < 4000000 → j ≠ wG → (j < 4 ∨ 8 < j) → Z29 j i = S j i := fun j i j0 j1 j2 => (congrFun (g30.2.2.1 j (by omega) j0 j1) i).trans ((congrFun (g25.2.2.1 j (by omega) j0 j1) i).trans ((congrFun (g20.2.2.1 j (by omega) j0 j1) i).trans ((congrFun (g15.2.2.1 j (by omega) j0 j1) i).trans ((congrFun (g10.2.2.1 j (by omega) j0 j1) i).trans (rfl)))))
        have y2 : ∀ k : Int, 0 ≤ k → k < (S 2 7) → Z29 4 k = S 4 k := by
          intro k k0 k1
          have f0 : Z29 4 k = Z24 4 k := congrFun (g30.2.2.1 4 (by decide) (by decide) (by decide)) k
          have f1 : Z24 4 k = Z19 4 k := congrFun (g25.2.2.1 4 (by decide) (by decide) (by decide)) k
          have f2 : Z19 4 k = Z14 4 k := congrFun (g20.2.2.1 4 (by decide) (by decide) (by decide)) k
          have f3 : Z14 4 k = Z9 4 k := congrFun (g15.2.2.1 4 (by decide) (by decide) (by decide)) k
          have e4 : S 4 (-1) = S 4 (-1) := rfl
          have f4 : Z9 4 k = S 4 k := g10.2.1 k k0 (by rw [e4]; omega)
          rw [f0, f1, f2, f3, f4]
        have n2 : Z29 4 (-1) = (S 2 7) * 2 := (((congrFun (g30.2.2.1 4 (by decide) (by decide) (by decide)) (-1)).trans (((congrFun (g25.2.2.1 4 (by decide) (by decide) (by decide)) (-1)).trans (((congrFun (g20.2.2.1 4 (by decide) (by decide) (by decide)) (-1)).trans (((congrFun (g15.2.2.1 4 (by decide) (by decide) (by decide)) (-1)).trans (g10.1)))))))))
        have y3 : ∀ k : Int, 0 ≤ k → k < (S 2 7) → Z29 5 k = S 5 k := by
          intro k k0 k1
          have f0 : Z29 5 k = Z24 5 k := congrFun (g30.2.2.1 5 (by decide) (by decide) (by decide)) k
          have f1 : Z24 5 k = Z19 5 k := congrFun (g25.2.2.1 5 (by decide) (by decide) (by decide)) k
          have f2 : Z19 5 k = Z14 5 k := congrFun (g20.2.2.1 5 (by decide) (by decide) (by decide)) k
          have e3 : Z9 5 (-1) = S 5 (-1) := ((congrFun (g10.2.2.1 5 (by decide) (by decide) (by decide)) (-1)))
          have f3 : Z14 5 k = Z9 5 k := g15.2.1 k k0 (by rw [e3]; omega)
          have f4 : Z9 5 k = S 5 k := congrFun (g10.2.2.1 5 (by decide) (by decide) (by decide)) k
          rw [f0, f1, f2, f3, f4]
        have n3 : Z29 5 (-1) = (S 2 7) * 2 := (((congrFun (g30.2.2.1 5 (by decide) (by decide) (by decide)) (-1)).trans (((congrFun (g25.2.2.1 5 (by decide) (by decide) (by decide)) (-1)).trans (((congrFun (g20.2.2.1 5 (by decide) (by decide) (by decide)) (-1)).trans (g15.1)))))))
        have y4 : ∀ k : Int, 0 ≤ k → k < (S 2 7) → Z29 6 k = S 6 k := by
          intro k k0 k1
          have f0 : Z29 6 k = Z24 6 k := congrFun (g30.2.2.1 6 (by decide) (by decide) (by decide)) k
          have f1 : Z24 6 k = Z19 6 k := congrFun (g25.2.2.1 6 (by decide) (by decide) (by decide)) k
          have e2 : Z14 6 (-1) = S 6 (-1) := (((congrFun (g15.2.2.1 6 (by decide) (by decide) (by decide)) (-1))).trans ((congrFun (g10.2.2.1 6 (by decide) (by decide) (by decide)) (-1))))
          have f2 : Z19 6 k = Z14 6 k := g20.2.1 k k0 (by rw [e2]; omega)
          have f3 : Z14 6 k = Z9 6 k := congrFun (g15.2.2.1 6 (by decide) (by decide) (by decide)) k
          have f4 : Z9 6 k = S 6 k := congrFun (g10.2.2.1 6 (by decide) (by decide) (by decide)) k
          rw [f0, f1, f2, f3, f4]
        have n4 : Z29 6 (-1) = (S 2 7) * 2 := (((congrFun (g30.2.2.1 6 (by decide) (by decide) (by decide)) (-1)).trans (((congrFun (g25.2.2.1 6 (by decide) (by decide) (by decide)) (-1)).trans (g20.1)))))
        have y5 : ∀ k : Int, 0 ≤ k → k < (S 2 7) → Z29 7 k = S 7 k := by
          intro k k0 k1
          have f0 : Z29 7 k = Z24 7 k := congrFun (g30.2.2.1 7 (by decide) (by decide) (by decide)) k
          have e1 : Z19 7 (-1) = S 7 (-1) := (((congrFun (g20.2.2.1 7 (by decide) (by decide) (by decide)) (-1))).trans (((congrFun (g15.2.2.1 7 (by decide) (by decide) (by decide)) (-1))).trans ((congrFun (g10.2.2.1 7 (by decide) (by decide) (by decide)) (-1)))))
          have f1 : Z24 7 k = Z19 7 k := g25.2.1 k k0 (by rw [e1]; omega)
          have f2 : Z19 7 k = Z14 7 k := congrFun (g20.2.2.1 7 (by decide) (by decide) (by decide)) k
          have f3 : Z14 7 k = Z9 7 k := congrFun (g15.2.2.1 7 (by decide) (by decide) (by decide)) k
          have f4 : Z9 7 k = S 7 k := congrFun (g10.2.2.1 7 (by decide) (by decide) (by decide)) k
          rw [f0, f1, f2, f3, f4]
        have n5 : Z29 7 (-1) = (S 2 7) * 2 := (((congrFun (g30.2.2.1 7 (by decide) (by decide) (by decide)) (-1)).trans (g25.1)))
        have y6 : ∀ k : Int, 0 ≤ k → k < (S 2 7) → Z29 8 k = S 8 k := by
          intro k k0 k1
          have e0 : Z24 8 (-1) = S 8 (-1) := (((congrFun (g25.2.2.1 8 (by decide) (by decide) (by decide)) (-1))).trans (((congrFun (g20.2.2.1 8 (by decide) (by decide) (by decide)) (-1))).trans (((congrFun (g15.2.2.1 8 (by decide) (by decide) (by decide)) (-1))).trans ((congrFun (g10.2.2.1 8 (by decide) (by decide) (by decide)) (-1))))))
          have f0 : Z29 8 k = Z24 8 k := g30.2.1 k k0 (by rw [e0]; omega)
          have f1 : Z24 8 k = Z19 8 k := congrFun (g25.2.2.1 8 (by decide) (by decide) (by decide)) k
          have f2 : Z19 8 k = Z14 8 k := congrFun (g20.2.2.1 8 (by decide) (by decide) (by decide)) k
          have f3 : Z14 8 k = Z9 8 k := congrFun (g15.2.2.1 8 (by decide) (by decide) (by decide)) k
          have f4 : Z9 8 k = S 8 k := congrFun (g10.2.2.1 8 (by decide) (by decide) (by decide)) k
          rw [f0, f1, f2, f3, f4]
        have n6 : Z29 8 (-1) = (S 2 7) * 2 := (g30.1)
        have zI : wd_at Z29 2 1024 := by
          have h := wd_cg (P2 := Z29 3) (ST2 := Z29 4) (SZ2 := Z29 5) (NX2 := Z29 6) (HD2 := Z29 12) (plen2 := Z29 3 (-1)) (cap2 := Z29 4 (-1)) hW (Int.le_of_eq (zz 3 (-1) (by decide) (by decide) (by omega)).symm) (by rw [n2]; show S 4 (-1) ≤ _; omega) (fun i _ _ => zz 3 i (by decide) (by decide) (by omega)) (fun k k0 k1 => ⟨y2 k k0 k1, y3 k k0 k1, y4 k k0 k1⟩) (fun x _ _ => zz 12 x (by decide) (by decide) (by omega))
          unfold wd_at; rw [show Z29 2 1 = S 2 1 from zz 2 1 (by decide) (by decide) (by omega), show Z29 2 7 = S 2 7 from zz 2 7 (by decide) (by decide) (by omega)]; exact h
        have e1 : Z29 2 1 = S 2 1 := zz 2 1 (by decide) (by decide) (by omega)
        have e7 : Z29 2 7 = S 2 7 := zz 2 7 (by decide) (by decide) (by omega)
        have el : Z29 3 (-1) = S 3 (-1) := zz 3 (-1) (by decide) (by decide) (by omega)
        have eb : Z29 18 = S 18 := funext fun i => zz 18 i (by decide) (by decide) (by omega)
        have ep : Z29 3 = S 3 := funext fun i => zz 3 i (by decide) (by decide) (by omega)
        have eh : Z29 12 = S 12 := funext fun i => zz 12 i (by decide) (by decide) (by omega)
        have zL : wd_L Z29 2 1024 := ⟨(congrFun eh (-1)).trans l10, n3.trans n2.symm, n4.trans n2.symm, n5.trans n2.symm, n6.trans n2.symm, by rw [show Z29 (2 + 2) (-1) = (S 2 7) * 2 from n2]; omega, by rw [show Z29 (2 + 1) (-1) = S 3 (-1) from el]; omega, by rw [show Z29 (2 + 2) (-1) = (S 2 7) * 2 from n2]; omega, by rw [show Z29 (2 + 1) (-1) = S 3 (-1) from el]; omega⟩
        refine wJ_mono (wJ_S (wf3_2_18 (S := Z29) gi31 zL ⟨by omega, by omega, by omega, by omega⟩ hn (by rw [eb]; exact ha) ⟨by omega, by omega, by omega⟩) ⟨rfl, rfl, rfl, rfl, by rw [e7]; rfl, trivial⟩) (fun o Z hz => ?_)
        obtain ⟨ho, hz⟩ := hz
        rw [e7] at ho
        have hno2 : ∀ k : Int, 0 ≤ k → k < Z29 2 7 → ¬ wq (Z29 3) (Z29 4) (Z29 5) (Z29 18) a0 n k := by
          intro k k0 k1 hk
          rw [e7] at k1
          rw [eb, ep] at hk
          exact hno k k0 k1 ⟨by rw [← y3 k k0 k1]; exact hk.1, fun i hi => by rw [← y2 k k0 k1]; exact hk.2 i hi⟩
        have hzI := wn_I (b := 18) (by omega) zI hz hn hno2
        refine Or.inr ⟨ho, hno, ?_, hzI⟩
        obtain ⟨⟨a1, a2⟩, a3, ⟨a4, a5, a6, a7, a8⟩, ⟨a9, a10⟩, a11, a12, a13, ⟨a14, a15, a16, a17, a18, a19⟩, a20, a21, a22⟩ := hz
        rw [e1] at a1 a4 a11 a12 a20
        rw [e7] at a2 a3 a4 a5 a6 a7 a8 a9 a18 a19
        rw [eb] at a6 a9 a10 a12
        rw [show Z29 (2 + 10) = S 12 from eh] at a6 a10
        rw [show Z29 (2 + 1) = S 3 from ep] at a11 a20
        refine ⟨⟨a1, a2⟩, fun k k0 k1 => ?_, ⟨a4, a5, a6, a7, a8⟩, ⟨a9, a10⟩, a11, a12, fun j i j0 j1 j2 => (a13 j i j0 j1 j2).trans (zz j i j0 j1 (by omega)), ⟨a14, a15, a16, a17, a18, ?_⟩, a20, a21, rmR_tr rm32 a22⟩
        · obtain ⟨b1, b2, b3, b4, b5⟩ := a3 k k0 k1
          exact ⟨b1.trans (y2 k k0 k1), b2.trans (y3 k k0 k1), b3.trans (y4 k k0 k1), b4.trans (y5 k k0 k1), b5.trans (y6 k k0 k1)⟩
        · rw [show Z29 (2 + 2) (-1) = (S 2 7) * 2 from n2] at a19
          refine Or.inr ⟨by show (S 2 7) = S 4 (-1); omega, by omega⟩
    · skip
      exact absurd c4 (by omega)
theorem wf3_74_1 {a0 n : Int} (hI : gI S) (hL : wd_L S 74 64) (h0 : 0 ≤ S 74 1 ∧ S 74 1 ≤ S 75 (-1) ∧ 1024 ≤ S 75 (-1) ∧ S 75 (-1) ≤ 16777216) (hn : 0 ≤ n ∧ n ≤ 60) (ha : 0 ≤ a0 ∧ a0 + n ≤ S 1 (-1) ∧ S 1 (-1) ≤ 2147483647) (hc : 0 ≤ (S 74 7) ∧ (S 74 7) < S 76 (-1) ∧ S 76 (-1) ≤ 16777216) : wJ (pe_GA xs) wY0 (mS [75, 76, 77, 78, 79, 80]) (d + 4) t_XW_wordFor ((pe_at t_XW_wordFor.bl 3).getD (0, [])).2 [(0, (2, 74)), (1, (2, 1)), (2, (0, a0)), (3, (0, n)), (4, (0, (S 74 7)))] [] S (fun o Z => o = .inl (some (0, (S 74 7))) ∧ wn_ag 74 1 64 a0 n S Z) := by
  have hR := rmR_rfl S
  have hr := hd_rg (f := S 1) (a := a0) (n := n) (H := 64) (by omega)
  have l10 : S 84 (-1) = 64 := hL.1
  have l3 : S 77 (-1) = S 76 (-1) := hL.2.1
  have l4 : S 78 (-1) = S 76 (-1) := hL.2.2.1
  have l5 : S 79 (-1) = S 76 (-1) := hL.2.2.2.1
  have l6 : S 80 (-1) = S 76 (-1) := hL.2.2.2.2.1
  refine wa_aload_n (n := 0) rfl ?_
  refine wa_aload_n (n := 1) rfl ?_
  refine wa_iload_n (n := 2) rfl ?_
  refine wa_iload_n (n := 3) rfl ?_
  refine wa_cv 74 rfl (wy_pr rfl) wt_74 (M2 := fun _ => False) rfl at_XW_headOf ⟨_, rfl⟩ rfl rfl ⟨(Or.inr ⟨wy_pr rfl, fun q => q⟩), (Or.inr ⟨wy_pr rfl, fun q => q⟩), trivial, trivial, trivial, trivial⟩ trivial (fun _ _ q => False.elim q) (hd_74 (b := 1) (wy_pr rfl) wt_1 ⟨by omega, by omega, by omega, by omega⟩ l10) (fun oq1 Sq1 hp2 q1 => ?_)
  rcases q1 with ⟨rfl, rfl⟩
  show wJ _ _ _ _ _ _ _ _ _ _
  refine wa_istore (n := 5) rfl ?_
  refine wa_aload_n (n := 0) rfl ?_
  refine wb_gf4 74 rfl (wy_pr rfl) wt_74 wf_9_2 (v := 76) wl_74_2 ?_
  refine wa_iload (n := 4) rfl ?_
  refine wa_aload_n (n := 0) rfl ?_
  refine wa_aload_n (n := 1) rfl ?_
  refine wa_iload_n (n := 2) rfl ?_
  refine wa_iload_n (n := 3) rfl ?_
  refine wa_cv 74 rfl (wy_pr rfl) wt_74 (M2 := mS [75]) rfl at_XW_append ⟨_, rfl⟩ rfl rfl ⟨trivial, (Or.inr ⟨wy_pr rfl, mS_no rfl⟩), (Or.inr ⟨wy_pr rfl, mS_no rfl⟩), trivial, trivial, trivial, trivial⟩ ⟨trivial, (Or.inr ⟨wy_pr rfl, mS_no rfl⟩), trivial⟩ (fun _ _ q => mS_sub (by decide) q) (ap_74_1 (S := S) hI h0 ⟨by omega, by omega⟩ ⟨by omega, by omega⟩) (fun oq3 Sq3 hp4 q3 => ?_)
  rcases q3 with ⟨rfl, ap74⟩
  show wJ _ _ _ _ _ _ _ _ _ _
  generalize Sq3 = Zq at ap74 ⊢
  refine wb_iast 76 rfl (wy_pr rfl) wt_76 (n := (S 76 (-1))) ((ap74.2.2.2.1 76 (-1) (by decide) (by decide) (by decide) (Or.inl (by decide)))) (by omega) (by omega) ⟨(by omega), (by omega)⟩ ?_
  refine wa_aload_n (n := 0) rfl ?_
  refine wb_gf4 74 rfl (wy_pr rfl) wt_74 wf_9_3 (v := 77) wl_74_3 ?_
  refine wa_iload (n := 4) rfl ?_
  refine wa_iload_n (n := 3) rfl ?_
  refine wb_iast 77 rfl (wy_pr rfl) wt_77 (n := (S 76 (-1))) ((w_up_slot (by decide)).trans (((ap74.2.2.2.1 77 (-1) (by decide) (by decide) (by decide) (Or.inl (by decide))).trans (l3)))) (by omega) (by omega) ⟨(by omega), (by omega)⟩ ?_
  refine wa_aload_n (n := 0) rfl ?_
  refine wb_gf4 74 rfl (wy_pr rfl) wt_74 wf_9_4 (v := 78) wl_74_4 ?_
  refine wa_iload (n := 4) rfl ?_
  refine wa_aload_n (n := 0) rfl ?_
  refine wb_gf4 74 rfl (wy_pr rfl) wt_74 wf_9_8 (v := 84) wl_74_8 ?_
  refine wa_iload (n := 5) rfl ?_
  refine wb_iald 84 rfl (wy_pr rfl) wt_84 (n := 64) ((w_up_slot (by decide)).trans ((w_up_slot (by decide)).trans (((ap74.2.2.2.1 84 (-1) (by decide) (by decide) (by decide) (Or.inl (by decide))).trans (l10))))) (by omega) (by omega) (v := (S 84 (hd_of (S 1) a0 n 64))) ((w_up_slot (by decide)).trans ((w_up_slot (by decide)).trans ((ap74.2.2.2.1 84 (hd_of (S 1) a0 n 64) (by decide) (by decide) (by decide) (Or.inl (by decide)))))) (fun r5 => ?_)
  refine wb_iast 78 rfl (wy_pr rfl) wt_78 (n := (S 76 (-1))) ((w_up_slot (by decide)).trans ((w_up_slot (by decide)).trans (((ap74.2.2.2.1 78 (-1) (by decide) (by decide) (by decide) (Or.inl (by decide))).trans (l4))))) (by omega) (by omega) ⟨(by omega), (by omega)⟩ ?_
  refine wa_aload_n (n := 0) rfl ?_
  refine wb_gf4 74 rfl (wy_pr rfl) wt_74 wf_9_8 (v := 84) wl_74_8 ?_
  refine wa_iload (n := 5) rfl ?_
  refine wa_iload (n := 4) rfl ?_
  refine wa_iconst ?_
  refine wa_iadd ?_
  refine wb_iast 84 rfl (wy_pr rfl) wt_84 (n := 64) ((w_up_slot (by decide)).trans ((w_up_slot (by decide)).trans ((w_up_slot (by decide)).trans (((ap74.2.2.2.1 84 (-1) (by decide) (by decide) (by decide) (Or.inl (by decide))).trans (l10)))))) (by omega) (by omega) ⟨(by omega), (by omega)⟩ ?_
  refine wa_aload_n (n := 0) rfl ?_
  refine wb_gf4 74 rfl (wy_pr rfl) wt_74 wf_9_5 (v := 79) wl_74_5 ?_
  refine wa_iload (n := 4) rfl ?_
  refine wa_iconst ?_
  refine wb_iast 79 rfl (wy_pr rfl) wt_79 (n := (S 76 (-1))) ((w_up_slot (by decide)).trans ((w_up_slot (by decide)).trans ((w_up_slot (by decide)).trans ((w_up_slot (by decide)).trans (((ap74.2.2.2.1 79 (-1) (by decide) (by decide) (by decide) (Or.inl (by decide))).trans (l5))))))) (by omega) (by omega) ⟨(by omega), (by omega)⟩ ?_
  refine wa_fall ⟨_, rfl⟩ ?_
  refine wa_aload_n (n := 0) rfl ?_
  refine wb_gf4 74 rfl (wy_pr rfl) wt_74 wf_9_6 (v := 80) wl_74_6 ?_
  refine wa_iload (n := 4) rfl ?_
  refine wa_iconst ?_
  refine wb_iast 80 rfl (wy_pr rfl) wt_80 (n := (S 76 (-1))) ((w_up_slot (by decide)).trans ((w_up_slot (by decide)).trans ((w_up_slot (by decide)).trans ((w_up_slot (by decide)).trans ((w_up_slot (by decide)).trans (((ap74.2.2.2.1 80 (-1) (by decide) (by decide) (by decide) (Or.inl (by decide))).trans (l6)))))))) (by omega) (by omega) ⟨(by omega), (by omega)⟩ ?_
  refine wa_aload_n (n := 0) rfl ?_
  refine wa_dup (by decide) ?_
  refine wb_gfi 74 rfl (wy_pr rfl) wt_74 wf_9_7 (v := (S 74 7)) ((w_up_slot (by decide)).trans ((w_up_slot (by decide)).trans ((w_up_slot (by decide)).trans ((w_up_slot (by decide)).trans ((w_up_slot (by decide)).trans ((w_up_slot (by decide)).trans ((ap74.2.2.2.1 74 7 (by decide) (by decide) (by decide) (Or.inr (by decide)))))))))) (fun r6 => ?_)
  refine wa_iconst ?_
  refine wa_iadd ?_
  refine wb_pfi 74 rfl (wy_pr rfl) wt_74 wf_9_7 (n := 7) rfl ⟨(by omega), (by omega)⟩ ?_
  refine wa_iload (n := 4) rfl ?_
  refine wa_ireturn rfl ?_
  have hq5 : S 74 1 + n ≤ Zq 75 (-1) ∧ S 75 (-1) ≤ Zq 75 (-1) ∧ (Zq 75 (-1) = S 75 (-1) ∨ Zq 75 (-1) ≤ 2 * (S 74 1 + n)) := ap74.2.2.2.2.1
  refine ⟨rfl, ⟨((w_up_at (by decide)).trans ((w_up_slot (by decide)).trans ((w_up_slot (by decide)).trans ((w_up_slot (by decide)).trans ((w_up_slot (by decide)).trans ((w_up_slot (by decide)).trans ((w_up_slot (by decide)).trans (ap74.1)))))))), (w_up_same _ _ _ _)⟩, fun k k0 k1 => ⟨((w_up_slot (by decide)).trans ((w_up_slot (by decide)).trans ((w_up_slot (by decide)).trans ((w_up_slot (by decide)).trans ((w_up_slot (by decide)).trans ((w_up_slot (by decide)).trans ((w_up_at (by omega)).trans ((ap74.2.2.2.1 76 k (by decide) (by decide) (by decide) (Or.inl (by decide))))))))))), ((w_up_slot (by decide)).trans ((w_up_slot (by decide)).trans ((w_up_slot (by decide)).trans ((w_up_slot (by decide)).trans ((w_up_slot (by decide)).trans ((w_up_at (by omega)).trans ((w_up_slot (by decide)).trans ((ap74.2.2.2.1 77 k (by decide) (by decide) (by decide) (Or.inl (by decide))))))))))), ((w_up_slot (by decide)).trans ((w_up_slot (by decide)).trans ((w_up_slot (by decide)).trans ((w_up_slot (by decide)).trans ((w_up_at (by omega)).trans ((w_up_slot (by decide)).trans ((w_up_slot (by decide)).trans ((ap74.2.2.2.1 78 k (by decide) (by decide) (by decide) (Or.inl (by decide))))))))))), ((w_up_slot (by decide)).trans ((w_up_slot (by decide)).trans ((w_up_at (by omega)).trans ((w_up_slot (by decide)).trans ((w_up_slot (by decide)).trans ((w_up_slot (by decide)).trans ((w_up_slot (by decide)).trans ((ap74.2.2.2.1 79 k (by decide) (by decide) (by decide) (Or.inl (by decide))))))))))), ((w_up_slot (by decide)).trans ((w_up_at (by omega)).trans ((w_up_slot (by decide)).trans ((w_up_slot (by decide)).trans ((w_up_slot (by decide)).trans ((w_up_slot (by decide)).trans ((w_up_slot (by decide)).trans ((ap74.2.2.2.1 80 k (by decide) (by decide) (by decide) (Or.inl (by decide)))))))))))⟩, ⟨((w_up_slot (by decide)).trans ((w_up_slot (by decide)).trans ((w_up_slot (by decide)).trans ((w_up_slot (by decide)).trans ((w_up_slot (by decide)).trans ((w_up_slot (by decide)).trans (w_up_same _ _ _ _))))))), ((w_up_slot (by decide)).trans ((w_up_slot (by decide)).trans ((w_up_slot (by decide)).trans ((w_up_slot (by decide)).trans ((w_up_slot (by decide)).trans (w_up_same _ _ _ _)))))), ((w_up_slot (by decide)).trans ((w_up_slot (by decide)).trans ((w_up_slot (by decide)).trans ((w_up_slot (by decide)).trans (w_up_same _ _ _ _))))), ((w_up_slot (by decide)).trans ((w_up_slot (by decide)).trans (w_up_same _ _ _ _))), ((w_up_slot (by decide)).trans (w_up_same _ _ _ _))⟩, ⟨((w_up_slot (by decide)).trans ((w_up_slot (by decide)).trans ((w_up_slot (by decide)).trans (w_up_same _ _ _ _)))), fun x hx => ((w_up_slot (by decide)).trans ((w_up_slot (by decide)).trans ((w_up_slot (by decide)).trans ((w_up_at hx).trans ((w_up_slot (by decide)).trans ((w_up_slot (by decide)).trans ((w_up_slot (by decide)).trans ((ap74.2.2.2.1 84 x (by decide) (by decide) (by decide) (Or.inl (by decide)))))))))))⟩, fun i i0 i1 => Eq.trans ((w_up_slot (by decide)).trans ((w_up_slot (by decide)).trans ((w_up_slot (by decide)).trans ((w_up_slot (by decide)).trans ((w_up_slot (by decide)).trans ((w_up_slot (by decide)).trans (w_up_slot (by decide)))))))) (ap74.2.1 i i0 i1), fun i i0 i1 => Eq.trans ((w_up_slot (by decide)).trans ((w_up_slot (by decide)).trans ((w_up_slot (by decide)).trans ((w_up_slot (by decide)).trans ((w_up_slot (by decide)).trans ((w_up_slot (by decide)).trans (w_up_slot (by decide)))))))) (ap74.2.2.1 i i0 i1), fun j i j0 j1 j2 => ?_, ?_, ?_, (gI_up (gI_up (gI_up (gI_up (gI_up (gI_up (gI_up ap74.2.2.2.2.2.1 (by omega) (by omega) (by omega)) (by omega) (by omega) (by omega)) (by omega) (by omega) (by omega)) (by omega) (by omega) (by omega)) (by omega) (by omega) (by omega)) (by omega) (by omega) (by omega)) (by omega) (by omega) (by omega)), (rmR_up (rmR_up (rmR_up (rmR_up (rmR_up (rmR_up (rmR_up ap74.2.2.2.2.2.2 (by omega) (by decide)) (by omega) (by decide)) (by omega) (by decide)) (by omega) (by decide)) (by omega) (by decide)) (by omega) (by decide)) (by omega) (by decide))⟩
  · exact (w_up_no (by omega)).trans ((w_up_no (by omega)).trans ((w_up_no (by omega)).trans ((w_up_no (by omega)).trans ((w_up_no (by omega)).trans ((w_up_no (by omega)).trans ((w_up_no (by omega)).trans (ap74.2.2.2.1 j i j0 j1 (by omega) (by omega))))))))
  · have m2 : (w_up (w_up (w_up (w_up (w_up (w_up (w_up Zq 76 (S 74 7) (S 74 1)) 77 (S 74 7) n) 78 (S 74 7) (S 84 (hd_of (S 1) a0 n 64))) 84 (hd_of (S 1) a0 n 64) ((S 74 7) + 1)) 79 (S 74 7) (-1)) 80 (S 74 7) (-1)) 74 7 ((S 74 7) + 1)) 76 (-1) = S 76 (-1) := ((w_up_slot (by decide)).trans ((w_up_slot (by decide)).trans ((w_up_slot (by decide)).trans ((w_up_slot (by decide)).trans ((w_up_slot (by decide)).trans ((w_up_slot (by decide)).trans ((w_up_at (by omega)).trans ((ap74.2.2.2.1 76 (-1) (by decide) (by decide) (by decide) (Or.inl (by decide)))))))))))
    have m3 : (w_up (w_up (w_up (w_up (w_up (w_up (w_up Zq 76 (S 74 7) (S 74 1)) 77 (S 74 7) n) 78 (S 74 7) (S 84 (hd_of (S 1) a0 n 64))) 84 (hd_of (S 1) a0 n 64) ((S 74 7) + 1)) 79 (S 74 7) (-1)) 80 (S 74 7) (-1)) 74 7 ((S 74 7) + 1)) 77 (-1) = S 76 (-1) := ((w_up_slot (by decide)).trans ((w_up_slot (by decide)).trans ((w_up_slot (by decide)).trans ((w_up_slot (by decide)).trans ((w_up_slot (by decide)).trans ((w_up_at (by omega)).trans ((w_up_slot (by decide)).trans (((ap74.2.2.2.1 77 (-1) (by decide) (by decide) (by decide) (Or.inl (by decide))).trans (l3))))))))))
    have m4 : (w_up (w_up (w_up (w_up (w_up (w_up (w_up Zq 76 (S 74 7) (S 74 1)) 77 (S 74 7) n) 78 (S 74 7) (S 84 (hd_of (S 1) a0 n 64))) 84 (hd_of (S 1) a0 n 64) ((S 74 7) + 1)) 79 (S 74 7) (-1)) 80 (S 74 7) (-1)) 74 7 ((S 74 7) + 1)) 78 (-1) = S 76 (-1) := ((w_up_slot (by decide)).trans ((w_up_slot (by decide)).trans ((w_up_slot (by decide)).trans ((w_up_slot (by decide)).trans ((w_up_at (by omega)).trans ((w_up_slot (by decide)).trans ((w_up_slot (by decide)).trans (((ap74.2.2.2.1 78 (-1) (by decide) (by decide) (by decide) (Or.inl (by decide))).trans (l4))))))))))
    have m5 : (w_up (w_up (w_up (w_up (w_up (w_up (w_up Zq 76 (S 74 7) (S 74 1)) 77 (S 74 7) n) 78 (S 74 7) (S 84 (hd_of (S 1) a0 n 64))) 84 (hd_of (S 1) a0 n 64) ((S 74 7) + 1)) 79 (S 74 7) (-1)) 80 (S 74 7) (-1)) 74 7 ((S 74 7) + 1)) 79 (-1) = S 76 (-1) := ((w_up_slot (by decide)).trans ((w_up_slot (by decide)).trans ((w_up_at (by omega)).trans ((w_up_slot (by decide)).trans ((w_up_slot (by decide)).trans ((w_up_slot (by decide)).trans ((w_up_slot (by decide)).trans (((ap74.2.2.2.1 79 (-1) (by decide) (by decide) (by decide) (Or.inl (by decide))).trans (l5))))))))))
    have m6 : (w_up (w_up (w_up (w_up (w_up (w_up (w_up Zq 76 (S 74 7) (S 74 1)) 77 (S 74 7) n) 78 (S 74 7) (S 84 (hd_of (S 1) a0 n 64))) 84 (hd_of (S 1) a0 n 64) ((S 74 7) + 1)) 79 (S 74 7) (-1)) 80 (S 74 7) (-1)) 74 7 ((S 74 7) + 1)) 80 (-1) = S 76 (-1) := ((w_up_slot (by decide)).trans ((w_up_at (by omega)).trans ((w_up_slot (by decide)).trans ((w_up_slot (by decide)).trans ((w_up_slot (by decide)).trans ((w_up_slot (by decide)).trans ((w_up_slot (by decide)).trans (((ap74.2.2.2.1 80 (-1) (by decide) (by decide) (by decide) (Or.inl (by decide))).trans (l6))))))))))
    exact ⟨m3.trans m2.symm, m4.trans m2.symm, m5.trans m2.symm, m6.trans m2.symm, by rw [show (w_up (w_up (w_up (w_up (w_up (w_up (w_up Zq 76 (S 74 7) (S 74 1)) 77 (S 74 7) n) 78 (S 74 7) (S 84 (hd_of (S 1) a0 n 64))) 84 (hd_of (S 1) a0 n 64) ((S 74 7) + 1)) 79 (S 74 7) (-1)) 80 (S 74 7) (-1)) 74 7 ((S 74 7) + 1)) (74 + 2) (-1) = S 76 (-1) from m2]; omega, Or.inl m2⟩
  · have m1 : (w_up (w_up (w_up (w_up (w_up (w_up (w_up Zq 76 (S 74 7) (S 74 1)) 77 (S 74 7) n) 78 (S 74 7) (S 84 (hd_of (S 1) a0 n 64))) 84 (hd_of (S 1) a0 n 64) ((S 74 7) + 1)) 79 (S 74 7) (-1)) 80 (S 74 7) (-1)) 74 7 ((S 74 7) + 1)) 75 (-1) = Zq 75 (-1) := ((w_up_slot (by decide)).trans ((w_up_slot (by decide)).trans ((w_up_slot (by decide)).trans ((w_up_slot (by decide)).trans ((w_up_slot (by decide)).trans ((w_up_slot (by decide)).trans (w_up_slot (by decide))))))))
    rw [show (w_up (w_up (w_up (w_up (w_up (w_up (w_up Zq 76 (S 74 7) (S 74 1)) 77 (S 74 7) n) 78 (S 74 7) (S 84 (hd_of (S 1) a0 n 64))) 84 (hd_of (S 1) a0 n 64) ((S 74 7) + 1)) 79 (S 74 7) (-1)) 80 (S 74 7) (-1)) 74 7 ((S 74 7) + 1)) (74 + 1) (-1) = Zq 75 (-1) from m1]; exact hq5
theorem wo_74_1 {a0 n : Int} (hI : gI S) (hL : wd_L S 74 64) (h0 : 0 ≤ S 74 1 ∧ S 74 1 ≤ S 75 (-1) ∧ 1024 ≤ S 75 (-1) ∧ S 75 (-1) ≤ 16777216) (hn : 0 ≤ n ∧ n ≤ 60) (ha : 0 ≤ a0 ∧ a0 + n ≤ S 1 (-1) ∧ S 1 (-1) ≤ 2147483647) (hW : wd_at S 74 64) (hc : S 76 (-1) ≤ 8388608) : wJ (pe_GA xs) wY0 (mS [75, 76, 77, 78, 79, 80]) (d + 4) t_XW_wordFor ((pe_at t_XW_wordFor.bl 0).getD (0, [])).2 [(0, (2, 74)), (1, (2, 1)), (2, (0, a0)), (3, (0, n))] [] S (fun o Z => (∃ k : Int, o = .inl (some (0, k)) ∧ 0 ≤ k ∧ k < (S 74 7) ∧ wq (S 75) (S 76) (S 77) (S 1) a0 n k ∧ S = Z) ∨ (o = .inl (some (0, (S 74 7))) ∧ (∀ k : Int, 0 ≤ k → k < (S 74 7) → ¬ wq (S 75) (S 76) (S 77) (S 1) a0 n k) ∧ wn_ag 74 1 64 a0 n S Z ∧ wd_at Z 74 64)) := by
  have hR := rmR_rfl S
  have l10 : S 84 (-1) = 64 := hL.1
  have l3 : S 77 (-1) = S 76 (-1) := hL.2.1
  have l4 : S 78 (-1) = S 76 (-1) := hL.2.2.1
  have l5 : S 79 (-1) = S 76 (-1) := hL.2.2.2.1
  have l6 : S 80 (-1) = S 76 (-1) := hL.2.2.2.2.1
  have l64 : 64 ≤ S 76 (-1) := hL.2.2.2.2.2.1
  have hc1 : 0 ≤ (S 74 7) ∧ (S 74 7) ≤ S 76 (-1) := hW.1
  refine wa_aload_n (n := 0) rfl ?_
  refine wa_aload_n (n := 1) rfl ?_
  refine wa_iload_n (n := 2) rfl ?_
  refine wa_iload_n (n := 3) rfl ?_
  refine wa_cv 74 rfl (wy_pr rfl) wt_74 (M2 := fun _ => False) rfl at_XW_wordAt ⟨_, rfl⟩ rfl rfl ⟨(Or.inr ⟨wy_pr rfl, fun q => q⟩), (Or.inr ⟨wy_pr rfl, fun q => q⟩), trivial, trivial, trivial⟩ trivial (fun _ _ q => False.elim q) (wa_74 (S := S) (b := 1) (wy_pr rfl) wt_1 ⟨by omega, by omega, by omega, by omega⟩ hW hL) (fun oq1 Sq1 hp2 q1 => ?_)
  rcases q1 with ⟨rfl, k, rfl, hk | ⟨rfl, hno⟩⟩
  · skip
    show wJ _ _ _ _ _ _ _ _ _ _
    have hk0 := hk.1
    have hk1 := hk.2.1
    refine wa_istore (n := 4) rfl ?_
    refine wa_iload (n := 4) rfl ?_
    refine wa_iconst ?_
    refine wa_icmpeq (w_rg0 (by omega) (by omega)) (w_rg0 (by omega) (by omega)) ⟨_, rfl⟩ (fun c3 => ?_) (fun c3 => ?_)
    · skip
      exact absurd c3 (by omega)
    · skip
      refine wa_iload (n := 4) rfl ?_
      refine wa_ireturn rfl ?_
      exact Or.inl ⟨k, rfl, hk.1, hk.2.1, hk.2.2, rfl⟩
  · skip
    show wJ _ _ _ _ _ _ _ _ _ _
    refine wa_istore (n := 4) rfl ?_
    refine wa_iload (n := 4) rfl ?_
    refine wa_iconst ?_
    refine wa_icmpeq (w_rg0 (by omega) (by omega)) (w_rg0 (by omega) (by omega)) ⟨_, rfl⟩ (fun c4 => ?_) (fun c4 => ?_)
    · skip
      refine wa_aload_n (n := 0) rfl ?_
      refine wb_gfi 74 rfl (wy_pr rfl) wt_74 wf_9_7 (v := (S 74 7)) rfl (fun r5 => ?_)
      refine wa_istore (n := 4) rfl ?_
      refine wa_iload (n := 4) rfl ?_
      refine wa_aload_n (n := 0) rfl ?_
      refine wb_gf4 74 rfl (wy_pr rfl) wt_74 wf_9_2 (v := 76) wl_74_2 ?_
      refine wb_alen 76 rfl (wy_pr rfl) (by rw [wt_76]; rfl) (v := (S 76 (-1))) rfl (fun r6 => ?_)
      refine wa_icmpne (w_rg0 (by omega) (by omega)) (w_rg0 (by omega) (by omega)) ⟨_, rfl⟩ (fun c7 => ?_) (fun c7 => ?_)
      · skip
        refine wJ_mono (wJ_S (wf3_74_1 hI hL h0 hn ha ⟨by omega, by omega, by omega⟩) ⟨rfl, rfl, rfl, rfl, rfl, trivial⟩) (fun o Z hz => Or.inr ⟨hz.1, hno, hz.2, wn_I (by omega) hW hz.2 hn hno⟩)
      · skip
        refine wa_aload_n (n := 0) rfl ?_
        refine wa_aload_n (n := 0) rfl ?_
        refine wb_gf4 74 rfl (wy_pr rfl) wt_74 wf_9_2 (v := 76) wl_74_2 ?_
        refine wa_iload (n := 4) rfl ?_
        refine wa_iconst ?_
        refine wa_imul ?_
        refine wa_cs (M2 := fun _ => False) rfl at_JA_copyOf_2 ⟨_, rfl⟩ rfl rfl ⟨trivial, (Or.inr ⟨wy_pr rfl, fun q => q⟩), (Or.inr ⟨wy_pr rfl, fun q => q⟩), trivial, trivial, trivial⟩ ⟨(Or.inr ⟨wy_pr rfl, fun q => q⟩), trivial⟩ (fun _ _ q => False.elim q) (cp_I (S := S) (a := 76) (n := ((S 74 7) * 2)) (len := (S 76 (-1))) (wy_pr rfl) wt_76 rfl ⟨by omega, by omega, by omega⟩) (fun oq8 Sq8 _ q8 => ?_)
        rcases q8 with ⟨rfl, rfl⟩
        show wJ _ _ _ _ _ _ _ _ _ _
        refine wg_pf (S := S) (len := (S 76 (-1))) 0 74 76 rfl rfl rfl wt_74 wf_9_2 wl_74_2 (by decide +kernel) wt_76 (by decide) (by decide +kernel) hI (fun q => absurd q (by decide)) (by decide) ⟨by omega, by omega⟩ rfl (fun _ => ⟨Or.inr (by decide), Or.inl (nN_ge _)⟩) ⟨trivial, (Or.inr ⟨wy_pr rfl, mS_no rfl⟩), (Or.inr ⟨wy_pr rfl, mS_no rfl⟩), trivial, trivial, trivial⟩ trivial (fun Z9 g10 gi11 => ?_)
        have rm12 := rmR_gr hR g10 (by decide +kernel) (len := (S 76 (-1))) rfl ⟨by omega, by omega⟩ ⟨fun q => by first | omega | exact absurd q (by decide), by show _ ≤ (100000000 : Int); omega⟩
        refine wa_aload_n (n := 0) rfl ?_
        refine wa_aload_n (n := 0) rfl ?_
        refine wb_gf4 74 rfl (wy_pr rfl) wt_74 wf_9_3 (v := 77) wl_74_3 ?_
        refine wa_iload (n := 4) rfl ?_
        refine wa_iconst ?_
        refine wa_imul ?_
        refine wa_cs (M2 := fun _ => False) rfl at_JA_copyOf_2 ⟨_, rfl⟩ rfl rfl ⟨trivial, (Or.inr ⟨wy_pr rfl, fun q => q⟩), (Or.inr ⟨wy_pr rfl, fun q => q⟩), trivial, trivial, trivial⟩ ⟨(Or.inr ⟨wy_pr rfl, fun q => q⟩), trivial⟩ (fun _ _ q => False.elim q) (cp_I (S := Z9) (a := 77) (n := ((S 74 7) * 2)) (len := (S 76 (-1))) (wy_pr rfl) wt_77 (((congrFun (g10.2.2.1 77 (by decide) (by decide) (by decide)) (-1)).trans (l3))) ⟨by omega, by omega, by omega⟩) (fun oq13 Sq13 _ q13 => ?_)
        rcases q13 with ⟨rfl, rfl⟩
        show wJ _ _ _ _ _ _ _ _ _ _
        refine wg_pf (S := Z9) (len := (S 76 (-1))) 0 74 77 rfl rfl rfl wt_74 wf_9_3 wl_74_3 (by decide +kernel) wt_77 (by decide) (by decide +kernel) gi11 (fun q => absurd q (by decide)) (by decide) ⟨by omega, by omega⟩ (((congrFun (g10.2.2.1 77 (by decide) (by decide) (by decide)) (-1)).trans (l3))) (fun _ => ⟨Or.inr (by decide), Or.inl (nN_ge _)⟩) ⟨trivial, (Or.inr ⟨wy_pr rfl, mS_no rfl⟩), (Or.inr ⟨wy_pr rfl, mS_no rfl⟩), trivial, trivial, trivial⟩ trivial (fun Z14 g15 gi16 => ?_)
        have rm17 := rmR_gr rm12 g15 (by decide +kernel) (len := (S 76 (-1))) (((congrFun (g10.2.2.1 77 (by decide) (by decide) (by decide)) (-1)).trans (l3))) ⟨by omega, by omega⟩ ⟨fun q => by first | omega | exact absurd q (by decide), by show _ ≤ (100000000 : Int); omega⟩
        refine wa_aload_n (n := 0) rfl ?_
        refine wa_aload_n (n := 0) rfl ?_
        refine wb_gf4 74 rfl (wy_pr rfl) wt_74 wf_9_4 (v := 78) wl_74_4 ?_
        refine wa_iload (n := 4) rfl ?_
        refine wa_iconst ?_
        refine wa_imul ?_
        refine wa_cs (M2 := fun _ => False) rfl at_JA_copyOf_2 ⟨_, rfl⟩ rfl rfl ⟨trivial, (Or.inr ⟨wy_pr rfl, fun q => q⟩), (Or.inr ⟨wy_pr rfl, fun q => q⟩), trivial, trivial, trivial⟩ ⟨(Or.inr ⟨wy_pr rfl, fun q => q⟩), trivial⟩ (fun _ _ q => False.elim q) (cp_I (S := Z14) (a := 78) (n := ((S 74 7) * 2)) (len := (S 76 (-1))) (wy_pr rfl) wt_78 (((congrFun (g15.2.2.1 78 (by decide) (by decide) (by decide)) (-1)).trans (((congrFun (g10.2.2.1 78 (by decide) (by decide) (by decide)) (-1)).trans (l4))))) ⟨by omega, by omega, by omega⟩) (fun oq18 Sq18 _ q18 => ?_)
        rcases q18 with ⟨rfl, rfl⟩
        show wJ _ _ _ _ _ _ _ _ _ _
        refine wg_pf (S := Z14) (len := (S 76 (-1))) 0 74 78 rfl rfl rfl wt_74 wf_9_4 wl_74_4 (by decide +kernel) wt_78 (by decide) (by decide +kernel) gi16 (fun q => absurd q (by decide)) (by decide) ⟨by omega, by omega⟩ (((congrFun (g15.2.2.1 78 (by decide) (by decide) (by decide)) (-1)).trans (((congrFun (g10.2.2.1 78 (by decide) (by decide) (by decide)) (-1)).trans (l4))))) (fun _ => ⟨Or.inr (by decide), Or.inl (nN_ge _)⟩) ⟨trivial, (Or.inr ⟨wy_pr rfl, mS_no rfl⟩), (Or.inr ⟨wy_pr rfl, mS_no rfl⟩), trivial, trivial, trivial⟩ trivial (fun Z19 g20 gi21 => ?_)
        have rm22 := rmR_gr rm17 g20 (by decide +kernel) (len := (S 76 (-1))) (((congrFun (g15.2.2.1 78 (by decide) (by decide) (by decide)) (-1)).trans (((congrFun (g10.2.2.1 78 (by decide) (by decide) (by decide)) (-1)).trans (l4))))) ⟨by omega, by omega⟩ ⟨fun q => by first | omega | exact absurd q (by decide), by show _ ≤ (100000000 : Int); omega⟩
        refine wa_aload_n (n := 0) rfl ?_
        refine wa_aload_n (n := 0) rfl ?_
        refine wb_gf4 74 rfl (wy_pr rfl) wt_74 wf_9_5 (v := 79) wl_74_5 ?_
        refine wa_iload (n := 4) rfl ?_
        refine wa_iconst ?_
        refine wa_imul ?_
        refine wa_cs (M2 := fun _ => False) rfl at_JA_copyOf_2 ⟨_, rfl⟩ rfl rfl ⟨trivial, (Or.inr ⟨wy_pr rfl, fun q => q⟩), (Or.inr ⟨wy_pr rfl, fun q => q⟩), trivial, trivial, trivial⟩ ⟨(Or.inr ⟨wy_pr rfl, fun q => q⟩), trivial⟩ (fun _ _ q => False.elim q) (cp_I (S := Z19) (a := 79) (n := ((S 74 7) * 2)) (len := (S 76 (-1))) (wy_pr rfl) wt_79 (((congrFun (g20.2.2.1 79 (by decide) (by decide) (by decide)) (-1)).trans (((congrFun (g15.2.2.1 79 (by decide) (by decide) (by decide)) (-1)).trans (((congrFun (g10.2.2.1 79 (by decide) (by decide) (by decide)) (-1)).trans (l5))))))) ⟨by omega, by omega, by omega⟩) (fun oq23 Sq23 _ q23 => ?_)
        rcases q23 with ⟨rfl, rfl⟩
        show wJ _ _ _ _ _ _ _ _ _ _
        refine wg_pf (S := Z19) (len := (S 76 (-1))) 0 74 79 rfl rfl rfl wt_74 wf_9_5 wl_74_5 (by decide +kernel) wt_79 (by decide) (by decide +kernel) gi21 (fun q => absurd q (by decide)) (by decide) ⟨by omega, by omega⟩ (((congrFun (g20.2.2.1 79 (by decide) (by decide) (by decide)) (-1)).trans (((congrFun (g15.2.2.1 79 (by decide) (by decide) (by decide)) (-1)).trans (((congrFun (g10.2.2.1 79 (by decide) (by decide) (by decide)) (-1)).trans (l5))))))) (fun _ => ⟨Or.inr (by decide), Or.inl (nN_ge _)⟩) ⟨trivial, (Or.inr ⟨wy_pr rfl, mS_no rfl⟩), (Or.inr ⟨wy_pr rfl, mS_no rfl⟩), trivial, trivial, trivial⟩ trivial (fun Z24 g25 gi26 => ?_)
        have rm27 := rmR_gr rm22 g25 (by decide +kernel) (len := (S 76 (-1))) (((congrFun (g20.2.2.1 79 (by decide) (by decide) (by decide)) (-1)).trans (((congrFun (g15.2.2.1 79 (by decide) (by decide) (by decide)) (-1)).trans (((congrFun (g10.2.2.1 79 (by decide) (by decide) (by decide)) (-1)).trans (l5))))))) ⟨by omega, by omega⟩ ⟨fun q => by first | omega | exact absurd q (by decide), by show _ ≤ (100000000 : Int); omega⟩
        refine wa_fall ⟨_, rfl⟩ ?_
        refine wa_aload_n (n := 0) rfl ?_
        refine wa_aload_n (n := 0) rfl ?_
        refine wb_gf4 74 rfl (wy_pr rfl) wt_74 wf_9_6 (v := 80) wl_74_6 ?_
        refine wa_iload (n := 4) rfl ?_
        refine wa_iconst ?_
        refine wa_imul ?_
        refine wa_cs (M2 := fun _ => False) rfl at_JA_copyOf_2 ⟨_, rfl⟩ rfl rfl ⟨trivial, (Or.inr ⟨wy_pr rfl, fun q => q⟩), (Or.inr ⟨wy_pr rfl, fun q => q⟩), trivial, trivial, trivial⟩ ⟨(Or.inr ⟨wy_pr rfl, fun q => q⟩), trivial⟩ (fun _ _ q => False.elim q) (cp_I (S := Z24) (a := 80) (n := ((S 74 7) * 2)) (len := (S 76 (-1))) (wy_pr rfl) wt_80 (((congrFun (g25.2.2.1 80 (by decide) (by decide) (by decide)) (-1)).trans (((congrFun (g20.2.2.1 80 (by decide) (by decide) (by decide)) (-1)).trans (((congrFun (g15.2.2.1 80 (by decide) (by decide) (by decide)) (-1)).trans (((congrFun (g10.2.2.1 80 (by decide) (by decide) (by decide)) (-1)).trans (l6))))))))) ⟨by omega, by omega, by omega⟩) (fun oq28 Sq28 _ q28 => ?_)
        rcases q28 with ⟨rfl, rfl⟩
        show wJ _ _ _ _ _ _ _ _ _ _
        refine wg_pf (S := Z24) (len := (S 76 (-1))) 0 74 80 rfl rfl rfl wt_74 wf_9_6 wl_74_6 (by decide +kernel) wt_80 (by decide) (by decide +kernel) gi26 (fun q => absurd q (by decide)) (by decide) ⟨by omega, by omega⟩ (((congrFun (g25.2.2.1 80 (by decide) (by decide) (by decide)) (-1)).trans (((congrFun (g20.2.2.1 80 (by decide) (by decide) (by decide)) (-1)).trans (((congrFun (g15.2.2.1 80 (by decide) (by decide) (by decide)) (-1)).trans (((congrFun (g10.2.2.1 80 (by decide) (by decide) (by decide)) (-1)).trans (l6))))))))) (fun _ => ⟨Or.inr (by decide), Or.inl (nN_ge _)⟩) ⟨trivial, (Or.inr ⟨wy_pr rfl, mS_no rfl⟩), (Or.inr ⟨wy_pr rfl, mS_no rfl⟩), trivial, trivial, trivial⟩ trivial (fun Z29 g30 gi31 => ?_)
        have rm32 := rmR_gr rm27 g30 (by decide +kernel) (len := (S 76 (-1))) (((congrFun (g25.2.2.1 80 (by decide) (by decide) (by decide)) (-1)).trans (((congrFun (g20.2.2.1 80 (by decide) (by decide) (by decide)) (-1)).trans (((congrFun (g15.2.2.1 80 (by decide) (by decide) (by decide)) (-1)).trans (((congrFun (g10.2.2.1 80 (by decide) (by decide) (by decide)) (-1)).trans (l6))))))))) ⟨by omega, by omega⟩ ⟨fun q => by first | omega | exact absurd q (by decide), by show _ ≤ (100000000 : Int); omega⟩
        refine wa_fall ⟨_, rfl⟩ ?_
        have zz : ∀ (j : Nat) (i : Int), j < 4000000 → j ≠ wG → (j < 76 ∨ 80 < j) → Z29 j i = S j i := fun j i j0 j1 j2 => (congrFun (g30.2.2.1 j (by omega) j0 j1) i).trans ((congrFun (g25.2.2.1 j (by omega) j0 j1) i).trans ((congrFun (g20.2.2.1 j (by omega) j0 j1) i).trans ((congrFun (g15.2.2.1 j (by omega) j0 j1) i).trans ((congrFun (g10.2.2.1 j (by omega) j0 j1) i).trans (rfl)))))
        have y2 : ∀ k : Int, 0 ≤ k → k < (S 74 7) → Z29 76 k = S 76 k := by
          intro k k0 k1
          have f0 : Z29 76 k = Z24 76 k := congrFun (g30.2.2.1 76 (by decide) (by decide) (by decide)) k
          have f1 : Z24 76 k = Z19 76 k := congrFun (g25.2.2.1 76 (by decide) (by decide) (by decide)) k
          have f2 : Z19 76 k = Z14 76 k := congrFun (g20.2.2.1 76 (by decide) (by decide) (by decide)) k
          have f3 : Z14 76 k = Z9 76 k := congrFun (g15.2.2.1 76 (by decide) (by decide) (by decide)) k
          have e4 : S 76 (-1) = S 76 (-1) := rfl
          have f4 : Z9 76 k = S 76 k := g10.2.1 k k0 (by rw [e4]; omega)
          rw [f0, f1, f2, f3, f4]
        have n2 : Z29 76 (-1) = (S 74 7) * 2 := (((congrFun (g30.2.2.1 76 (by decide) (by decide) (by decide)) (-1)).trans (((congrFun (g25.2.2.1 76 (by decide) (by decide) (by decide)) (-1)).trans (((congrFun (g20.2.2.1 76 (by decide) (by decide) (by decide)) (-1)).trans (((congrFun (g15.2.2.1 76 (by decide) (by decide) (by decide)) (-1)).trans (g10.1)))))))))
        have y3 : ∀ k : Int, 0 ≤ k → k < (S 74 7) → Z29 77 k = S 77 k := by
          intro k k0 k1
          have f0 : Z29 77 k = Z24 77 k := congrFun (g30.2.2.1 77 (by decide) (by decide) (by decide)) k
          have f1 : Z24 77 k = Z19 77 k := congrFun (g25.2.2.1 77 (by decide) (by decide) (by decide)) k
          have f2 : Z19 77 k = Z14 77 k := congrFun (g20.2.2.1 77 (by decide) (by decide) (by decide)) k
          have e3 : Z9 77 (-1) = S 77 (-1) := ((congrFun (g10.2.2.1 77 (by decide) (by decide) (by decide)) (-1)))
          have f3 : Z14 77 k = Z9 77 k := g15.2.1 k k0 (by rw [e3]; omega)
          have f4 : Z9 77 k = S 77 k := congrFun (g10.2.2.1 77 (by decide) (by decide) (by decide)) k
          rw [f0, f1, f2, f3, f4]
        have n3 : Z29 77 (-1) = (S 74 7) * 2 := (((congrFun (g30.2.2.1 77 (by decide) (by decide) (by decide)) (-1)).trans (((congrFun (g25.2.2.1 77 (by decide) (by decide) (by decide)) (-1)).trans (((congrFun (g20.2.2.1 77 (by decide) (by decide) (by decide)) (-1)).trans (g15.1)))))))
        have y4 : ∀ k : Int, 0 ≤ k → k < (S 74 7) → Z29 78 k = S 78 k := by
          intro k k0 k1
          have f0 : Z29 78 k = Z24 78 k := congrFun (g30.2.2.1 78 (by decide) (by decide) (by decide)) k
          have f1 : Z24 78 k = Z19 78 k := congrFun (g25.2.2.1 78 (by decide) (by decide) (by decide)) k
          have e2 : Z14 78 (-1) = S 78 (-1) := (((congrFun (g15.2.2.1 78 (by decide) (by decide) (by decide)) (-1))).trans ((congrFun (g10.2.2.1 78 (by decide) (by decide) (by decide)) (-1))))
          have f2 : Z19 78 k = Z14 78 k := g20.2.1 k k0 (by rw [e2]; omega)
          have f3 : Z14 78 k = Z9 78 k := congrFun (g15.2.2.1 78 (by decide) (by decide) (by decide)) k
          have f4 : Z9 78 k = S 78 k := congrFun (g10.2.2.1 78 (by decide) (by decide) (by decide)) k
          rw [f0, f1, f2, f3, f4]
        have n4 : Z29 78 (-1) = (S 74 7) * 2 := (((congrFun (g30.2.2.1 78 (by decide) (by decide) (by decide)) (-1)).trans (((congrFun (g25.2.2.1 78 (by decide) (by decide) (by decide)) (-1)).trans (g20.1)))))
        have y5 : ∀ k : Int, 0 ≤ k → k < (S 74 7) → Z29 79 k = S 79 k := by
          intro k k0 k1
          have f0 : Z29 79 k = Z24 79 k := congrFun (g30.2.2.1 79 (by decide) (by decide) (by decide)) k
          have e1 : Z19 79 (-1) = S 79 (-1) := (((congrFun (g20.2.2.1 79 (by decide) (by decide) (by decide)) (-1))).trans (((congrFun (g15.2.2.1 79 (by decide) (by decide) (by decide)) (-1))).trans ((congrFun (g10.2.2.1 79 (by decide) (by decide) (by decide)) (-1)))))
          have f1 : Z24 79 k = Z19 79 k := g25.2.1 k k0 (by rw [e1]; omega)
          have f2 : Z19 79 k = Z14 79 k := congrFun (g20.2.2.1 79 (by decide) (by decide) (by decide)) k
          have f3 : Z14 79 k = Z9 79 k := congrFun (g15.2.2.1 79 (by decide) (by decide) (by decide)) k
          have f4 : Z9 79 k = S 79 k := congrFun (g10.2.2.1 79 (by decide) (by decide) (by decide)) k
          rw [f0, f1, f2, f3, f4]
        have n5 : Z29 79 (-1) = (S 74 7) * 2 := (((congrFun (g30.2.2.1 79 (by decide) (by decide) (by decide)) (-1)).trans (g25.1)))
        have y6 : ∀ k : Int, 0 ≤ k → k < (S 74 7) → Z29 80 k = S 80 k := by
          intro k k0 k1
          have e0 : Z24 80 (-1) = S 80 (-1) := (((congrFun (g25.2.2.1 80 (by decide) (by decide) (by decide)) (-1))).trans (((congrFun (g20.2.2.1 80 (by decide) (by decide) (by decide)) (-1))).trans (((congrFun (g15.2.2.1 80 (by decide) (by decide) (by decide)) (-1))).trans ((congrFun (g10.2.2.1 80 (by decide) (by decide) (by decide)) (-1))))))
          have f0 : Z29 80 k = Z24 80 k := g30.2.1 k k0 (by rw [e0]; omega)
          have f1 : Z24 80 k = Z19 80 k := congrFun (g25.2.2.1 80 (by decide) (by decide) (by decide)) k
          have f2 : Z19 80 k = Z14 80 k := congrFun (g20.2.2.1 80 (by decide) (by decide) (by decide)) k
          have f3 : Z14 80 k = Z9 80 k := congrFun (g15.2.2.1 80 (by decide) (by decide) (by decide)) k
          have f4 : Z9 80 k = S 80 k := congrFun (g10.2.2.1 80 (by decide) (by decide) (by decide)) k
          rw [f0, f1, f2, f3, f4]
        have n6 : Z29 80 (-1) = (S 74 7) * 2 := (g30.1)
        have zI : wd_at Z29 74 64 := by
          have h := wd_cg (P2 := Z29 75) (ST2 := Z29 76) (SZ2 := Z29 77) (NX2 := Z29 78) (HD2 := Z29 84) (plen2 := Z29 75 (-1)) (cap2 := Z29 76 (-1)) hW (Int.le_of_eq (zz 75 (-1) (by decide) (by decide) (by omega)).symm) (by rw [n2]; show S 76 (-1) ≤ _; omega) (fun i _ _ => zz 75 i (by decide) (by decide) (by omega)) (fun k k0 k1 => ⟨y2 k k0 k1, y3 k k0 k1, y4 k k0 k1⟩) (fun x _ _ => zz 84 x (by decide) (by decide) (by omega))
          unfold wd_at; rw [show Z29 74 1 = S 74 1 from zz 74 1 (by decide) (by decide) (by omega), show Z29 74 7 = S 74 7 from zz 74 7 (by decide) (by decide) (by omega)]; exact h
        have e1 : Z29 74 1 = S 74 1 := zz 74 1 (by decide) (by decide) (by omega)
        have e7 : Z29 74 7 = S 74 7 := zz 74 7 (by decide) (by decide) (by omega)
        have el : Z29 75 (-1) = S 75 (-1) := zz 75 (-1) (by decide) (by decide) (by omega)
        have eb : Z29 1 = S 1 := funext fun i => zz 1 i (by decide) (by decide) (by omega)
        have ep : Z29 75 = S 75 := funext fun i => zz 75 i (by decide) (by decide) (by omega)
        have eh : Z29 84 = S 84 := funext fun i => zz 84 i (by decide) (by decide) (by omega)
        have zL : wd_L Z29 74 64 := ⟨(congrFun eh (-1)).trans l10, n3.trans n2.symm, n4.trans n2.symm, n5.trans n2.symm, n6.trans n2.symm, by rw [show Z29 (74 + 2) (-1) = (S 74 7) * 2 from n2]; omega, by rw [show Z29 (74 + 1) (-1) = S 75 (-1) from el]; omega, by rw [show Z29 (74 + 2) (-1) = (S 74 7) * 2 from n2]; omega, by rw [show Z29 (74 + 1) (-1) = S 75 (-1) from el]; omega⟩
        refine wJ_mono (wJ_S (wf3_74_1 (S := Z29) gi31 zL ⟨by omega, by omega, by omega, by omega⟩ hn (by rw [eb]; exact ha) ⟨by omega, by omega, by omega⟩) ⟨rfl, rfl, rfl, rfl, by rw [e7]; rfl, trivial⟩) (fun o Z hz => ?_)
        obtain ⟨ho, hz⟩ := hz
        rw [e7] at ho
        have hno2 : ∀ k : Int, 0 ≤ k → k < Z29 74 7 → ¬ wq (Z29 75) (Z29 76) (Z29 77) (Z29 1) a0 n k := by
          intro k k0 k1 hk
          rw [e7] at k1
          rw [eb, ep] at hk
          exact hno k k0 k1 ⟨by rw [← y3 k k0 k1]; exact hk.1, fun i hi => by rw [← y2 k k0 k1]; exact hk.2 i hi⟩
        have hzI := wn_I (b := 1) (by omega) zI hz hn hno2
        refine Or.inr ⟨ho, hno, ?_, hzI⟩
        obtain ⟨⟨a1, a2⟩, a3, ⟨a4, a5, a6, a7, a8⟩, ⟨a9, a10⟩, a11, a12, a13, ⟨a14, a15, a16, a17, a18, a19⟩, a20, a21, a22⟩ := hz
        rw [e1] at a1 a4 a11 a12 a20
        rw [e7] at a2 a3 a4 a5 a6 a7 a8 a9 a18 a19
        rw [eb] at a6 a9 a10 a12
        rw [show Z29 (74 + 10) = S 84 from eh] at a6 a10
        rw [show Z29 (74 + 1) = S 75 from ep] at a11 a20
        refine ⟨⟨a1, a2⟩, fun k k0 k1 => ?_, ⟨a4, a5, a6, a7, a8⟩, ⟨a9, a10⟩, a11, a12, fun j i j0 j1 j2 => (a13 j i j0 j1 j2).trans (zz j i j0 j1 (by omega)), ⟨a14, a15, a16, a17, a18, ?_⟩, a20, a21, rmR_tr rm32 a22⟩
        · obtain ⟨b1, b2, b3, b4, b5⟩ := a3 k k0 k1
          exact ⟨b1.trans (y2 k k0 k1), b2.trans (y3 k k0 k1), b3.trans (y4 k k0 k1), b4.trans (y5 k k0 k1), b5.trans (y6 k k0 k1)⟩
        · rw [show Z29 (74 + 2) (-1) = (S 74 7) * 2 from n2] at a19
          refine Or.inr ⟨by show (S 74 7) = S 76 (-1); omega, by omega⟩
    · skip
      exact absurd c4 (by omega)
theorem wf3_163_1 {a0 n : Int} (hI : gI S) (hL : wd_L S 163 64) (h0 : 0 ≤ S 163 1 ∧ S 163 1 ≤ S 164 (-1) ∧ 1024 ≤ S 164 (-1) ∧ S 164 (-1) ≤ 16777216) (hn : 0 ≤ n ∧ n ≤ 60) (ha : 0 ≤ a0 ∧ a0 + n ≤ S 1 (-1) ∧ S 1 (-1) ≤ 2147483647) (hc : 0 ≤ (S 163 7) ∧ (S 163 7) < S 165 (-1) ∧ S 165 (-1) ≤ 16777216) : wJ (pe_GA xs) wY0 (mS [164, 165, 166, 167, 168, 169]) (d + 4) t_XW_wordFor ((pe_at t_XW_wordFor.bl 3).getD (0, [])).2 [(0, (2, 163)), (1, (2, 1)), (2, (0, a0)), (3, (0, n)), (4, (0, (S 163 7)))] [] S (fun o Z => o = .inl (some (0, (S 163 7))) ∧ wn_ag 163 1 64 a0 n S Z) := by
  have hR := rmR_rfl S
  have hr := hd_rg (f := S 1) (a := a0) (n := n) (H := 64) (by omega)
  have l10 : S 173 (-1) = 64 := hL.1
  have l3 : S 166 (-1) = S 165 (-1) := hL.2.1
  have l4 : S 167 (-1) = S 165 (-1) := hL.2.2.1
  have l5 : S 168 (-1) = S 165 (-1) := hL.2.2.2.1
  have l6 : S 169 (-1) = S 165 (-1) := hL.2.2.2.2.1
  refine wa_aload_n (n := 0) rfl ?_
  refine wa_aload_n (n := 1) rfl ?_
  refine wa_iload_n (n := 2) rfl ?_
  refine wa_iload_n (n := 3) rfl ?_
  refine wa_cv 163 rfl (wy_pr rfl) wt_163 (M2 := fun _ => False) rfl at_XW_headOf ⟨_, rfl⟩ rfl rfl ⟨(Or.inr ⟨wy_pr rfl, fun q => q⟩), (Or.inr ⟨wy_pr rfl, fun q => q⟩), trivial, trivial, trivial, trivial⟩ trivial (fun _ _ q => False.elim q) (hd_163 (b := 1) (wy_pr rfl) wt_1 ⟨by omega, by omega, by omega, by omega⟩ l10) (fun oq1 Sq1 hp2 q1 => ?_)
  rcases q1 with ⟨rfl, rfl⟩
  show wJ _ _ _ _ _ _ _ _ _ _
  refine wa_istore (n := 5) rfl ?_
  refine wa_aload_n (n := 0) rfl ?_
  refine wb_gf4 163 rfl (wy_pr rfl) wt_163 wf_9_2 (v := 165) wl_163_2 ?_
  refine wa_iload (n := 4) rfl ?_
  refine wa_aload_n (n := 0) rfl ?_
  refine wa_aload_n (n := 1) rfl ?_
  refine wa_iload_n (n := 2) rfl ?_
  refine wa_iload_n (n := 3) rfl ?_
  refine wa_cv 163 rfl (wy_pr rfl) wt_163 (M2 := mS [164]) rfl at_XW_append ⟨_, rfl⟩ rfl rfl ⟨trivial, (Or.inr ⟨wy_pr rfl, mS_no rfl⟩), (Or.inr ⟨wy_pr rfl, mS_no rfl⟩), trivial, trivial, trivial, trivial⟩ ⟨trivial, (Or.inr ⟨wy_pr rfl, mS_no rfl⟩), trivial⟩ (fun _ _ q => mS_sub (by decide) q) (ap_163_1 (S := S) hI h0 ⟨by omega, by omega⟩ ⟨by omega, by omega⟩) (fun oq3 Sq3 hp4 q3 => ?_)
  rcases q3 with ⟨rfl, ap163⟩
  show wJ _ _ _ _ _ _ _ _ _ _
  generalize Sq3 = Zq at ap163 ⊢
  refine wb_iast 165 rfl (wy_pr rfl) wt_165 (n := (S 165 (-1))) ((ap163.2.2.2.1 165 (-1) (by decide) (by decide) (by decide) (Or.inl (by decide)))) (by omega) (by omega) ⟨(by omega), (by omega)⟩ ?_
  refine wa_aload_n (n := 0) rfl ?_
  refine wb_gf4 163 rfl (wy_pr rfl) wt_163 wf_9_3 (v := 166) wl_163_3 ?_
  refine wa_iload (n := 4) rfl ?_
  refine wa_iload_n (n := 3) rfl ?_
  refine wb_iast 166 rfl (wy_pr rfl) wt_166 (n := (S 165 (-1))) ((w_up_slot (by decide)).trans (((ap163.2.2.2.1 166 (-1) (by decide) (by decide) (by decide) (Or.inl (by decide))).trans (l3)))) (by omega) (by omega) ⟨(by omega), (by omega)⟩ ?_
  refine wa_aload_n (n := 0) rfl ?_
  refine wb_gf4 163 rfl (wy_pr rfl) wt_163 wf_9_4 (v := 167) wl_163_4 ?_
  refine wa_iload (n := 4) rfl ?_
  refine wa_aload_n (n := 0) rfl ?_
  refine wb_gf4 163 rfl (wy_pr rfl) wt_163 wf_9_8 (v := 173) wl_163_8 ?_
  refine wa_iload (n := 5) rfl ?_
  refine wb_iald 173 rfl (wy_pr rfl) wt_173 (n := 64) ((w_up_slot (by decide)).trans ((w_up_slot (by decide)).trans (((ap163.2.2.2.1 173 (-1) (by decide) (by decide) (by decide) (Or.inl (by decide))).trans (l10))))) (by omega) (by omega) (v := (S 173 (hd_of (S 1) a0 n 64))) ((w_up_slot (by decide)).trans ((w_up_slot (by decide)).trans ((ap163.2.2.2.1 173 (hd_of (S 1) a0 n 64) (by decide) (by decide) (by decide) (Or.inl (by decide)))))) (fun r5 => ?_)
  refine wb_iast 167 rfl (wy_pr rfl) wt_167 (n := (S 165 (-1))) ((w_up_slot (by decide)).trans ((w_up_slot (by decide)).trans (((ap163.2.2.2.1 167 (-1) (by decide) (by decide) (by decide) (Or.inl (by decide))).trans (l4))))) (by omega) (by omega) ⟨(by omega), (by omega)⟩ ?_
  refine wa_aload_n (n := 0) rfl ?_
  refine wb_gf4 163 rfl (wy_pr rfl) wt_163 wf_9_8 (v := 173) wl_163_8 ?_
  refine wa_iload (n := 5) rfl ?_
  refine wa_iload (n := 4) rfl ?_
  refine wa_iconst ?_
  refine wa_iadd ?_
  refine wb_iast 173 rfl (wy_pr rfl) wt_173 (n := 64) ((w_up_slot (by decide)).trans ((w_up_slot (by decide)).trans ((w_up_slot (by decide)).trans (((ap163.2.2.2.1 173 (-1) (by decide) (by decide) (by decide) (Or.inl (by decide))).trans (l10)))))) (by omega) (by omega) ⟨(by omega), (by omega)⟩ ?_
  refine wa_aload_n (n := 0) rfl ?_
  refine wb_gf4 163 rfl (wy_pr rfl) wt_163 wf_9_5 (v := 168) wl_163_5 ?_
  refine wa_iload (n := 4) rfl ?_
  refine wa_iconst ?_
  refine wb_iast 168 rfl (wy_pr rfl) wt_168 (n := (S 165 (-1))) ((w_up_slot (by decide)).trans ((w_up_slot (by decide)).trans ((w_up_slot (by decide)).trans ((w_up_slot (by decide)).trans (((ap163.2.2.2.1 168 (-1) (by decide) (by decide) (by decide) (Or.inl (by decide))).trans (l5))))))) (by omega) (by omega) ⟨(by omega), (by omega)⟩ ?_
  refine wa_fall ⟨_, rfl⟩ ?_
  refine wa_aload_n (n := 0) rfl ?_
  refine wb_gf4 163 rfl (wy_pr rfl) wt_163 wf_9_6 (v := 169) wl_163_6 ?_
  refine wa_iload (n := 4) rfl ?_
  refine wa_iconst ?_
  refine wb_iast 169 rfl (wy_pr rfl) wt_169 (n := (S 165 (-1))) ((w_up_slot (by decide)).trans ((w_up_slot (by decide)).trans ((w_up_slot (by decide)).trans ((w_up_slot (by decide)).trans ((w_up_slot (by decide)).trans (((ap163.2.2.2.1 169 (-1) (by decide) (by decide) (by decide) (Or.inl (by decide))).trans (l6)))))))) (by omega) (by omega) ⟨(by omega), (by omega)⟩ ?_
  refine wa_aload_n (n := 0) rfl ?_
  refine wa_dup (by decide) ?_
  refine wb_gfi 163 rfl (wy_pr rfl) wt_163 wf_9_7 (v := (S 163 7)) ((w_up_slot (by decide)).trans ((w_up_slot (by decide)).trans ((w_up_slot (by decide)).trans ((w_up_slot (by decide)).trans ((w_up_slot (by decide)).trans ((w_up_slot (by decide)).trans ((ap163.2.2.2.1 163 7 (by decide) (by decide) (by decide) (Or.inr (by decide)))))))))) (fun r6 => ?_)
  refine wa_iconst ?_
  refine wa_iadd ?_
  refine wb_pfi 163 rfl (wy_pr rfl) wt_163 wf_9_7 (n := 7) rfl ⟨(by omega), (by omega)⟩ ?_
  refine wa_iload (n := 4) rfl ?_
  refine wa_ireturn rfl ?_
  have hq5 : S 163 1 + n ≤ Zq 164 (-1) ∧ S 164 (-1) ≤ Zq 164 (-1) ∧ (Zq 164 (-1) = S 164 (-1) ∨ Zq 164 (-1) ≤ 2 * (S 163 1 + n)) := ap163.2.2.2.2.1
  refine ⟨rfl, ⟨((w_up_at (by decide)).trans ((w_up_slot (by decide)).trans ((w_up_slot (by decide)).trans ((w_up_slot (by decide)).trans ((w_up_slot (by decide)).trans ((w_up_slot (by decide)).trans ((w_up_slot (by decide)).trans (ap163.1)))))))), (w_up_same _ _ _ _)⟩, fun k k0 k1 => ⟨((w_up_slot (by decide)).trans ((w_up_slot (by decide)).trans ((w_up_slot (by decide)).trans ((w_up_slot (by decide)).trans ((w_up_slot (by decide)).trans ((w_up_slot (by decide)).trans ((w_up_at (by omega)).trans ((ap163.2.2.2.1 165 k (by decide) (by decide) (by decide) (Or.inl (by decide))))))))))), ((w_up_slot (by decide)).trans ((w_up_slot (by decide)).trans ((w_up_slot (by decide)).trans ((w_up_slot (by decide)).trans ((w_up_slot (by decide)).trans ((w_up_at (by omega)).trans ((w_up_slot (by decide)).trans ((ap163.2.2.2.1 166 k (by decide) (by decide) (by decide) (Or.inl (by decide))))))))))), ((w_up_slot (by decide)).trans ((w_up_slot (by decide)).trans ((w_up_slot (by decide)).trans ((w_up_slot (by decide)).trans ((w_up_at (by omega)).trans ((w_up_slot (by decide)).trans ((w_up_slot (by decide)).trans ((ap163.2.2.2.1 167 k (by decide) (by decide) (by decide) (Or.inl (by decide))))))))))), ((w_up_slot (by decide)).trans ((w_up_slot (by decide)).trans ((w_up_at (by omega)).trans ((w_up_slot (by decide)).trans ((w_up_slot (by decide)).trans ((w_up_slot (by decide)).trans ((w_up_slot (by decide)).trans ((ap163.2.2.2.1 168 k (by decide) (by decide) (by decide) (Or.inl (by decide))))))))))), ((w_up_slot (by decide)).trans ((w_up_at (by omega)).trans ((w_up_slot (by decide)).trans ((w_up_slot (by decide)).trans ((w_up_slot (by decide)).trans ((w_up_slot (by decide)).trans ((w_up_slot (by decide)).trans ((ap163.2.2.2.1 169 k (by decide) (by decide) (by decide) (Or.inl (by decide)))))))))))⟩, ⟨((w_up_slot (by decide)).trans ((w_up_slot (by decide)).trans ((w_up_slot (by decide)).trans ((w_up_slot (by decide)).trans ((w_up_slot (by decide)).trans ((w_up_slot (by decide)).trans (w_up_same _ _ _ _))))))), ((w_up_slot (by decide)).trans ((w_up_slot (by decide)).trans ((w_up_slot (by decide)).trans ((w_up_slot (by decide)).trans ((w_up_slot (by decide)).trans (w_up_same _ _ _ _)))))), ((w_up_slot (by decide)).trans ((w_up_slot (by decide)).trans ((w_up_slot (by decide)).trans ((w_up_slot (by decide)).trans (w_up_same _ _ _ _))))), ((w_up_slot (by decide)).trans ((w_up_slot (by decide)).trans (w_up_same _ _ _ _))), ((w_up_slot (by decide)).trans (w_up_same _ _ _ _))⟩, ⟨((w_up_slot (by decide)).trans ((w_up_slot (by decide)).trans ((w_up_slot (by decide)).trans (w_up_same _ _ _ _)))), fun x hx => ((w_up_slot (by decide)).trans ((w_up_slot (by decide)).trans ((w_up_slot (by decide)).trans ((w_up_at hx).trans ((w_up_slot (by decide)).trans ((w_up_slot (by decide)).trans ((w_up_slot (by decide)).trans ((ap163.2.2.2.1 173 x (by decide) (by decide) (by decide) (Or.inl (by decide)))))))))))⟩, fun i i0 i1 => Eq.trans ((w_up_slot (by decide)).trans ((w_up_slot (by decide)).trans ((w_up_slot (by decide)).trans ((w_up_slot (by decide)).trans ((w_up_slot (by decide)).trans ((w_up_slot (by decide)).trans (w_up_slot (by decide)))))))) (ap163.2.1 i i0 i1), fun i i0 i1 => Eq.trans ((w_up_slot (by decide)).trans ((w_up_slot (by decide)).trans ((w_up_slot (by decide)).trans ((w_up_slot (by decide)).trans ((w_up_slot (by decide)).trans ((w_up_slot (by decide)).trans (w_up_slot (by decide)))))))) (ap163.2.2.1 i i0 i1), fun j i j0 j1 j2 => ?_, ?_, ?_, (gI_up (gI_up (gI_up (gI_up (gI_up (gI_up (gI_up ap163.2.2.2.2.2.1 (by omega) (by omega) (by omega)) (by omega) (by omega) (by omega)) (by omega) (by omega) (by omega)) (by omega) (by omega) (by omega)) (by omega) (by omega) (by omega)) (by omega) (by omega) (by omega)) (by omega) (by omega) (by omega)), (rmR_up (rmR_up (rmR_up (rmR_up (rmR_up (rmR_up (rmR_up ap163.2.2.2.2.2.2 (by omega) (by decide)) (by omega) (by decide)) (by omega) (by decide)) (by omega) (by decide)) (by omega) (by decide)) (by omega) (by decide)) (by omega) (by decide))⟩
  · exact (w_up_no (by omega)).trans ((w_up_no (by omega)).trans ((w_up_no (by omega)).trans ((w_up_no (by omega)).trans ((w_up_no (by omega)).trans ((w_up_no (by omega)).trans ((w_up_no (by omega)).trans (ap163.2.2.2.1 j i j0 j1 (by omega) (by omega))))))))
  · have m2 : (w_up (w_up (w_up (w_up (w_up (w_up (w_up Zq 165 (S 163 7) (S 163 1)) 166 (S 163 7) n) 167 (S 163 7) (S 173 (hd_of (S 1) a0 n 64))) 173 (hd_of (S 1) a0 n 64) ((S 163 7) + 1)) 168 (S 163 7) (-1)) 169 (S 163 7) (-1)) 163 7 ((S 163 7) + 1)) 165 (-1) = S 165 (-1) := ((w_up_slot (by decide)).trans ((w_up_slot (by decide)).trans ((w_up_slot (by decide)).trans ((w_up_slot (by decide)).trans ((w_up_slot (by decide)).trans ((w_up_slot (by decide)).trans ((w_up_at (by omega)).trans ((ap163.2.2.2.1 165 (-1) (by decide) (by decide) (by decide) (Or.inl (by decide)))))))))))
    have m3 : (w_up (w_up (w_up (w_up (w_up (w_up (w_up Zq 165 (S 163 7) (S 163 1)) 166 (S 163 7) n) 167 (S 163 7) (S 173 (hd_of (S 1) a0 n 64))) 173 (hd_of (S 1) a0 n 64) ((S 163 7) + 1)) 168 (S 163 7) (-1)) 169 (S 163 7) (-1)) 163 7 ((S 163 7) + 1)) 166 (-1) = S 165 (-1) := ((w_up_slot (by decide)).trans ((w_up_slot (by decide)).trans ((w_up_slot (by decide)).trans ((w_up_slot (by decide)).trans ((w_up_slot (by decide)).trans ((w_up_at (by omega)).trans ((w_up_slot (by decide)).trans (((ap163.2.2.2.1 166 (-1) (by decide) (by decide) (by decide) (Or.inl (by decide))).trans (l3))))))))))
    have m4 : (w_up (w_up (w_up (w_up (w_up (w_up (w_up Zq 165 (S 163 7) (S 163 1)) 166 (S 163 7) n) 167 (S 163 7) (S 173 (hd_of (S 1) a0 n 64))) 173 (hd_of (S 1) a0 n 64) ((S 163 7) + 1)) 168 (S 163 7) (-1)) 169 (S 163 7) (-1)) 163 7 ((S 163 7) + 1)) 167 (-1) = S 165 (-1) := ((w_up_slot (by decide)).trans ((w_up_slot (by decide)).trans ((w_up_slot (by decide)).trans ((w_up_slot (by decide)).trans ((w_up_at (by omega)).trans ((w_up_slot (by decide)).trans ((w_up_slot (by decide)).trans (((ap163.2.2.2.1 167 (-1) (by decide) (by decide) (by decide) (Or.inl (by decide))).trans (l4))))))))))
    have m5 : (w_up (w_up (w_up (w_up (w_up (w_up (w_up Zq 165 (S 163 7) (S 163 1)) 166 (S 163 7) n) 167 (S 163 7) (S 173 (hd_of (S 1) a0 n 64))) 173 (hd_of (S 1) a0 n 64) ((S 163 7) + 1)) 168 (S 163 7) (-1)) 169 (S 163 7) (-1)) 163 7 ((S 163 7) + 1)) 168 (-1) = S 165 (-1) := ((w_up_slot (by decide)).trans ((w_up_slot (by decide)).trans ((w_up_at (by omega)).trans ((w_up_slot (by decide)).trans ((w_up_slot (by decide)).trans ((w_up_slot (by decide)).trans ((w_up_slot (by decide)).trans (((ap163.2.2.2.1 168 (-1) (by decide) (by decide) (by decide) (Or.inl (by decide))).trans (l5))))))))))
    have m6 : (w_up (w_up (w_up (w_up (w_up (w_up (w_up Zq 165 (S 163 7) (S 163 1)) 166 (S 163 7) n) 167 (S 163 7) (S 173 (hd_of (S 1) a0 n 64))) 173 (hd_of (S 1) a0 n 64) ((S 163 7) + 1)) 168 (S 163 7) (-1)) 169 (S 163 7) (-1)) 163 7 ((S 163 7) + 1)) 169 (-1) = S 165 (-1) := ((w_up_slot (by decide)).trans ((w_up_at (by omega)).trans ((w_up_slot (by decide)).trans ((w_up_slot (by decide)).trans ((w_up_slot (by decide)).trans ((w_up_slot (by decide)).trans ((w_up_slot (by decide)).trans (((ap163.2.2.2.1 169 (-1) (by decide) (by decide) (by decide) (Or.inl (by decide))).trans (l6))))))))))
    exact ⟨m3.trans m2.symm, m4.trans m2.symm, m5.trans m2.symm, m6.trans m2.symm, by rw [show (w_up (w_up (w_up (w_up (w_up (w_up (w_up Zq 165 (S 163 7) (S 163 1)) 166 (S 163 7) n) 167 (S 163 7) (S 173 (hd_of (S 1) a0 n 64))) 173 (hd_of (S 1) a0 n 64) ((S 163 7) + 1)) 168 (S 163 7) (-1)) 169 (S 163 7) (-1)) 163 7 ((S 163 7) + 1)) (163 + 2) (-1) = S 165 (-1) from m2]; omega, Or.inl m2⟩
  · have m1 : (w_up (w_up (w_up (w_up (w_up (w_up (w_up Zq 165 (S 163 7) (S 163 1)) 166 (S 163 7) n) 167 (S 163 7) (S 173 (hd_of (S 1) a0 n 64))) 173 (hd_of (S 1) a0 n 64) ((S 163 7) + 1)) 168 (S 163 7) (-1)) 169 (S 163 7) (-1)) 163 7 ((S 163 7) + 1)) 164 (-1) = Zq 164 (-1) := ((w_up_slot (by decide)).trans ((w_up_slot (by decide)).trans ((w_up_slot (by decide)).trans ((w_up_slot (by decide)).trans ((w_up_slot (by decide)).trans ((w_up_slot (by decide)).trans (w_up_slot (by decide))))))))
    rw [show (w_up (w_up (w_up (w_up (w_up (w_up (w_up Zq 165 (S 163 7) (S 163 1)) 166 (S 163 7) n) 167 (S 163 7) (S 173 (hd_of (S 1) a0 n 64))) 173 (hd_of (S 1) a0 n 64) ((S 163 7) + 1)) 168 (S 163 7) (-1)) 169 (S 163 7) (-1)) 163 7 ((S 163 7) + 1)) (163 + 1) (-1) = Zq 164 (-1) from m1]; exact hq5
theorem wo_163_1 {a0 n : Int} (hI : gI S) (hL : wd_L S 163 64) (h0 : 0 ≤ S 163 1 ∧ S 163 1 ≤ S 164 (-1) ∧ 1024 ≤ S 164 (-1) ∧ S 164 (-1) ≤ 16777216) (hn : 0 ≤ n ∧ n ≤ 60) (ha : 0 ≤ a0 ∧ a0 + n ≤ S 1 (-1) ∧ S 1 (-1) ≤ 2147483647) (hW : wd_at S 163 64) (hc : S 165 (-1) ≤ 8388608) : wJ (pe_GA xs) wY0 (mS [164, 165, 166, 167, 168, 169]) (d + 4) t_XW_wordFor ((pe_at t_XW_wordFor.bl 0).getD (0, [])).2 [(0, (2, 163)), (1, (2, 1)), (2, (0, a0)), (3, (0, n))] [] S (fun o Z => (∃ k : Int, o = .inl (some (0, k)) ∧ 0 ≤ k ∧ k < (S 163 7) ∧ wq (S 164) (S 165) (S 166) (S 1) a0 n k ∧ S = Z) ∨ (o = .inl (some (0, (S 163 7))) ∧ (∀ k : Int, 0 ≤ k → k < (S 163 7) → ¬ wq (S 164) (S 165) (S 166) (S 1) a0 n k) ∧ wn_ag 163 1 64 a0 n S Z ∧ wd_at Z 163 64)) := by
  have hR := rmR_rfl S
  have l10 : S 173 (-1) = 64 := hL.1
  have l3 : S 166 (-1) = S 165 (-1) := hL.2.1
  have l4 : S 167 (-1) = S 165 (-1) := hL.2.2.1
  have l5 : S 168 (-1) = S 165 (-1) := hL.2.2.2.1
  have l6 : S 169 (-1) = S 165 (-1) := hL.2.2.2.2.1
  have l64 : 64 ≤ S 165 (-1) := hL.2.2.2.2.2.1
  have hc1 : 0 ≤ (S 163 7) ∧ (S 163 7) ≤ S 165 (-1) := hW.1
  refine wa_aload_n (n := 0) rfl ?_
  refine wa_aload_n (n := 1) rfl ?_
  refine wa_iload_n (n := 2) rfl ?_
  refine wa_iload_n (n := 3) rfl ?_
  refine wa_cv 163 rfl (wy_pr rfl) wt_163 (M2 := fun _ => False) rfl at_XW_wordAt ⟨_, rfl⟩ rfl rfl ⟨(Or.inr ⟨wy_pr rfl, fun q => q⟩), (Or.inr ⟨wy_pr rfl, fun q => q⟩), trivial, trivial, trivial⟩ trivial (fun _ _ q => False.elim q) (wa_163 (S := S) (b := 1) (wy_pr rfl) wt_1 ⟨by omega, by omega, by omega, by omega⟩ hW hL) (fun oq1 Sq1 hp2 q1 => ?_)
  rcases q1 with ⟨rfl, k, rfl, hk | ⟨rfl, hno⟩⟩
  · skip
    show wJ _ _ _ _ _ _ _ _ _ _
    have hk0 := hk.1
    have hk1 := hk.2.1
    refine wa_istore (n := 4) rfl ?_
    refine wa_iload (n := 4) rfl ?_
    refine wa_iconst ?_
    refine wa_icmpeq (w_rg0 (by omega) (by omega)) (w_rg0 (by omega) (by omega)) ⟨_, rfl⟩ (fun c3 => ?_) (fun c3 => ?_)
    · skip
      exact absurd c3 (by omega)
    · skip
      refine wa_iload (n := 4) rfl ?_
      refine wa_ireturn rfl ?_
      exact Or.inl ⟨k, rfl, hk.1, hk.2.1, hk.2.2, rfl⟩
  · skip
    show wJ _ _ _ _ _ _ _ _ _ _
    refine wa_istore (n := 4) rfl ?_
    refine wa_iload (n := 4) rfl ?_
    refine wa_iconst ?_
    refine wa_icmpeq (w_rg0 (by omega) (by omega)) (w_rg0 (by omega) (by omega)) ⟨_, rfl⟩ (fun c4 => ?_) (fun c4 => ?_)
    · skip
      refine wa_aload_n (n := 0) rfl ?_
      refine wb_gfi 163 rfl (wy_pr rfl) wt_163 wf_9_7 (v := (S 163 7)) rfl (fun r5 => ?_)
      refine wa_istore (n := 4) rfl ?_
      refine wa_iload (n := 4) rfl ?_
      refine wa_aload_n (n := 0) rfl ?_
      refine wb_gf4 163 rfl (wy_pr rfl) wt_163 wf_9_2 (v := 165) wl_163_2 ?_
      refine wb_alen 165 rfl (wy_pr rfl) (by rw [wt_165]; rfl) (v := (S 165 (-1))) rfl (fun r6 => ?_)
      refine wa_icmpne (w_rg0 (by omega) (by omega)) (w_rg0 (by omega) (by omega)) ⟨_, rfl⟩ (fun c7 => ?_) (fun c7 => ?_)
      · skip
        refine wJ_mono (wJ_S (wf3_163_1 hI hL h0 hn ha ⟨by omega, by omega, by omega⟩) ⟨rfl, rfl, rfl, rfl, rfl, trivial⟩) (fun o Z hz => Or.inr ⟨hz.1, hno, hz.2, wn_I (by omega) hW hz.2 hn hno⟩)
      · skip
        refine wa_aload_n (n := 0) rfl ?_
        refine wa_aload_n (n := 0) rfl ?_
        refine wb_gf4 163 rfl (wy_pr rfl) wt_163 wf_9_2 (v := 165) wl_163_2 ?_
        refine wa_iload (n := 4) rfl ?_
        refine wa_iconst ?_
        refine wa_imul ?_
        refine wa_cs (M2 := fun _ => False) rfl at_JA_copyOf_2 ⟨_, rfl⟩ rfl rfl ⟨trivial, (Or.inr ⟨wy_pr rfl, fun q => q⟩), (Or.inr ⟨wy_pr rfl, fun q => q⟩), trivial, trivial, trivial⟩ ⟨(Or.inr ⟨wy_pr rfl, fun q => q⟩), trivial⟩ (fun _ _ q => False.elim q) (cp_I (S := S) (a := 165) (n := ((S 163 7) * 2)) (len := (S 165 (-1))) (wy_pr rfl) wt_165 rfl ⟨by omega, by omega, by omega⟩) (fun oq8 Sq8 _ q8 => ?_)
        rcases q8 with ⟨rfl, rfl⟩
        show wJ _ _ _ _ _ _ _ _ _ _
        refine wg_pf (S := S) (len := (S 165 (-1))) 0 163 165 rfl rfl rfl wt_163 wf_9_2 wl_163_2 (by decide +kernel) wt_165 (by decide) (by decide +kernel) hI (fun q => absurd q (by decide)) (by decide) ⟨by omega, by omega⟩ rfl (fun _ => ⟨Or.inr (by decide), Or.inl (nN_ge _)⟩) ⟨trivial, (Or.inr ⟨wy_pr rfl, mS_no rfl⟩), (Or.inr ⟨wy_pr rfl, mS_no rfl⟩), trivial, trivial, trivial⟩ trivial (fun Z9 g10 gi11 => ?_)
        have rm12 := rmR_gr hR g10 (by decide +kernel) (len := (S 165 (-1))) rfl ⟨by omega, by omega⟩ ⟨fun q => by first | omega | exact absurd q (by decide), by show _ ≤ (100000000 : Int); omega⟩
        refine wa_aload_n (n := 0) rfl ?_
        refine wa_aload_n (n := 0) rfl ?_
        refine wb_gf4 163 rfl (wy_pr rfl) wt_163 wf_9_3 (v := 166) wl_163_3 ?_
        refine wa_iload (n := 4) rfl ?_
        refine wa_iconst ?_
        refine wa_imul ?_
        refine wa_cs (M2 := fun _ => False) rfl at_JA_copyOf_2 ⟨_, rfl⟩ rfl rfl ⟨trivial, (Or.inr ⟨wy_pr rfl, fun q => q⟩), (Or.inr ⟨wy_pr rfl, fun q => q⟩), trivial, trivial, trivial⟩ ⟨(Or.inr ⟨wy_pr rfl, fun q => q⟩), trivial⟩ (fun _ _ q => False.elim q) (cp_I (S := Z9) (a := 166) (n := ((S 163 7) * 2)) (len := (S 165 (-1))) (wy_pr rfl) wt_166 (((congrFun (g10.2.2.1 166 (by decide) (by decide) (by decide)) (-1)).trans (l3))) ⟨by omega, by omega, by omega⟩) (fun oq13 Sq13 _ q13 => ?_)
        rcases q13 with ⟨rfl, rfl⟩
        show wJ _ _ _ _ _ _ _ _ _ _
        refine wg_pf (S := Z9) (len := (S 165 (-1))) 0 163 166 rfl rfl rfl wt_163 wf_9_3 wl_163_3 (by decide +kernel) wt_166 (by decide) (by decide +kernel) gi11 (fun q => absurd q (by decide)) (by decide) ⟨by omega, by omega⟩ (((congrFun (g10.2.2.1 166 (by decide) (by decide) (by decide)) (-1)).trans (l3))) (fun _ => ⟨Or.inr (by decide), Or.inl (nN_ge _)⟩) ⟨trivial, (Or.inr ⟨wy_pr rfl, mS_no rfl⟩), (Or.inr ⟨wy_pr rfl, mS_no rfl⟩), trivial, trivial, trivial⟩ trivial (fun Z14 g15 gi16 => ?_)
        have rm17 := rmR_gr rm12 g15 (by decide +kernel) (len := (S 165 (-1))) (((congrFun (g10.2.2.1 166 (by decide) (by decide) (by decide)) (-1)).trans (l3))) ⟨by omega, by omega⟩ ⟨fun q => by first | omega | exact absurd q (by decide), by show _ ≤ (100000000 : Int); omega⟩
        refine wa_aload_n (n := 0) rfl ?_
        refine wa_aload_n (n := 0) rfl ?_
        refine wb_gf4 163 rfl (wy_pr rfl) wt_163 wf_9_4 (v := 167) wl_163_4 ?_
        refine wa_iload (n := 4) rfl ?_
        refine wa_iconst ?_
        refine wa_imul ?_
        refine wa_cs (M2 := fun _ => False) rfl at_JA_copyOf_2 ⟨_, rfl⟩ rfl rfl ⟨trivial, (Or.inr ⟨wy_pr rfl, fun q => q⟩), (Or.inr ⟨wy_pr rfl, fun q => q⟩), trivial, trivial, trivial⟩ ⟨(Or.inr ⟨wy_pr rfl, fun q => q⟩), trivial⟩ (fun _ _ q => False.elim q) (cp_I (S := Z14) (a := 167) (n := ((S 163 7) * 2)) (len := (S 165 (-1))) (wy_pr rfl) wt_167 (((congrFun (g15.2.2.1 167 (by decide) (by decide) (by decide)) (-1)).trans (((congrFun (g10.2.2.1 167 (by decide) (by decide) (by decide)) (-1)).trans (l4))))) ⟨by omega, by omega, by omega⟩) (fun oq18 Sq18 _ q18 => ?_)
        rcases q18 with ⟨rfl, rfl⟩
        show wJ _ _ _ _ _ _ _ _ _ _
        refine wg_pf (S := Z14) (len := (S 165 (-1))) 0 163 167 rfl rfl rfl wt_163 wf_9_4 wl_163_4 (by decide +kernel) wt_167 (by decide) (by decide +kernel) gi16 (fun q => absurd q (by decide)) (by decide) ⟨by omega, by omega⟩ (((congrFun (g15.2.2.1 167 (by decide) (by decide) (by decide)) (-1)).trans (((congrFun (g10.2.2.1 167 (by decide) (by decide) (by decide)) (-1)).trans (l4))))) (fun _ => ⟨Or.inr (by decide), Or.inl (nN_ge _)⟩) ⟨trivial, (Or.inr ⟨wy_pr rfl, mS_no rfl⟩), (Or.inr ⟨wy_pr rfl, mS_no rfl⟩), trivial, trivial, trivial⟩ trivial (fun Z19 g20 gi21 => ?_)
        have rm22 := rmR_gr rm17 g20 (by decide +kernel) (len := (S 165 (-1))) (((congrFun (g15.2.2.1 167 (by decide) (by decide) (by decide)) (-1)).trans (((congrFun (g10.2.2.1 167 (by decide) (by decide) (by decide)) (-1)).trans (l4))))) ⟨by omega, by omega⟩ ⟨fun q => by first | omega | exact absurd q (by decide), by show _ ≤ (100000000 : Int); omega⟩
        refine wa_aload_n (n := 0) rfl ?_
        refine wa_aload_n (n := 0) rfl ?_
        refine wb_gf4 163 rfl (wy_pr rfl) wt_163 wf_9_5 (v := 168) wl_163_5 ?_
        refine wa_iload (n := 4) rfl ?_
        refine wa_iconst ?_
        refine wa_imul ?_
        refine wa_cs (M2 := fun _ => False) rfl at_JA_copyOf_2 ⟨_, rfl⟩ rfl rfl ⟨trivial, (Or.inr ⟨wy_pr rfl, fun q => q⟩), (Or.inr ⟨wy_pr rfl, fun q => q⟩), trivial, trivial, trivial⟩ ⟨(Or.inr ⟨wy_pr rfl, fun q => q⟩), trivial⟩ (fun _ _ q => False.elim q) (cp_I (S := Z19) (a := 168) (n := ((S 163 7) * 2)) (len := (S 165 (-1))) (wy_pr rfl) wt_168 (((congrFun (g20.2.2.1 168 (by decide) (by decide) (by decide)) (-1)).trans (((congrFun (g15.2.2.1 168 (by decide) (by decide) (by decide)) (-1)).trans (((congrFun (g10.2.2.1 168 (by decide) (by decide) (by decide)) (-1)).trans (l5))))))) ⟨by omega, by omega, by omega⟩) (fun oq23 Sq23 _ q23 => ?_)
        rcases q23 with ⟨rfl, rfl⟩
        show wJ _ _ _ _ _ _ _ _ _ _
        refine wg_pf (S := Z19) (len := (S 165 (-1))) 0 163 168 rfl rfl rfl wt_163 wf_9_5 wl_163_5 (by decide +kernel) wt_168 (by decide) (by decide +kernel) gi21 (fun q => absurd q (by decide)) (by decide) ⟨by omega, by omega⟩ (((congrFun (g20.2.2.1 168 (by decide) (by decide) (by decide)) (-1)).trans (((congrFun (g15.2.2.1 168 (by decide) (by decide) (by decide)) (-1)).trans (((congrFun (g10.2.2.1 168 (by decide) (by decide) (by decide)) (-1)).trans (l5))))))) (fun _ => ⟨Or.inr (by decide), Or.inl (nN_ge _)⟩) ⟨trivial, (Or.inr ⟨wy_pr rfl, mS_no rfl⟩), (Or.inr ⟨wy_pr rfl, mS_no rfl⟩), trivial, trivial, trivial⟩ trivial (fun Z24 g25 gi26 => ?_)
        have rm27 := rmR_gr rm22 g25 (by decide +kernel) (len := (S 165 (-1))) (((congrFun (g20.2.2.1 168 (by decide) (by decide) (by decide)) (-1)).trans (((congrFun (g15.2.2.1 168 (by decide) (by decide) (by decide)) (-1)).trans (((congrFun (g10.2.2.1 168 (by decide) (by decide) (by decide)) (-1)).trans (l5))))))) ⟨by omega, by omega⟩ ⟨fun q => by first | omega | exact absurd q (by decide), by show _ ≤ (100000000 : Int); omega⟩
        refine wa_fall ⟨_, rfl⟩ ?_
        refine wa_aload_n (n := 0) rfl ?_
        refine wa_aload_n (n := 0) rfl ?_
        refine wb_gf4 163 rfl (wy_pr rfl) wt_163 wf_9_6 (v := 169) wl_163_6 ?_
        refine wa_iload (n := 4) rfl ?_
        refine wa_iconst ?_
        refine wa_imul ?_
        refine wa_cs (M2 := fun _ => False) rfl at_JA_copyOf_2 ⟨_, rfl⟩ rfl rfl ⟨trivial, (Or.inr ⟨wy_pr rfl, fun q => q⟩), (Or.inr ⟨wy_pr rfl, fun q => q⟩), trivial, trivial, trivial⟩ ⟨(Or.inr ⟨wy_pr rfl, fun q => q⟩), trivial⟩ (fun _ _ q => False.elim q) (cp_I (S := Z24) (a := 169) (n := ((S 163 7) * 2)) (len := (S 165 (-1))) (wy_pr rfl) wt_169 (((congrFun (g25.2.2.1 169 (by decide) (by decide) (by decide)) (-1)).trans (((congrFun (g20.2.2.1 169 (by decide) (by decide) (by decide)) (-1)).trans (((congrFun (g15.2.2.1 169 (by decide) (by decide) (by decide)) (-1)).trans (((congrFun (g10.2.2.1 169 (by decide) (by decide) (by decide)) (-1)).trans (l6))))))))) ⟨by omega, by omega, by omega⟩) (fun oq28 Sq28 _ q28 => ?_)
        rcases q28 with ⟨rfl, rfl⟩
        show wJ _ _ _ _ _ _ _ _ _ _
        refine wg_pf (S := Z24) (len := (S 165 (-1))) 0 163 169 rfl rfl rfl wt_163 wf_9_6 wl_163_6 (by decide +kernel) wt_169 (by decide) (by decide +kernel) gi26 (fun q => absurd q (by decide)) (by decide) ⟨by omega, by omega⟩ (((congrFun (g25.2.2.1 169 (by decide) (by decide) (by decide)) (-1)).trans (((congrFun (g20.2.2.1 169 (by decide) (by decide) (by decide)) (-1)).trans (((congrFun (g15.2.2.1 169 (by decide) (by decide) (by decide)) (-1)).trans (((congrFun (g10.2.2.1 169 (by decide) (by decide) (by decide)) (-1)).trans (l6))))))))) (fun _ => ⟨Or.inr (by decide), Or.inl (nN_ge _)⟩) ⟨trivial, (Or.inr ⟨wy_pr rfl, mS_no rfl⟩), (Or.inr ⟨wy_pr rfl, mS_no rfl⟩), trivial, trivial, trivial⟩ trivial (fun Z29 g30 gi31 => ?_)
        have rm32 := rmR_gr rm27 g30 (by decide +kernel) (len := (S 165 (-1))) (((congrFun (g25.2.2.1 169 (by decide) (by decide) (by decide)) (-1)).trans (((congrFun (g20.2.2.1 169 (by decide) (by decide) (by decide)) (-1)).trans (((congrFun (g15.2.2.1 169 (by decide) (by decide) (by decide)) (-1)).trans (((congrFun (g10.2.2.1 169 (by decide) (by decide) (by decide)) (-1)).trans (l6))))))))) ⟨by omega, by omega⟩ ⟨fun q => by first | omega | exact absurd q (by decide), by show _ ≤ (100000000 : Int); omega⟩
        refine wa_fall ⟨_, rfl⟩ ?_
        have zz : ∀ (j : Nat) (i : Int), j < 4000000 → j ≠ wG → (j < 165 ∨ 169 < j) → Z29 j i = S j i := fun j i j0 j1 j2 => (congrFun (g30.2.2.1 j (by omega) j0 j1) i).trans ((congrFun (g25.2.2.1 j (by omega) j0 j1) i).trans ((congrFun (g20.2.2.1 j (by omega) j0 j1) i).trans ((congrFun (g15.2.2.1 j (by omega) j0 j1) i).trans ((congrFun (g10.2.2.1 j (by omega) j0 j1) i).trans (rfl)))))
        have y2 : ∀ k : Int, 0 ≤ k → k < (S 163 7) → Z29 165 k = S 165 k := by
          intro k k0 k1
          have f0 : Z29 165 k = Z24 165 k := congrFun (g30.2.2.1 165 (by decide) (by decide) (by decide)) k
          have f1 : Z24 165 k = Z19 165 k := congrFun (g25.2.2.1 165 (by decide) (by decide) (by decide)) k
          have f2 : Z19 165 k = Z14 165 k := congrFun (g20.2.2.1 165 (by decide) (by decide) (by decide)) k
          have f3 : Z14 165 k = Z9 165 k := congrFun (g15.2.2.1 165 (by decide) (by decide) (by decide)) k
          have e4 : S 165 (-1) = S 165 (-1) := rfl
          have f4 : Z9 165 k = S 165 k := g10.2.1 k k0 (by rw [e4]; omega)
          rw [f0, f1, f2, f3, f4]
        have n2 : Z29 165 (-1) = (S 163 7) * 2 := (((congrFun (g30.2.2.1 165 (by decide) (by decide) (by decide)) (-1)).trans (((congrFun (g25.2.2.1 165 (by decide) (by decide) (by decide)) (-1)).trans (((congrFun (g20.2.2.1 165 (by decide) (by decide) (by decide)) (-1)).trans (((congrFun (g15.2.2.1 165 (by decide) (by decide) (by decide)) (-1)).trans (g10.1)))))))))
        have y3 : ∀ k : Int, 0 ≤ k → k < (S 163 7) → Z29 166 k = S 166 k := by
          intro k k0 k1
          have f0 : Z29 166 k = Z24 166 k := congrFun (g30.2.2.1 166 (by decide) (by decide) (by decide)) k
          have f1 : Z24 166 k = Z19 166 k := congrFun (g25.2.2.1 166 (by decide) (by decide) (by decide)) k
          have f2 : Z19 166 k = Z14 166 k := congrFun (g20.2.2.1 166 (by decide) (by decide) (by decide)) k
          have e3 : Z9 166 (-1) = S 166 (-1) := ((congrFun (g10.2.2.1 166 (by decide) (by decide) (by decide)) (-1)))
          have f3 : Z14 166 k = Z9 166 k := g15.2.1 k k0 (by rw [e3]; omega)
          have f4 : Z9 166 k = S 166 k := congrFun (g10.2.2.1 166 (by decide) (by decide) (by decide)) k
          rw [f0, f1, f2, f3, f4]
        have n3 : Z29 166 (-1) = (S 163 7) * 2 := (((congrFun (g30.2.2.1 166 (by decide) (by decide) (by decide)) (-1)).trans (((congrFun (g25.2.2.1 166 (by decide) (by decide) (by decide)) (-1)).trans (((congrFun (g20.2.2.1 166 (by decide) (by decide) (by decide)) (-1)).trans (g15.1)))))))
        have y4 : ∀ k : Int, 0 ≤ k → k < (S 163 7) → Z29 167 k = S 167 k := by
          intro k k0 k1
          have f0 : Z29 167 k = Z24 167 k := congrFun (g30.2.2.1 167 (by decide) (by decide) (by decide)) k
          have f1 : Z24 167 k = Z19 167 k := congrFun (g25.2.2.1 167 (by decide) (by decide) (by decide)) k
          have e2 : Z14 167 (-1) = S 167 (-1) := (((congrFun (g15.2.2.1 167 (by decide) (by decide) (by decide)) (-1))).trans ((congrFun (g10.2.2.1 167 (by decide) (by decide) (by decide)) (-1))))
          have f2 : Z19 167 k = Z14 167 k := g20.2.1 k k0 (by rw [e2]; omega)
          have f3 : Z14 167 k = Z9 167 k := congrFun (g15.2.2.1 167 (by decide) (by decide) (by decide)) k
          have f4 : Z9 167 k = S 167 k := congrFun (g10.2.2.1 167 (by decide) (by decide) (by decide)) k
          rw [f0, f1, f2, f3, f4]
        have n4 : Z29 167 (-1) = (S 163 7) * 2 := (((congrFun (g30.2.2.1 167 (by decide) (by decide) (by decide)) (-1)).trans (((congrFun (g25.2.2.1 167 (by decide) (by decide) (by decide)) (-1)).trans (g20.1)))))
        have y5 : ∀ k : Int, 0 ≤ k → k < (S 163 7) → Z29 168 k = S 168 k := by
          intro k k0 k1
          have f0 : Z29 168 k = Z24 168 k := congrFun (g30.2.2.1 168 (by decide) (by decide) (by decide)) k
          have e1 : Z19 168 (-1) = S 168 (-1) := (((congrFun (g20.2.2.1 168 (by decide) (by decide) (by decide)) (-1))).trans (((congrFun (g15.2.2.1 168 (by decide) (by decide) (by decide)) (-1))).trans ((congrFun (g10.2.2.1 168 (by decide) (by decide) (by decide)) (-1)))))
          have f1 : Z24 168 k = Z19 168 k := g25.2.1 k k0 (by rw [e1]; omega)
          have f2 : Z19 168 k = Z14 168 k := congrFun (g20.2.2.1 168 (by decide) (by decide) (by decide)) k
          have f3 : Z14 168 k = Z9 168 k := congrFun (g15.2.2.1 168 (by decide) (by decide) (by decide)) k
          have f4 : Z9 168 k = S 168 k := congrFun (g10.2.2.1 168 (by decide) (by decide) (by decide)) k
          rw [f0, f1, f2, f3, f4]
        have n5 : Z29 168 (-1) = (S 163 7) * 2 := (((congrFun (g30.2.2.1 168 (by decide) (by decide) (by decide)) (-1)).trans (g25.1)))
        have y6 : ∀ k : Int, 0 ≤ k → k < (S 163 7) → Z29 169 k = S 169 k := by
          intro k k0 k1
          have e0 : Z24 169 (-1) = S 169 (-1) := (((congrFun (g25.2.2.1 169 (by decide) (by decide) (by decide)) (-1))).trans (((congrFun (g20.2.2.1 169 (by decide) (by decide) (by decide)) (-1))).trans (((congrFun (g15.2.2.1 169 (by decide) (by decide) (by decide)) (-1))).trans ((congrFun (g10.2.2.1 169 (by decide) (by decide) (by decide)) (-1))))))
          have f0 : Z29 169 k = Z24 169 k := g30.2.1 k k0 (by rw [e0]; omega)
          have f1 : Z24 169 k = Z19 169 k := congrFun (g25.2.2.1 169 (by decide) (by decide) (by decide)) k
          have f2 : Z19 169 k = Z14 169 k := congrFun (g20.2.2.1 169 (by decide) (by decide) (by decide)) k
          have f3 : Z14 169 k = Z9 169 k := congrFun (g15.2.2.1 169 (by decide) (by decide) (by decide)) k
          have f4 : Z9 169 k = S 169 k := congrFun (g10.2.2.1 169 (by decide) (by decide) (by decide)) k
          rw [f0, f1, f2, f3, f4]
        have n6 : Z29 169 (-1) = (S 163 7) * 2 := (g30.1)
        have zI : wd_at Z29 163 64 := by
          have h := wd_cg (P2 := Z29 164) (ST2 := Z29 165) (SZ2 := Z29 166) (NX2 := Z29 167) (HD2 := Z29 173) (plen2 := Z29 164 (-1)) (cap2 := Z29 165 (-1)) hW (Int.le_of_eq (zz 164 (-1) (by decide) (by decide) (by omega)).symm) (by rw [n2]; show S 165 (-1) ≤ _; omega) (fun i _ _ => zz 164 i (by decide) (by decide) (by omega)) (fun k k0 k1 => ⟨y2 k k0 k1, y3 k k0 k1, y4 k k0 k1⟩) (fun x _ _ => zz 173 x (by decide) (by decide) (by omega))
          unfold wd_at; rw [show Z29 163 1 = S 163 1 from zz 163 1 (by decide) (by decide) (by omega), show Z29 163 7 = S 163 7 from zz 163 7 (by decide) (by decide) (by omega)]; exact h
        have e1 : Z29 163 1 = S 163 1 := zz 163 1 (by decide) (by decide) (by omega)
        have e7 : Z29 163 7 = S 163 7 := zz 163 7 (by decide) (by decide) (by omega)
        have el : Z29 164 (-1) = S 164 (-1) := zz 164 (-1) (by decide) (by decide) (by omega)
        have eb : Z29 1 = S 1 := funext fun i => zz 1 i (by decide) (by decide) (by omega)
        have ep : Z29 164 = S 164 := funext fun i => zz 164 i (by decide) (by decide) (by omega)
        have eh : Z29 173 = S 173 := funext fun i => zz 173 i (by decide) (by decide) (by omega)
        have zL : wd_L Z29 163 64 := ⟨(congrFun eh (-1)).trans l10, n3.trans n2.symm, n4.trans n2.symm, n5.trans n2.symm, n6.trans n2.symm, by rw [show Z29 (163 + 2) (-1) = (S 163 7) * 2 from n2]; omega, by rw [show Z29 (163 + 1) (-1) = S 164 (-1) from el]; omega, by rw [show Z29 (163 + 2) (-1) = (S 163 7) * 2 from n2]; omega, by rw [show Z29 (163 + 1) (-1) = S 164 (-1) from el]; omega⟩
        refine wJ_mono (wJ_S (wf3_163_1 (S := Z29) gi31 zL ⟨by omega, by omega, by omega, by omega⟩ hn (by rw [eb]; exact ha) ⟨by omega, by omega, by omega⟩) ⟨rfl, rfl, rfl, rfl, by rw [e7]; rfl, trivial⟩) (fun o Z hz => ?_)
        obtain ⟨ho, hz⟩ := hz
        rw [e7] at ho
        have hno2 : ∀ k : Int, 0 ≤ k → k < Z29 163 7 → ¬ wq (Z29 164) (Z29 165) (Z29 166) (Z29 1) a0 n k := by
          intro k k0 k1 hk
          rw [e7] at k1
          rw [eb, ep] at hk
          exact hno k k0 k1 ⟨by rw [← y3 k k0 k1]; exact hk.1, fun i hi => by rw [← y2 k k0 k1]; exact hk.2 i hi⟩
        have hzI := wn_I (b := 1) (by omega) zI hz hn hno2
        refine Or.inr ⟨ho, hno, ?_, hzI⟩
        obtain ⟨⟨a1, a2⟩, a3, ⟨a4, a5, a6, a7, a8⟩, ⟨a9, a10⟩, a11, a12, a13, ⟨a14, a15, a16, a17, a18, a19⟩, a20, a21, a22⟩ := hz
        rw [e1] at a1 a4 a11 a12 a20
        rw [e7] at a2 a3 a4 a5 a6 a7 a8 a9 a18 a19
        rw [eb] at a6 a9 a10 a12
        rw [show Z29 (163 + 10) = S 173 from eh] at a6 a10
        rw [show Z29 (163 + 1) = S 164 from ep] at a11 a20
        refine ⟨⟨a1, a2⟩, fun k k0 k1 => ?_, ⟨a4, a5, a6, a7, a8⟩, ⟨a9, a10⟩, a11, a12, fun j i j0 j1 j2 => (a13 j i j0 j1 j2).trans (zz j i j0 j1 (by omega)), ⟨a14, a15, a16, a17, a18, ?_⟩, a20, a21, rmR_tr rm32 a22⟩
        · obtain ⟨b1, b2, b3, b4, b5⟩ := a3 k k0 k1
          exact ⟨b1.trans (y2 k k0 k1), b2.trans (y3 k k0 k1), b3.trans (y4 k k0 k1), b4.trans (y5 k k0 k1), b5.trans (y6 k k0 k1)⟩
        · rw [show Z29 (163 + 2) (-1) = (S 163 7) * 2 from n2] at a19
          refine Or.inr ⟨by show (S 163 7) = S 165 (-1); omega, by omega⟩
    · skip
      exact absurd c4 (by omega)
end W9b
