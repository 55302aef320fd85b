/-! PART od: the room that 512 calls use. -/
section Wod
variable {xs : List (Nat × List Int32)} {S : wS}
theorem tp_po : ∀ c : Nat, (1 : Int) ≤ 2 ^ c
  | 0 => by decide
  | c + 1 => by
    have h := tp_po c
    rw [Int.pow_succ]
    omega
theorem tp_mo {a : Nat} : ∀ c : Nat, (2 : Int) ^ a ≤ 2 ^ (a + c)
  | 0 => Int.le_refl _
  | c + 1 => by
    have h1 := tp_mo (a := a) c
    have h2 := tp_po (a + c)
    rw [show a + (c + 1) = (a + c) + 1 from rfl, Int.pow_succ]
    omega
/-- a row that only doubles is at most the last doubling below a bound -/
theorem ex_le {v L : Int} {k : Nat} (k0 : Nat) (hv : v = L * 2 ^ k) (hL : 0 ≤ L) (hb : v < L * 2 ^ (k0 + 1)) : v ≤ L * 2 ^ k0 := by
  rcases Nat.lt_or_ge k0 k with e | e
  · exfalso
    obtain ⟨c, rfl⟩ := Nat.exists_eq_add_of_le (show k0 + 1 ≤ k from e)
    have h2 := Int.mul_le_mul_of_nonneg_left (tp_mo (a := k0 + 1) c) hL
    rw [← hv] at h2
    omega
  · obtain ⟨c, rfl⟩ := Nat.exists_eq_add_of_le e
    rw [hv]
    exact Int.mul_le_mul_of_nonneg_left (tp_mo (a := k) c) hL
theorem ex_c (h : rX SLZ S) {a L : Nat} {c : Int} (k0 : Nat) (hq : (a, L) ∈ gxl) (hs : SLZ a (-1) = (L : Int)) (e1 : (L : Int) * 2 ^ (k0 + 1) = 2 * c) (e2 : (L : Int) * 2 ^ k0 = c) (hb : S a (-1) < 2 * c) : S a (-1) ≤ c := by
  obtain ⟨k, hk⟩ := h.1 (a, L) hq
  rw [← e2]
  exact ex_le k0 (by rw [← hs]; exact hk) (by omega) (by rw [e1]; exact hb)
/-- how long each row can become that grows -/
def capL : List (Nat × Int) := [(1, 8192), (3, 524288), (4, 16384), (5, 16384), (6, 16384), (7, 16384), (8, 16384), (9, 8192), (10, 8192), (15, 8192), (16, 8192), (17, 8192), (31, 16640), (32, 16640), (33, 16640), (35, 4096), (36, 4096), (37, 4096), (38, 4096), (39, 4096), (40, 4096), (41, 4096), (42, 4096), (43, 4096), (44, 4096), (45, 4096), (46, 4096), (48, 16384), (49, 16384), (50, 16384), (51, 16384), (52, 16384), (53, 16384), (54, 16384), (55, 16384), (56, 16384), (57, 16384), (58, 4096), (59, 4096), (64, 8192), (65, 8192), (66, 8192), (67, 8192), (69, 8192), (70, 8192), (75, 16384), (76, 8192), (77, 8192), (78, 8192), (79, 8192), (80, 8192), (117, 1024), (118, 1024), (120, 512), (121, 2048), (122, 2048), (123, 2048), (124, 2048), (127, 8192), (128, 8192), (129, 8192), (130, 8192), (131, 8192), (132, 8192), (133, 8192), (134, 8192), (135, 8192), (136, 8192), (138, 8192), (139, 8192), (141, 480400), (142, 480400), (144, 4096), (145, 4096), (146, 4096), (147, 4096), (148, 4096), (151, 131072), (152, 131072), (154, 4096), (155, 4096), (164, 16384), (165, 8192), (166, 8192), (167, 8192), (168, 8192), (169, 8192), (206, 1024), (207, 1024), (209, 512), (210, 2048), (211, 2048), (212, 2048), (213, 2048), (217, 2048), (218, 2048), (225, 49152), (228, 2048), (229, 2048), (236, 49152)]
def oB (a : Nat) : Int := if capL.any (fun q => Nat.beq q.1 a) = true then gck a capL else SLZ a (-1)
def oS (B : Nat → Int) : List Nat → Int
  | [] => 0
  | a :: l => B a + oS B l
theorem gl_oS {B : Nat → Int} : ∀ l : List Nat, (∀ a ∈ l, S a (-1) ≤ B a) → gl_s S l ≤ oS B l
  | [], _ => Int.le_refl _
  | a :: l, h => by
    have h1 := h a (List.mem_cons_self)
    have h2 := gl_oS l (fun x hx => h x (List.mem_cons_of_mem _ hx))
    show S a (-1) + gl_s S l ≤ B a + oS B l
    omega
set_option maxRecDepth 40000 in
theorem oB_fix : ∀ a ∈ gl_l, capL.any (fun q => Nat.beq q.1 a) = false → gcap a ≤ SLZ a (-1) := by decide +kernel
set_option maxRecDepth 40000 in
theorem oB_cap : ∀ q ∈ capL, gck q.1 capL = q.2 := by decide +kernel
set_option maxRecDepth 40000 in
theorem oB_sum : oS oB gl_l = 2600904 := by decide +kernel
theorem oB_le (hx : rX SLZ S) (hc : ∀ q ∈ capL, S q.1 (-1) ≤ q.2) : ∀ a ∈ gl_l, S a (-1) ≤ oB a := by
  intro a ha
  unfold oB
  by_cases e : capL.any (fun q => Nat.beq q.1 a) = true
  · rw [if_pos e]
    obtain ⟨q, hq, he⟩ := List.any_eq_true.1 e
    have he2 : q.1 = a := Nat.eq_of_beq_eq_true he
    have h1 := hc q hq
    have h2 := oB_cap q hq
    rw [he2] at h1 h2
    rw [h2]
    exact h1
  · rw [if_neg e]
    have h1 := hx.2 a (gl_lt a ha)
    have h2 := oB_fix a ha (Bool.eq_false_iff.mpr e)
    omega
/-- rows of choices that are kept, of both hosts -/
def oCd (S : wS) : Prop := (S 120 (-1) ≤ 1023 ∧ S 121 (-1) ≤ 4095 ∧ S 122 (-1) = S 121 (-1) ∧ S 123 (-1) = S 121 (-1) ∧ S 124 (-1) = S 121 (-1)) ∧ S 209 (-1) ≤ 1023 ∧ S 210 (-1) ≤ 4095 ∧ S 211 (-1) = S 210 (-1) ∧ S 212 (-1) = S 210 (-1) ∧ S 213 (-1) = S 210 (-1)
theorem cap_all {N X : List (List Int)} {m : Nat} (hl : lC S) (hA : cW S) (hk : cK N X S) (hx : rX SLZ S) (hv9 : oTV m S) (hm : m ≤ 512) (hc : oCd S) : ∀ q ∈ capL, S q.1 (-1) ≤ q.2 := by
  obtain ⟨⟨⟨p0b, -, p0a⟩, -, t225⟩, ⟨⟨p1b, -, p1a⟩, -, t236⟩, ⟨⟨q139, -, s138⟩, q142, -, s141⟩, ⟨q127, -, s127⟩, ⟨-, s154, q155⟩, ⟨q144, -, s144⟩, ⟨q35, -, s35, q48, -, s48⟩, ⟨-, s151⟩, ⟨-, s152⟩, l3, l4⟩ := hl
  obtain ⟨-, -, hW2, hH7, hH16, ⟨r16, r17, -, r15⟩, -⟩ := hA
  obtain ⟨-, hwL, ⟨-, -, -, -, ⟨-, v9⟩, ⟨-, v10⟩, -⟩, -⟩ := hW2
  obtain ⟨-, w5, w6, w7, w8, -⟩ := hwL
  obtain ⟨hw7, -, ⟨t118, -, t117⟩, h7w, h7p⟩ := hH7
  obtain ⟨hw16, -, ⟨t207, -, t206⟩, h16w, h16p⟩ := hH16
  obtain ⟨-, ⟨-, h73, h74, h75, h76, -⟩, -⟩ := hw7
  obtain ⟨-, ⟨-, h163, h164, h165, h166, -⟩, -⟩ := hw16
  obtain ⟨-, ⟨⟨-, m65, m66, m67, -⟩, ⟨-, -, a70, -, a69⟩, n64⟩, -, ⟨k32, k33, -⟩, ⟨-, -, -, -, q59, ⟨-, -, s58⟩, -⟩, -⟩ := hk
  obtain ⟨⟨c120, c121, c122, c123, c124⟩, c209, c210, c211, c212, c213⟩ := hc
  have hV : (True ∧ True ∧ oTV m S) := ⟨trivial, trivial, hv9⟩
  replace h7w : S 76 (-1) ≤ 16383 := h7w
  replace h7p : S 75 (-1) ≤ 32767 := h7p
  replace h73 : S 77 (-1) = S 76 (-1) := h73
  replace h74 : S 78 (-1) = S 76 (-1) := h74
  replace h75 : S 79 (-1) = S 76 (-1) := h75
  replace h76 : S 80 (-1) = S 76 (-1) := h76
  replace h16w : S 165 (-1) ≤ 16383 := h16w
  replace h16p : S 164 (-1) ≤ 32767 := h16p
  replace h163 : S 166 (-1) = S 165 (-1) := h163
  replace h164 : S 167 (-1) = S 165 (-1) := h164
  replace h165 : S 168 (-1) = S 165 (-1) := h165
  replace h166 : S 169 (-1) = S 165 (-1) := h166
  replace w5 : S 5 (-1) = S 4 (-1) := w5
  replace w6 : S 6 (-1) = S 4 (-1) := w6
  replace w7 : S 7 (-1) = S 4 (-1) := w7
  replace w8 : S 8 (-1) = S 4 (-1) := w8
  replace v9 : S 9 (-1) ≤ 8192 := v9
  replace v10 : S 10 (-1) ≤ 8192 := v10
  have y1 : S 1 (-1) ≤ 8192 := ex_c hx (L := 256) 5 (by decide) (by decide +kernel) (by decide) (by decide) (by have := hV.2.2.1; omega)
  have y3 : S 3 (-1) ≤ 524288 := ex_c hx (L := 1024) 9 (by decide) (by decide +kernel) (by decide) (by decide) (by have := l3; omega)
  have y4 : S 4 (-1) ≤ 16384 := ex_c hx (L := 64) 8 (by decide) (by decide +kernel) (by decide) (by decide) (by have := l4; omega)
  have y9 : S 9 (-1) ≤ 8192 := ex_c hx (L := 64) 7 (by decide) (by decide +kernel) (by decide) (by decide) (by have := v9; omega)
  have y10 : S 10 (-1) ≤ 8192 := ex_c hx (L := 64) 7 (by decide) (by decide +kernel) (by decide) (by decide) (by have := v10; omega)
  have y15 : S 15 (-1) ≤ 8192 := ex_c hx (L := 64) 7 (by decide) (by decide +kernel) (by decide) (by decide) (by have := r15; omega)
  have y35 : S 35 (-1) ≤ 4096 := ex_c hx (L := 64) 6 (by decide) (by decide +kernel) (by decide) (by decide) (by have := s35; omega)
  have y48 : S 48 (-1) ≤ 16384 := ex_c hx (L := 64) 8 (by decide) (by decide +kernel) (by decide) (by decide) (by have := s48; omega)
  have y58 : S 58 (-1) ≤ 4096 := ex_c hx (L := 64) 6 (by decide) (by decide +kernel) (by decide) (by decide) (by have := s58; omega)
  have y64 : S 64 (-1) ≤ 8192 := ex_c hx (L := 256) 5 (by decide) (by decide +kernel) (by decide) (by decide) (by have := n64; omega)
  have y69 : S 69 (-1) ≤ 8192 := ex_c hx (L := 64) 7 (by decide) (by decide +kernel) (by decide) (by decide) (by have := a69; omega)
  have y75 : S 75 (-1) ≤ 16384 := ex_c hx (L := 1024) 4 (by decide) (by decide +kernel) (by decide) (by decide) (by have := h7p; omega)
  have y76 : S 76 (-1) ≤ 8192 := ex_c hx (L := 64) 7 (by decide) (by decide +kernel) (by decide) (by decide) (by have := h7w; omega)
  have y117 : S 117 (-1) ≤ 1024 := ex_c hx (L := 16) 6 (by decide) (by decide +kernel) (by decide) (by decide) (by have := t117; omega)
  have y120 : S 120 (-1) ≤ 512 := ex_c hx (L := 64) 3 (by decide) (by decide +kernel) (by decide) (by decide) (by have := c120; omega)
  have y121 : S 121 (-1) ≤ 2048 := ex_c hx (L := 64) 5 (by decide) (by decide +kernel) (by decide) (by decide) (by have := c121; omega)
  have y127 : S 127 (-1) ≤ 8192 := ex_c hx (L := 64) 7 (by decide) (by decide +kernel) (by decide) (by decide) (by have := s127; omega)
  have y138 : S 138 (-1) ≤ 8192 := ex_c hx (L := 64) 7 (by decide) (by decide +kernel) (by decide) (by decide) (by have := s138; omega)
  have y144 : S 144 (-1) ≤ 4096 := ex_c hx (L := 64) 6 (by decide) (by decide +kernel) (by decide) (by decide) (by have := s144; omega)
  have y152 : S 152 (-1) ≤ 131072 := ex_c hx (L := 256) 9 (by decide) (by decide +kernel) (by decide) (by decide) (by have := s152; omega)
  have y154 : S 154 (-1) ≤ 4096 := ex_c hx (L := 64) 6 (by decide) (by decide +kernel) (by decide) (by decide) (by have := s154; omega)
  have y164 : S 164 (-1) ≤ 16384 := ex_c hx (L := 1024) 4 (by decide) (by decide +kernel) (by decide) (by decide) (by have := h16p; omega)
  have y165 : S 165 (-1) ≤ 8192 := ex_c hx (L := 64) 7 (by decide) (by decide +kernel) (by decide) (by decide) (by have := h16w; omega)
  have y206 : S 206 (-1) ≤ 1024 := ex_c hx (L := 16) 6 (by decide) (by decide +kernel) (by decide) (by decide) (by have := t206; omega)
  have y209 : S 209 (-1) ≤ 512 := ex_c hx (L := 64) 3 (by decide) (by decide +kernel) (by decide) (by decide) (by have := c209; omega)
  have y210 : S 210 (-1) ≤ 2048 := ex_c hx (L := 64) 5 (by decide) (by decide +kernel) (by decide) (by decide) (by have := c210; omega)
  have y217 : S 217 (-1) ≤ 2048 := ex_c hx (L := 64) 5 (by decide) (by decide +kernel) (by decide) (by decide) (by have := p0a; omega)
  have y225 : S 225 (-1) ≤ 49152 := ex_c hx (L := 48) 10 (by decide) (by decide +kernel) (by decide) (by decide) (by have := t225; omega)
  have y228 : S 228 (-1) ≤ 2048 := ex_c hx (L := 64) 5 (by decide) (by decide +kernel) (by decide) (by decide) (by have := p1a; omega)
  have y236 : S 236 (-1) ≤ 49152 := ex_c hx (L := 48) 10 (by decide) (by decide +kernel) (by decide) (by decide) (by have := t236; omega)
  have y31 : S 31 (-1) ≤ 16640 := by have := hV.2.2.2.2; omega
  have y141 : S 141 (-1) ≤ 480400 := by have := s141; omega
  have y151 : S 151 (-1) ≤ 131072 := by have := s151; omega
  have y5 : S 5 (-1) ≤ 16384 := by
    have e : S 5 (-1) = S 4 (-1) := w5
    rw [e]; exact y4
  have y6 : S 6 (-1) ≤ 16384 := by
    have e : S 6 (-1) = S 4 (-1) := w6
    rw [e]; exact y4
  have y7 : S 7 (-1) ≤ 16384 := by
    have e : S 7 (-1) = S 4 (-1) := w7
    rw [e]; exact y4
  have y8 : S 8 (-1) ≤ 16384 := by
    have e : S 8 (-1) = S 4 (-1) := w8
    rw [e]; exact y4
  have y16 : S 16 (-1) ≤ 8192 := by
    have e : S 16 (-1) = S 15 (-1) := r16
    rw [e]; exact y15
  have y17 : S 17 (-1) ≤ 8192 := by
    have e : S 17 (-1) = S 15 (-1) := r17
    rw [e]; exact y15
  have y32 : S 32 (-1) ≤ 16640 := by
    have e : S 32 (-1) = S 31 (-1) := k32
    rw [e]; exact y31
  have y33 : S 33 (-1) ≤ 16640 := by
    have e : S 33 (-1) = S 31 (-1) := k33
    rw [e]; exact y31
  have y36 : S 36 (-1) ≤ 4096 := by
    have e : S 36 (-1) = S 35 (-1) := (by have := q35 1 (by decide); exact this)
    rw [e]; exact y35
  have y37 : S 37 (-1) ≤ 4096 := by
    have e : S 37 (-1) = S 35 (-1) := (by have := q35 2 (by decide); exact this)
    rw [e]; exact y35
  have y38 : S 38 (-1) ≤ 4096 := by
    have e : S 38 (-1) = S 35 (-1) := (by have := q35 3 (by decide); exact this)
    rw [e]; exact y35
  have y39 : S 39 (-1) ≤ 4096 := by
    have e : S 39 (-1) = S 35 (-1) := (by have := q35 4 (by decide); exact this)
    rw [e]; exact y35
  have y40 : S 40 (-1) ≤ 4096 := by
    have e : S 40 (-1) = S 35 (-1) := (by have := q35 5 (by decide); exact this)
    rw [e]; exact y35
  have y41 : S 41 (-1) ≤ 4096 := by
    have e : S 41 (-1) = S 35 (-1) := (by have := q35 6 (by decide); exact this)
    rw [e]; exact y35
  have y42 : S 42 (-1) ≤ 4096 := by
    have e : S 42 (-1) = S 35 (-1) := (by have := q35 7 (by decide); exact this)
    rw [e]; exact y35
  have y43 : S 43 (-1) ≤ 4096 := by
    have e : S 43 (-1) = S 35 (-1) := (by have := q35 8 (by decide); exact this)
    rw [e]; exact y35
  have y44 : S 44 (-1) ≤ 4096 := by
    have e : S 44 (-1) = S 35 (-1) := (by have := q35 9 (by decide); exact this)
    rw [e]; exact y35
  have y45 : S 45 (-1) ≤ 4096 := by
    have e : S 45 (-1) = S 35 (-1) := (by have := q35 10 (by decide); exact this)
    rw [e]; exact y35
  have y46 : S 46 (-1) ≤ 4096 := by
    have e : S 46 (-1) = S 35 (-1) := (by have := q35 11 (by decide); exact this)
    rw [e]; exact y35
  have y49 : S 49 (-1) ≤ 16384 := by
    have e : S 49 (-1) = S 48 (-1) := (by have := q48 1 (by decide); exact this)
    rw [e]; exact y48
  have y50 : S 50 (-1) ≤ 16384 := by
    have e : S 50 (-1) = S 48 (-1) := (by have := q48 2 (by decide); exact this)
    rw [e]; exact y48
  have y51 : S 51 (-1) ≤ 16384 := by
    have e : S 51 (-1) = S 48 (-1) := (by have := q48 3 (by decide); exact this)
    rw [e]; exact y48
  have y52 : S 52 (-1) ≤ 16384 := by
    have e : S 52 (-1) = S 48 (-1) := (by have := q48 4 (by decide); exact this)
    rw [e]; exact y48
  have y53 : S 53 (-1) ≤ 16384 := by
    have e : S 53 (-1) = S 48 (-1) := (by have := q48 5 (by decide); exact this)
    rw [e]; exact y48
  have y54 : S 54 (-1) ≤ 16384 := by
    have e : S 54 (-1) = S 48 (-1) := (by have := q48 6 (by decide); exact this)
    rw [e]; exact y48
  have y55 : S 55 (-1) ≤ 16384 := by
    have e : S 55 (-1) = S 48 (-1) := (by have := q48 7 (by decide); exact this)
    rw [e]; exact y48
  have y56 : S 56 (-1) ≤ 16384 := by
    have e : S 56 (-1) = S 48 (-1) := (by have := q48 8 (by decide); exact this)
    rw [e]; exact y48
  have y57 : S 57 (-1) ≤ 16384 := by
    have e : S 57 (-1) = S 48 (-1) := (by have := q48 9 (by decide); exact this)
    rw [e]; exact y48
  have y59 : S 59 (-1) ≤ 4096 := by
    have e : S 59 (-1) = S 58 (-1) := q59
    rw [e]; exact y58
  have y65 : S 65 (-1) ≤ 8192 := by
    have e : S 65 (-1) = S 64 (-1) := m65
    rw [e]; exact y64
  have y66 : S 66 (-1) ≤ 8192 := by
    have e : S 66 (-1) = S 64 (-1) := m66
    rw [e]; exact y64
  have y67 : S 67 (-1) ≤ 8192 := by
    have e : S 67 (-1) = S 64 (-1) := m67
    rw [e]; exact y64
  have y70 : S 70 (-1) ≤ 8192 := by
    have e : S 70 (-1) = S 69 (-1) := a70
    rw [e]; exact y69
  have y77 : S 77 (-1) ≤ 8192 := by
    have e : S 77 (-1) = S 76 (-1) := h73
    rw [e]; exact y76
  have y78 : S 78 (-1) ≤ 8192 := by
    have e : S 78 (-1) = S 76 (-1) := h74
    rw [e]; exact y76
  have y79 : S 79 (-1) ≤ 8192 := by
    have e : S 79 (-1) = S 76 (-1) := h75
    rw [e]; exact y76
  have y80 : S 80 (-1) ≤ 8192 := by
    have e : S 80 (-1) = S 76 (-1) := h76
    rw [e]; exact y76
  have y118 : S 118 (-1) ≤ 1024 := by
    have e : S 118 (-1) = S 117 (-1) := t118
    rw [e]; exact y117
  have y122 : S 122 (-1) ≤ 2048 := by
    have e : S 122 (-1) = S 121 (-1) := c122
    rw [e]; exact y121
  have y123 : S 123 (-1) ≤ 2048 := by
    have e : S 123 (-1) = S 121 (-1) := c123
    rw [e]; exact y121
  have y124 : S 124 (-1) ≤ 2048 := by
    have e : S 124 (-1) = S 121 (-1) := c124
    rw [e]; exact y121
  have y128 : S 128 (-1) ≤ 8192 := by
    have e : S 128 (-1) = S 127 (-1) := (by have := q127 1 (by decide); exact this)
    rw [e]; exact y127
  have y129 : S 129 (-1) ≤ 8192 := by
    have e : S 129 (-1) = S 127 (-1) := (by have := q127 2 (by decide); exact this)
    rw [e]; exact y127
  have y130 : S 130 (-1) ≤ 8192 := by
    have e : S 130 (-1) = S 127 (-1) := (by have := q127 3 (by decide); exact this)
    rw [e]; exact y127
  have y131 : S 131 (-1) ≤ 8192 := by
    have e : S 131 (-1) = S 127 (-1) := (by have := q127 4 (by decide); exact this)
    rw [e]; exact y127
  have y132 : S 132 (-1) ≤ 8192 := by
    have e : S 132 (-1) = S 127 (-1) := (by have := q127 5 (by decide); exact this)
    rw [e]; exact y127
  have y133 : S 133 (-1) ≤ 8192 := by
    have e : S 133 (-1) = S 127 (-1) := (by have := q127 6 (by decide); exact this)
    rw [e]; exact y127
  have y134 : S 134 (-1) ≤ 8192 := by
    have e : S 134 (-1) = S 127 (-1) := (by have := q127 7 (by decide); exact this)
    rw [e]; exact y127
  have y135 : S 135 (-1) ≤ 8192 := by
    have e : S 135 (-1) = S 127 (-1) := (by have := q127 8 (by decide); exact this)
    rw [e]; exact y127
  have y136 : S 136 (-1) ≤ 8192 := by
    have e : S 136 (-1) = S 127 (-1) := (by have := q127 9 (by decide); exact this)
    rw [e]; exact y127
  have y139 : S 139 (-1) ≤ 8192 := by
    have e : S 139 (-1) = S 138 (-1) := q139
    rw [e]; exact y138
  have y142 : S 142 (-1) ≤ 480400 := by
    have e : S 142 (-1) = S 141 (-1) := q142
    rw [e]; exact y141
  have y145 : S 145 (-1) ≤ 4096 := by
    have e : S 145 (-1) = S 144 (-1) := (by have := q144 1 (by decide); exact this)
    rw [e]; exact y144
  have y146 : S 146 (-1) ≤ 4096 := by
    have e : S 146 (-1) = S 144 (-1) := (by have := q144 2 (by decide); exact this)
    rw [e]; exact y144
  have y147 : S 147 (-1) ≤ 4096 := by
    have e : S 147 (-1) = S 144 (-1) := (by have := q144 3 (by decide); exact this)
    rw [e]; exact y144
  have y148 : S 148 (-1) ≤ 4096 := by
    have e : S 148 (-1) = S 144 (-1) := (by have := q144 4 (by decide); exact this)
    rw [e]; exact y144
  have y155 : S 155 (-1) ≤ 4096 := by
    have e : S 155 (-1) = S 154 (-1) := q155
    rw [e]; exact y154
  have y166 : S 166 (-1) ≤ 8192 := by
    have e : S 166 (-1) = S 165 (-1) := h163
    rw [e]; exact y165
  have y167 : S 167 (-1) ≤ 8192 := by
    have e : S 167 (-1) = S 165 (-1) := h164
    rw [e]; exact y165
  have y168 : S 168 (-1) ≤ 8192 := by
    have e : S 168 (-1) = S 165 (-1) := h165
    rw [e]; exact y165
  have y169 : S 169 (-1) ≤ 8192 := by
    have e : S 169 (-1) = S 165 (-1) := h166
    rw [e]; exact y165
  have y207 : S 207 (-1) ≤ 1024 := by
    have e : S 207 (-1) = S 206 (-1) := t207
    rw [e]; exact y206
  have y211 : S 211 (-1) ≤ 2048 := by
    have e : S 211 (-1) = S 210 (-1) := c211
    rw [e]; exact y210
  have y212 : S 212 (-1) ≤ 2048 := by
    have e : S 212 (-1) = S 210 (-1) := c212
    rw [e]; exact y210
  have y213 : S 213 (-1) ≤ 2048 := by
    have e : S 213 (-1) = S 210 (-1) := c213
    rw [e]; exact y210
  have y218 : S 218 (-1) ≤ 2048 := by
    have e : S 218 (-1) = S 217 (-1) := p0b
    rw [e]; exact y217
  have y229 : S 229 (-1) ≤ 2048 := by
    have e : S 229 (-1) = S 228 (-1) := p1b
    rw [e]; exact y228
  exact List.forall_mem_cons.2 ⟨y1, List.forall_mem_cons.2 ⟨y3, List.forall_mem_cons.2 ⟨y4, List.forall_mem_cons.2 ⟨y5, List.forall_mem_cons.2 ⟨y6, List.forall_mem_cons.2 ⟨y7, List.forall_mem_cons.2 ⟨y8, List.forall_mem_cons.2 ⟨y9, List.forall_mem_cons.2 ⟨y10, List.forall_mem_cons.2 ⟨y15, List.forall_mem_cons.2 ⟨y16, List.forall_mem_cons.2 ⟨y17, List.forall_mem_cons.2 ⟨y31, List.forall_mem_cons.2 ⟨y32, List.forall_mem_cons.2 ⟨y33, List.forall_mem_cons.2 ⟨y35, List.forall_mem_cons.2 ⟨y36, List.forall_mem_cons.2 ⟨y37, List.forall_mem_cons.2 ⟨y38, List.forall_mem_cons.2 ⟨y39, List.forall_mem_cons.2 ⟨y40, List.forall_mem_cons.2 ⟨y41, List.forall_mem_cons.2 ⟨y42, List.forall_mem_cons.2 ⟨y43, List.forall_mem_cons.2 ⟨y44, List.forall_mem_cons.2 ⟨y45, List.forall_mem_cons.2 ⟨y46, List.forall_mem_cons.2 ⟨y48, List.forall_mem_cons.2 ⟨y49, List.forall_mem_cons.2 ⟨y50, List.forall_mem_cons.2 ⟨y51, List.forall_mem_cons.2 ⟨y52, List.forall_mem_cons.2 ⟨y53, List.forall_mem_cons.2 ⟨y54, List.forall_mem_cons.2 ⟨y55, List.forall_mem_cons.2 ⟨y56, List.forall_mem_cons.2 ⟨y57, List.forall_mem_cons.2 ⟨y58, List.forall_mem_cons.2 ⟨y59, List.forall_mem_cons.2 ⟨y64, List.forall_mem_cons.2 ⟨y65, List.forall_mem_cons.2 ⟨y66, List.forall_mem_cons.2 ⟨y67, List.forall_mem_cons.2 ⟨y69, List.forall_mem_cons.2 ⟨y70, List.forall_mem_cons.2 ⟨y75, List.forall_mem_cons.2 ⟨y76, List.forall_mem_cons.2 ⟨y77, List.forall_mem_cons.2 ⟨y78, List.forall_mem_cons.2 ⟨y79, List.forall_mem_cons.2 ⟨y80, List.forall_mem_cons.2 ⟨y117, List.forall_mem_cons.2 ⟨y118, List.forall_mem_cons.2 ⟨y120, List.forall_mem_cons.2 ⟨y121, List.forall_mem_cons.2 ⟨y122, List.forall_mem_cons.2 ⟨y123, List.forall_mem_cons.2 ⟨y124, List.forall_mem_cons.2 ⟨y127, List.forall_mem_cons.2 ⟨y128, List.forall_mem_cons.2 ⟨y129, List.forall_mem_cons.2 ⟨y130, List.forall_mem_cons.2 ⟨y131, List.forall_mem_cons.2 ⟨y132, List.forall_mem_cons.2 ⟨y133, List.forall_mem_cons.2 ⟨y134, List.forall_mem_cons.2 ⟨y135, List.forall_mem_cons.2 ⟨y136, List.forall_mem_cons.2 ⟨y138, List.forall_mem_cons.2 ⟨y139, List.forall_mem_cons.2 ⟨y141, List.forall_mem_cons.2 ⟨y142, List.forall_mem_cons.2 ⟨y144, List.forall_mem_cons.2 ⟨y145, List.forall_mem_cons.2 ⟨y146, List.forall_mem_cons.2 ⟨y147, List.forall_mem_cons.2 ⟨y148, List.forall_mem_cons.2 ⟨y151, List.forall_mem_cons.2 ⟨y152, List.forall_mem_cons.2 ⟨y154, List.forall_mem_cons.2 ⟨y155, List.forall_mem_cons.2 ⟨y164, List.forall_mem_cons.2 ⟨y165, List.forall_mem_cons.2 ⟨y166, List.forall_mem_cons.2 ⟨y167, List.forall_mem_cons.2 ⟨y168, List.forall_mem_cons.2 ⟨y169, List.forall_mem_cons.2 ⟨y206, List.forall_mem_cons.2 ⟨y207, List.forall_mem_cons.2 ⟨y209, List.forall_mem_cons.2 ⟨y210, List.forall_mem_cons.2 ⟨y211, List.forall_mem_cons.2 ⟨y212, List.forall_mem_cons.2 ⟨y213, List.forall_mem_cons.2 ⟨y217, List.forall_mem_cons.2 ⟨y218, List.forall_mem_cons.2 ⟨y225, List.forall_mem_cons.2 ⟨y228, List.forall_mem_cons.2 ⟨y229, List.forall_mem_cons.2 ⟨y236, (fun _ h => absurd h List.not_mem_nil)⟩⟩⟩⟩⟩⟩⟩⟩⟩⟩⟩⟩⟩⟩⟩⟩⟩⟩⟩⟩⟩⟩⟩⟩⟩⟩⟩⟩⟩⟩⟩⟩⟩⟩⟩⟩⟩⟩⟩⟩⟩⟩⟩⟩⟩⟩⟩⟩⟩⟩⟩⟩⟩⟩⟩⟩⟩⟩⟩⟩⟩⟩⟩⟩⟩⟩⟩⟩⟩⟩⟩⟩⟩⟩⟩⟩⟩⟩⟩⟩⟩⟩⟩⟩⟩⟩⟩⟩⟩⟩⟩⟩⟩⟩⟩⟩⟩⟩⟩⟩
theorem phi_ge (o : Nat) (S : wS) : -8192 ≤ phi o S := by
  unfold phi
  split <;> omega
theorem phi_g0 {o : Nat} (S : wS) (h : 2000000 ≤ o) : 0 ≤ phi o S := by
  unfold phi
  rw [if_neg (by omega)]
  omega
theorem phs_ge (S : wS) : ∀ k : Nat, 0 ≤ phs S k
  | 0 => Int.le_refl _
  | k + 1 => by
    have h1 := phs_ge S k
    have h2 : 0 ≤ phP k S := by
      unfold phP
      have a1 := phi_g0 (o := nP k + 2) S (by unfold nP; omega)
      have a2 := phi_g0 (o := nP k + 3) S (by unfold nP; omega)
      have a3 := phi_g0 (o := nP k + 4) S (by unfold nP; omega)
      omega
    show 0 ≤ phs S k + phP k S
    omega
theorem phA_ge {pm : Nat} (h : pm ≤ 400) : -24576 ≤ phA pm S := by
  unfold phA
  have a0 := phs_ge S pm
  have a1 := phi_ge 287 S
  have a2 := phi_ge 289 S
  have a3 := phi_ge 291 S
  omega
/-- THE ROOM -/
theorem room_ok : roomB := by
  intro xs m S hm h
  obtain ⟨p, q, b, b2, pm, X, HT, nt, cs, ms, os, mo, fa, A, hp, hA, ⟨⟨k1, ⟨k2, k3, k4, k5⟩, k6⟩, k7⟩, ⟨hC, hr⟩, hw, hT, hX, hv, hV, ho, -⟩ := h
  have h01 := hA.1.2.2.2.2.2.2.2.1.1
  have hq := ho.2
  have hch := hC.2.2.2.2.2.2.1.1
  have hc : oCd S := by
    obtain ⟨⟨K, hK, -⟩, -, -, -, -, hcd, -⟩ := hch
    obtain ⟨-, -, -, ⟨j1, j2, j3, -⟩, -, j4, -⟩ := hK
    obtain ⟨⟨-, i1⟩, ⟨i2, i3, i4, -⟩, -, i5⟩ := hq
    rcases hp with ⟨rfl, rfl, -⟩ | ⟨rfl, rfl, -⟩
    · exact ⟨⟨hcd.2, j4, j1, j2, j3⟩, i1, i5, i2, i3, i4⟩
    · exact ⟨⟨i1, i5, i2, i3, i4⟩, hcd.2, j4, j1, j2, j3⟩
  have hg := gl_oS gl_l (oB_le hV.2.1 (cap_all (lC_of hC) hA.1 k1 hV.2.1 hV.2.2 hm hc))
  rw [oB_sum] at hg
  replace hg : gl S ≤ 2600904 := hg
  have hph := phA_ge (S := S) (pm := pm) k4.2.1
  have a1 := hV.1.1
  have a2 := hV.1.2
  unfold rC0 at a1
  unfold rC1 at a2
  have b1 := room_ge_s
  have b2 := room_ge_c
  constructor <;> omega
/-- THE CLAIM -/
theorem i_vc : Claimed_1_1 ∧ Claimed_1_2 := i_vc_of room_ok
end Wod
