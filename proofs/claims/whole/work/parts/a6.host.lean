/-! PART a6: what holds of the tables while classes are read. -/
section Wa6
variable {xs : List (Nat × List Int32)} {M : Nat → Prop} {d : Nat} {A B C S Z : wS} {Q : wO → wS → Prop} {T : Int → Int} {n : Int} {c i : Nat}
theorem od_pt {o6 oo ob : Nat} {k : Int} {l : List Int} (h : od_1 o6 oo ob S k l) (h6 : Z o6 k = S o6 k) (ho : ∀ x : Int, 60 * k ≤ x → x < 60 * k + 60 → Z oo x = S oo x) (hb : Z ob k = S ob k) : od_1 o6 oo ob Z k l := by
  obtain ⟨a1, a2, a3, a4⟩ := h
  have hl := su_nd_len (by omega) a2
  exact ⟨h6.trans a1, a2, fun q hq => (ho _ (by omega) (by omega)).trans (a3 q hq), fun x hx => by rw [hb]; exact a4 x hx⟩
theorem hq_2 {b : Nat} {cs : List hCR} {k : Int} (k0 : 0 ≤ k) (k1 : k < (cs.length : Int)) : hq_cn A b cs (b + 2) k = (cs.getD k.toNat hq_0).1 := by
  unfold hq_cn
  rw [if_neg (by omega), if_pos ⟨k0, k1⟩, if_pos rfl]
theorem hq_9 {b : Nat} {cs : List hCR} {k : Int} (k0 : 0 ≤ k) (k1 : k < (cs.length : Int)) : hq_cn A b cs (b + 9) k = (cs.getD k.toNat hq_0).2.1 := by
  unfold hq_cn
  rw [if_neg (by omega), if_pos ⟨k0, k1⟩, if_neg (by omega), if_neg (by omega), if_neg (by omega), if_pos rfl]
theorem hq_10 {b : Nat} {cs : List hCR} {k : Int} (k0 : 0 ≤ k) (k1 : k < (cs.length : Int)) : hq_cn A b cs (b + 10) k = (cs.getD k.toNat hq_0).2.2.1 := by
  unfold hq_cn
  rw [if_neg (by omega), if_pos ⟨k0, k1⟩, if_neg (by omega), if_neg (by omega), if_neg (by omega), if_neg (by omega), if_pos rfl]
theorem hq_new {b : Nat} {cs : List hCR} {r : hCR} : hq_cn A b (cs ++ [r]) b 1 = (cs.length : Int) + 1 ∧ (∀ k : Int, 0 ≤ k → k < (cs.length : Int) → hq_cn A b (cs ++ [r]) (b + 2) k = hq_cn A b cs (b + 2) k ∧ hq_cn A b (cs ++ [r]) (b + 9) k = hq_cn A b cs (b + 9) k ∧ hq_cn A b (cs ++ [r]) (b + 10) k = hq_cn A b cs (b + 10) k) ∧ hq_cn A b (cs ++ [r]) (b + 2) (cs.length : Int) = r.1 ∧ hq_cn A b (cs ++ [r]) (b + 9) (cs.length : Int) = r.2.1 ∧ hq_cn A b (cs ++ [r]) (b + 10) (cs.length : Int) = r.2.2.1 := by
  have hl : (cs ++ [r]).length = cs.length + 1 := by rw [List.length_append]; rfl
  have hlt : ∀ k : Int, 0 ≤ k → k < (cs.length : Int) → (cs ++ [r]).getD k.toNat hq_0 = cs.getD k.toNat hq_0 := fun k k0 k1 => by rw [List.getD_eq_getElem?_getD, List.getD_eq_getElem?_getD, List.getElem?_append_left (by omega)]
  have heq : (cs ++ [r]).getD (cs.length : Int).toNat hq_0 = r := by rw [Int.toNat_natCast, List.getD_eq_getElem?_getD, List.getElem?_append_right (Nat.le_refl _), Nat.sub_self]; rfl
  refine ⟨?_, fun k k0 k1 => ?_, ?_, ?_, ?_⟩
  · unfold hq_cn; rw [if_pos ⟨rfl, rfl⟩, hl]; omega
  · have hk2 : k < ((cs ++ [r]).length : Int) := by rw [hl]; omega
    rw [hq_2 k0 hk2, hq_2 k0 k1, hq_9 k0 hk2, hq_9 k0 k1, hq_10 k0 hk2, hq_10 k0 k1, hlt k k0 k1]
    exact ⟨rfl, rfl, rfl⟩
  · unfold hq_cn
    rw [if_neg (by omega), hl, if_pos ⟨by omega, by omega⟩, if_pos rfl, heq]
  · unfold hq_cn
    rw [if_neg (by omega), hl, if_pos ⟨by omega, by omega⟩, if_neg (by omega), if_neg (by omega), if_neg (by omega), if_pos rfl, heq]
  · unfold hq_cn
    rw [if_neg (by omega), hl, if_pos ⟨by omega, by omega⟩, if_neg (by omega), if_neg (by omega), if_neg (by omega), if_neg (by omega), if_pos rfl, heq]
/-- the rows of a class -/
def tr_at (t0 : Nat) (S : wS) (k : Int) (r : hCR) : Prop := S t0 k = r.1 ∧ S (t0 + 1) k = r.2.2.2.1 ∧ S (t0 + 2) k = (r.2.2.2.2.1.length : Int) ∧ S (t0 + 3) k = r.2.2.2.2.2.2.2 ∧ S (t0 + 4) k = r.2.2.2.2.2.2.1
theorem hq_o {b j : Nat} {cs : List hCR} (h : j < b) : hq_cn A b cs j = A j := by
  funext i
  unfold hq_cn
  rw [if_neg (by omega)]
  split
  · rw [if_neg (by omega), if_neg (by omega), if_neg (by omega), if_neg (by omega), if_neg (by omega)]
  · rfl
theorem cS_apps (l k : List hMR) : cS (l ++ k) = cS l + cS k := by
  induction l with
  | nil => show cS k = 0 + cS k; omega
  | cons g l ih => show (if g.2.1 = 0 ∧ g.2.2.1 = 1 then (1 : Int) else 0) + cS (l ++ k) = ((if g.2.1 = 0 ∧ g.2.2.1 = 1 then (1 : Int) else 0) + cS l) + cS k; rw [ih]; omega
/-- what holds of the tables, when the classes cs and the members ms have been read -/
def JT_73 (A : wS) (T : Int → Int) (n : Int) (c : Nat) (cs : List hCR) (ms : List hMR) (os : Int → List Int) (S : wS) : Prop := hx_I 241 73 87 92 74 T n c (hq_cn A 241 cs) S ∧ tb_I 87 116 117 118 74 S (cs.length : Int) (ms.length : Int) ∧ (∀ q : Int, 0 ≤ q → q < (cs.length : Int) → od_1 93 114 115 S q (os q)) ∧ mr_all 97 74 T S ms ∧ S 73 4 = (ms.length : Int) ∧ (∀ (k : Nat) (r : hCR), cs[k]? = some r → tr_at 87 S (k : Int) r) ∧ (∀ r ∈ ms, mo_I r) ∧ S 116 2 = cS ms
theorem JT_u_73 {cs : List hCR} {ms : List hMR} {os : Int → List Int} {x : Int} (h : JT_73 A T n c cs ms os S) : JT_73 A T n c cs ms os (w_up S 14 4 x) := by
  obtain ⟨h1, h2, h3, h4, h5, h6, h7, h8⟩ := h
  exact ⟨hx_up h1 (by unfold hx_o; omega), h2, h3, mr_all_up h4 (by omega) (by omega), h5, h6, h7, h8⟩
theorem JT_s_73 {cs : List hCR} {ms : List hMR} {os : Int → List Int} {itf : Int} {S3 : wS} {a al : Int} {l : List Int} {Zo : wS} {i2 : Nat} {ms2 : List hMR} {Zm Z1 Zf : wS} (hj : JT_73 A T n c cs ms os S) (hP : cx_P T n c i S) (hit : itf = 0 ∨ itf = 1) (hrs : ∃ rs : List hMR, ms2 = ms ++ rs ∧ ∀ r ∈ rs, mo_I r ∧ r.1 = (cs.length : Int)) : rc_n_241 (hq_cn A 241 cs) (cs.length : Int) ms itf (tp T n 1 (i)) = .inr (tp T n 1 (i2 + 1), (itf, (tp T n 1 (i)), zq (hq_cn A 241 cs) (tp T n 1 (i)) 237 8, a, l, al, (ms.length : Int), (ms2.length : Int) - (ms.length : Int)), ms2) → (∀ j : Nat, j ≠ 14 → j ≠ 61 → j ≠ 62 → S3 j = S j) → ((∀ y : Int, y ≠ 4 → S3 14 y = S 14 y) ∧ (∀ y : Int, y ≠ 4 → S3 61 y = S 61 y) ∧ ∀ y : Int, y < 0 → S3 62 y = S 62 y) → su_nd (cs.length : Int) l → (-1 ≤ a ∧ a < (cs.length : Int)) → oz_ag 93 114 115 (cs.length : Int) (w_up (w_up (w_up (w_up (w_up (w_up (w_up S3 87 (cs.length : Int) itf) 88 (cs.length : Int) a) 90 (cs.length : Int) 0) 91 (cs.length : Int) (ms.length : Int)) 92 (cs.length : Int) (S 17 ((i : Nat) : Int))) 73 2 ((cs.length : Int) + 1)) 89 (cs.length : Int) (l.length : Int)) Zo → od_1 93 114 115 Zo (cs.length : Int) (so_L ((w_up (w_up (w_up (w_up (w_up (w_up S3 87 (cs.length : Int) itf) 88 (cs.length : Int) a) 90 (cs.length : Int) 0) 91 (cs.length : Int) (ms.length : Int)) 92 (cs.length : Int) (S 17 ((i : Nat) : Int))) 73 2 ((cs.length : Int) + 1)) 87) ((w_up (w_up (w_up (w_up (w_up (w_up S3 87 (cs.length : Int) itf) 88 (cs.length : Int) a) 90 (cs.length : Int) 0) 91 (cs.length : Int) (ms.length : Int)) 92 (cs.length : Int) (S 17 ((i : Nat) : Int))) 73 2 ((cs.length : Int) + 1)) 88) os (cs.length : Int) l) → kg T n (tp T n 1 i2) = 13 → mz_ag 97 73 87 (cs.length : Int) (ms.length : Int) Zo Zm → hx_I 241 73 87 92 74 T n c (w_up (w_up (w_up (w_up (w_up (w_up (w_up (w_up (w_up (hq_cn A 241 cs) 243 (cs.length : Int) itf) 250 (cs.length : Int) (tp T n 1 (i))) 251 (cs.length : Int) (zq (hq_cn A 241 cs) (tp T n 1 (i)) 237 8)) 244 (cs.length : Int) (-1)) 245 (cs.length : Int) 0) 247 (cs.length : Int) (wb_lshl 1 (cs.length : Int))) 248 (cs.length : Int) ((hq_cn A 241 cs) 241 11)) 249 (cs.length : Int) 0) 241 1 ((cs.length : Int) + 1)) Zm → cx_P T n c i2 Zm → mr_all 97 74 T Zm ms2 → Zm 73 4 = (ms2.length : Int) → ms.length ≤ ms2.length → Zm 90 (cs.length : Int) = (ms2.length : Int) - (ms.length : Int) → le_I 97 87 116 117 118 119 (ms.length : Int) (cs.length : Int) (S3 116 2) (if a = -1 then 0 else S3 94 a) (if a = -1 then -1 else S3 95 a) (ms2.drop ms.length) (w_up (w_up (w_up Zm 14 4 ((i2 + 1 : Nat) : Int)) 94 (cs.length : Int) (if a = -1 then 0 else S3 94 a)) 95 (cs.length : Int) (if a = -1 then -1 else S3 95 a)) Z1 (ms2.drop ms.length).length → l2_I 97 87 74 119 (ms.length : Int) (ms2.drop ms.length) Z1 Zf (ms2.drop ms.length).length → JT_73 A T n c (cs ++ [(itf, (tp T n 1 (i)), zq (hq_cn A 241 cs) (tp T n 1 (i)) 237 8, a, l, al, (ms.length : Int), (ms2.length : Int) - (ms.length : Int))]) ms2 (fun q => if q = (cs.length : Int) then (so_L ((w_up (w_up (w_up (w_up (w_up (w_up S3 87 (cs.length : Int) itf) 88 (cs.length : Int) a) 90 (cs.length : Int) 0) 91 (cs.length : Int) (ms.length : Int)) 92 (cs.length : Int) (S 17 ((i : Nat) : Int))) 73 2 ((cs.length : Int) + 1)) 87) ((w_up (w_up (w_up (w_up (w_up (w_up S3 87 (cs.length : Int) itf) 88 (cs.length : Int) a) 90 (cs.length : Int) 0) 91 (cs.length : Int) (ms.length : Int)) 92 (cs.length : Int) (S 17 ((i : Nat) : Int))) 73 2 ((cs.length : Int) + 1)) 88) os (cs.length : Int) l) else os q) Zf := by
  intro y1 y2 y3 y4 y5 y6 y7 y8 y9 y10 y11 y12 y13 y14 y15 y16 y17
  obtain ⟨h1, h2, h3, h4, h5, h6, h7, h8⟩ := hj
  obtain ⟨rs, er1, er2⟩ := hrs
  have hdr : ms2.drop ms.length = rs := by rw [er1, List.drop_append_of_le_length (Nat.le_refl _), List.drop_length, List.nil_append]
  rw [hdr] at y16 y17
  have hrl : (rs.length : Int) = (ms2.length : Int) - (ms.length : Int) := by rw [er1, List.length_append]; omega
  have h400 := y12.1
  have zf : ∀ (j : Nat) (y : Int), j < 4000000 → j ≠ wG → (j ≠ 14 ∨ y ≠ 4) → j ≠ 117 → j ≠ 118 → (j ≠ 116 ∨ y ≠ 2) → ((j ≠ 112 ∧ j ≠ 113) ∨ y < (ms.length : Int)) → ((j ≠ 94 ∧ j ≠ 95) ∨ y ≠ (cs.length : Int)) → (j ≠ 119 ∨ y < 0) → Zf j y = Zm j y := fun j y e1 e2 e3 e4 e5 e6 e7 e8 e9 => (y17.1 j y e9 (by omega)).trans ((y16.1.1 j y e1 e2 e4 e5 e6 e7 e8 e9).trans ((w_up_no (by omega)).trans ((w_up_no (by omega)).trans (w_up_no (by omega)))))
  have zo : ∀ (j : Nat) (y : Int), (j ≠ 14 ∧ j ≠ 61 ∧ j ≠ 62) → (j < 87 ∨ 93 < j ∨ y ≠ (cs.length : Int)) → (j ≠ 73 ∨ y ≠ 2) → (j ≠ 114 ∨ y < 60 * (cs.length : Int) ∨ 60 * (cs.length : Int) + 60 ≤ y) → (j ≠ 115 ∨ y ≠ (cs.length : Int)) → Zo j y = S j y := fun j y e1 e2 e3 e4 e5 => (y6 j y (by omega) (by omega) (by omega)).trans ((w_up_no (by omega)).trans ((w_up_no (by omega)).trans ((w_up_no (by omega)).trans ((w_up_no (by omega)).trans ((w_up_no (by omega)).trans ((w_up_no (by omega)).trans ((w_up_no (by omega)).trans (congrFun (y2 j e1.1 e1.2.1 e1.2.2) y))))))))
  have zs : ∀ (j : Nat) (y : Int), j < 4000000 → j ≠ wG → (j ≠ 14 ∧ j ≠ 61 ∧ j ≠ 62) → (j < 87 ∨ 95 < j ∨ y ≠ (cs.length : Int)) → (j ≠ 73 ∨ (y ≠ 2 ∧ y ≠ 4)) → (j ≠ 114 ∨ y < 60 * (cs.length : Int) ∨ 60 * (cs.length : Int) + 60 ≤ y) → (j ≠ 115 ∨ y ≠ (cs.length : Int)) → (j < 97 ∨ 113 < j ∨ y < (ms.length : Int)) → j ≠ 117 → j ≠ 118 → (j ≠ 116 ∨ y ≠ 2) → (j ≠ 119 ∨ y < 0) → Zf j y = S j y := fun j y e1 e2 e3 e4 e5 e6 e7 e8 e9 e10 e11 e12 => (zf j y e1 e2 (by omega) e9 e10 e11 (by omega) (by omega) e12).trans ((y9 j y (by omega) (by omega) (by omega) (by omega)).trans (zo j y e3 (by omega) (by omega) e6 e7))
  have hl9 : (cs ++ [(itf, (tp T n 1 (i)), zq (hq_cn A 241 cs) (tp T n 1 (i)) 237 8, a, l, al, (ms.length : Int), (ms2.length : Int) - (ms.length : Int))]).length = cs.length + 1 := by rw [List.length_append]; rfl
  have zo1 : Zo 88 (cs.length : Int) = a := (y6 88 _ (by omega) (by omega) (by omega)).trans ((w_up_slot (by decide)).trans ((w_up_slot (by decide)).trans ((w_up_slot (by decide)).trans ((w_up_slot (by decide)).trans ((w_up_slot (by decide)).trans (w_up_same _ _ _ _))))))
  have zo0 : Zo 87 (cs.length : Int) = itf := (y6 87 _ (by omega) (by omega) (by omega)).trans ((w_up_slot (by decide)).trans ((w_up_slot (by decide)).trans ((w_up_slot (by decide)).trans ((w_up_slot (by decide)).trans ((w_up_slot (by decide)).trans ((w_up_slot (by decide)).trans (w_up_same _ _ _ _)))))))
  have zo4 : Zo 91 (cs.length : Int) = (ms.length : Int) := (y6 91 _ (by omega) (by omega) (by omega)).trans ((w_up_slot (by decide)).trans ((w_up_slot (by decide)).trans ((w_up_slot (by decide)).trans (w_up_same _ _ _ _))))
  have zo2 : Zo 89 (cs.length : Int) = (l.length : Int) := (y6 89 _ (by omega) (by omega) (by omega)).trans (w_up_same _ _ _ _)
  have fk : ∀ j : Nat, (j = 87 ∨ j = 88 ∨ j = 89 ∨ j = 91) → Zf j (cs.length : Int) = Zo j (cs.length : Int) := fun j hj => (zf j _ (by omega) (by unfold wG; omega) (by omega) (by omega) (by omega) (by omega) (by omega) (by omega) (by omega)).trans (y9 j _ (by omega) (by omega) (by omega) (by omega))
  have f3 : Zf 90 (cs.length : Int) = (ms2.length : Int) - (ms.length : Int) := (zf 90 _ (by decide) (by decide) (by omega) (by decide) (by decide) (by omega) (by omega) (by omega) (by omega)).trans y15
  have f7 : Zf 94 (cs.length : Int) = (if a = -1 then 0 else S3 94 a) + cI rs := (y17.1 94 _ (by omega) (by omega)).trans (y16.2.1.2.1.trans (by rw [List.take_length]))
  have f8 : Zf 95 (cs.length : Int) = cla (if a = -1 then -1 else S3 95 a) (ms.length : Int) rs := (y17.1 95 _ (by omega) (by omega)).trans (y16.2.1.2.2.trans (by rw [List.take_length]))
  have fs : Zf 116 2 = S3 116 2 + cS rs := (y17.1 116 2 (by omega) (by omega)).trans (y16.2.1.1.trans (by rw [List.take_length]))
  have hCf : w_CL Zf := fun y hy => (zf y.1 (-1) (by have := (wz_lt y hy).1; omega) (by have := (wz_lt y hy).1; unfold wG; omega) (by omega) (by intro e; exact absurd (wz_no y hy) (by rw [e]; decide)) (by intro e; exact absurd (wz_no y hy) (by rw [e]; decide)) (by omega) (by omega) (by omega) (by omega)).trans ((hx_R y10).2.2.1 y hy)
  have erf : ∀ j : Nat, j < 388 → j ≠ 14 → j ≠ 117 → j ≠ 118 → j ≠ 116 → j ≠ 112 → j ≠ 113 → j ≠ 94 → j ≠ 95 → j ≠ 119 → Zf j = Zm j := fun j e1 e2 e3 e4 e5 e6 e7 e8 e9 e10 => funext fun y => zf j y (by omega) (by unfold wG; omega) (by omega) e3 e4 (by omega) (by omega) (by omega) (by omega)
  have hqn := hq_new (A := A) (b := 241) (cs := cs) (r := (itf, (tp T n 1 (i)), zq (hq_cn A 241 cs) (tp T n 1 (i)) 237 8, a, l, al, (ms.length : Int), (ms2.length : Int) - (ms.length : Int)))
  have hxf : hx_I 241 73 87 92 74 T n c (hq_cn A 241 (cs ++ [(itf, (tp T n 1 (i)), zq (hq_cn A 241 cs) (tp T n 1 (i)) 237 8, a, l, al, (ms.length : Int), (ms2.length : Int) - (ms.length : Int))])) Zf := by
    have hxm := hx_ag (Z := Zf) y10 (by decide) (zf 14 3 (by decide) (by decide) (by omega) (by decide) (by decide) (by omega) (by omega) (by omega) (by omega)) y17.2.2.2.1 (fun j hj => erf j (by omega) (by omega) (by omega) (by omega) (by omega) (by omega) (by omega) (by omega) (by omega) (by omega)) (zf 73 2 (by decide) (by decide) (by omega) (by decide) (by decide) (by omega) (by omega) (by omega) (by omega)) (zf 61 1 (by decide) (by decide) (by omega) (by decide) (by decide) (by omega) (by omega) (by omega) (by omega)) hCf
    obtain ⟨x1, x2, x3, x4, x5, x6, x7, x8⟩ := hxm
    have hB := h1.1
    refine ⟨⟨?_, ?_, ?_⟩, x2, x3, x4, x5, x6, cn_R_cg x7 (hqn.1.trans (w_up_same _ _ _ _).symm) (fun k q0 q1 => ?_), x8⟩
    · exact (hq_o (by decide)).trans ((hq_o (cs := cs) (by decide)).symm.trans hB.1)
    · exact (congrFun (hq_o (by decide)) 4).trans ((congrFun (hq_o (cs := cs) (by decide)) 4).symm.trans hB.2.1)
    · exact (congrFun (hq_o (by decide)) 5).trans ((congrFun (hq_o (cs := cs) (by decide)) 5).symm.trans hB.2.2)
    · have q1 : k < (cs.length : Int) + 1 := by rw [w_up_same] at q1; exact q1
      by_cases hk : k < (cs.length : Int)
      · obtain ⟨g1, g2, g3⟩ := hqn.2.1 k q0 hk
        rw [g1, g2, g3]
        exact ⟨Eq.symm ((w_up_slot (by decide)).trans ((w_up_slot (by decide)).trans ((w_up_slot (by decide)).trans ((w_up_slot (by decide)).trans ((w_up_slot (by decide)).trans ((w_up_slot (by decide)).trans ((w_up_slot (by decide)).trans ((w_up_slot (by decide)).trans (w_up_at (by omega)))))))))), Eq.symm ((w_up_slot (by decide)).trans ((w_up_slot (by decide)).trans ((w_up_slot (by decide)).trans ((w_up_slot (by decide)).trans ((w_up_slot (by decide)).trans ((w_up_slot (by decide)).trans ((w_up_slot (by decide)).trans ((w_up_at (by omega)).trans (w_up_slot (by decide)))))))))), Eq.symm ((w_up_slot (by decide)).trans ((w_up_slot (by decide)).trans ((w_up_slot (by decide)).trans ((w_up_slot (by decide)).trans ((w_up_slot (by decide)).trans ((w_up_slot (by decide)).trans ((w_up_at (by omega)).trans ((w_up_slot (by decide)).trans (w_up_slot (by decide))))))))))⟩
      · rw [show k = (cs.length : Int) by omega]
        exact ⟨hqn.2.2.1.trans (Eq.symm ((w_up_slot (by decide)).trans ((w_up_slot (by decide)).trans ((w_up_slot (by decide)).trans ((w_up_slot (by decide)).trans ((w_up_slot (by decide)).trans ((w_up_slot (by decide)).trans ((w_up_slot (by decide)).trans ((w_up_slot (by decide)).trans (w_up_same _ _ _ _)))))))))), hqn.2.2.2.1.trans (Eq.symm ((w_up_slot (by decide)).trans ((w_up_slot (by decide)).trans ((w_up_slot (by decide)).trans ((w_up_slot (by decide)).trans ((w_up_slot (by decide)).trans ((w_up_slot (by decide)).trans ((w_up_slot (by decide)).trans (w_up_same _ _ _ _))))))))), hqn.2.2.2.2.trans (Eq.symm ((w_up_slot (by decide)).trans ((w_up_slot (by decide)).trans ((w_up_slot (by decide)).trans ((w_up_slot (by decide)).trans ((w_up_slot (by decide)).trans ((w_up_slot (by decide)).trans (w_up_same _ _ _ _))))))))⟩
  have hcs := cS_rg rs
  have hci := cI_rg rs
  have hrs2 : S3 116 2 = S 116 2 := congrFun (y2 116 (by decide) (by decide) (by decide)) 2
  obtain ⟨tb1, tb2, tb3, tb4⟩ := h2
  have tb2 : 0 ≤ S 116 2 ∧ S 116 2 ≤ (ms.length : Int) := tb2
  refine ⟨hxf, ⟨fun q q0 q1 => ?_, ⟨by rw [fs, hrs2]; omega, by rw [fs, hrs2]; omega⟩, ?_, wd_L_ag tb4 (fun x hx => zs _ _ (by omega) (by unfold wG; omega) (by omega) (by omega) (by omega) (by omega) (by omega) (by omega) (by omega) (by omega) (by omega) (by omega))⟩, fun q q0 q1 => ?_, ⟨h400, fun k r hr => mr_at_ag (y12.2 k r hr) (fun x hx => zf _ _ (by omega) (by unfold wG; omega) (by omega) (by omega) (by omega) (by omega) (by omega) (by omega) (by omega)) (fun x hx => erf _ (by omega) (by omega) (by omega) (by omega) (by omega) (by omega) (by omega) (by omega) (by omega) (by omega))⟩, (zf 73 4 (by decide) (by decide) (by omega) (by decide) (by decide) (by omega) (by omega) (by omega) (by omega)).trans y13, fun k r hr => ?_, fun r hr => ?_, ?_⟩
  · rw [hl9] at q1
    by_cases hq : q < (cs.length : Int)
    · rw [zs (87 + 1) q (by decide) (by decide) (by omega) (by omega) (by omega) (by omega) (by omega) (by omega) (by omega) (by omega) (by omega) (by omega), zs (87 + 4) q (by decide) (by decide) (by omega) (by omega) (by omega) (by omega) (by omega) (by omega) (by omega) (by omega) (by omega) (by omega), zs (87 + 3) q (by decide) (by decide) (by omega) (by omega) (by omega) (by omega) (by omega) (by omega) (by omega) (by omega) (by omega) (by omega), zs (87 + 7) q (by decide) (by decide) (by omega) (by omega) (by omega) (by omega) (by omega) (by omega) (by omega) (by omega) (by omega) (by omega), zs (87 + 8) q (by decide) (by decide) (by omega) (by omega) (by omega) (by omega) (by omega) (by omega) (by omega) (by omega) (by omega) (by omega)]
      obtain ⟨g1, g2, g3, g4, g5, g6⟩ := tb1 q q0 hq
      exact ⟨g1, g2, g3, by omega, g5, g6⟩
    · rw [show q = (cs.length : Int) by omega]
      show (-1 ≤ Zf 88 (cs.length : Int) ∧ Zf 88 (cs.length : Int) < (cs.length : Int)) ∧ 0 ≤ Zf 91 (cs.length : Int) ∧ 0 ≤ Zf 90 (cs.length : Int) ∧ Zf 91 (cs.length : Int) + Zf 90 (cs.length : Int) ≤ (ms2.length : Int) ∧ (0 ≤ Zf 94 (cs.length : Int) ∧ Zf 94 (cs.length : Int) ≤ Zf 91 (cs.length : Int) + Zf 90 (cs.length : Int)) ∧ (-1 ≤ Zf 95 (cs.length : Int) ∧ Zf 95 (cs.length : Int) < 400)
      rw [fk 88 (by omega), fk 91 (by omega), f3, f7, f8, zo1, zo4]
      have hcl := cla_rg rs (if a = -1 then -1 else S3 95 a) (ms.length : Int)
      have e7 : S3 94 a = S 94 a := congrFun (y2 94 (by decide) (by decide) (by decide)) a
      have e8 : S3 95 a = S 95 a := congrFun (y2 95 (by decide) (by decide) (by decide)) a
      by_cases ha : a = -1
      · rw [if_pos ha] at hcl ⊢
        rw [if_pos ha]
        exact ⟨by omega, by omega, by omega, by omega, ⟨by omega, by omega⟩, by omega⟩
      · rw [if_neg ha] at hcl ⊢
        rw [if_neg ha]
        obtain ⟨g1, g2, g3, g4, g5, g6⟩ := tb1 a (by omega) (by omega)
        have g5 : 0 ≤ S 94 a ∧ S 94 a ≤ S 91 a + S 90 a := g5
        have g4 : S 91 a + S 90 a ≤ (ms.length : Int) := g4
        have g6 : -1 ≤ S 95 a ∧ S 95 a < 400 := g6
        exact ⟨by omega, by omega, by omega, by omega, ⟨by omega, by omega⟩, by omega⟩
  · have hr1 := y16.2.2.2.1
    unfold rw_S
    rw [y17.1 116 2 (by omega) (by omega), y17.1 117 (-1) (by omega) (by omega), y17.1 118 (-1) (by omega) (by omega)]
    exact hr1
  · rw [hl9] at q1
    show od_1 93 114 115 Zf q (if q = (cs.length : Int) then (so_L ((w_up (w_up (w_up (w_up (w_up (w_up S3 87 (cs.length : Int) itf) 88 (cs.length : Int) a) 90 (cs.length : Int) 0) 91 (cs.length : Int) (ms.length : Int)) 92 (cs.length : Int) (S 17 ((i : Nat) : Int))) 73 2 ((cs.length : Int) + 1)) 87) ((w_up (w_up (w_up (w_up (w_up (w_up S3 87 (cs.length : Int) itf) 88 (cs.length : Int) a) 90 (cs.length : Int) 0) 91 (cs.length : Int) (ms.length : Int)) 92 (cs.length : Int) (S 17 ((i : Nat) : Int))) 73 2 ((cs.length : Int) + 1)) 88) os (cs.length : Int) l) else os q)
    by_cases hq : q = (cs.length : Int)
    · rw [if_pos hq, hq]
      exact od_pt y7 ((zf 93 _ (by decide) (by decide) (by omega) (by decide) (by decide) (by omega) (by omega) (by omega) (by omega)).trans (y9 93 _ (by omega) (by omega) (by omega) (by omega))) (fun x x0 x1 => (zf 114 _ (by decide) (by decide) (by omega) (by decide) (by decide) (by omega) (by omega) (by omega) (by omega)).trans (y9 114 _ (by omega) (by omega) (by omega) (by omega))) ((zf 115 _ (by decide) (by decide) (by omega) (by decide) (by decide) (by omega) (by omega) (by omega) (by omega)).trans (y9 115 _ (by omega) (by omega) (by omega) (by omega)))
    · rw [if_neg hq]
      exact od_pt (h3 q q0 (by omega)) (zs 93 q (by decide) (by decide) (by omega) (by omega) (by omega) (by omega) (by omega) (by omega) (by omega) (by omega) (by omega) (by omega)) (fun x x0 x1 => zs 114 x (by decide) (by decide) (by omega) (by omega) (by omega) (by omega) (by omega) (by omega) (by omega) (by omega) (by omega) (by omega)) (zs 115 q (by decide) (by decide) (by omega) (by omega) (by omega) (by omega) (by omega) (by omega) (by omega) (by omega) (by omega) (by omega))
  · by_cases hk : k < cs.length
    · rw [List.getElem?_append_left hk] at hr
      obtain ⟨g1, g2, g3, g4, g5⟩ := h6 k r hr
      exact ⟨(zs _ _ (by decide) (by decide) (by omega) (by omega) (by omega) (by omega) (by omega) (by omega) (by omega) (by omega) (by omega) (by omega)).trans g1, (zs _ _ (by decide) (by decide) (by omega) (by omega) (by omega) (by omega) (by omega) (by omega) (by omega) (by omega) (by omega) (by omega)).trans g2, (zs _ _ (by decide) (by decide) (by omega) (by omega) (by omega) (by omega) (by omega) (by omega) (by omega) (by omega) (by omega) (by omega)).trans g3, (zs _ _ (by decide) (by decide) (by omega) (by omega) (by omega) (by omega) (by omega) (by omega) (by omega) (by omega) (by omega) (by omega)).trans g4, (zs _ _ (by decide) (by decide) (by omega) (by omega) (by omega) (by omega) (by omega) (by omega) (by omega) (by omega) (by omega) (by omega)).trans g5⟩
    · have hlt := (List.getElem?_eq_some_iff.mp hr).1
      rw [hl9] at hlt
      have hke : k = cs.length := by omega
      subst hke
      rw [List.getElem?_append_right (Nat.le_refl _), Nat.sub_self] at hr
      cases hr
      exact ⟨(fk 87 (by omega)).trans zo0, (fk 88 (by omega)).trans zo1, (fk 89 (by omega)).trans zo2, f3, (fk 91 (by omega)).trans zo4⟩
  · rw [er1] at hr
    rcases List.mem_append.1 hr with z | z
    · exact h7 r z
    · exact (er2 r z).1
  · rw [fs, hrs2, h8, er1, cS_apps]
/-- what holds of the tables, when the classes cs and the members ms have been read -/
def JT_162 (A : wS) (T : Int → Int) (n : Int) (c : Nat) (cs : List hCR) (ms : List hMR) (os : Int → List Int) (S : wS) : Prop := hx_I 261 162 176 181 163 T n c (hq_cn A 261 cs) S ∧ tb_I 176 205 206 207 163 S (cs.length : Int) (ms.length : Int) ∧ (∀ q : Int, 0 ≤ q → q < (cs.length : Int) → od_1 182 203 204 S q (os q)) ∧ mr_all 186 163 T S ms ∧ S 162 4 = (ms.length : Int) ∧ (∀ (k : Nat) (r : hCR), cs[k]? = some r → tr_at 176 S (k : Int) r) ∧ (∀ r ∈ ms, mo_I r) ∧ S 205 2 = cS ms
theorem JT_u_162 {cs : List hCR} {ms : List hMR} {os : Int → List Int} {x : Int} (h : JT_162 A T n c cs ms os S) : JT_162 A T n c cs ms os (w_up S 14 4 x) := by
  obtain ⟨h1, h2, h3, h4, h5, h6, h7, h8⟩ := h
  exact ⟨hx_up h1 (by unfold hx_o; omega), h2, h3, mr_all_up h4 (by omega) (by omega), h5, h6, h7, h8⟩
theorem JT_s_162 {cs : List hCR} {ms : List hMR} {os : Int → List Int} {itf : Int} {S3 : wS} {a al : Int} {l : List Int} {Zo : wS} {i2 : Nat} {ms2 : List hMR} {Zm Z1 Zf : wS} (hj : JT_162 A T n c cs ms os S) (hP : cx_P T n c i S) (hit : itf = 0 ∨ itf = 1) (hrs : ∃ rs : List hMR, ms2 = ms ++ rs ∧ ∀ r ∈ rs, mo_I r ∧ r.1 = (cs.length : Int)) : rc_n_261 (hq_cn A 261 cs) (cs.length : Int) ms itf (tp T n 1 (i)) = .inr (tp T n 1 (i2 + 1), (itf, (tp T n 1 (i)), zq (hq_cn A 261 cs) (tp T n 1 (i)) 237 8, a, l, al, (ms.length : Int), (ms2.length : Int) - (ms.length : Int)), ms2) → (∀ j : Nat, j ≠ 14 → j ≠ 61 → j ≠ 62 → S3 j = S j) → ((∀ y : Int, y ≠ 4 → S3 14 y = S 14 y) ∧ (∀ y : Int, y ≠ 4 → S3 61 y = S 61 y) ∧ ∀ y : Int, y < 0 → S3 62 y = S 62 y) → su_nd (cs.length : Int) l → (-1 ≤ a ∧ a < (cs.length : Int)) → oz_ag 182 203 204 (cs.length : Int) (w_up (w_up (w_up (w_up (w_up (w_up (w_up S3 176 (cs.length : Int) itf) 177 (cs.length : Int) a) 179 (cs.length : Int) 0) 180 (cs.length : Int) (ms.length : Int)) 181 (cs.length : Int) (S 17 ((i : Nat) : Int))) 162 2 ((cs.length : Int) + 1)) 178 (cs.length : Int) (l.length : Int)) Zo → od_1 182 203 204 Zo (cs.length : Int) (so_L ((w_up (w_up (w_up (w_up (w_up (w_up S3 176 (cs.length : Int) itf) 177 (cs.length : Int) a) 179 (cs.length : Int) 0) 180 (cs.length : Int) (ms.length : Int)) 181 (cs.length : Int) (S 17 ((i : Nat) : Int))) 162 2 ((cs.length : Int) + 1)) 176) ((w_up (w_up (w_up (w_up (w_up (w_up S3 176 (cs.length : Int) itf) 177 (cs.length : Int) a) 179 (cs.length : Int) 0) 180 (cs.length : Int) (ms.length : Int)) 181 (cs.length : Int) (S 17 ((i : Nat) : Int))) 162 2 ((cs.length : Int) + 1)) 177) os (cs.length : Int) l) → kg T n (tp T n 1 i2) = 13 → mz_ag 186 162 176 (cs.length : Int) (ms.length : Int) Zo Zm → hx_I 261 162 176 181 163 T n c (w_up (w_up (w_up (w_up (w_up (w_up (w_up (w_up (w_up (hq_cn A 261 cs) 263 (cs.length : Int) itf) 270 (cs.length : Int) (tp T n 1 (i))) 271 (cs.length : Int) (zq (hq_cn A 261 cs) (tp T n 1 (i)) 237 8)) 264 (cs.length : Int) (-1)) 265 (cs.length : Int) 0) 267 (cs.length : Int) (wb_lshl 1 (cs.length : Int))) 268 (cs.length : Int) ((hq_cn A 261 cs) 261 11)) 269 (cs.length : Int) 0) 261 1 ((cs.length : Int) + 1)) Zm → cx_P T n c i2 Zm → mr_all 186 163 T Zm ms2 → Zm 162 4 = (ms2.length : Int) → ms.length ≤ ms2.length → Zm 179 (cs.length : Int) = (ms2.length : Int) - (ms.length : Int) → le_I 186 176 205 206 207 208 (ms.length : Int) (cs.length : Int) (S3 205 2) (if a = -1 then 0 else S3 183 a) (if a = -1 then -1 else S3 184 a) (ms2.drop ms.length) (w_up (w_up (w_up Zm 14 4 ((i2 + 1 : Nat) : Int)) 183 (cs.length : Int) (if a = -1 then 0 else S3 183 a)) 184 (cs.length : Int) (if a = -1 then -1 else S3 184 a)) Z1 (ms2.drop ms.length).length → l2_I 186 176 163 208 (ms.length : Int) (ms2.drop ms.length) Z1 Zf (ms2.drop ms.length).length → JT_162 A T n c (cs ++ [(itf, (tp T n 1 (i)), zq (hq_cn A 261 cs) (tp T n 1 (i)) 237 8, a, l, al, (ms.length : Int), (ms2.length : Int) - (ms.length : Int))]) ms2 (fun q => if q = (cs.length : Int) then (so_L ((w_up (w_up (w_up (w_up (w_up (w_up S3 176 (cs.length : Int) itf) 177 (cs.length : Int) a) 179 (cs.length : Int) 0) 180 (cs.length : Int) (ms.length : Int)) 181 (cs.length : Int) (S 17 ((i : Nat) : Int))) 162 2 ((cs.length : Int) + 1)) 176) ((w_up (w_up (w_up (w_up (w_up (w_up S3 176 (cs.length : Int) itf) 177 (cs.length : Int) a) 179 (cs.length : Int) 0) 180 (cs.length : Int) (ms.length : Int)) 181 (cs.length : Int) (S 17 ((i : Nat) : Int))) 162 2 ((cs.length : Int) + 1)) 177) os (cs.length : Int) l) else os q) Zf := by
  intro y1 y2 y3 y4 y5 y6 y7 y8 y9 y10 y11 y12 y13 y14 y15 y16 y17
  obtain ⟨h1, h2, h3, h4, h5, h6, h7, h8⟩ := hj
  obtain ⟨rs, er1, er2⟩ := hrs
  have hdr : ms2.drop ms.length = rs := by rw [er1, List.drop_append_of_le_length (Nat.le_refl _), List.drop_length, List.nil_append]
  rw [hdr] at y16 y17
  have hrl : (rs.length : Int) = (ms2.length : Int) - (ms.length : Int) := by rw [er1, List.length_append]; omega
  have h400 := y12.1
  have zf : ∀ (j : Nat) (y : Int), j < 4000000 → j ≠ wG → (j ≠ 14 ∨ y ≠ 4) → j ≠ 206 → j ≠ 207 → (j ≠ 205 ∨ y ≠ 2) → ((j ≠ 201 ∧ j ≠ 202) ∨ y < (ms.length : Int)) → ((j ≠ 183 ∧ j ≠ 184) ∨ y ≠ (cs.length : Int)) → (j ≠ 208 ∨ y < 0) → Zf j y = Zm j y := fun j y e1 e2 e3 e4 e5 e6 e7 e8 e9 => (y17.1 j y e9 (by omega)).trans ((y16.1.1 j y e1 e2 e4 e5 e6 e7 e8 e9).trans ((w_up_no (by omega)).trans ((w_up_no (by omega)).trans (w_up_no (by omega)))))
  have zo : ∀ (j : Nat) (y : Int), (j ≠ 14 ∧ j ≠ 61 ∧ j ≠ 62) → (j < 176 ∨ 182 < j ∨ y ≠ (cs.length : Int)) → (j ≠ 162 ∨ y ≠ 2) → (j ≠ 203 ∨ y < 60 * (cs.length : Int) ∨ 60 * (cs.length : Int) + 60 ≤ y) → (j ≠ 204 ∨ y ≠ (cs.length : Int)) → Zo j y = S j y := fun j y e1 e2 e3 e4 e5 => (y6 j y (by omega) (by omega) (by omega)).trans ((w_up_no (by omega)).trans ((w_up_no (by omega)).trans ((w_up_no (by omega)).trans ((w_up_no (by omega)).trans ((w_up_no (by omega)).trans ((w_up_no (by omega)).trans ((w_up_no (by omega)).trans (congrFun (y2 j e1.1 e1.2.1 e1.2.2) y))))))))
  have zs : ∀ (j : Nat) (y : Int), j < 4000000 → j ≠ wG → (j ≠ 14 ∧ j ≠ 61 ∧ j ≠ 62) → (j < 176 ∨ 184 < j ∨ y ≠ (cs.length : Int)) → (j ≠ 162 ∨ (y ≠ 2 ∧ y ≠ 4)) → (j ≠ 203 ∨ y < 60 * (cs.length : Int) ∨ 60 * (cs.length : Int) + 60 ≤ y) → (j ≠ 204 ∨ y ≠ (cs.length : Int)) → (j < 186 ∨ 202 < j ∨ y < (ms.length : Int)) → j ≠ 206 → j ≠ 207 → (j ≠ 205 ∨ y ≠ 2) → (j ≠ 208 ∨ y < 0) → Zf j y = S j y := fun j y e1 e2 e3 e4 e5 e6 e7 e8 e9 e10 e11 e12 => (zf j y e1 e2 (by omega) e9 e10 e11 (by omega) (by omega) e12).trans ((y9 j y (by omega) (by omega) (by omega) (by omega)).trans (zo j y e3 (by omega) (by omega) e6 e7))
  have hl9 : (cs ++ [(itf, (tp T n 1 (i)), zq (hq_cn A 261 cs) (tp T n 1 (i)) 237 8, a, l, al, (ms.length : Int), (ms2.length : Int) - (ms.length : Int))]).length = cs.length + 1 := by rw [List.length_append]; rfl
  have zo1 : Zo 177 (cs.length : Int) = a := (y6 177 _ (by omega) (by omega) (by omega)).trans ((w_up_slot (by decide)).trans ((w_up_slot (by decide)).trans ((w_up_slot (by decide)).trans ((w_up_slot (by decide)).trans ((w_up_slot (by decide)).trans (w_up_same _ _ _ _))))))
  have zo0 : Zo 176 (cs.length : Int) = itf := (y6 176 _ (by omega) (by omega) (by omega)).trans ((w_up_slot (by decide)).trans ((w_up_slot (by decide)).trans ((w_up_slot (by decide)).trans ((w_up_slot (by decide)).trans ((w_up_slot (by decide)).trans ((w_up_slot (by decide)).trans (w_up_same _ _ _ _)))))))
  have zo4 : Zo 180 (cs.length : Int) = (ms.length : Int) := (y6 180 _ (by omega) (by omega) (by omega)).trans ((w_up_slot (by decide)).trans ((w_up_slot (by decide)).trans ((w_up_slot (by decide)).trans (w_up_same _ _ _ _))))
  have zo2 : Zo 178 (cs.length : Int) = (l.length : Int) := (y6 178 _ (by omega) (by omega) (by omega)).trans (w_up_same _ _ _ _)
  have fk : ∀ j : Nat, (j = 176 ∨ j = 177 ∨ j = 178 ∨ j = 180) → Zf j (cs.length : Int) = Zo j (cs.length : Int) := fun j hj => (zf j _ (by omega) (by unfold wG; omega) (by omega) (by omega) (by omega) (by omega) (by omega) (by omega) (by omega)).trans (y9 j _ (by omega) (by omega) (by omega) (by omega))
  have f3 : Zf 179 (cs.length : Int) = (ms2.length : Int) - (ms.length : Int) := (zf 179 _ (by decide) (by decide) (by omega) (by decide) (by decide) (by omega) (by omega) (by omega) (by omega)).trans y15
  have f7 : Zf 183 (cs.length : Int) = (if a = -1 then 0 else S3 183 a) + cI rs := (y17.1 183 _ (by omega) (by omega)).trans (y16.2.1.2.1.trans (by rw [List.take_length]))
  have f8 : Zf 184 (cs.length : Int) = cla (if a = -1 then -1 else S3 184 a) (ms.length : Int) rs := (y17.1 184 _ (by omega) (by omega)).trans (y16.2.1.2.2.trans (by rw [List.take_length]))
  have fs : Zf 205 2 = S3 205 2 + cS rs := (y17.1 205 2 (by omega) (by omega)).trans (y16.2.1.1.trans (by rw [List.take_length]))
  have hCf : w_CL Zf := fun y hy => (zf y.1 (-1) (by have := (wz_lt y hy).1; omega) (by have := (wz_lt y hy).1; unfold wG; omega) (by omega) (by intro e; exact absurd (wz_no y hy) (by rw [e]; decide)) (by intro e; exact absurd (wz_no y hy) (by rw [e]; decide)) (by omega) (by omega) (by omega) (by omega)).trans ((hx_R y10).2.2.1 y hy)
  have erf : ∀ j : Nat, j < 388 → j ≠ 14 → j ≠ 206 → j ≠ 207 → j ≠ 205 → j ≠ 201 → j ≠ 202 → j ≠ 183 → j ≠ 184 → j ≠ 208 → Zf j = Zm j := fun j e1 e2 e3 e4 e5 e6 e7 e8 e9 e10 => funext fun y => zf j y (by omega) (by unfold wG; omega) (by omega) e3 e4 (by omega) (by omega) (by omega) (by omega)
  have hqn := hq_new (A := A) (b := 261) (cs := cs) (r := (itf, (tp T n 1 (i)), zq (hq_cn A 261 cs) (tp T n 1 (i)) 237 8, a, l, al, (ms.length : Int), (ms2.length : Int) - (ms.length : Int)))
  have hxf : hx_I 261 162 176 181 163 T n c (hq_cn A 261 (cs ++ [(itf, (tp T n 1 (i)), zq (hq_cn A 261 cs) (tp T n 1 (i)) 237 8, a, l, al, (ms.length : Int), (ms2.length : Int) - (ms.length : Int))])) Zf := by
    have hxm := hx_ag (Z := Zf) y10 (by decide) (zf 14 3 (by decide) (by decide) (by omega) (by decide) (by decide) (by omega) (by omega) (by omega) (by omega)) y17.2.2.2.1 (fun j hj => erf j (by omega) (by omega) (by omega) (by omega) (by omega) (by omega) (by omega) (by omega) (by omega) (by omega)) (zf 162 2 (by decide) (by decide) (by omega) (by decide) (by decide) (by omega) (by omega) (by omega) (by omega)) (zf 61 1 (by decide) (by decide) (by omega) (by decide) (by decide) (by omega) (by omega) (by omega) (by omega)) hCf
    obtain ⟨x1, x2, x3, x4, x5, x6, x7, x8⟩ := hxm
    have hB := h1.1
    refine ⟨⟨?_, ?_, ?_⟩, x2, x3, x4, x5, x6, cn_R_cg x7 (hqn.1.trans (w_up_same _ _ _ _).symm) (fun k q0 q1 => ?_), x8⟩
    · exact (hq_o (by decide)).trans ((hq_o (cs := cs) (by decide)).symm.trans hB.1)
    · exact (congrFun (hq_o (by decide)) 4).trans ((congrFun (hq_o (cs := cs) (by decide)) 4).symm.trans hB.2.1)
    · exact (congrFun (hq_o (by decide)) 5).trans ((congrFun (hq_o (cs := cs) (by decide)) 5).symm.trans hB.2.2)
    · have q1 : k < (cs.length : Int) + 1 := by rw [w_up_same] at q1; exact q1
      by_cases hk : k < (cs.length : Int)
      · obtain ⟨g1, g2, g3⟩ := hqn.2.1 k q0 hk
        rw [g1, g2, g3]
        exact ⟨Eq.symm ((w_up_slot (by decide)).trans ((w_up_slot (by decide)).trans ((w_up_slot (by decide)).trans ((w_up_slot (by decide)).trans ((w_up_slot (by decide)).trans ((w_up_slot (by decide)).trans ((w_up_slot (by decide)).trans ((w_up_slot (by decide)).trans (w_up_at (by omega)))))))))), Eq.symm ((w_up_slot (by decide)).trans ((w_up_slot (by decide)).trans ((w_up_slot (by decide)).trans ((w_up_slot (by decide)).trans ((w_up_slot (by decide)).trans ((w_up_slot (by decide)).trans ((w_up_slot (by decide)).trans ((w_up_at (by omega)).trans (w_up_slot (by decide)))))))))), Eq.symm ((w_up_slot (by decide)).trans ((w_up_slot (by decide)).trans ((w_up_slot (by decide)).trans ((w_up_slot (by decide)).trans ((w_up_slot (by decide)).trans ((w_up_slot (by decide)).trans ((w_up_at (by omega)).trans ((w_up_slot (by decide)).trans (w_up_slot (by decide))))))))))⟩
      · rw [show k = (cs.length : Int) by omega]
        exact ⟨hqn.2.2.1.trans (Eq.symm ((w_up_slot (by decide)).trans ((w_up_slot (by decide)).trans ((w_up_slot (by decide)).trans ((w_up_slot (by decide)).trans ((w_up_slot (by decide)).trans ((w_up_slot (by decide)).trans ((w_up_slot (by decide)).trans ((w_up_slot (by decide)).trans (w_up_same _ _ _ _)))))))))), hqn.2.2.2.1.trans (Eq.symm ((w_up_slot (by decide)).trans ((w_up_slot (by decide)).trans ((w_up_slot (by decide)).trans ((w_up_slot (by decide)).trans ((w_up_slot (by decide)).trans ((w_up_slot (by decide)).trans ((w_up_slot (by decide)).trans (w_up_same _ _ _ _))))))))), hqn.2.2.2.2.trans (Eq.symm ((w_up_slot (by decide)).trans ((w_up_slot (by decide)).trans ((w_up_slot (by decide)).trans ((w_up_slot (by decide)).trans ((w_up_slot (by decide)).trans ((w_up_slot (by decide)).trans (w_up_same _ _ _ _))))))))⟩
  have hcs := cS_rg rs
  have hci := cI_rg rs
  have hrs2 : S3 205 2 = S 205 2 := congrFun (y2 205 (by decide) (by decide) (by decide)) 2
  obtain ⟨tb1, tb2, tb3, tb4⟩ := h2
  have tb2 : 0 ≤ S 205 2 ∧ S 205 2 ≤ (ms.length : Int) := tb2
  refine ⟨hxf, ⟨fun q q0 q1 => ?_, ⟨by rw [fs, hrs2]; omega, by rw [fs, hrs2]; omega⟩, ?_, wd_L_ag tb4 (fun x hx => zs _ _ (by omega) (by unfold wG; omega) (by omega) (by omega) (by omega) (by omega) (by omega) (by omega) (by omega) (by omega) (by omega) (by omega))⟩, fun q q0 q1 => ?_, ⟨h400, fun k r hr => mr_at_ag (y12.2 k r hr) (fun x hx => zf _ _ (by omega) (by unfold wG; omega) (by omega) (by omega) (by omega) (by omega) (by omega) (by omega) (by omega)) (fun x hx => erf _ (by omega) (by omega) (by omega) (by omega) (by omega) (by omega) (by omega) (by omega) (by omega) (by omega))⟩, (zf 162 4 (by decide) (by decide) (by omega) (by decide) (by decide) (by omega) (by omega) (by omega) (by omega)).trans y13, fun k r hr => ?_, fun r hr => ?_, ?_⟩
  · rw [hl9] at q1
    by_cases hq : q < (cs.length : Int)
    · rw [zs (176 + 1) q (by decide) (by decide) (by omega) (by omega) (by omega) (by omega) (by omega) (by omega) (by omega) (by omega) (by omega) (by omega), zs (176 + 4) q (by decide) (by decide) (by omega) (by omega) (by omega) (by omega) (by omega) (by omega) (by omega) (by omega) (by omega) (by omega), zs (176 + 3) q (by decide) (by decide) (by omega) (by omega) (by omega) (by omega) (by omega) (by omega) (by omega) (by omega) (by omega) (by omega), zs (176 + 7) q (by decide) (by decide) (by omega) (by omega) (by omega) (by omega) (by omega) (by omega) (by omega) (by omega) (by omega) (by omega), zs (176 + 8) q (by decide) (by decide) (by omega) (by omega) (by omega) (by omega) (by omega) (by omega) (by omega) (by omega) (by omega) (by omega)]
      obtain ⟨g1, g2, g3, g4, g5, g6⟩ := tb1 q q0 hq
      exact ⟨g1, g2, g3, by omega, g5, g6⟩
    · rw [show q = (cs.length : Int) by omega]
      show (-1 ≤ Zf 177 (cs.length : Int) ∧ Zf 177 (cs.length : Int) < (cs.length : Int)) ∧ 0 ≤ Zf 180 (cs.length : Int) ∧ 0 ≤ Zf 179 (cs.length : Int) ∧ Zf 180 (cs.length : Int) + Zf 179 (cs.length : Int) ≤ (ms2.length : Int) ∧ (0 ≤ Zf 183 (cs.length : Int) ∧ Zf 183 (cs.length : Int) ≤ Zf 180 (cs.length : Int) + Zf 179 (cs.length : Int)) ∧ (-1 ≤ Zf 184 (cs.length : Int) ∧ Zf 184 (cs.length : Int) < 400)
      rw [fk 177 (by omega), fk 180 (by omega), f3, f7, f8, zo1, zo4]
      have hcl := cla_rg rs (if a = -1 then -1 else S3 184 a) (ms.length : Int)
      have e7 : S3 183 a = S 183 a := congrFun (y2 183 (by decide) (by decide) (by decide)) a
      have e8 : S3 184 a = S 184 a := congrFun (y2 184 (by decide) (by decide) (by decide)) a
      by_cases ha : a = -1
      · rw [if_pos ha] at hcl ⊢
        rw [if_pos ha]
        exact ⟨by omega, by omega, by omega, by omega, ⟨by omega, by omega⟩, by omega⟩
      · rw [if_neg ha] at hcl ⊢
        rw [if_neg ha]
        obtain ⟨g1, g2, g3, g4, g5, g6⟩ := tb1 a (by omega) (by omega)
        have g5 : 0 ≤ S 183 a ∧ S 183 a ≤ S 180 a + S 179 a := g5
        have g4 : S 180 a + S 179 a ≤ (ms.length : Int) := g4
        have g6 : -1 ≤ S 184 a ∧ S 184 a < 400 := g6
        exact ⟨by omega, by omega, by omega, by omega, ⟨by omega, by omega⟩, by omega⟩
  · have hr1 := y16.2.2.2.1
    unfold rw_S
    rw [y17.1 205 2 (by omega) (by omega), y17.1 206 (-1) (by omega) (by omega), y17.1 207 (-1) (by omega) (by omega)]
    exact hr1
  · rw [hl9] at q1
    show od_1 182 203 204 Zf q (if q = (cs.length : Int) then (so_L ((w_up (w_up (w_up (w_up (w_up (w_up S3 176 (cs.length : Int) itf) 177 (cs.length : Int) a) 179 (cs.length : Int) 0) 180 (cs.length : Int) (ms.length : Int)) 181 (cs.length : Int) (S 17 ((i : Nat) : Int))) 162 2 ((cs.length : Int) + 1)) 176) ((w_up (w_up (w_up (w_up (w_up (w_up S3 176 (cs.length : Int) itf) 177 (cs.length : Int) a) 179 (cs.length : Int) 0) 180 (cs.length : Int) (ms.length : Int)) 181 (cs.length : Int) (S 17 ((i : Nat) : Int))) 162 2 ((cs.length : Int) + 1)) 177) os (cs.length : Int) l) else os q)
    by_cases hq : q = (cs.length : Int)
    · rw [if_pos hq, hq]
      exact od_pt y7 ((zf 182 _ (by decide) (by decide) (by omega) (by decide) (by decide) (by omega) (by omega) (by omega) (by omega)).trans (y9 182 _ (by omega) (by omega) (by omega) (by omega))) (fun x x0 x1 => (zf 203 _ (by decide) (by decide) (by omega) (by decide) (by decide) (by omega) (by omega) (by omega) (by omega)).trans (y9 203 _ (by omega) (by omega) (by omega) (by omega))) ((zf 204 _ (by decide) (by decide) (by omega) (by decide) (by decide) (by omega) (by omega) (by omega) (by omega)).trans (y9 204 _ (by omega) (by omega) (by omega) (by omega)))
    · rw [if_neg hq]
      exact od_pt (h3 q q0 (by omega)) (zs 182 q (by decide) (by decide) (by omega) (by omega) (by omega) (by omega) (by omega) (by omega) (by omega) (by omega) (by omega) (by omega)) (fun x x0 x1 => zs 203 x (by decide) (by decide) (by omega) (by omega) (by omega) (by omega) (by omega) (by omega) (by omega) (by omega) (by omega) (by omega)) (zs 204 q (by decide) (by decide) (by omega) (by omega) (by omega) (by omega) (by omega) (by omega) (by omega) (by omega) (by omega) (by omega))
  · by_cases hk : k < cs.length
    · rw [List.getElem?_append_left hk] at hr
      obtain ⟨g1, g2, g3, g4, g5⟩ := h6 k r hr
      exact ⟨(zs _ _ (by decide) (by decide) (by omega) (by omega) (by omega) (by omega) (by omega) (by omega) (by omega) (by omega) (by omega) (by omega)).trans g1, (zs _ _ (by decide) (by decide) (by omega) (by omega) (by omega) (by omega) (by omega) (by omega) (by omega) (by omega) (by omega) (by omega)).trans g2, (zs _ _ (by decide) (by decide) (by omega) (by omega) (by omega) (by omega) (by omega) (by omega) (by omega) (by omega) (by omega) (by omega)).trans g3, (zs _ _ (by decide) (by decide) (by omega) (by omega) (by omega) (by omega) (by omega) (by omega) (by omega) (by omega) (by omega) (by omega)).trans g4, (zs _ _ (by decide) (by decide) (by omega) (by omega) (by omega) (by omega) (by omega) (by omega) (by omega) (by omega) (by omega) (by omega)).trans g5⟩
    · have hlt := (List.getElem?_eq_some_iff.mp hr).1
      rw [hl9] at hlt
      have hke : k = cs.length := by omega
      subst hke
      rw [List.getElem?_append_right (Nat.le_refl _), Nat.sub_self] at hr
      cases hr
      exact ⟨(fk 176 (by omega)).trans zo0, (fk 177 (by omega)).trans zo1, (fk 178 (by omega)).trans zo2, f3, (fk 180 (by omega)).trans zo4⟩
  · rw [er1] at hr
    rcases List.mem_append.1 hr with z | z
    · exact h7 r z
    · exact (er2 r z).1
  · rw [fs, hrs2, h8, er1, cS_apps]
end Wa6
