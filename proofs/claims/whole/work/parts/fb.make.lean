/-! PART fb: make and proto, by tasks and worlds. -/
section Wfb
variable {xs : List (Nat × List Int32)} {d : Nat} {S Z A B X : wS} {K Kr : aK} {k v q t a b r : Int} {u : aV} {w m : Nat} {L : List aC} {T : List aO} {H : List aH} {G : Int → aV} {sl : Nat → List Int} {mk mk2 : Nat → Int → Prop} {ml : List Nat} {kd sh fo rm ar n u0 kd2 : Int}
theorem cTk_fr (h : cTk w S K) (e : cTx S Z) (f : ∀ (j : Nat) (x : Int), w ≤ j → j ≤ w + 10 → Z j x = S j x) : cTk w Z K := cTk_ag h e (fun j x hj => f j x (by omega) (by omega))
theorem rTk_fr (h : rTk t S K) (e : rTx S Z) (f : ∀ (j : Nat) (x : Int), 357 ≤ j → j ≤ 375 → Z j x = S j x) : rTk t Z K := rTk_ag h e ⟨fun j hj => f j t (by omega) (by omega), fun j x j0 j1 _ _ => f j x (by omega) (by omega), fun j x j0 j1 _ _ => f j x (by omega) (by omega)⟩ (f 359 t (by first | decide | omega) (by first | decide | omega)) (fun x _ _ => ⟨f 363 x (by first | decide | omega) (by first | decide | omega), f 364 x (by first | decide | omega) (by first | decide | omega)⟩)
/-- the newest value of the reference's pile is another one -/
theorem rTk_top (h : rTk t X K) (hh : 1 ≤ K.1.length) (hv : rVl X k v u) : rTk t (w_up (w_up X 363 (2100 * t + (K.1.length : Int) - 1) k) 364 (2100 * t + (K.1.length : Int) - 1) v) (K.1.take (K.1.length - 1) ++ [u], K.2) := by
  have es : ∀ (j : Nat) (x : Int), ((j ≠ 363 ∧ j ≠ 364) ∨ x ≠ 2100 * t + (K.1.length : Int) - 1) → (w_up (w_up X 363 (2100 * t + (K.1.length : Int) - 1) k) 364 (2100 * t + (K.1.length : Int) - 1) v) j x = X j x := fun j x j0 => (w_up_no (by omega)).trans (w_up_no (by omega))
  have e : rTx X (w_up (w_up X 363 (2100 * t + (K.1.length : Int) - 1) k) 364 (2100 * t + (K.1.length : Int) - 1) v) := rTx_of (es 237 19 (Or.inl (by first | decide | omega))) (es 237 102 (Or.inl (by first | decide | omega))) (fun j x j0 j1 => es j x (by omega))
  have e3 : (w_up (w_up X 363 (2100 * t + (K.1.length : Int) - 1) k) 364 (2100 * t + (K.1.length : Int) - 1) v) 363 (2100 * t + ((K.1.length - 1 : Nat) : Int)) = k := by
    rw [show 2100 * t + ((K.1.length - 1 : Nat) : Int) = 2100 * t + (K.1.length : Int) - 1 by omega]
    exact (w_up_slot (by first | decide | omega)).trans (w_up_same _ _ _ _)
  have e4 : (w_up (w_up X 363 (2100 * t + (K.1.length : Int) - 1) k) 364 (2100 * t + (K.1.length : Int) - 1) v) 364 (2100 * t + ((K.1.length - 1 : Nat) : Int)) = v := by
    rw [show 2100 * t + ((K.1.length - 1 : Nat) : Int) = 2100 * t + (K.1.length : Int) - 1 by omega]
    exact w_up_same _ _ _ _
  exact rTk_l1 (m := K.1.length - 1) (a := u) h e ⟨fun j hj => es j t (by omega), fun j x j0 j1 _ _ => es j x (by omega), fun j x j0 j1 _ _ => es j x (by omega)⟩ (by omega) ((es 359 t (by omega)).trans (h.1.1.trans (by omega))) (fun x x0 x1 => ⟨es 363 x (Or.inr (by omega)), es 364 x (Or.inr (by omega))⟩) (by rw [e3, e4]; exact rVl_mo hv e)
theorem cFm_m (hm : ∀ (j : Nat) (x : Int), mk j x → mk2 j x) (h : cFm w mk S Z) : cFm w mk2 S Z := ⟨fun j x j0 j1 j2 j3 => h.1 j x j0 j1 j2 (fun z => j3 (hm j x z)), h.2.1, h.2.2⟩
theorem rTm_m (hm : ∀ (j : Nat) (x : Int), mk j x → mk2 j x) (h : rTm t mk S Z) : rTm t mk2 S Z := fun j x o nn => h j x o (fun z => nn (hm j x z))
theorem cSw_ag (h : cSw S T H) (f : ∀ (j : Nat) (x : Int), (144 ≤ j ∧ j ≤ 149) ∨ (j = 132 ∧ 0 ≤ x ∧ x < (T.length : Int)) ∨ (j = 72 ∧ x = 8) → Z j x = S j x) : cSw Z T H := by
  obtain ⟨⟨h1, h2, h3⟩, ⟨l1, l2, l3, l4⟩, ⟨a1, a2, a3⟩, hb⟩ := h
  have e4 : ∀ (j : Nat) (x : Int), 144 ≤ j → j ≤ 149 → Z j x = S j x := fun j x j0 j1 => f j x (Or.inl ⟨j0, j1⟩)
  have r7 : Z 147 = S 147 := funext (fun x => e4 147 x (by first | decide | omega) (by first | decide | omega))
  have r6 : Z 146 = S 146 := funext (fun x => e4 146 x (by first | decide | omega) (by first | decide | omega))
  have r8 : Z 148 = S 148 := funext (fun x => e4 148 x (by first | decide | omega) (by first | decide | omega))
  have r9 : Z 149 = S 149 := funext (fun x => e4 149 x (by first | decide | omega) (by first | decide | omega))
  refine ⟨⟨(f 72 8 (Or.inr (Or.inr ⟨rfl, rfl⟩))).trans h1, h2, fun k hk => ?_⟩, ⟨fun x hx => ?_, ?_⟩, ?_, fun k k0 k1 => (f 132 k (Or.inr (Or.inl ⟨rfl, k0, k1⟩))).trans (hb k k0 k1)⟩
  · rw [e4 144 _ (by first | decide | omega) (by first | decide | omega), e4 145 _ (by first | decide | omega) (by first | decide | omega), r6, r7]; exact h3 k hk
  · rw [e4 (144 + x) _ (by omega) (by omega), e4 144 _ (by first | decide | omega) (by first | decide | omega)]; exact l1 x hx
  · rw [e4 144 _ (by first | decide | omega) (by first | decide | omega)]; exact ⟨l2, l3, l4⟩
  · unfold cHa
    rw [r7, r6, r8, r9]
    exact ⟨a1, a2, a3⟩
theorem aFs_nw (hw : wSh T H) : aFs (-1) (T.length : Int) (-1) H 0 = -1 := by
  rcases aFs_r (be := -1) (pr := (T.length : Int)) (nm := -1) H 0 with ⟨a1, -⟩ | ⟨i, a1, a2, -⟩
  · exact a1
  · have := hw.2.2.2.2.2.1 (i : Int) (by omega) (by omega)
    have e : qPr H (i : Int) = (T.length : Int) := a2.1
    rw [e] at this
    rcases this with z | z
    · omega
    · have := z.1.2; omega
/-- a thing comes, its value comes to the pile: of the class -/
theorem at_tail (hw : w = 215 ∨ w = 226) (hk : cTk w A K) (h3 : 0 < K.2.1.length) (h4 : K.1.length ≤ 2001) (hm : m ≤ K.1.length) (hW : cWd A T L G) (hsw : cSw A T H) (hwS : wSh T H) (hT : (T.length : Int) ≤ 8000) (hc5 : A 140 2 ≤ 240200) (r : at_ag kd sh fo 0 A B) (hs : sO w (K.1.length : Int) (K.2.1.length : Int) (K.2.1.getD (K.2.1.length - 1) (0, 0, 0, (0, 0, []), 0, 0, 0)).2.1 (m : Int) kd2 (T.length : Int) B Z) (hk3 : kd2 ≠ 3) : cTk w Z (kP K m (kd2, (T.length : Int), [])) ∧ cWd Z (T ++ [(kd, sh, fo, -1, -1, 0, [])]) L G ∧ cSw Z (T ++ [(kd, sh, fo, -1, -1, 0, [])]) H ∧ cFm w cMk A Z ∧ (Z 150 0 = A 150 0 + 1 ∧ ∀ x : Int, x ≠ 0 → Z 150 x = A 150 x) ∧ (cPo A → cPo Z) ∧ Z w 16 = A w 16 := by
  have hg : wG = 1000000 := rfl
  have hn : A 72 3 = (T.length : Int) := hW.1.1
  have hWA := cWd_at (ar := -1) hW r ⟨Int.le_refl _, by omega⟩ hT
  rw [hn] at hWA
  have e6 : B 136 (T.length : Int) = -1 := by rw [← hn]; exact r.2.1.2.2.2.2.2
  rw [← w_up_eta e6] at hWA
  obtain ⟨⟨a1, a2⟩, ⟨-, ⟨-, -, b6⟩, -⟩, cr, -, -, -, -, fr, gB, rB⟩ := id r
  have es : ∀ (j : Nat) (x : Int), j < 4000000 → j ≠ wG → ¬ cMk j x → B j x = A j x := fun j x j0 j1 j2 => by
    unfold cMk at j2
    exact fr j x j0 j1 (by omega) (by omega) (by omega) (by omega) (by omega) (by omega)
  have es2 : ∀ (j : Nat) (x : Int), (160 < j ∨ j < 72) → j < 237 → B j x = A j x := fun j x j0 j1 => es j x (by omega) (by omega) (by unfold cMk; omega)
  have hkB : cTk w B K := cTk_fr hk (cTx_of (es2 2 1 (by first | decide | omega) (by first | decide | omega)) (fun x => es2 3 x (by first | decide | omega) (by first | decide | omega))) (fun j y j0 j1 => es2 j y (by omega) (by omega))
  have fB : cFm w cMk A B := ⟨fun j x j0 j1 _ j3 => es j x j0 j1 j3, fun j j0 j1 => es2 j (-1) (by omega) (by omega), gB, rB⟩
  have fZ := cFr_sO hw (cFr_rfl gB) (by omega) hs
  have zf : ∀ (j : Nat) (x : Int), j < 215 → Z j x = B j x := fun j x j0 => fZ.1 j x (by omega) (by omega) (by omega)
  have swB : cSw B (T ++ [(kd, sh, fo, -1, -1, 0, [])]) H := by
    have sw1 : cSw (w_up B 132 (T.length : Int) (B 132 (T.length : Int))) T H := by
      rw [← w_up_eta (S := B) (j := 132) (i := (T.length : Int)) rfl]
      exact cSw_ag hsw (fun j x hj => by
        rcases hj with z | ⟨z, z1, z2⟩ | z
        · exact fr j x (by omega) (by omega) (by omega) (by omega) (by omega) (by omega) (by omega) (by omega)
        · subst z; exact cr 5 (by first | decide | omega) x z1 (by omega)
        · exact fr j x (by omega) (by omega) (by omega) (by omega) (by omega) (by omega) (by omega) (by omega))
    rw [← w_up_eta (S := B) (j := 132) (i := (T.length : Int)) rfl] at sw1
    obtain ⟨q1, q2, q3, q4⟩ := sw1
    refine ⟨q1, q2, q3, fun x x0 x1 => ?_⟩
    rw [List.length_append] at x1
    by_cases c : x < (T.length : Int)
    · exact q4 x x0 c
    · have ex : x = (T.length : Int) := by
        have : ([((kd, sh, fo, -1, -1, 0, []) : aO)]).length = 1 := rfl
        omega
      rw [ex, aFs_nw hwS, ← hn]; exact b6
  refine ⟨cTk_sO hkB hw hs rfl rfl h3 rfl hm (by omega) (cV_e hk3 rfl), cWd_fr hw hWA fZ, cSw_ag swB (fun j x hj => zf j x (by omega)), cFm_tr fB (cFm_r fZ), ⟨(zf 150 0 (by first | decide | omega)).trans a2, fun x hx => (zf 150 x (by first | decide | omega)).trans (fr 150 x (by first | decide | omega) (by first | decide | omega) (by first | decide | omega) (by first | decide | omega) (by first | decide | omega) (Or.inl (by first | decide | omega)) (Or.inl (by first | decide | omega)) (Or.inr hx))⟩, fun po => ?_, (sO_16 hw hs).trans (es2 w 16 (by omega) (by omega))⟩
  exact cPo_ag (cPo_at po (by omega) r) (zf 72 3 (by first | decide | omega)) (fun x => ⟨zf 134 x (by first | decide | omega), zf 135 x (by first | decide | omega)⟩) (zf 140 2 (by first | decide | omega)) (zf 150 1 (by first | decide | omega))
/-- what the making of an object may change -/
def cMb (j : Nat) (x : Int) : Prop := cMk j x ∨ (144 ≤ j ∧ j ≤ 149) ∨ (j = 72 ∧ x = 8) ∨ (j = 150 ∧ x = 4)
def rMb (j : Nat) (x : Int) : Prop := rMk j x ∨ (329 ≤ j ∧ j ≤ 332) ∨ (j = 237 ∧ (x = 66 ∨ x = 87))
theorem bs_fm {m p : Int} (hw : w = 215 ∨ w = 226) (r : bs_ag m p S Z) : cFm w cMb S Z := by
  have hg : wG = 1000000 := rfl
  obtain ⟨-, -, -, -, fr, gZ, rZ⟩ := r
  refine ⟨fun j x j0 j1 _ j3 => ?_, fun j j0 j1 => fr j (-1) (by omega) (by omega) (by omega) (by omega) (by omega) (by omega), gZ, rZ⟩
  unfold cMb cMk at j3
  exact fr j x j0 j1 (by omega) (by omega) (by omega) (by omega)
theorem bs_tk {m p : Int} (hw : w = 215 ∨ w = 226) (r : bs_ag m p S Z) (h : cTk w S K) : cTk w Z K := by
  have hg : wG = 1000000 := rfl
  obtain ⟨-, -, -, -, fr, -, -⟩ := r
  have es2 : ∀ (j : Nat) (x : Int), (160 < j ∨ j < 72) → j < 237 → Z j x = S j x := fun j x j0 j1 => fr j x (by omega) (by omega) (by omega) (by omega) (by omega) (by omega)
  exact cTk_fr h (cTx_of (es2 2 1 (by first | decide | omega) (by first | decide | omega)) (fun x => es2 3 x (by first | decide | omega) (by first | decide | omega))) (fun j y j0 j1 => es2 j y (by omega) (by omega))
theorem bs_po {m p : Int} (r : bs_ag m p S Z) (h : cPo S) : cPo Z := by
  have hg : wG = 1000000 := rfl
  obtain ⟨-, -, -, -, fr, -, -⟩ := r
  have es : ∀ (j : Nat) (x : Int), j < 144 → j ≠ 132 → j ≠ 130 → (j ≠ 72 ∨ x ≠ 8) → Z j x = S j x := fun j x j0 j1 j2 j3 => fr j x (by omega) (by omega) (by omega) (by omega) j3 (by omega)
  exact cPo_ag h (es 72 3 (by first | decide | omega) (by first | decide | omega) (by first | decide | omega) (by first | decide | omega)) (fun x => ⟨es 134 x (by first | decide | omega) (by first | decide | omega) (by first | decide | omega) (Or.inl (by first | decide | omega)), es 135 x (by first | decide | omega) (by first | decide | omega) (by first | decide | omega) (Or.inl (by first | decide | omega))⟩) (es 140 2 (by first | decide | omega) (by first | decide | omega) (by first | decide | omega) (by first | decide | omega)) (fr 150 1 (by first | decide | omega) (by first | decide | omega) (by first | decide | omega) (by first | decide | omega) (by first | decide | omega) (by first | decide | omega))
theorem cSw_up {j : Nat} {i x : Int} (h : cSw S T H) (hj : 160 < j) : cSw (w_up S j i x) T H := cSw_ag h (fun y z hy => w_up_slot (by omega))
/-- values go, one comes -/
theorem cs_b_215 {a b oq : Int} {v : aV} {kk vv n : Int} (h : stC 215 S K) (ho : S 31 (S 27 (K.2.1.getD (K.2.1.length - 1) (0, 0, 0, (0, 0, []), 0, 0, 0)).1 + (K.2.1.getD (K.2.1.length - 1) (0, 0, 0, (0, 0, []), 0, 0, 0)).2.1) = oq) (ha : S 32 (S 27 (K.2.1.getD (K.2.1.length - 1) (0, 0, 0, (0, 0, []), 0, 0, 0)).1 + (K.2.1.getD (K.2.1.length - 1) (0, 0, 0, (0, 0, []), 0, 0, 0)).2.1) = a) (hb : S 33 (S 27 (K.2.1.getD (K.2.1.length - 1) (0, 0, 0, (0, 0, []), 0, 0, 0)).1 + (K.2.1.getD (K.2.1.length - 1) (0, 0, 0, (0, 0, []), 0, 0, 0)).2.1) = b) (ho1 : (oq = 28)) (hl : 2000 ≤ K.1.length → ¬ (oq = 0 ∨ oq = 1 ∨ oq = 3 ∨ oq = 6 ∨ oq = 24 ∨ oq = 26 ∨ oq = 33 ∨ (oq = 25 ∧ a = 0))) (hml : ∀ x ∈ [217, 218], x ∈ ml) (hmn : ¬ mS ml 215) (hcal : wJ (pe_GA xs) wY0 (mS ml) (d + 11) t_XK_callBuiltin ((pe_at t_XK_callBuiltin.bl 0).getD (0, [])).2 [(0, (2, 215)), (1, (0, a))] [] (w_up S 215 16 0) (fun o Z => o = .inl none ∧ sO 215 (K.1.length : Int) (K.2.1.length : Int) (K.2.1.getD (K.2.1.length - 1) (0, 0, 0, (0, 0, []), 0, 0, 0)).2.1 n kk vv (w_up S 215 16 0) Z)) (hn : n = (m : Int)) (hm : m ≤ K.1.length) (hv : cVl S kk vv v) : wJ (pe_GA xs) wY0 (mS ml) (d + 12) t_XK_step ((pe_at t_XK_step.bl 0).getD (0, [])).2 [(0, (2, 215))] [] S (fun o Z => o = .inl (some (0, 1)) ∧ cTk 215 Z (kNx (K.1.take (K.1.length - m) ++ [v], K.2) ((K.2.1.getD (K.2.1.length - 1) (0, 0, 0, (0, 0, []), 0, 0, 0)).2.1 + 1)) ∧ cFr 215 S Z) := by
  obtain ⟨h1, ⟨h2, h2b⟩, ⟨h3, h4, h5⟩, -⟩ := id h
  have hf : cFr 215 S (w_up S 215 16 0) := cFr_up (Or.inl rfl) (cFr_rfl h2b) (by first | decide | omega) (by omega)
  refine cg_b_215 (P := fun Z => cTk 215 Z (kNx (K.1.take (K.1.length - m) ++ [v], K.2) ((K.2.1.getD (K.2.1.length - 1) (0, 0, 0, (0, 0, []), 0, 0, 0)).2.1 + 1)) ∧ cFr 215 S Z) h ho ha hb ho1 hl hml hmn hcal (fun Z hz => ⟨(sO_16 (Or.inl rfl) hz).trans (w_up_same _ _ _ _), cTk_sO (cTk_16 h1 (Or.inl rfl)) (Or.inl rfl) hz rfl rfl h3 hn hm (by omega) (cVl_mo hv (cTx_of (w_up_slot (by first | decide | omega)) (fun _ => w_up_slot (by first | decide | omega)))), cFr_sO (Or.inl rfl) hf (by omega) hz⟩)
/-- an ERROR -/
theorem cx_b_215 {a b oq e : Int} (h : stC 215 S K) (ho : S 31 (S 27 (K.2.1.getD (K.2.1.length - 1) (0, 0, 0, (0, 0, []), 0, 0, 0)).1 + (K.2.1.getD (K.2.1.length - 1) (0, 0, 0, (0, 0, []), 0, 0, 0)).2.1) = oq) (ha : S 32 (S 27 (K.2.1.getD (K.2.1.length - 1) (0, 0, 0, (0, 0, []), 0, 0, 0)).1 + (K.2.1.getD (K.2.1.length - 1) (0, 0, 0, (0, 0, []), 0, 0, 0)).2.1) = a) (hb : S 33 (S 27 (K.2.1.getD (K.2.1.length - 1) (0, 0, 0, (0, 0, []), 0, 0, 0)).1 + (K.2.1.getD (K.2.1.length - 1) (0, 0, 0, (0, 0, []), 0, 0, 0)).2.1) = b) (ho1 : (oq = 28)) (hl : 2000 ≤ K.1.length → ¬ (oq = 0 ∨ oq = 1 ∨ oq = 3 ∨ oq = 6 ∨ oq = 24 ∨ oq = 26 ∨ oq = 33 ∨ (oq = 25 ∧ a = 0))) (hml : ∀ x ∈ [217, 218], x ∈ ml) (hmn : ¬ mS ml 215) (he : 1 ≤ e ∧ e ≤ 12) (hcal : wJ (pe_GA xs) wY0 (mS ml) (d + 11) t_XK_callBuiltin ((pe_at t_XK_callBuiltin.bl 0).getD (0, [])).2 [(0, (2, 215)), (1, (0, a))] [] (w_up S 215 16 0) (fun o Z => o = .inl none ∧ w_up (w_up S 215 16 0) 215 16 e = Z)) : wJ (pe_GA xs) wY0 (mS ml) (d + 12) t_XK_step ((pe_at t_XK_step.bl 0).getD (0, [])).2 [(0, (2, 215))] [] S (fun o Z => o = .inl (some (0, 1)) ∧ cTk 215 Z (kTh K (2, e, [])) ∧ cFr 215 S Z) := by
  obtain ⟨h1, ⟨h2, h2b⟩, ⟨h3, h4, h5⟩, -⟩ := id h
  have hf : cFr 215 S (w_up (w_up S 215 16 0) 215 16 e) := cFr_up (Or.inl rfl) (cFr_up (Or.inl rfl) (cFr_rfl h2b) (by first | decide | omega) (by omega)) (by first | decide | omega) (by omega)
  have hk : cTk 215 (w_up (w_up S 215 16 0) 215 16 e) K := cTk_16 (cTk_16 h1 (Or.inl rfl)) (Or.inl rfl)
  have hx := xR_of hk (cFr_cl (Or.inl rfl) hf h2) hf.2.2.1 h5
  refine wJ_mono (ce_b_215 h ho ha hb ho1 hl hml hmn (show e ≠ 0 ∧ e ≠ 99 by omega) hcal (fun Z hz => by subst hz; exact ⟨w_up_same _ _ _ _, hx⟩)) (fun o Z2 hz => ?_)
  obtain ⟨rfl, Z, rfl, hr⟩ := hz
  exact ⟨rfl, cTk_rs hk (Or.inl rfl) hr ⟨rfl, fun _ => ⟨rfl, rfl⟩, fun q => absurd (show (2 : Int) = 3 from q) (by first | decide | omega)⟩ h5 (by omega), cFr_rs (Or.inl rfl) hf hr (fun q => (hx.2.2.2 q).1.1) (fun q => (hx.2.2.2 q).2.1)⟩
theorem zb1n_215 (h : stC 215 S K) (hi : cIn S K 28 1 b) (hx1 : pe_at (pe_GA xs).xs 1 = some (1, tx_1)) (hW : cWd S T L G) (hsw : cSw S T H) (hwS : wSh T H) (hu : 0 ≤ S 150 0 ∧ S 150 0 ≤ 8000) (hu4 : 0 ≤ S 150 4 ∧ S 150 4 ≤ 4000) (hT : (T.length : Int) ≤ 8000) (hc5 : S 140 2 ≤ 240200) (hh1 : 1 ≤ K.1.length) (hy : (K.1.getD (K.1.length - 1) (0, 0, [])).1 = 0) (hm : S 150 0 < 8000) : cSm xs d 215 [217, 218, 127, 128, 129, 130, 131, 132, 133, 134, 135, 136, 141, 142] cMb S (kP K 1 (4, (T.length : Int), [])) (fun Z => cWd Z (T ++ [((4, 0, -1, -1, -1, 0, []) : aO)]) L G ∧ cSw Z (T ++ [((4, 0, -1, -1, -1, 0, []) : aO)]) H ∧ (Z 150 0 = S 150 0 + 1 ∧ Z 150 4 = S 150 4 ∧ ∀ x : Int, x ≠ 0 → x ≠ 4 → Z 150 x = S 150 x) ∧ (cPo S → cPo Z)) := by
  obtain ⟨h1, ⟨h2, h2b⟩, ⟨h3, h4, h5⟩, -⟩ := id h
  have hW2 : cWd (w_up S 215 16 0) T L G := cWd_up hW (by first | decide | omega)
  have hsw2 : cSw (w_up S 215 16 0) T H := cSw_up hsw (by first | decide | omega)
  have hk : cTk 215 (w_up S 215 16 0) K := cTk_16 h1 (Or.inl rfl)
  have hf : cFr 215 S (w_up S 215 16 0) := cFr_up (Or.inl rfl) (cFr_rfl h2b) (by first | decide | omega) (by omega)
  have ef : ∀ (j : Nat) (x : Int), j < 215 → (w_up S 215 16 0) j x = S j x := fun j x j0 => w_up_slot (by omega)
  have hc := c_at h1 (i := K.1.length - 1) (by omega) (j := (K.1.length : Int) - 1) (by omega)
  obtain ⟨w1, -, -, ⟨-, n5, ⟨n6, n7⟩, n8, n9⟩, ⟨t1, t2, t3, t4⟩, -⟩ := id hW2
  have hu2 : 0 ≤ (w_up S 215 16 0) 150 0 ∧ (w_up S 215 16 0) 150 0 ≤ 8000 := by rw [ef 150 0 (by first | decide | omega)]; exact hu
  have hu42 : 0 ≤ (w_up S 215 16 0) 150 4 ∧ (w_up S 215 16 0) 150 4 ≤ 4000 := by rw [ef 150 4 (by first | decide | omega)]; exact hu4
  have poT : cPo S → cPo (w_up S 215 16 0) := fun po => cPo_ag po (ef 72 3 (by first | decide | omega)) (fun x => ⟨ef 134 x (by first | decide | omega), ef 135 x (by first | decide | omega)⟩) (ef 140 2 (by first | decide | omega)) (ef 150 1 (by first | decide | omega))
  have ef2 : ∀ (x : Int), 217 ≠ 215 → (w_up S 215 16 0) 217 x = S 217 x := fun x hx => w_up_slot hx
  have hky : S 217 ((K.1.length : Int) - 1) = 0 := hc.1.trans hy
  refine cg_b_215 h hi.1 hi.2.1 hi.2.2 (by first | decide | omega) (fun q => by omega) (by first | decide | omega) (by unfold mS; decide) (xb1n_215 (n := (T.length : Int)) (xP_of (Or.inl rfl) h) hx1 rfl ⟨n6, n7⟩ n5 ⟨n8, n9⟩ t1 w1.1 ⟨by omega, t2⟩ ⟨t3, t4⟩ rfl hu2 ((ef2 _ (by first | decide | omega)).trans hky) rfl (by omega)) (fun Z hz => ?_)
  rcases hz with ⟨q, -⟩ | ⟨-, B, hB, hs⟩
  · exact absurd q (by rw [ef 150 0 (by first | decide | omega)]; omega)
  obtain ⟨g1, g2, g3, g4, ⟨g5, g6⟩, g7, g8⟩ := at_tail (m := 1) (Or.inl rfl) hk h3 h4 hh1 hW2 hsw2 hwS hT (by rw [ef 140 2 (by first | decide | omega)]; exact hc5) hB hs (by first | decide | omega)
  exact ⟨g8.trans (w_up_same _ _ _ _), g1, cFm_tr (cFm_r hf) (cFm_m (fun _ _ z => Or.inl z) g4), g2, g3, ⟨g5.trans (by rw [ef 150 0 (by first | decide | omega)]), (g6 4 (by first | decide | omega)).trans (ef 150 4 (by first | decide | omega)), fun x x0 _ => (g6 x x0).trans (ef 150 x (by first | decide | omega))⟩, fun po => g7 (poT po)⟩
theorem zb1nm_215 (h : stC 215 S K) (hi : cIn S K 28 1 b) (hx1 : pe_at (pe_GA xs).xs 1 = some (1, tx_1)) (hW : cWd S T L G) (hsw : cSw S T H) (hwS : wSh T H) (hu : 0 ≤ S 150 0 ∧ S 150 0 ≤ 8000) (hu4 : 0 ≤ S 150 4 ∧ S 150 4 ≤ 4000) (hT : (T.length : Int) ≤ 8000) (hc5 : S 140 2 ≤ 240200) (hh1 : 1 ≤ K.1.length) (hy : (K.1.getD (K.1.length - 1) (0, 0, [])).1 = 0) (hm : 8000 ≤ S 150 0) : cSn xs d 215 [217, 218, 127, 128, 129, 130, 131, 132, 133, 134, 135, 136, 141, 142] S K := by
  obtain ⟨h1, ⟨h2, h2b⟩, ⟨h3, h4, h5⟩, -⟩ := id h
  have hW2 : cWd (w_up S 215 16 0) T L G := cWd_up hW (by first | decide | omega)
  have hsw2 : cSw (w_up S 215 16 0) T H := cSw_up hsw (by first | decide | omega)
  have hk : cTk 215 (w_up S 215 16 0) K := cTk_16 h1 (Or.inl rfl)
  have hf : cFr 215 S (w_up S 215 16 0) := cFr_up (Or.inl rfl) (cFr_rfl h2b) (by first | decide | omega) (by omega)
  have ef : ∀ (j : Nat) (x : Int), j < 215 → (w_up S 215 16 0) j x = S j x := fun j x j0 => w_up_slot (by omega)
  have hc := c_at h1 (i := K.1.length - 1) (by omega) (j := (K.1.length : Int) - 1) (by omega)
  obtain ⟨w1, -, -, ⟨-, n5, ⟨n6, n7⟩, n8, n9⟩, ⟨t1, t2, t3, t4⟩, -⟩ := id hW2
  have hu2 : 0 ≤ (w_up S 215 16 0) 150 0 ∧ (w_up S 215 16 0) 150 0 ≤ 8000 := by rw [ef 150 0 (by first | decide | omega)]; exact hu
  have hu42 : 0 ≤ (w_up S 215 16 0) 150 4 ∧ (w_up S 215 16 0) 150 4 ≤ 4000 := by rw [ef 150 4 (by first | decide | omega)]; exact hu4
  have ef2 : ∀ (x : Int), 217 ≠ 215 → (w_up S 215 16 0) 217 x = S 217 x := fun x hx => w_up_slot hx
  have hky : S 217 ((K.1.length : Int) - 1) = 0 := hc.1.trans hy
  refine wJ_mono (cm_b_215 h hi.1 hi.2.1 hi.2.2 (by first | decide | omega) (fun q => by omega) (by first | decide | omega) (by unfold mS; decide) (wJ_mono (xb1n_215 (n := (T.length : Int)) (xP_of (Or.inl rfl) h) hx1 rfl ⟨n6, n7⟩ n5 ⟨n8, n9⟩ t1 w1.1 ⟨by omega, t2⟩ ⟨t3, t4⟩ rfl hu2 ((ef2 _ (by first | decide | omega)).trans hky) rfl (by omega)) (fun o Z hz => (⟨hz.1, hz.2.elim (fun z => z.2) (fun z => absurd z.1 (by rw [ef 150 0 (by first | decide | omega)]; omega))⟩ : o = .inl none ∧ w_up (w_up S 215 16 0) 215 16 99 = Z))) (fun Z hz => by subst hz; exact w_up_same _ _ _ _)) (fun o Z2 hz => ?_)
  obtain ⟨hz0, Z, rfl, rfl⟩ := hz
  exact ⟨hz0, cTk_st (cTk_16 hk (Or.inl rfl)) (Or.inl rfl), cFr_up (Or.inl rfl) (cFr_up (Or.inl rfl) hf (by first | decide | omega) (by omega)) (by first | decide | omega) (by omega)⟩
theorem zb1o_215 (h : stC 215 S K) (hi : cIn S K 28 1 b) (hx1 : pe_at (pe_GA xs).xs 1 = some (1, tx_1)) (hW : cWd S T L G) (hsw : cSw S T H) (hwS : wSh T H) (hu : 0 ≤ S 150 0 ∧ S 150 0 ≤ 8000) (hu4 : 0 ≤ S 150 4 ∧ S 150 4 ≤ 4000) (hT : (T.length : Int) ≤ 8000) (hc5 : S 140 2 ≤ 240200) (hh1 : 1 ≤ K.1.length) (hy : (K.1.getD (K.1.length - 1) (0, 0, [])).1 = 4 ∨ (K.1.getD (K.1.length - 1) (0, 0, [])).1 = 5) (hq : isO T (K.1.getD (K.1.length - 1) (0, 0, [])).2.1) (hr : r = aFs (-1) (K.1.getD (K.1.length - 1) (0, 0, [])).2.1 (-1) H 0) (hm : S 150 0 < 8000 ∧ 0 ≤ r) : cSm xs d 215 [217, 218, 127, 128, 129, 130, 131, 132, 133, 134, 135, 136, 141, 142, 144, 145, 146, 147, 148] cMb S (kP K 1 (4, (T.length : Int), [])) (fun Z => cWd Z (T ++ [((4, r, -1, -1, -1, 0, []) : aO)]) L G ∧ cSw Z (T ++ [((4, r, -1, -1, -1, 0, []) : aO)]) H ∧ (Z 150 0 = S 150 0 + 1 ∧ Z 150 4 = S 150 4 ∧ ∀ x : Int, x ≠ 0 → x ≠ 4 → Z 150 x = S 150 x) ∧ (cPo S → cPo Z)) := by
  obtain ⟨h1, ⟨h2, h2b⟩, ⟨h3, h4, h5⟩, -⟩ := id h
  have hW2 : cWd (w_up S 215 16 0) T L G := cWd_up hW (by first | decide | omega)
  have hsw2 : cSw (w_up S 215 16 0) T H := cSw_up hsw (by first | decide | omega)
  have hk : cTk 215 (w_up S 215 16 0) K := cTk_16 h1 (Or.inl rfl)
  have hf : cFr 215 S (w_up S 215 16 0) := cFr_up (Or.inl rfl) (cFr_rfl h2b) (by first | decide | omega) (by omega)
  have ef : ∀ (j : Nat) (x : Int), j < 215 → (w_up S 215 16 0) j x = S j x := fun j x j0 => w_up_slot (by omega)
  have hc := c_at h1 (i := K.1.length - 1) (by omega) (j := (K.1.length : Int) - 1) (by omega)
  obtain ⟨w1, -, -, ⟨-, n5, ⟨n6, n7⟩, n8, n9⟩, ⟨t1, t2, t3, t4⟩, -⟩ := id hW2
  have hu2 : 0 ≤ (w_up S 215 16 0) 150 0 ∧ (w_up S 215 16 0) 150 0 ≤ 8000 := by rw [ef 150 0 (by first | decide | omega)]; exact hu
  have hu42 : 0 ≤ (w_up S 215 16 0) 150 4 ∧ (w_up S 215 16 0) 150 4 ≤ 4000 := by rw [ef 150 4 (by first | decide | omega)]; exact hu4
  have poT : cPo S → cPo (w_up S 215 16 0) := fun po => cPo_ag po (ef 72 3 (by first | decide | omega)) (fun x => ⟨ef 134 x (by first | decide | omega), ef 135 x (by first | decide | omega)⟩) (ef 140 2 (by first | decide | omega)) (ef 150 1 (by first | decide | omega))
  have ef2 : ∀ (x : Int), 217 ≠ 215 → (w_up S 215 16 0) 217 x = S 217 x := fun x hx => w_up_slot hx
  have ef3 : ∀ (x : Int), 218 ≠ 215 → (w_up S 215 16 0) 218 x = S 218 x := fun x hx => w_up_slot hx
  have hky : S 217 ((K.1.length : Int) - 1) = (K.1.getD (K.1.length - 1) (0, 0, [])).1 := hc.1
  have hvy : S 218 ((K.1.length : Int) - 1) = (K.1.getD (K.1.length - 1) (0, 0, [])).2.1 := cV_v hc (by omega)
  refine cg_b_215 h hi.1 hi.2.1 hi.2.2 (by first | decide | omega) (fun q => by omega) (by first | decide | omega) (by unfold mS; decide) (xb1o_215 (n := (T.length : Int)) (q := (K.1.getD (K.1.length - 1) (0, 0, [])).2.1) (r := r) (xP_of (Or.inl rfl) h) hx1 rfl ⟨n6, n7⟩ n5 ⟨n8, n9⟩ t1 w1.1 ⟨by omega, t2⟩ ⟨t3, t4⟩ rfl hu2 ((ef2 _ (by first | decide | omega)).trans hky) ((ef3 _ (by first | decide | omega)).trans hvy) (by omega) (Or.imp id id hy) hsw2 hW2.2.2.2.2.1 hwS hq hr hu42) (fun Z hz => ?_)
  rcases hz with ⟨q, -⟩ | ⟨-, -, B, hB, hs⟩ | ⟨-, q, -⟩
  · exact absurd q (by rw [ef 150 0 (by first | decide | omega), ef 150 4 (by first | decide | omega)]; omega)
  · obtain ⟨g1, g2, g3, g4, ⟨g5, g6⟩, g7, g8⟩ := at_tail (m := 1) (Or.inl rfl) hk h3 h4 hh1 hW2 hsw2 hwS hT (by rw [ef 140 2 (by first | decide | omega)]; exact hc5) hB hs (by first | decide | omega)
    exact ⟨g8.trans (w_up_same _ _ _ _), g1, cFm_tr (cFm_r hf) (cFm_m (fun _ _ z => Or.inl z) g4), g2, g3, ⟨g5.trans (by rw [ef 150 0 (by first | decide | omega)]), (g6 4 (by first | decide | omega)).trans (ef 150 4 (by first | decide | omega)), fun x x0 _ => (g6 x x0).trans (ef 150 x (by first | decide | omega))⟩, fun po => g7 (poT po)⟩
  · omega
theorem zb1p_215 (h : stC 215 S K) (hi : cIn S K 28 1 b) (hx1 : pe_at (pe_GA xs).xs 1 = some (1, tx_1)) (hW : cWd S T L G) (hsw : cSw S T H) (hwS : wSh T H) (hu : 0 ≤ S 150 0 ∧ S 150 0 ≤ 8000) (hu4 : 0 ≤ S 150 4 ∧ S 150 4 ≤ 4000) (hT : (T.length : Int) ≤ 8000) (hc5 : S 140 2 ≤ 240200) (hh1 : 1 ≤ K.1.length) (hy : (K.1.getD (K.1.length - 1) (0, 0, [])).1 = 4 ∨ (K.1.getD (K.1.length - 1) (0, 0, [])).1 = 5) (hq : isO T (K.1.getD (K.1.length - 1) (0, 0, [])).2.1) (hr : r = aFs (-1) (K.1.getD (K.1.length - 1) (0, 0, [])).2.1 (-1) H 0) (hm : S 150 0 < 8000 ∧ r = -1 ∧ S 150 4 < 4000) (hl4 : (H.length : Int) ≤ 4000) : cSm xs d 215 [217, 218, 127, 128, 129, 130, 131, 132, 133, 134, 135, 136, 141, 142, 144, 145, 146, 147, 148] cMb S (kP K 1 (4, (T.length : Int), [])) (fun Z => cWd Z ((tEp T (K.1.getD (K.1.length - 1) (0, 0, [])).2.1 0) ++ [((4, (H.length : Int), -1, -1, -1, 0, []) : aO)]) L G ∧ cSw Z ((tEp T (K.1.getD (K.1.length - 1) (0, 0, [])).2.1 0) ++ [((4, (H.length : Int), -1, -1, -1, 0, []) : aO)]) (H ++ [((K.1.getD (K.1.length - 1) (0, 0, [])).2.1, -1, -1, 0)]) ∧ (Z 150 0 = S 150 0 + 1 ∧ Z 150 4 = S 150 4 + 1 ∧ ∀ x : Int, x ≠ 0 → x ≠ 4 → Z 150 x = S 150 x) ∧ (cPo S → cPo Z)) := by
  obtain ⟨h1, ⟨h2, h2b⟩, ⟨h3, h4, h5⟩, -⟩ := id h
  have hW2 : cWd (w_up S 215 16 0) T L G := cWd_up hW (by first | decide | omega)
  have hsw2 : cSw (w_up S 215 16 0) T H := cSw_up hsw (by first | decide | omega)
  have hk : cTk 215 (w_up S 215 16 0) K := cTk_16 h1 (Or.inl rfl)
  have hf : cFr 215 S (w_up S 215 16 0) := cFr_up (Or.inl rfl) (cFr_rfl h2b) (by first | decide | omega) (by omega)
  have ef : ∀ (j : Nat) (x : Int), j < 215 → (w_up S 215 16 0) j x = S j x := fun j x j0 => w_up_slot (by omega)
  have hc := c_at h1 (i := K.1.length - 1) (by omega) (j := (K.1.length : Int) - 1) (by omega)
  obtain ⟨w1, -, -, ⟨-, n5, ⟨n6, n7⟩, n8, n9⟩, ⟨t1, t2, t3, t4⟩, -⟩ := id hW2
  have hu2 : 0 ≤ (w_up S 215 16 0) 150 0 ∧ (w_up S 215 16 0) 150 0 ≤ 8000 := by rw [ef 150 0 (by first | decide | omega)]; exact hu
  have hu42 : 0 ≤ (w_up S 215 16 0) 150 4 ∧ (w_up S 215 16 0) 150 4 ≤ 4000 := by rw [ef 150 4 (by first | decide | omega)]; exact hu4
  have poT : cPo S → cPo (w_up S 215 16 0) := fun po => cPo_ag po (ef 72 3 (by first | decide | omega)) (fun x => ⟨ef 134 x (by first | decide | omega), ef 135 x (by first | decide | omega)⟩) (ef 140 2 (by first | decide | omega)) (ef 150 1 (by first | decide | omega))
  have ef2 : ∀ (x : Int), 217 ≠ 215 → (w_up S 215 16 0) 217 x = S 217 x := fun x hx => w_up_slot hx
  have ef3 : ∀ (x : Int), 218 ≠ 215 → (w_up S 215 16 0) 218 x = S 218 x := fun x hx => w_up_slot hx
  have hky : S 217 ((K.1.length : Int) - 1) = (K.1.getD (K.1.length - 1) (0, 0, [])).1 := hc.1
  have hvy : S 218 ((K.1.length : Int) - 1) = (K.1.getD (K.1.length - 1) (0, 0, [])).2.1 := cV_v hc (by omega)
  have hg : wG = 1000000 := rfl
  have hfn : aFs (-1) (K.1.getD (K.1.length - 1) (0, 0, [])).2.1 (-1) H 0 = -1 := hr.symm.trans hm.2.1
  refine cg_b_215 h hi.1 hi.2.1 hi.2.2 (by first | decide | omega) (fun q => by omega) (by first | decide | omega) (by unfold mS; decide) (xb1o_215 (n := (T.length : Int)) (q := (K.1.getD (K.1.length - 1) (0, 0, [])).2.1) (r := r) (xP_of (Or.inl rfl) h) hx1 rfl ⟨n6, n7⟩ n5 ⟨n8, n9⟩ t1 w1.1 ⟨by omega, t2⟩ ⟨t3, t4⟩ rfl hu2 ((ef2 _ (by first | decide | omega)).trans hky) ((ef3 _ (by first | decide | omega)).trans hvy) (by omega) (Or.imp id id hy) hsw2 hW2.2.2.2.2.1 hwS hq hr hu42) (fun Z hz => ?_)
  rcases hz with ⟨q, -⟩ | ⟨-, q, -⟩ | ⟨-, -, -, A, B, hA, hB, hs⟩
  · exact absurd q (by rw [ef 150 0 (by first | decide | omega), ef 150 4 (by first | decide | omega)]; omega)
  · omega
  · have hWA := cWd_bs hW2 hq.1.1 hq.1.2 hA
    have hsA := cSw_bs hsw2 hq hfn hl4 hA
    have hwA := wSh_bs hwS hq hfn hl4
    obtain ⟨⟨-, a4⟩, -, -, -, fr, -, -⟩ := id hA
    have e0 : ∀ x : Int, x ≠ 4 → A 150 x = S 150 x := fun x hx => (fr 150 x (by first | decide | omega) (by first | decide | omega) (by first | decide | omega) (Or.inl (by first | decide | omega)) (Or.inl (by first | decide | omega)) (Or.inr hx)).trans (ef 150 x (by first | decide | omega))
    have e4 : A 140 2 = S 140 2 := (fr 140 2 (by first | decide | omega) (by first | decide | omega) (by first | decide | omega) (Or.inl (by first | decide | omega)) (by first | decide | omega) (by first | decide | omega)).trans (ef 140 2 (by first | decide | omega))
    have e16 : A 215 16 = 0 := (fr 215 16 (by first | decide | omega) (by first | decide | omega) (by first | decide | omega) (Or.inl (by first | decide | omega)) (by first | decide | omega) (by first | decide | omega)).trans (w_up_same _ _ _ _)
    have lT : (tEp T (K.1.getD (K.1.length - 1) (0, 0, [])).2.1 0).length = T.length := tEp_l
    obtain ⟨g1, g2, g3, g4, ⟨g5, g6⟩, g7, g8⟩ := at_tail (m := 1) (T := (tEp T (K.1.getD (K.1.length - 1) (0, 0, [])).2.1 0)) (Or.inl rfl) (bs_tk (Or.inl rfl) hA hk) h3 h4 hh1 hWA hsA hwA (by rw [lT]; exact hT) (by rw [e4]; exact hc5) hB (by rw [lT]; exact hs) (by first | decide | omega)
    rw [lT] at g1
    exact ⟨g8.trans e16, g1, cFm_tr (cFm_tr (cFm_r hf) (bs_fm (Or.inl rfl) hA)) (cFm_m (fun _ _ z => Or.inl z) g4), g2, g3, ⟨g5.trans (by rw [e0 0 (by first | decide | omega)]), (g6 4 (by first | decide | omega)).trans (a4.trans (by rw [ef 150 4 (by first | decide | omega)])), fun x x0 x4 => (g6 x x0).trans (e0 x x4)⟩, fun po => g7 (bs_po hA (poT po))⟩
theorem zb1m_215 (h : stC 215 S K) (hi : cIn S K 28 1 b) (hx1 : pe_at (pe_GA xs).xs 1 = some (1, tx_1)) (hW : cWd S T L G) (hsw : cSw S T H) (hwS : wSh T H) (hu : 0 ≤ S 150 0 ∧ S 150 0 ≤ 8000) (hu4 : 0 ≤ S 150 4 ∧ S 150 4 ≤ 4000) (hT : (T.length : Int) ≤ 8000) (hc5 : S 140 2 ≤ 240200) (hh1 : 1 ≤ K.1.length) (hy : (K.1.getD (K.1.length - 1) (0, 0, [])).1 = 4 ∨ (K.1.getD (K.1.length - 1) (0, 0, [])).1 = 5) (hq : isO T (K.1.getD (K.1.length - 1) (0, 0, [])).2.1) (hr : r = aFs (-1) (K.1.getD (K.1.length - 1) (0, 0, [])).2.1 (-1) H 0) (hm : 8000 ≤ S 150 0 ∨ (r = -1 ∧ 4000 ≤ S 150 4)) : cSn xs d 215 [217, 218, 127, 128, 129, 130, 131, 132, 133, 134, 135, 136, 141, 142, 144, 145, 146, 147, 148] S K := by
  obtain ⟨h1, ⟨h2, h2b⟩, ⟨h3, h4, h5⟩, -⟩ := id h
  have hW2 : cWd (w_up S 215 16 0) T L G := cWd_up hW (by first | decide | omega)
  have hsw2 : cSw (w_up S 215 16 0) T H := cSw_up hsw (by first | decide | omega)
  have hk : cTk 215 (w_up S 215 16 0) K := cTk_16 h1 (Or.inl rfl)
  have hf : cFr 215 S (w_up S 215 16 0) := cFr_up (Or.inl rfl) (cFr_rfl h2b) (by first | decide | omega) (by omega)
  have ef : ∀ (j : Nat) (x : Int), j < 215 → (w_up S 215 16 0) j x = S j x := fun j x j0 => w_up_slot (by omega)
  have hc := c_at h1 (i := K.1.length - 1) (by omega) (j := (K.1.length : Int) - 1) (by omega)
  obtain ⟨w1, -, -, ⟨-, n5, ⟨n6, n7⟩, n8, n9⟩, ⟨t1, t2, t3, t4⟩, -⟩ := id hW2
  have hu2 : 0 ≤ (w_up S 215 16 0) 150 0 ∧ (w_up S 215 16 0) 150 0 ≤ 8000 := by rw [ef 150 0 (by first | decide | omega)]; exact hu
  have hu42 : 0 ≤ (w_up S 215 16 0) 150 4 ∧ (w_up S 215 16 0) 150 4 ≤ 4000 := by rw [ef 150 4 (by first | decide | omega)]; exact hu4
  have ef2 : ∀ (x : Int), 217 ≠ 215 → (w_up S 215 16 0) 217 x = S 217 x := fun x hx => w_up_slot hx
  have ef3 : ∀ (x : Int), 218 ≠ 215 → (w_up S 215 16 0) 218 x = S 218 x := fun x hx => w_up_slot hx
  have hky : S 217 ((K.1.length : Int) - 1) = (K.1.getD (K.1.length - 1) (0, 0, [])).1 := hc.1
  have hvy : S 218 ((K.1.length : Int) - 1) = (K.1.getD (K.1.length - 1) (0, 0, [])).2.1 := cV_v hc (by omega)
  refine wJ_mono (cm_b_215 h hi.1 hi.2.1 hi.2.2 (by first | decide | omega) (fun q => by omega) (by first | decide | omega) (by unfold mS; decide) (wJ_mono (xb1o_215 (n := (T.length : Int)) (q := (K.1.getD (K.1.length - 1) (0, 0, [])).2.1) (r := r) (xP_of (Or.inl rfl) h) hx1 rfl ⟨n6, n7⟩ n5 ⟨n8, n9⟩ t1 w1.1 ⟨by omega, t2⟩ ⟨t3, t4⟩ rfl hu2 ((ef2 _ (by first | decide | omega)).trans hky) ((ef3 _ (by first | decide | omega)).trans hvy) (by omega) (Or.imp id id hy) hsw2 hW2.2.2.2.2.1 hwS hq hr hu42) (fun o Z hz => (⟨hz.1, ?_⟩ : o = .inl none ∧ w_up (w_up S 215 16 0) 215 16 99 = Z))) (fun Z hz => by subst hz; exact w_up_same _ _ _ _)) (fun o Z2 hz => ?_)
  · rcases hz.2 with ⟨-, z⟩ | ⟨z1, z2, -⟩ | ⟨z1, z2, z3, -⟩
    · exact z
    · rw [ef 150 0 (by first | decide | omega)] at z1; omega
    · rw [ef 150 0 (by first | decide | omega)] at z1; rw [ef 150 4 (by first | decide | omega)] at z3; omega
  obtain ⟨hz0, Z, rfl, rfl⟩ := hz
  exact ⟨hz0, cTk_st (cTk_16 hk (Or.inl rfl)) (Or.inl rfl), cFr_up (Or.inl rfl) (cFr_up (Or.inl rfl) hf (by first | decide | omega) (by omega)) (by first | decide | omega) (by omega)⟩
theorem zb1e_215 (h : stC 215 S K) (hi : cIn S K 28 1 b) (hh1 : 1 ≤ K.1.length) (hy : (K.1.getD (K.1.length - 1) (0, 0, [])).1 ≠ 0 ∧ (K.1.getD (K.1.length - 1) (0, 0, [])).1 ≠ 4 ∧ (K.1.getD (K.1.length - 1) (0, 0, [])).1 ≠ 5) : cSt xs d 215 S (kTh K (2, 12, [])) := by
  have hc := c_at h.1 (i := K.1.length - 1) (by omega) (j := (K.1.length : Int) - 1) (by omega)
  exact cx_b_215 h hi.1 hi.2.1 hi.2.2 (by first | decide | omega) (fun q => by omega) (fun x hx => hx) (by unfold mS; decide) (by first | decide | omega) (xb1e_215 (xP_of (Or.inl rfl) h) ((w_up_slot (by first | decide | omega)).trans hc.1) rfl (by omega) hy)
theorem zb2e_215 (h : stC 215 S K) (hi : cIn S K 28 2 b) (hh1 : 1 ≤ K.1.length) (hy : (K.1.getD (K.1.length - 1) (0, 0, [])).1 ≠ 4 ∧ (K.1.getD (K.1.length - 1) (0, 0, [])).1 ≠ 5) : cSt xs d 215 S (kTh K (2, 12, [])) := by
  have hc := c_at h.1 (i := K.1.length - 1) (by omega) (j := (K.1.length : Int) - 1) (by omega)
  exact cx_b_215 h hi.1 hi.2.1 hi.2.2 (by first | decide | omega) (fun q => by omega) (fun x hx => hx) (by unfold mS; decide) (by first | decide | omega) (xb2e_215 (xP_of (Or.inl rfl) h) ((w_up_slot (by first | decide | omega)).trans hc.1) rfl (by omega) hy)
theorem zb2_215 (h : stC 215 S K) (hi : cIn S K 28 2 b) (hW : cWd S T L G) (hsw : cSw S T H) (hwS : wSh T H) (hh1 : 1 ≤ K.1.length) (hy : (K.1.getD (K.1.length - 1) (0, 0, [])).1 = 4 ∨ (K.1.getD (K.1.length - 1) (0, 0, [])).1 = 5) (hq : isO T (K.1.getD (K.1.length - 1) (0, 0, [])).2.1) : cSt xs d 215 S (kP K 1 (if aPr T H (K.1.getD (K.1.length - 1) (0, 0, [])).2.1 = -1 then (0, 0, []) else ((tO T (aPr T H (K.1.getD (K.1.length - 1) (0, 0, [])).2.1)).1, aPr T H (K.1.getD (K.1.length - 1) (0, 0, [])).2.1, []))) := by
  obtain ⟨h1, -, -⟩ := id h
  have hc := c_at h1 (i := K.1.length - 1) (by omega) (j := (K.1.length : Int) - 1) (by omega)
  have hvy : S 218 ((K.1.length : Int) - 1) = (K.1.getD (K.1.length - 1) (0, 0, [])).2.1 := cV_v hc (by omega)
  obtain ⟨e1, e2, e3⟩ := hIx_o (nm := 0) hsw.1 hW.1 hwS hq
  obtain ⟨w1, -, -, -, ⟨t1, t2, t3, t4⟩, -⟩ := id hW
  obtain ⟨l1, l2, l3, l4⟩ := hsw.2.1
  have hg := wSh_pr hwS hq
  have ef : ∀ (j : Nat) (x : Int), j < 215 → (w_up S 215 16 0) j x = S j x := fun j x j0 => w_up_slot (by omega)
  have f28 : (w_up S 215 16 0) 128 (K.1.getD (K.1.length - 1) (0, 0, [])).2.1 = S 128 (K.1.getD (K.1.length - 1) (0, 0, [])).2.1 := ef 128 _ (by first | decide | omega)
  have COM1 : 0 ≤ (K.1.getD (K.1.length - 1) (0, 0, [])).2.1 ∧ (K.1.getD (K.1.length - 1) (0, 0, [])).2.1 < (w_up S 215 16 0) 127 (-1) := by rw [ef 127 _ (by first | decide | omega)]; have := hq.1; omega
  have COM2 : (w_up S 215 16 0) 144 (S 128 (K.1.getD (K.1.length - 1) (0, 0, [])).2.1) = aPr T H (K.1.getD (K.1.length - 1) (0, 0, [])).2.1 := (ef 144 _ (by first | decide | omega)).trans e2
  have COM3 : 0 ≤ S 128 (K.1.getD (K.1.length - 1) (0, 0, [])).2.1 ∧ S 128 (K.1.getD (K.1.length - 1) (0, 0, [])).2.1 < (w_up S 215 16 0) 144 (-1) := by rw [ef 144 _ (by first | decide | omega)]; omega
  have COM4 : ∀ x : Nat, x < 5 → (w_up S 215 16 0) (144 + x) (-1) = (w_up S 215 16 0) 144 (-1) := fun x hx => by rw [ef (144 + x) _ (by omega), ef 144 _ (by first | decide | omega)]; exact l1 x hx
  have COM5 : (w_up S 215 16 0) 144 (-1) ≤ 1000000 := by rw [ef 144 _ (by first | decide | omega)]; omega
  have COM6 : ∀ x : Nat, x < 10 → (w_up S 215 16 0) (127 + x) (-1) = (w_up S 215 16 0) 127 (-1) := fun x hx => by rw [ef (127 + x) _ (by omega), ef 127 _ (by first | decide | omega)]; exact t1 x hx
  have COM7 : (w_up S 215 16 0) 127 (-1) ≤ 16383 := by rw [ef 127 _ (by first | decide | omega)]; exact t4
  by_cases c : aPr T H (K.1.getD (K.1.length - 1) (0, 0, [])).2.1 = -1
  · rw [if_pos c]
    exact cs_b_215 (m := 1) h hi.1 hi.2.1 hi.2.2 (by first | decide | omega) (fun q => by omega) (fun x hx => hx) (by unfold mS; decide) (xb2n_215 (q := (K.1.getD (K.1.length - 1) (0, 0, [])).2.1) (xP_of (Or.inl rfl) h) ((w_up_slot (by first | decide | omega)).trans hc.1) ((w_up_slot (by first | decide | omega)).trans hvy) (by omega) hy f28 COM1 COM2 COM3 COM4 COM5 COM6 COM7 c) rfl hh1 (cV_e (by first | decide | omega) rfl)
  · rw [if_neg c]
    have g := hg.elim (fun z => absurd z c) id
    have e7 := (c_th w1 g.1.1 g.1.2).1.1
    exact cs_b_215 (m := 1) h hi.1 hi.2.1 hi.2.2 (by first | decide | omega) (fun q => by omega) (fun x hx => hx) (by unfold mS; decide) (xb2o_215 (q := (K.1.getD (K.1.length - 1) (0, 0, [])).2.1) (xP_of (Or.inl rfl) h) ((w_up_slot (by first | decide | omega)).trans hc.1) ((w_up_slot (by first | decide | omega)).trans hvy) (by omega) hy f28 COM1 COM2 COM3 COM4 COM5 COM6 COM7 ⟨g.1.1, by rw [ef 127 _ (by first | decide | omega)]; have := g.1.2; omega⟩ ((ef 127 _ (by first | decide | omega)).trans e7) (by have := g.2; omega)) rfl hh1 (cV_e (by have := g.2; omega) rfl)
/-- values go, one comes -/
theorem cs_b_226 {a b oq : Int} {v : aV} {kk vv n : Int} (h : stC 226 S K) (ho : S 31 (S 27 (K.2.1.getD (K.2.1.length - 1) (0, 0, 0, (0, 0, []), 0, 0, 0)).1 + (K.2.1.getD (K.2.1.length - 1) (0, 0, 0, (0, 0, []), 0, 0, 0)).2.1) = oq) (ha : S 32 (S 27 (K.2.1.getD (K.2.1.length - 1) (0, 0, 0, (0, 0, []), 0, 0, 0)).1 + (K.2.1.getD (K.2.1.length - 1) (0, 0, 0, (0, 0, []), 0, 0, 0)).2.1) = a) (hb : S 33 (S 27 (K.2.1.getD (K.2.1.length - 1) (0, 0, 0, (0, 0, []), 0, 0, 0)).1 + (K.2.1.getD (K.2.1.length - 1) (0, 0, 0, (0, 0, []), 0, 0, 0)).2.1) = b) (ho1 : (oq = 28)) (hl : 2000 ≤ K.1.length → ¬ (oq = 0 ∨ oq = 1 ∨ oq = 3 ∨ oq = 6 ∨ oq = 24 ∨ oq = 26 ∨ oq = 33 ∨ (oq = 25 ∧ a = 0))) (hml : ∀ x ∈ [228, 229], x ∈ ml) (hmn : ¬ mS ml 226) (hcal : wJ (pe_GA xs) wY0 (mS ml) (d + 11) t_XK_callBuiltin ((pe_at t_XK_callBuiltin.bl 0).getD (0, [])).2 [(0, (2, 226)), (1, (0, a))] [] (w_up S 226 16 0) (fun o Z => o = .inl none ∧ sO 226 (K.1.length : Int) (K.2.1.length : Int) (K.2.1.getD (K.2.1.length - 1) (0, 0, 0, (0, 0, []), 0, 0, 0)).2.1 n kk vv (w_up S 226 16 0) Z)) (hn : n = (m : Int)) (hm : m ≤ K.1.length) (hv : cVl S kk vv v) : wJ (pe_GA xs) wY0 (mS ml) (d + 12) t_XK_step ((pe_at t_XK_step.bl 0).getD (0, [])).2 [(0, (2, 226))] [] S (fun o Z => o = .inl (some (0, 1)) ∧ cTk 226 Z (kNx (K.1.take (K.1.length - m) ++ [v], K.2) ((K.2.1.getD (K.2.1.length - 1) (0, 0, 0, (0, 0, []), 0, 0, 0)).2.1 + 1)) ∧ cFr 226 S Z) := by
  obtain ⟨h1, ⟨h2, h2b⟩, ⟨h3, h4, h5⟩, -⟩ := id h
  have hf : cFr 226 S (w_up S 226 16 0) := cFr_up (Or.inr rfl) (cFr_rfl h2b) (by first | decide | omega) (by omega)
  refine cg_b_226 (P := fun Z => cTk 226 Z (kNx (K.1.take (K.1.length - m) ++ [v], K.2) ((K.2.1.getD (K.2.1.length - 1) (0, 0, 0, (0, 0, []), 0, 0, 0)).2.1 + 1)) ∧ cFr 226 S Z) h ho ha hb ho1 hl hml hmn hcal (fun Z hz => ⟨(sO_16 (Or.inr rfl) hz).trans (w_up_same _ _ _ _), cTk_sO (cTk_16 h1 (Or.inr rfl)) (Or.inr rfl) hz rfl rfl h3 hn hm (by omega) (cVl_mo hv (cTx_of (w_up_slot (by first | decide | omega)) (fun _ => w_up_slot (by first | decide | omega)))), cFr_sO (Or.inr rfl) hf (by omega) hz⟩)
/-- an ERROR -/
theorem cx_b_226 {a b oq e : Int} (h : stC 226 S K) (ho : S 31 (S 27 (K.2.1.getD (K.2.1.length - 1) (0, 0, 0, (0, 0, []), 0, 0, 0)).1 + (K.2.1.getD (K.2.1.length - 1) (0, 0, 0, (0, 0, []), 0, 0, 0)).2.1) = oq) (ha : S 32 (S 27 (K.2.1.getD (K.2.1.length - 1) (0, 0, 0, (0, 0, []), 0, 0, 0)).1 + (K.2.1.getD (K.2.1.length - 1) (0, 0, 0, (0, 0, []), 0, 0, 0)).2.1) = a) (hb : S 33 (S 27 (K.2.1.getD (K.2.1.length - 1) (0, 0, 0, (0, 0, []), 0, 0, 0)).1 + (K.2.1.getD (K.2.1.length - 1) (0, 0, 0, (0, 0, []), 0, 0, 0)).2.1) = b) (ho1 : (oq = 28)) (hl : 2000 ≤ K.1.length → ¬ (oq = 0 ∨ oq = 1 ∨ oq = 3 ∨ oq = 6 ∨ oq = 24 ∨ oq = 26 ∨ oq = 33 ∨ (oq = 25 ∧ a = 0))) (hml : ∀ x ∈ [228, 229], x ∈ ml) (hmn : ¬ mS ml 226) (he : 1 ≤ e ∧ e ≤ 12) (hcal : wJ (pe_GA xs) wY0 (mS ml) (d + 11) t_XK_callBuiltin ((pe_at t_XK_callBuiltin.bl 0).getD (0, [])).2 [(0, (2, 226)), (1, (0, a))] [] (w_up S 226 16 0) (fun o Z => o = .inl none ∧ w_up (w_up S 226 16 0) 226 16 e = Z)) : wJ (pe_GA xs) wY0 (mS ml) (d + 12) t_XK_step ((pe_at t_XK_step.bl 0).getD (0, [])).2 [(0, (2, 226))] [] S (fun o Z => o = .inl (some (0, 1)) ∧ cTk 226 Z (kTh K (2, e, [])) ∧ cFr 226 S Z) := by
  obtain ⟨h1, ⟨h2, h2b⟩, ⟨h3, h4, h5⟩, -⟩ := id h
  have hf : cFr 226 S (w_up (w_up S 226 16 0) 226 16 e) := cFr_up (Or.inr rfl) (cFr_up (Or.inr rfl) (cFr_rfl h2b) (by first | decide | omega) (by omega)) (by first | decide | omega) (by omega)
  have hk : cTk 226 (w_up (w_up S 226 16 0) 226 16 e) K := cTk_16 (cTk_16 h1 (Or.inr rfl)) (Or.inr rfl)
  have hx := xR_of hk (cFr_cl (Or.inr rfl) hf h2) hf.2.2.1 h5
  refine wJ_mono (ce_b_226 h ho ha hb ho1 hl hml hmn (show e ≠ 0 ∧ e ≠ 99 by omega) hcal (fun Z hz => by subst hz; exact ⟨w_up_same _ _ _ _, hx⟩)) (fun o Z2 hz => ?_)
  obtain ⟨rfl, Z, rfl, hr⟩ := hz
  exact ⟨rfl, cTk_rs hk (Or.inr rfl) hr ⟨rfl, fun _ => ⟨rfl, rfl⟩, fun q => absurd (show (2 : Int) = 3 from q) (by first | decide | omega)⟩ h5 (by omega), cFr_rs (Or.inr rfl) hf hr (fun q => (hx.2.2.2 q).1.1) (fun q => (hx.2.2.2 q).2.1)⟩
theorem zb1n_226 (h : stC 226 S K) (hi : cIn S K 28 1 b) (hx1 : pe_at (pe_GA xs).xs 1 = some (1, tx_1)) (hW : cWd S T L G) (hsw : cSw S T H) (hwS : wSh T H) (hu : 0 ≤ S 150 0 ∧ S 150 0 ≤ 8000) (hu4 : 0 ≤ S 150 4 ∧ S 150 4 ≤ 4000) (hT : (T.length : Int) ≤ 8000) (hc5 : S 140 2 ≤ 240200) (hh1 : 1 ≤ K.1.length) (hy : (K.1.getD (K.1.length - 1) (0, 0, [])).1 = 0) (hm : S 150 0 < 8000) : cSm xs d 226 [228, 229, 127, 128, 129, 130, 131, 132, 133, 134, 135, 136, 141, 142] cMb S (kP K 1 (4, (T.length : Int), [])) (fun Z => cWd Z (T ++ [((4, 0, -1, -1, -1, 0, []) : aO)]) L G ∧ cSw Z (T ++ [((4, 0, -1, -1, -1, 0, []) : aO)]) H ∧ (Z 150 0 = S 150 0 + 1 ∧ Z 150 4 = S 150 4 ∧ ∀ x : Int, x ≠ 0 → x ≠ 4 → Z 150 x = S 150 x) ∧ (cPo S → cPo Z)) := by
  obtain ⟨h1, ⟨h2, h2b⟩, ⟨h3, h4, h5⟩, -⟩ := id h
  have hW2 : cWd (w_up S 226 16 0) T L G := cWd_up hW (by first | decide | omega)
  have hsw2 : cSw (w_up S 226 16 0) T H := cSw_up hsw (by first | decide | omega)
  have hk : cTk 226 (w_up S 226 16 0) K := cTk_16 h1 (Or.inr rfl)
  have hf : cFr 226 S (w_up S 226 16 0) := cFr_up (Or.inr rfl) (cFr_rfl h2b) (by first | decide | omega) (by omega)
  have ef : ∀ (j : Nat) (x : Int), j < 215 → (w_up S 226 16 0) j x = S j x := fun j x j0 => w_up_slot (by omega)
  have hc := c_at h1 (i := K.1.length - 1) (by omega) (j := (K.1.length : Int) - 1) (by omega)
  obtain ⟨w1, -, -, ⟨-, n5, ⟨n6, n7⟩, n8, n9⟩, ⟨t1, t2, t3, t4⟩, -⟩ := id hW2
  have hu2 : 0 ≤ (w_up S 226 16 0) 150 0 ∧ (w_up S 226 16 0) 150 0 ≤ 8000 := by rw [ef 150 0 (by first | decide | omega)]; exact hu
  have hu42 : 0 ≤ (w_up S 226 16 0) 150 4 ∧ (w_up S 226 16 0) 150 4 ≤ 4000 := by rw [ef 150 4 (by first | decide | omega)]; exact hu4
  have poT : cPo S → cPo (w_up S 226 16 0) := fun po => cPo_ag po (ef 72 3 (by first | decide | omega)) (fun x => ⟨ef 134 x (by first | decide | omega), ef 135 x (by first | decide | omega)⟩) (ef 140 2 (by first | decide | omega)) (ef 150 1 (by first | decide | omega))
  have ef2 : ∀ (x : Int), 228 ≠ 226 → (w_up S 226 16 0) 228 x = S 228 x := fun x hx => w_up_slot hx
  have hky : S 228 ((K.1.length : Int) - 1) = 0 := hc.1.trans hy
  refine cg_b_226 h hi.1 hi.2.1 hi.2.2 (by first | decide | omega) (fun q => by omega) (by first | decide | omega) (by unfold mS; decide) (xb1n_226 (n := (T.length : Int)) (xP_of (Or.inr rfl) h) hx1 rfl ⟨n6, n7⟩ n5 ⟨n8, n9⟩ t1 w1.1 ⟨by omega, t2⟩ ⟨t3, t4⟩ rfl hu2 ((ef2 _ (by first | decide | omega)).trans hky) rfl (by omega)) (fun Z hz => ?_)
  rcases hz with ⟨q, -⟩ | ⟨-, B, hB, hs⟩
  · exact absurd q (by rw [ef 150 0 (by first | decide | omega)]; omega)
  obtain ⟨g1, g2, g3, g4, ⟨g5, g6⟩, g7, g8⟩ := at_tail (m := 1) (Or.inr rfl) hk h3 h4 hh1 hW2 hsw2 hwS hT (by rw [ef 140 2 (by first | decide | omega)]; exact hc5) hB hs (by first | decide | omega)
  exact ⟨g8.trans (w_up_same _ _ _ _), g1, cFm_tr (cFm_r hf) (cFm_m (fun _ _ z => Or.inl z) g4), g2, g3, ⟨g5.trans (by rw [ef 150 0 (by first | decide | omega)]), (g6 4 (by first | decide | omega)).trans (ef 150 4 (by first | decide | omega)), fun x x0 _ => (g6 x x0).trans (ef 150 x (by first | decide | omega))⟩, fun po => g7 (poT po)⟩
theorem zb1nm_226 (h : stC 226 S K) (hi : cIn S K 28 1 b) (hx1 : pe_at (pe_GA xs).xs 1 = some (1, tx_1)) (hW : cWd S T L G) (hsw : cSw S T H) (hwS : wSh T H) (hu : 0 ≤ S 150 0 ∧ S 150 0 ≤ 8000) (hu4 : 0 ≤ S 150 4 ∧ S 150 4 ≤ 4000) (hT : (T.length : Int) ≤ 8000) (hc5 : S 140 2 ≤ 240200) (hh1 : 1 ≤ K.1.length) (hy : (K.1.getD (K.1.length - 1) (0, 0, [])).1 = 0) (hm : 8000 ≤ S 150 0) : cSn xs d 226 [228, 229, 127, 128, 129, 130, 131, 132, 133, 134, 135, 136, 141, 142] S K := by
  obtain ⟨h1, ⟨h2, h2b⟩, ⟨h3, h4, h5⟩, -⟩ := id h
  have hW2 : cWd (w_up S 226 16 0) T L G := cWd_up hW (by first | decide | omega)
  have hsw2 : cSw (w_up S 226 16 0) T H := cSw_up hsw (by first | decide | omega)
  have hk : cTk 226 (w_up S 226 16 0) K := cTk_16 h1 (Or.inr rfl)
  have hf : cFr 226 S (w_up S 226 16 0) := cFr_up (Or.inr rfl) (cFr_rfl h2b) (by first | decide | omega) (by omega)
  have ef : ∀ (j : Nat) (x : Int), j < 215 → (w_up S 226 16 0) j x = S j x := fun j x j0 => w_up_slot (by omega)
  have hc := c_at h1 (i := K.1.length - 1) (by omega) (j := (K.1.length : Int) - 1) (by omega)
  obtain ⟨w1, -, -, ⟨-, n5, ⟨n6, n7⟩, n8, n9⟩, ⟨t1, t2, t3, t4⟩, -⟩ := id hW2
  have hu2 : 0 ≤ (w_up S 226 16 0) 150 0 ∧ (w_up S 226 16 0) 150 0 ≤ 8000 := by rw [ef 150 0 (by first | decide | omega)]; exact hu
  have hu42 : 0 ≤ (w_up S 226 16 0) 150 4 ∧ (w_up S 226 16 0) 150 4 ≤ 4000 := by rw [ef 150 4 (by first | decide | omega)]; exact hu4
  have ef2 : ∀ (x : Int), 228 ≠ 226 → (w_up S 226 16 0) 228 x = S 228 x := fun x hx => w_up_slot hx
  have hky : S 228 ((K.1.length : Int) - 1) = 0 := hc.1.trans hy
  refine wJ_mono (cm_b_226 h hi.1 hi.2.1 hi.2.2 (by first | decide | omega) (fun q => by omega) (by first | decide | omega) (by unfold mS; decide) (wJ_mono (xb1n_226 (n := (T.length : Int)) (xP_of (Or.inr rfl) h) hx1 rfl ⟨n6, n7⟩ n5 ⟨n8, n9⟩ t1 w1.1 ⟨by omega, t2⟩ ⟨t3, t4⟩ rfl hu2 ((ef2 _ (by first | decide | omega)).trans hky) rfl (by omega)) (fun o Z hz => (⟨hz.1, hz.2.elim (fun z => z.2) (fun z => absurd z.1 (by rw [ef 150 0 (by first | decide | omega)]; omega))⟩ : o = .inl none ∧ w_up (w_up S 226 16 0) 226 16 99 = Z))) (fun Z hz => by subst hz; exact w_up_same _ _ _ _)) (fun o Z2 hz => ?_)
  obtain ⟨hz0, Z, rfl, rfl⟩ := hz
  exact ⟨hz0, cTk_st (cTk_16 hk (Or.inr rfl)) (Or.inr rfl), cFr_up (Or.inr rfl) (cFr_up (Or.inr rfl) hf (by first | decide | omega) (by omega)) (by first | decide | omega) (by omega)⟩
theorem zb1o_226 (h : stC 226 S K) (hi : cIn S K 28 1 b) (hx1 : pe_at (pe_GA xs).xs 1 = some (1, tx_1)) (hW : cWd S T L G) (hsw : cSw S T H) (hwS : wSh T H) (hu : 0 ≤ S 150 0 ∧ S 150 0 ≤ 8000) (hu4 : 0 ≤ S 150 4 ∧ S 150 4 ≤ 4000) (hT : (T.length : Int) ≤ 8000) (hc5 : S 140 2 ≤ 240200) (hh1 : 1 ≤ K.1.length) (hy : (K.1.getD (K.1.length - 1) (0, 0, [])).1 = 4 ∨ (K.1.getD (K.1.length - 1) (0, 0, [])).1 = 5) (hq : isO T (K.1.getD (K.1.length - 1) (0, 0, [])).2.1) (hr : r = aFs (-1) (K.1.getD (K.1.length - 1) (0, 0, [])).2.1 (-1) H 0) (hm : S 150 0 < 8000 ∧ 0 ≤ r) : cSm xs d 226 [228, 229, 127, 128, 129, 130, 131, 132, 133, 134, 135, 136, 141, 142, 144, 145, 146, 147, 148] cMb S (kP K 1 (4, (T.length : Int), [])) (fun Z => cWd Z (T ++ [((4, r, -1, -1, -1, 0, []) : aO)]) L G ∧ cSw Z (T ++ [((4, r, -1, -1, -1, 0, []) : aO)]) H ∧ (Z 150 0 = S 150 0 + 1 ∧ Z 150 4 = S 150 4 ∧ ∀ x : Int, x ≠ 0 → x ≠ 4 → Z 150 x = S 150 x) ∧ (cPo S → cPo Z)) := by
  obtain ⟨h1, ⟨h2, h2b⟩, ⟨h3, h4, h5⟩, -⟩ := id h
  have hW2 : cWd (w_up S 226 16 0) T L G := cWd_up hW (by first | decide | omega)
  have hsw2 : cSw (w_up S 226 16 0) T H := cSw_up hsw (by first | decide | omega)
  have hk : cTk 226 (w_up S 226 16 0) K := cTk_16 h1 (Or.inr rfl)
  have hf : cFr 226 S (w_up S 226 16 0) := cFr_up (Or.inr rfl) (cFr_rfl h2b) (by first | decide | omega) (by omega)
  have ef : ∀ (j : Nat) (x : Int), j < 215 → (w_up S 226 16 0) j x = S j x := fun j x j0 => w_up_slot (by omega)
  have hc := c_at h1 (i := K.1.length - 1) (by omega) (j := (K.1.length : Int) - 1) (by omega)
  obtain ⟨w1, -, -, ⟨-, n5, ⟨n6, n7⟩, n8, n9⟩, ⟨t1, t2, t3, t4⟩, -⟩ := id hW2
  have hu2 : 0 ≤ (w_up S 226 16 0) 150 0 ∧ (w_up S 226 16 0) 150 0 ≤ 8000 := by rw [ef 150 0 (by first | decide | omega)]; exact hu
  have hu42 : 0 ≤ (w_up S 226 16 0) 150 4 ∧ (w_up S 226 16 0) 150 4 ≤ 4000 := by rw [ef 150 4 (by first | decide | omega)]; exact hu4
  have poT : cPo S → cPo (w_up S 226 16 0) := fun po => cPo_ag po (ef 72 3 (by first | decide | omega)) (fun x => ⟨ef 134 x (by first | decide | omega), ef 135 x (by first | decide | omega)⟩) (ef 140 2 (by first | decide | omega)) (ef 150 1 (by first | decide | omega))
  have ef2 : ∀ (x : Int), 228 ≠ 226 → (w_up S 226 16 0) 228 x = S 228 x := fun x hx => w_up_slot hx
  have ef3 : ∀ (x : Int), 229 ≠ 226 → (w_up S 226 16 0) 229 x = S 229 x := fun x hx => w_up_slot hx
  have hky : S 228 ((K.1.length : Int) - 1) = (K.1.getD (K.1.length - 1) (0, 0, [])).1 := hc.1
  have hvy : S 229 ((K.1.length : Int) - 1) = (K.1.getD (K.1.length - 1) (0, 0, [])).2.1 := cV_v hc (by omega)
  refine cg_b_226 h hi.1 hi.2.1 hi.2.2 (by first | decide | omega) (fun q => by omega) (by first | decide | omega) (by unfold mS; decide) (xb1o_226 (n := (T.length : Int)) (q := (K.1.getD (K.1.length - 1) (0, 0, [])).2.1) (r := r) (xP_of (Or.inr rfl) h) hx1 rfl ⟨n6, n7⟩ n5 ⟨n8, n9⟩ t1 w1.1 ⟨by omega, t2⟩ ⟨t3, t4⟩ rfl hu2 ((ef2 _ (by first | decide | omega)).trans hky) ((ef3 _ (by first | decide | omega)).trans hvy) (by omega) (Or.imp id id hy) hsw2 hW2.2.2.2.2.1 hwS hq hr hu42) (fun Z hz => ?_)
  rcases hz with ⟨q, -⟩ | ⟨-, -, B, hB, hs⟩ | ⟨-, q, -⟩
  · exact absurd q (by rw [ef 150 0 (by first | decide | omega), ef 150 4 (by first | decide | omega)]; omega)
  · obtain ⟨g1, g2, g3, g4, ⟨g5, g6⟩, g7, g8⟩ := at_tail (m := 1) (Or.inr rfl) hk h3 h4 hh1 hW2 hsw2 hwS hT (by rw [ef 140 2 (by first | decide | omega)]; exact hc5) hB hs (by first | decide | omega)
    exact ⟨g8.trans (w_up_same _ _ _ _), g1, cFm_tr (cFm_r hf) (cFm_m (fun _ _ z => Or.inl z) g4), g2, g3, ⟨g5.trans (by rw [ef 150 0 (by first | decide | omega)]), (g6 4 (by first | decide | omega)).trans (ef 150 4 (by first | decide | omega)), fun x x0 _ => (g6 x x0).trans (ef 150 x (by first | decide | omega))⟩, fun po => g7 (poT po)⟩
  · omega
theorem zb1p_226 (h : stC 226 S K) (hi : cIn S K 28 1 b) (hx1 : pe_at (pe_GA xs).xs 1 = some (1, tx_1)) (hW : cWd S T L G) (hsw : cSw S T H) (hwS : wSh T H) (hu : 0 ≤ S 150 0 ∧ S 150 0 ≤ 8000) (hu4 : 0 ≤ S 150 4 ∧ S 150 4 ≤ 4000) (hT : (T.length : Int) ≤ 8000) (hc5 : S 140 2 ≤ 240200) (hh1 : 1 ≤ K.1.length) (hy : (K.1.getD (K.1.length - 1) (0, 0, [])).1 = 4 ∨ (K.1.getD (K.1.length - 1) (0, 0, [])).1 = 5) (hq : isO T (K.1.getD (K.1.length - 1) (0, 0, [])).2.1) (hr : r = aFs (-1) (K.1.getD (K.1.length - 1) (0, 0, [])).2.1 (-1) H 0) (hm : S 150 0 < 8000 ∧ r = -1 ∧ S 150 4 < 4000) (hl4 : (H.length : Int) ≤ 4000) : cSm xs d 226 [228, 229, 127, 128, 129, 130, 131, 132, 133, 134, 135, 136, 141, 142, 144, 145, 146, 147, 148] cMb S (kP K 1 (4, (T.length : Int), [])) (fun Z => cWd Z ((tEp T (K.1.getD (K.1.length - 1) (0, 0, [])).2.1 0) ++ [((4, (H.length : Int), -1, -1, -1, 0, []) : aO)]) L G ∧ cSw Z ((tEp T (K.1.getD (K.1.length - 1) (0, 0, [])).2.1 0) ++ [((4, (H.length : Int), -1, -1, -1, 0, []) : aO)]) (H ++ [((K.1.getD (K.1.length - 1) (0, 0, [])).2.1, -1, -1, 0)]) ∧ (Z 150 0 = S 150 0 + 1 ∧ Z 150 4 = S 150 4 + 1 ∧ ∀ x : Int, x ≠ 0 → x ≠ 4 → Z 150 x = S 150 x) ∧ (cPo S → cPo Z)) := by
  obtain ⟨h1, ⟨h2, h2b⟩, ⟨h3, h4, h5⟩, -⟩ := id h
  have hW2 : cWd (w_up S 226 16 0) T L G := cWd_up hW (by first | decide | omega)
  have hsw2 : cSw (w_up S 226 16 0) T H := cSw_up hsw (by first | decide | omega)
  have hk : cTk 226 (w_up S 226 16 0) K := cTk_16 h1 (Or.inr rfl)
  have hf : cFr 226 S (w_up S 226 16 0) := cFr_up (Or.inr rfl) (cFr_rfl h2b) (by first | decide | omega) (by omega)
  have ef : ∀ (j : Nat) (x : Int), j < 215 → (w_up S 226 16 0) j x = S j x := fun j x j0 => w_up_slot (by omega)
  have hc := c_at h1 (i := K.1.length - 1) (by omega) (j := (K.1.length : Int) - 1) (by omega)
  obtain ⟨w1, -, -, ⟨-, n5, ⟨n6, n7⟩, n8, n9⟩, ⟨t1, t2, t3, t4⟩, -⟩ := id hW2
  have hu2 : 0 ≤ (w_up S 226 16 0) 150 0 ∧ (w_up S 226 16 0) 150 0 ≤ 8000 := by rw [ef 150 0 (by first | decide | omega)]; exact hu
  have hu42 : 0 ≤ (w_up S 226 16 0) 150 4 ∧ (w_up S 226 16 0) 150 4 ≤ 4000 := by rw [ef 150 4 (by first | decide | omega)]; exact hu4
  have poT : cPo S → cPo (w_up S 226 16 0) := fun po => cPo_ag po (ef 72 3 (by first | decide | omega)) (fun x => ⟨ef 134 x (by first | decide | omega), ef 135 x (by first | decide | omega)⟩) (ef 140 2 (by first | decide | omega)) (ef 150 1 (by first | decide | omega))
  have ef2 : ∀ (x : Int), 228 ≠ 226 → (w_up S 226 16 0) 228 x = S 228 x := fun x hx => w_up_slot hx
  have ef3 : ∀ (x : Int), 229 ≠ 226 → (w_up S 226 16 0) 229 x = S 229 x := fun x hx => w_up_slot hx
  have hky : S 228 ((K.1.length : Int) - 1) = (K.1.getD (K.1.length - 1) (0, 0, [])).1 := hc.1
  have hvy : S 229 ((K.1.length : Int) - 1) = (K.1.getD (K.1.length - 1) (0, 0, [])).2.1 := cV_v hc (by omega)
  have hg : wG = 1000000 := rfl
  have hfn : aFs (-1) (K.1.getD (K.1.length - 1) (0, 0, [])).2.1 (-1) H 0 = -1 := hr.symm.trans hm.2.1
  refine cg_b_226 h hi.1 hi.2.1 hi.2.2 (by first | decide | omega) (fun q => by omega) (by first | decide | omega) (by unfold mS; decide) (xb1o_226 (n := (T.length : Int)) (q := (K.1.getD (K.1.length - 1) (0, 0, [])).2.1) (r := r) (xP_of (Or.inr rfl) h) hx1 rfl ⟨n6, n7⟩ n5 ⟨n8, n9⟩ t1 w1.1 ⟨by omega, t2⟩ ⟨t3, t4⟩ rfl hu2 ((ef2 _ (by first | decide | omega)).trans hky) ((ef3 _ (by first | decide | omega)).trans hvy) (by omega) (Or.imp id id hy) hsw2 hW2.2.2.2.2.1 hwS hq hr hu42) (fun Z hz => ?_)
  rcases hz with ⟨q, -⟩ | ⟨-, q, -⟩ | ⟨-, -, -, A, B, hA, hB, hs⟩
  · exact absurd q (by rw [ef 150 0 (by first | decide | omega), ef 150 4 (by first | decide | omega)]; omega)
  · omega
  · have hWA := cWd_bs hW2 hq.1.1 hq.1.2 hA
    have hsA := cSw_bs hsw2 hq hfn hl4 hA
    have hwA := wSh_bs hwS hq hfn hl4
    obtain ⟨⟨-, a4⟩, -, -, -, fr, -, -⟩ := id hA
    have e0 : ∀ x : Int, x ≠ 4 → A 150 x = S 150 x := fun x hx => (fr 150 x (by first | decide | omega) (by first | decide | omega) (by first | decide | omega) (Or.inl (by first | decide | omega)) (Or.inl (by first | decide | omega)) (Or.inr hx)).trans (ef 150 x (by first | decide | omega))
    have e4 : A 140 2 = S 140 2 := (fr 140 2 (by first | decide | omega) (by first | decide | omega) (by first | decide | omega) (Or.inl (by first | decide | omega)) (by first | decide | omega) (by first | decide | omega)).trans (ef 140 2 (by first | decide | omega))
    have e16 : A 226 16 = 0 := (fr 226 16 (by first | decide | omega) (by first | decide | omega) (by first | decide | omega) (Or.inl (by first | decide | omega)) (by first | decide | omega) (by first | decide | omega)).trans (w_up_same _ _ _ _)
    have lT : (tEp T (K.1.getD (K.1.length - 1) (0, 0, [])).2.1 0).length = T.length := tEp_l
    obtain ⟨g1, g2, g3, g4, ⟨g5, g6⟩, g7, g8⟩ := at_tail (m := 1) (T := (tEp T (K.1.getD (K.1.length - 1) (0, 0, [])).2.1 0)) (Or.inr rfl) (bs_tk (Or.inr rfl) hA hk) h3 h4 hh1 hWA hsA hwA (by rw [lT]; exact hT) (by rw [e4]; exact hc5) hB (by rw [lT]; exact hs) (by first | decide | omega)
    rw [lT] at g1
    exact ⟨g8.trans e16, g1, cFm_tr (cFm_tr (cFm_r hf) (bs_fm (Or.inr rfl) hA)) (cFm_m (fun _ _ z => Or.inl z) g4), g2, g3, ⟨g5.trans (by rw [e0 0 (by first | decide | omega)]), (g6 4 (by first | decide | omega)).trans (a4.trans (by rw [ef 150 4 (by first | decide | omega)])), fun x x0 x4 => (g6 x x0).trans (e0 x x4)⟩, fun po => g7 (bs_po hA (poT po))⟩
theorem zb1m_226 (h : stC 226 S K) (hi : cIn S K 28 1 b) (hx1 : pe_at (pe_GA xs).xs 1 = some (1, tx_1)) (hW : cWd S T L G) (hsw : cSw S T H) (hwS : wSh T H) (hu : 0 ≤ S 150 0 ∧ S 150 0 ≤ 8000) (hu4 : 0 ≤ S 150 4 ∧ S 150 4 ≤ 4000) (hT : (T.length : Int) ≤ 8000) (hc5 : S 140 2 ≤ 240200) (hh1 : 1 ≤ K.1.length) (hy : (K.1.getD (K.1.length - 1) (0, 0, [])).1 = 4 ∨ (K.1.getD (K.1.length - 1) (0, 0, [])).1 = 5) (hq : isO T (K.1.getD (K.1.length - 1) (0, 0, [])).2.1) (hr : r = aFs (-1) (K.1.getD (K.1.length - 1) (0, 0, [])).2.1 (-1) H 0) (hm : 8000 ≤ S 150 0 ∨ (r = -1 ∧ 4000 ≤ S 150 4)) : cSn xs d 226 [228, 229, 127, 128, 129, 130, 131, 132, 133, 134, 135, 136, 141, 142, 144, 145, 146, 147, 148] S K := by
  obtain ⟨h1, ⟨h2, h2b⟩, ⟨h3, h4, h5⟩, -⟩ := id h
  have hW2 : cWd (w_up S 226 16 0) T L G := cWd_up hW (by first | decide | omega)
  have hsw2 : cSw (w_up S 226 16 0) T H := cSw_up hsw (by first | decide | omega)
  have hk : cTk 226 (w_up S 226 16 0) K := cTk_16 h1 (Or.inr rfl)
  have hf : cFr 226 S (w_up S 226 16 0) := cFr_up (Or.inr rfl) (cFr_rfl h2b) (by first | decide | omega) (by omega)
  have ef : ∀ (j : Nat) (x : Int), j < 215 → (w_up S 226 16 0) j x = S j x := fun j x j0 => w_up_slot (by omega)
  have hc := c_at h1 (i := K.1.length - 1) (by omega) (j := (K.1.length : Int) - 1) (by omega)
  obtain ⟨w1, -, -, ⟨-, n5, ⟨n6, n7⟩, n8, n9⟩, ⟨t1, t2, t3, t4⟩, -⟩ := id hW2
  have hu2 : 0 ≤ (w_up S 226 16 0) 150 0 ∧ (w_up S 226 16 0) 150 0 ≤ 8000 := by rw [ef 150 0 (by first | decide | omega)]; exact hu
  have hu42 : 0 ≤ (w_up S 226 16 0) 150 4 ∧ (w_up S 226 16 0) 150 4 ≤ 4000 := by rw [ef 150 4 (by first | decide | omega)]; exact hu4
  have ef2 : ∀ (x : Int), 228 ≠ 226 → (w_up S 226 16 0) 228 x = S 228 x := fun x hx => w_up_slot hx
  have ef3 : ∀ (x : Int), 229 ≠ 226 → (w_up S 226 16 0) 229 x = S 229 x := fun x hx => w_up_slot hx
  have hky : S 228 ((K.1.length : Int) - 1) = (K.1.getD (K.1.length - 1) (0, 0, [])).1 := hc.1
  have hvy : S 229 ((K.1.length : Int) - 1) = (K.1.getD (K.1.length - 1) (0, 0, [])).2.1 := cV_v hc (by omega)
  refine wJ_mono (cm_b_226 h hi.1 hi.2.1 hi.2.2 (by first | decide | omega) (fun q => by omega) (by first | decide | omega) (by unfold mS; decide) (wJ_mono (xb1o_226 (n := (T.length : Int)) (q := (K.1.getD (K.1.length - 1) (0, 0, [])).2.1) (r := r) (xP_of (Or.inr rfl) h) hx1 rfl ⟨n6, n7⟩ n5 ⟨n8, n9⟩ t1 w1.1 ⟨by omega, t2⟩ ⟨t3, t4⟩ rfl hu2 ((ef2 _ (by first | decide | omega)).trans hky) ((ef3 _ (by first | decide | omega)).trans hvy) (by omega) (Or.imp id id hy) hsw2 hW2.2.2.2.2.1 hwS hq hr hu42) (fun o Z hz => (⟨hz.1, ?_⟩ : o = .inl none ∧ w_up (w_up S 226 16 0) 226 16 99 = Z))) (fun Z hz => by subst hz; exact w_up_same _ _ _ _)) (fun o Z2 hz => ?_)
  · rcases hz.2 with ⟨-, z⟩ | ⟨z1, z2, -⟩ | ⟨z1, z2, z3, -⟩
    · exact z
    · rw [ef 150 0 (by first | decide | omega)] at z1; omega
    · rw [ef 150 0 (by first | decide | omega)] at z1; rw [ef 150 4 (by first | decide | omega)] at z3; omega
  obtain ⟨hz0, Z, rfl, rfl⟩ := hz
  exact ⟨hz0, cTk_st (cTk_16 hk (Or.inr rfl)) (Or.inr rfl), cFr_up (Or.inr rfl) (cFr_up (Or.inr rfl) hf (by first | decide | omega) (by omega)) (by first | decide | omega) (by omega)⟩
theorem zb1e_226 (h : stC 226 S K) (hi : cIn S K 28 1 b) (hh1 : 1 ≤ K.1.length) (hy : (K.1.getD (K.1.length - 1) (0, 0, [])).1 ≠ 0 ∧ (K.1.getD (K.1.length - 1) (0, 0, [])).1 ≠ 4 ∧ (K.1.getD (K.1.length - 1) (0, 0, [])).1 ≠ 5) : cSt xs d 226 S (kTh K (2, 12, [])) := by
  have hc := c_at h.1 (i := K.1.length - 1) (by omega) (j := (K.1.length : Int) - 1) (by omega)
  exact cx_b_226 h hi.1 hi.2.1 hi.2.2 (by first | decide | omega) (fun q => by omega) (fun x hx => hx) (by unfold mS; decide) (by first | decide | omega) (xb1e_226 (xP_of (Or.inr rfl) h) ((w_up_slot (by first | decide | omega)).trans hc.1) rfl (by omega) hy)
theorem zb2e_226 (h : stC 226 S K) (hi : cIn S K 28 2 b) (hh1 : 1 ≤ K.1.length) (hy : (K.1.getD (K.1.length - 1) (0, 0, [])).1 ≠ 4 ∧ (K.1.getD (K.1.length - 1) (0, 0, [])).1 ≠ 5) : cSt xs d 226 S (kTh K (2, 12, [])) := by
  have hc := c_at h.1 (i := K.1.length - 1) (by omega) (j := (K.1.length : Int) - 1) (by omega)
  exact cx_b_226 h hi.1 hi.2.1 hi.2.2 (by first | decide | omega) (fun q => by omega) (fun x hx => hx) (by unfold mS; decide) (by first | decide | omega) (xb2e_226 (xP_of (Or.inr rfl) h) ((w_up_slot (by first | decide | omega)).trans hc.1) rfl (by omega) hy)
theorem zb2_226 (h : stC 226 S K) (hi : cIn S K 28 2 b) (hW : cWd S T L G) (hsw : cSw S T H) (hwS : wSh T H) (hh1 : 1 ≤ K.1.length) (hy : (K.1.getD (K.1.length - 1) (0, 0, [])).1 = 4 ∨ (K.1.getD (K.1.length - 1) (0, 0, [])).1 = 5) (hq : isO T (K.1.getD (K.1.length - 1) (0, 0, [])).2.1) : cSt xs d 226 S (kP K 1 (if aPr T H (K.1.getD (K.1.length - 1) (0, 0, [])).2.1 = -1 then (0, 0, []) else ((tO T (aPr T H (K.1.getD (K.1.length - 1) (0, 0, [])).2.1)).1, aPr T H (K.1.getD (K.1.length - 1) (0, 0, [])).2.1, []))) := by
  obtain ⟨h1, -, -⟩ := id h
  have hc := c_at h1 (i := K.1.length - 1) (by omega) (j := (K.1.length : Int) - 1) (by omega)
  have hvy : S 229 ((K.1.length : Int) - 1) = (K.1.getD (K.1.length - 1) (0, 0, [])).2.1 := cV_v hc (by omega)
  obtain ⟨e1, e2, e3⟩ := hIx_o (nm := 0) hsw.1 hW.1 hwS hq
  obtain ⟨w1, -, -, -, ⟨t1, t2, t3, t4⟩, -⟩ := id hW
  obtain ⟨l1, l2, l3, l4⟩ := hsw.2.1
  have hg := wSh_pr hwS hq
  have ef : ∀ (j : Nat) (x : Int), j < 215 → (w_up S 226 16 0) j x = S j x := fun j x j0 => w_up_slot (by omega)
  have f28 : (w_up S 226 16 0) 128 (K.1.getD (K.1.length - 1) (0, 0, [])).2.1 = S 128 (K.1.getD (K.1.length - 1) (0, 0, [])).2.1 := ef 128 _ (by first | decide | omega)
  have COM1 : 0 ≤ (K.1.getD (K.1.length - 1) (0, 0, [])).2.1 ∧ (K.1.getD (K.1.length - 1) (0, 0, [])).2.1 < (w_up S 226 16 0) 127 (-1) := by rw [ef 127 _ (by first | decide | omega)]; have := hq.1; omega
  have COM2 : (w_up S 226 16 0) 144 (S 128 (K.1.getD (K.1.length - 1) (0, 0, [])).2.1) = aPr T H (K.1.getD (K.1.length - 1) (0, 0, [])).2.1 := (ef 144 _ (by first | decide | omega)).trans e2
  have COM3 : 0 ≤ S 128 (K.1.getD (K.1.length - 1) (0, 0, [])).2.1 ∧ S 128 (K.1.getD (K.1.length - 1) (0, 0, [])).2.1 < (w_up S 226 16 0) 144 (-1) := by rw [ef 144 _ (by first | decide | omega)]; omega
  have COM4 : ∀ x : Nat, x < 5 → (w_up S 226 16 0) (144 + x) (-1) = (w_up S 226 16 0) 144 (-1) := fun x hx => by rw [ef (144 + x) _ (by omega), ef 144 _ (by first | decide | omega)]; exact l1 x hx
  have COM5 : (w_up S 226 16 0) 144 (-1) ≤ 1000000 := by rw [ef 144 _ (by first | decide | omega)]; omega
  have COM6 : ∀ x : Nat, x < 10 → (w_up S 226 16 0) (127 + x) (-1) = (w_up S 226 16 0) 127 (-1) := fun x hx => by rw [ef (127 + x) _ (by omega), ef 127 _ (by first | decide | omega)]; exact t1 x hx
  have COM7 : (w_up S 226 16 0) 127 (-1) ≤ 16383 := by rw [ef 127 _ (by first | decide | omega)]; exact t4
  by_cases c : aPr T H (K.1.getD (K.1.length - 1) (0, 0, [])).2.1 = -1
  · rw [if_pos c]
    exact cs_b_226 (m := 1) h hi.1 hi.2.1 hi.2.2 (by first | decide | omega) (fun q => by omega) (fun x hx => hx) (by unfold mS; decide) (xb2n_226 (q := (K.1.getD (K.1.length - 1) (0, 0, [])).2.1) (xP_of (Or.inr rfl) h) ((w_up_slot (by first | decide | omega)).trans hc.1) ((w_up_slot (by first | decide | omega)).trans hvy) (by omega) hy f28 COM1 COM2 COM3 COM4 COM5 COM6 COM7 c) rfl hh1 (cV_e (by first | decide | omega) rfl)
  · rw [if_neg c]
    have g := hg.elim (fun z => absurd z c) id
    have e7 := (c_th w1 g.1.1 g.1.2).1.1
    exact cs_b_226 (m := 1) h hi.1 hi.2.1 hi.2.2 (by first | decide | omega) (fun q => by omega) (fun x hx => hx) (by unfold mS; decide) (xb2o_226 (q := (K.1.getD (K.1.length - 1) (0, 0, [])).2.1) (xP_of (Or.inr rfl) h) ((w_up_slot (by first | decide | omega)).trans hc.1) ((w_up_slot (by first | decide | omega)).trans hvy) (by omega) hy f28 COM1 COM2 COM3 COM4 COM5 COM6 COM7 ⟨g.1.1, by rw [ef 127 _ (by first | decide | omega)]; have := g.1.2; omega⟩ ((ef 127 _ (by first | decide | omega)).trans e7) (by have := g.2; omega)) rfl hh1 (cV_e (by have := g.2; omega) rfl)
end Wfb
