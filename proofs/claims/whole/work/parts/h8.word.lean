/-! PART h8: the class's linker at hosts: wordBehind. -/
section Wh8
variable {xs : List (Nat × List Int32)} {M : Nat → Prop} {d : Nat} {S Z A : wS} {T : Int → Int} {cs : List hCR} {ms : List hMR} {os : Int → List Int} {Q : wO → wS → Prop}
/-- a name with its first letter a capital -/
def capW : List Int → List Int
  | [] => []
  | c :: r => (if 97 ≤ c ∧ c ≤ 122 then c - 32 else c) :: r
/-- the name that is looked for: behind get, is, set with a capital -/
def wnW (pre W : List Int) : List Int := if pre = [] then W else pre ++ capW W
theorem capW_l (W : List Int) : (capW W).length = W.length := by cases W <;> rfl
theorem capW_0 {W : List Int} (h : 0 < W.length) : (capW W).getD 0 0 = if 97 ≤ W.getD 0 0 ∧ W.getD 0 0 ≤ 122 then W.getD 0 0 - 32 else W.getD 0 0 := by
  cases W with
  | nil => exact absurd h (Nat.not_lt_zero _)
  | cons c r => rfl
theorem capW_s (W : List Int) (k : Nat) : (capW W).getD (k + 1) 0 = W.getD (k + 1) 0 := by cases W <;> rfl
theorem getD_r {a b : List Int} {k : Nat} : (a ++ b).getD (a.length + k) 0 = b.getD k 0 := by
  rw [List.getD_eq_getElem?_getD, List.getD_eq_getElem?_getD, List.getElem?_append_right (Nat.le_add_right _ _), Nat.add_sub_cancel_left]
/-- q is the word of the name WW among a host's words, -1: there is none -/
def hwW (w : Nat) (WW : List Int) (S : wS) (q : Int) : Prop := (0 ≤ q ∧ q < S w 7 ∧ wq (S (w + 1)) (S (w + 2)) (S (w + 3)) (fun i => WW.getD i.toNat 0) 0 (WW.length : Int) q) ∨ (q = -1 ∧ ∀ k : Int, 0 ≤ k → k < S w 7 → ¬ wq (S (w + 1)) (S (w + 2)) (S (w + 3)) (fun i => WW.getD i.toNat 0) 0 (WW.length : Int) k)
theorem wq_tx {P ST SZ g : Int → Int} {WW : List Int} {n k : Int} (hn : n = (WW.length : Int)) (h : ∀ i : Nat, i < WW.length → g (i : Int) = WW.getD i 0) : wq P ST SZ g 0 n k ↔ wq P ST SZ (fun i => WW.getD i.toNat 0) 0 (WW.length : Int) k := by
  unfold wq
  rw [hn, Int.toNat_natCast]
  constructor
  · rintro ⟨z1, z2⟩
    refine ⟨z1, fun i hi => (z2 i hi).trans ?_⟩
    show g (0 + (i : Int)) = WW.getD (0 + (i : Int)).toNat 0
    rw [Int.zero_add, Int.toNat_natCast]; exact h i hi
  · rintro ⟨z1, z2⟩
    refine ⟨z1, fun i hi => (z2 i hi).trans ?_⟩
    show WW.getD (0 + (i : Int)).toNat 0 = g (0 + (i : Int))
    rw [Int.zero_add, Int.toNat_natCast]; exact (h i hi).symm
/-- the word of a name stands for it at members that have names -/
theorem wdM_w {m0 w : Nat} {so q : Int} {WW : List Int} {t0 o6 oo ob p : Nat} (hI : wd_at S w 64) (hK : KC t0 m0 o6 oo ob w p T cs ms os S) (h : hwW w WW S q) (hso : so ≠ 2) : wdM m0 T ms S so q WW := by
  intro m h0 h1 hs
  have hm := KC_m hK h0 h1
  obtain ⟨a1, a2⟩ := hm.2.2.2.2 (by rw [hs]; exact hso)
  have hnm : nmR T (hmR ms m) = WW ↔ ((hmR ms m).2.2.2.2.2.2.2 - (hmR ms m).2.2.2.2.2.2.1 = (WW.length : Int) ∧ ∀ i : Nat, i < ((hmR ms m).2.2.2.2.2.2.2 - (hmR ms m).2.2.2.2.2.2.1).toNat → T ((hmR ms m).2.2.2.2.2.2.1 + (i : Int)) = (fun i => WW.getD i.toNat 0) (0 + (i : Int))) := by
    have hz : 0 ≤ (hmR ms m).2.2.2.2.2.2.2 - (hmR ms m).2.2.2.2.2.2.1 := by
      have z := (hI.2.2.1 (S (m0 + 14) m) (by omega) a1.2).2.1
      rw [a2.1] at z; exact z
    unfold nmR
    rw [ls_eq, sl_len]
    constructor
    · rintro ⟨z1, z2⟩
      refine ⟨by omega, fun i hi => ?_⟩
      have z3 := z2 i hi
      rw [sl_get _ _ _ hi] at z3
      show _ = WW.getD (0 + (i : Int)).toNat 0
      rw [Int.zero_add, Int.toNat_natCast]; exact z3
    · rintro ⟨z1, z2⟩
      refine ⟨by omega, fun i hi => ?_⟩
      have z3 : _ = WW.getD (0 + (i : Int)).toNat 0 := z2 i hi
      rw [Int.zero_add, Int.toNat_natCast] at z3
      rw [sl_get _ _ _ hi]; exact z3
  rw [hnm]
  rcases h with ⟨q0, q1, q2⟩ | ⟨q0, q1⟩
  · exact wq_2 hI ⟨by omega, a1.2⟩ ⟨q0, q1⟩ a2 q2
  · constructor
    · intro z; omega
    · rintro ⟨z1, z2⟩
      refine absurd ?_ (q1 (S (m0 + 14) m) (by omega) a1.2)
      exact ⟨a2.1.trans z1, fun i hi => (a2.2 i (by omega)).trans (z2 i (by omega))⟩
theorem wdM_n {m0 w t0 o6 oo ob p : Nat} (hK : KC t0 m0 o6 oo ob w p T cs ms os S) : wdM m0 T ms S 2 12 [] := by
  intro m h0 h1 hs
  have hm := KC_m hK h0 h1
  obtain ⟨a1, a2⟩ := hm.2.2.2.1 hs
  refine ⟨fun _ => ?_, fun _ => a1⟩
  unfold nmR
  rw [a2, Int.sub_self]; rfl
/-- without such a word there is no such member -/
theorem fs_no {m0 w t0 o6 oo ob p : Nat} {so st pc : Int} {WW l : List Int} (hK : KC t0 m0 o6 oo ob w p T cs ms os S) (h : wdM m0 T ms S so (-1) WW) (hso : so ≠ 2) (hl : ∀ x ∈ l, 0 ≤ x ∧ x < (ms.length : Int)) : fsA (okM T ms so st pc WW) l = -1 := by
  rcases fsA_rg (ok := okM T ms so st pc WW) l with z | ⟨z1, z2⟩
  · exact z
  · have y := of_decide_eq_true z2
    have hr := hl _ z1
    have y2 := (h _ hr.1 hr.2 y.1).mpr y.2.2.2
    have y3 := ((KC_m hK hr.1 hr.2).2.2.2.2 (by rw [y.1]; exact hso)).1
    omega
theorem fF_no {m0 w t0 o6 oo ob p : Nat} {st : Int} {WW l : List Int} (hK : KC t0 m0 o6 oo ob w p T cs ms os S) (h : wdM m0 T ms S 0 (-1) WW) (hl : ∀ x ∈ l, 0 ≤ x ∧ x < (ms.length : Int)) : fsA (okF T ms st WW) l = -1 := by
  rcases fsA_rg (ok := okF T ms st WW) l with z | ⟨z1, z2⟩
  · exact z
  · have y := of_decide_eq_true z2
    have hr := hl _ z1
    have y2 := (h _ hr.1 hr.2 y.1).mpr y.2.2
    have y3 := ((KC_m hK hr.1 hr.2).2.2.2.2 (by rw [y.1]; decide)).1
    omega
/-- the nearest field, by rows and by lists -/
theorem fsA_app {ok : Int → Bool} {a b : List Int} (ha : ∀ x ∈ a, 0 ≤ x) : fsA ok (a ++ b) = if 0 ≤ fsA ok a then fsA ok a else fsA ok b := by
  induction a with
  | nil => rw [fsA_n, if_neg (by first | decide | omega)]; rfl
  | cons m a ih =>
    by_cases c : ok m = true
    · rw [List.cons_append, fsA_p c, fsA_p c, if_pos (ha m List.mem_cons_self)]
    · have c2 : ok m = false := Bool.eq_false_iff.mpr c
      rw [List.cons_append, fsA_q c2, fsA_q c2]
      exact ih (fun x hx => ha x (List.mem_cons_of_mem _ hx))
theorem nf_m_e {m0 w t0 o6 oo ob p : Nat} {st word : Int} {WW : List Int} (hK : KC t0 m0 o6 oo ob w p T cs ms os S) (h : wdM m0 T ms S 0 word WW) (e : Int) (he : e ≤ (ms.length : Int)) : ∀ (n : Nat) (m : Int), m + (n : Int) = e → 0 ≤ m → nf_m (S (m0 + 1)) (S (m0 + 14)) (S (m0 + 2)) word st e (n + 1) m = fsA (okF T ms st WW) (ivl m n) := by
  intro n
  induction n with
  | zero =>
    intro m hm h0
    rw [nf_m_s, if_neg (by omega)]; rfl
  | succ n ih =>
    intro m hm h0
    have hr := KC_m hK h0 (by omega : m < (ms.length : Int))
    rw [nf_m_s, if_pos (by omega), ivl_s, hr.1.2.1, hr.1.2.2.1]
    by_cases c : okF T ms st WW m = true
    · have y := of_decide_eq_true c
      rw [fsA_p c, if_pos ⟨y.1, (h m h0 (by omega) y.1).mpr y.2.2, y.2.1⟩]
    · have c2 : okF T ms st WW m = false := Bool.eq_false_iff.mpr c
      have y := of_decide_eq_false c2
      rw [fsA_q c2, if_neg (fun z => y ⟨z.1, z.2.2, (h m h0 (by omega) z.1).mp z.2.1⟩)]
      exact ih (m + 1) (by omega) (by omega)
theorem nf_f_e {m0 w t0 o6 oo ob p : Nat} {st word : Int} {WW : List Int} (hK : KC t0 m0 o6 oo ob w p T cs ms os S) (hw : wHo cs ms os) (h : wdM m0 T ms S 0 word WW) : ∀ (f : Nat) (k : Int), -1 ≤ k → k < (cs.length : Int) → (k + 1).toNat ≤ f → nf_f (S (m0 + 1)) (S (m0 + 14)) (S (m0 + 2)) (S (t0 + 4)) (S (t0 + 3)) (S (t0 + 1)) word st (f + 1) k = fsA (okF T ms st WW) (mOr cs (ch_l (Ab cs) f k)) := by
  intro f
  induction f with
  | zero =>
    intro k k0 k1 hf
    rw [nf_f_s, if_pos (by omega)]; rfl
  | succ f ih =>
    intro k k0 k1 hf
    by_cases c : k = -1
    · rw [nf_f_s, if_pos c, c]; rfl
    · have hc := KC_c hK (by omega : 0 ≤ k) k1
      have hk := hw.2.1 k (by omega) k1
      have e1 : S (t0 + 4) k = (hcR cs k).2.2.2.2.2.2.1 := hc.2.2.2.2
      have e2 : S (t0 + 3) k = (hcR cs k).2.2.2.2.2.2.2 := hc.2.2.2.1
      have e3 : S (t0 + 1) k = (hcR cs k).2.2.2.1 := hc.2.1
      have hch : ch_l (Ab cs) (f + 1) k = k :: ch_l (Ab cs) f ((hcR cs k).2.2.2.1) := if_neg c
      have hn := hk.2.1
      rw [nf_f_s, if_neg c, e1, e2, e3, hch, mOr_c, fsA_app (fun x hx => (mIx_rg hw (by omega) k1 hx).1), ih _ hk.1.1 (by omega) (by omega)]
      have z := nf_m_e (st := st) hK h ((hcR cs k).2.2.2.2.2.2.1 + (hcR cs k).2.2.2.2.2.2.2) hn.2.2 (hcR cs k).2.2.2.2.2.2.2.toNat (hcR cs k).2.2.2.2.2.2.1 (by omega) hn.1
      rw [z]; rfl
theorem wb51_73 {nm wk : Int} {W : List Int} (hX : w_X xs) (hC : w_CL S) (hI : gI S) (h1 : S 72 1 = 73) (l11 : S 158 11 = nm) (hnm : 0 ≤ nm ∧ nm < S 9 (-1)) (hW2 : wd_at S 2 1024) (hL2 : wd_L S 2 1024) (hwk : S 9 nm = wk) (hwk2 : 0 ≤ wk ∧ wk < S 2 7) (hwq : wqL S W wk) (hWh : wd_at S 74 64) (hLh : wd_L S 74 64) (h159 : S 159 (-1) = 64) : wJ (pe_GA xs) wY0 M (d + 4) t_XL_wordBehind ((pe_at t_XL_wordBehind.bl 0).getD (0, [])).2 [(0, (2, 158)), (1, (2, (-10 - ((123 : Nat) : Int))))] [] S (fun o Z => sc_ag 159 S Z ∧ gI Z ∧ rmR S Z ∧ ∃ q : Int, o = .inl (some (0, q)) ∧ hwW 74 (wnW [115, 101, 116] W) S q) := by
  have hR := rmR_rfl S
  have a1 : 0 ≤ S 4 wk ∧ 0 ≤ S 5 wk ∧ S 5 wk ≤ 60 ∧ S 4 wk + S 5 wk ≤ S 2 1 := hW2.2.2.1 wk hwk2.1 hwk2.2
  have a2 : 0 ≤ S 2 7 ∧ S 2 7 ≤ S 4 (-1) := hW2.1
  have a3 : 0 ≤ S 2 1 ∧ S 2 1 ≤ S 3 (-1) := hW2.2.1
  have l5 : S 5 (-1) = S 4 (-1) := hL2.2.1
  have l8 : S 4 (-1) ≤ 2147483647 := hL2.2.2.2.2.2.2.2.1
  have l9 : S 3 (-1) ≤ 2147483647 := hL2.2.2.2.2.2.2.2.2
  have e5 : S 5 wk = (W.length : Int) := hwq.1
  have e3 : ∀ i : Nat, i < W.length → S 3 (S 4 wk + (i : Int)) = W.getD i 0 := fun i hi => by
    have z := hwq.2 i (by omega)
    rw [show (fun i : Int => W.getD i.toNat 0) (0 + (i : Int)) = W.getD (0 + (i : Int)).toNat 0 from rfl, Int.zero_add, Int.toNat_natCast] at z
    exact z
  refine wa_aload_n (n := 0) rfl ?_
  refine wb_gf4 158 rfl (wy_pr rfl) wt_158 wf_5_0 (v := 72) wl_158_0 ?_
  refine wb_gf4 72 rfl (wy_pr rfl) wt_72 wf_2_0 (v := 2) wl_72_0 ?_
  refine wa_astore_n (n := 2) rfl ?_
  refine wa_aload_n (n := 2) rfl ?_
  refine wb_gf4 2 rfl (wy_pr rfl) wt_2 wf_9_9 (v := 9) wl_2_9 ?_
  refine wa_aload_n (n := 0) rfl ?_
  refine wb_gfi 158 rfl (wy_pr rfl) wt_158 wf_5_11 (v := nm) (l11) (fun r1 => ?_)
  refine wb_iald 9 rfl (wy_pr rfl) wt_9 (n := (S 9 (-1))) (rfl) (by omega) (by omega) (v := wk) (hwk) (fun r2 => ?_)
  refine wa_istore_n (n := 3) rfl ?_
  refine wa_aload_n (n := 2) rfl ?_
  refine wb_gf4 2 rfl (wy_pr rfl) wt_2 wf_9_3 (v := 5) wl_2_3 ?_
  refine wa_iload_n (n := 3) rfl ?_
  refine wb_iald 5 rfl (wy_pr rfl) wt_5 (n := (S 4 (-1))) (l5) (by omega) (by omega) (v := (S 5 wk)) rfl (fun r3 => ?_)
  refine wa_istore (n := 4) rfl ?_
  refine wa_aload_n (n := 1) rfl ?_
  refine wa_sl 123 rfl (wx_123 hX) rfl rfl ?_
  refine wJ_top (show (tx_51.length : Int) = 3 from rfl) ?_
  refine wa_istore (n := 5) rfl ?_
  refine wa_iload (n := 5) rfl ?_
  refine wa_iload (n := 4) rfl ?_
  refine wa_iadd ?_
  refine wa_aload_n (n := 0) rfl ?_
  refine wb_gf4 158 rfl (wy_pr rfl) wt_158 wf_5_15 (v := 159) wl_158_15 ?_
  refine wb_alen 159 rfl (wy_pr rfl) (by rw [wt_159]; rfl) (v := 64) (h159) (fun r4 => ?_)
  refine wa_icmple (w_rg0 (by omega) (by omega)) (w_rg0 (by omega) (by omega)) ⟨_, rfl⟩ (fun c5 => ?_) (fun c5 => ?_)
  · skip
    refine wa_iconst ?_
    refine wa_istore (n := 6) rfl ?_
    refine wa_fall ⟨_, rfl⟩ ?_
    refine wJ_S (L2 := [(0, (2, 158)), (1, (2, (-10 - ((123 : Nat) : Int)))), (2, (2, 2)), (3, (0, wk)), (4, (0, (S 5 wk))), (5, (0, 3)), (6, (0, 0))]) ?_ ⟨rfl, rfl, rfl, rfl, rfl, rfl, rfl, trivial⟩
    refine wa_iload (n := 6) rfl ?_
    refine wa_iload (n := 5) rfl ?_
    refine wa_icmpge (w_rg0 (by omega) (by omega)) (w_rg0 (by omega) (by omega)) ⟨_, rfl⟩ (fun c6 => ?_) (fun c6 => ?_)
    · skip
      exact absurd c6 (by omega)
    · skip
      refine wa_aload_n (n := 0) rfl ?_
      refine wb_gf4 158 rfl (wy_pr rfl) wt_158 wf_5_15 (v := 159) wl_158_15 ?_
      refine wa_iload (n := 6) rfl ?_
      refine wa_aload_n (n := 1) rfl ?_
      refine wa_iload (n := 6) rfl ?_
      refine wa_sc 123 rfl (wx_123 hX) (by first | decide | omega) rfl rfl (by first | decide | omega) (by first | decide | omega) ?_
      refine wJ_top (show (w_tx tx_51 0) = 115 by decide) ?_
      refine wb_i2b_r (wb_i2b_id ⟨(by omega), (by omega)⟩) ?_
      refine wb_bast 159 rfl (wy_pr rfl) wt_159 (n := 64) (h159) (by omega) (by omega) ⟨(by omega), (by omega)⟩ ?_
      refine wa_iinc rfl rfl ?_
      refine wa_goto ⟨_, rfl⟩ ?_
      refine wJ_S (L2 := [(0, (2, 158)), (1, (2, (-10 - ((123 : Nat) : Int)))), (2, (2, 2)), (3, (0, wk)), (4, (0, (S 5 wk))), (5, (0, 3)), (6, (0, 1))]) ?_ ⟨rfl, rfl, rfl, rfl, rfl, rfl, rfl, trivial⟩
      refine wa_iload (n := 6) rfl ?_
      refine wa_iload (n := 5) rfl ?_
      refine wa_icmpge (w_rg0 (by omega) (by omega)) (w_rg0 (by omega) (by omega)) ⟨_, rfl⟩ (fun c7 => ?_) (fun c7 => ?_)
      · skip
        exact absurd c7 (by omega)
      · skip
        refine wa_aload_n (n := 0) rfl ?_
        refine wb_gf4 158 rfl (wy_pr rfl) wt_158 wf_5_15 (v := 159) wl_158_15 ?_
        refine wa_iload (n := 6) rfl ?_
        refine wa_aload_n (n := 1) rfl ?_
        refine wa_iload (n := 6) rfl ?_
        refine wa_sc 123 rfl (wx_123 hX) (by first | decide | omega) rfl rfl (by first | decide | omega) (by first | decide | omega) ?_
        refine wJ_top (show (w_tx tx_51 1) = 101 by decide) ?_
        refine wb_i2b_r (wb_i2b_id ⟨(by omega), (by omega)⟩) ?_
        refine wb_bast 159 rfl (wy_pr rfl) wt_159 (n := 64) ((w_up_at (by decide)).trans (h159)) (by omega) (by omega) ⟨(by omega), (by omega)⟩ ?_
        refine wa_iinc rfl rfl ?_
        refine wa_goto ⟨_, rfl⟩ ?_
        refine wJ_S (L2 := [(0, (2, 158)), (1, (2, (-10 - ((123 : Nat) : Int)))), (2, (2, 2)), (3, (0, wk)), (4, (0, (S 5 wk))), (5, (0, 3)), (6, (0, 2))]) ?_ ⟨rfl, rfl, rfl, rfl, rfl, rfl, rfl, trivial⟩
        refine wa_iload (n := 6) rfl ?_
        refine wa_iload (n := 5) rfl ?_
        refine wa_icmpge (w_rg0 (by omega) (by omega)) (w_rg0 (by omega) (by omega)) ⟨_, rfl⟩ (fun c8 => ?_) (fun c8 => ?_)
        · skip
          exact absurd c8 (by omega)
        · skip
          refine wa_aload_n (n := 0) rfl ?_
          refine wb_gf4 158 rfl (wy_pr rfl) wt_158 wf_5_15 (v := 159) wl_158_15 ?_
          refine wa_iload (n := 6) rfl ?_
          refine wa_aload_n (n := 1) rfl ?_
          refine wa_iload (n := 6) rfl ?_
          refine wa_sc 123 rfl (wx_123 hX) (by first | decide | omega) rfl rfl (by first | decide | omega) (by first | decide | omega) ?_
          refine wJ_top (show (w_tx tx_51 2) = 116 by decide) ?_
          refine wb_i2b_r (wb_i2b_id ⟨(by omega), (by omega)⟩) ?_
          refine wb_bast 159 rfl (wy_pr rfl) wt_159 (n := 64) ((w_up_at (by decide)).trans ((w_up_at (by decide)).trans (h159))) (by omega) (by omega) ⟨(by omega), (by omega)⟩ ?_
          refine wa_iinc rfl rfl ?_
          refine wa_goto ⟨_, rfl⟩ ?_
          refine wJ_S (L2 := [(0, (2, 158)), (1, (2, (-10 - ((123 : Nat) : Int)))), (2, (2, 2)), (3, (0, wk)), (4, (0, (S 5 wk))), (5, (0, 3)), (6, (0, 3))]) ?_ ⟨rfl, rfl, rfl, rfl, rfl, rfl, rfl, trivial⟩
          refine wa_iload (n := 6) rfl ?_
          refine wa_iload (n := 5) rfl ?_
          refine wa_icmpge (w_rg0 (by omega) (by omega)) (w_rg0 (by omega) (by omega)) ⟨_, rfl⟩ (fun c9 => ?_) (fun c9 => ?_)
          · skip
            refine wa_aload_n (n := 2) rfl ?_
            refine wb_gf4 2 rfl (wy_pr rfl) wt_2 wf_9_0 (v := 3) wl_2_0 ?_
            refine wa_aload_n (n := 2) rfl ?_
            refine wb_gf4 2 rfl (wy_pr rfl) wt_2 wf_9_2 (v := 4) wl_2_2 ?_
            refine wa_iload_n (n := 3) rfl ?_
            refine wb_iald 4 rfl (wy_pr rfl) wt_4 (n := (S 4 (-1))) ((w_up_slot (by decide)).trans ((w_up_slot (by decide)).trans ((w_up_slot (by decide)).trans (rfl)))) (by omega) (by omega) (v := (S 4 wk)) ((w_up_slot (by decide)).trans ((w_up_slot (by decide)).trans (w_up_slot (by decide)))) (fun r10 => ?_)
            refine wa_aload_n (n := 0) rfl ?_
            refine wb_gf4 158 rfl (wy_pr rfl) wt_158 wf_5_15 (v := 159) wl_158_15 ?_
            refine wa_iload (n := 5) rfl ?_
            refine wa_iload (n := 4) rfl ?_
            refine wb_acB (S := (w_up (w_up (w_up S 159 0 115) 159 1 101) 159 2 116)) 3 159 rfl rfl (wy_pr rfl) (wy_pr rfl) wt_3 wt_159 (gI_up (gI_up (gI_up hI (by omega) (by omega) (by omega)) (by omega) (by omega) (by omega)) (by omega) (by omega) (by omega)) (rmR_up (rmR_up (rmR_up hR (by omega) (by decide)) (by omega) (by decide)) (by omega) (by decide)) (by decide) (by omega) (by omega) (by omega) (by have e : (w_up (w_up (w_up S 159 0 115) 159 1 101) 159 2 116) 3 (-1) = (S 3 (-1)) := ((w_up_slot (by decide)).trans ((w_up_slot (by decide)).trans ((w_up_slot (by decide)).trans (rfl)))); omega) (by have e : (w_up (w_up (w_up S 159 0 115) 159 1 101) 159 2 116) 159 (-1) = 64 := ((w_up_at (by decide)).trans ((w_up_at (by decide)).trans ((w_up_at (by decide)).trans (h159)))); omega) (by omega) rfl (fun Z11 g12 gi13 rm14 => ?_)
            refine wa_iload (n := 5) rfl ?_
            refine wa_ifle (w_rg0 (by omega) (by omega)) ⟨_, rfl⟩ (fun c15 => ?_) (fun c15 => ?_)
            · skip
              exact absurd c15 (by omega)
            · skip
              refine wa_aload_n (n := 0) rfl ?_
              refine wb_gf4 158 rfl (wy_pr rfl) wt_158 wf_5_15 (v := 159) wl_158_15 ?_
              refine wa_iload (n := 5) rfl ?_
              refine wb_bald 159 rfl (wy_pr rfl) wt_159 (n := 64) (((g12.1 159 (-1) (by omega)).trans ((w_up_at (by decide)).trans ((w_up_at (by decide)).trans ((w_up_at (by decide)).trans (h159)))))) (by omega) (by omega) (v := (Z11 159 3)) rfl (fun r16 => ?_)
              refine wa_cs (M2 := fun _ => False) rfl at_X_isSmall ⟨_, rfl⟩ rfl rfl ⟨(Or.inr ⟨wy_pr rfl, fun q => q⟩), (Or.inl (by omega)), (Or.inr ⟨wy_pr rfl, fun q => q⟩), trivial, trivial, trivial, trivial, trivial⟩ trivial (fun _ _ q => False.elim q) ?_ (fun _ _ _ q => q)
              refine wa_iload_n (n := 0) rfl ?_
              refine wa_bipush (w_rg2 (by omega) (by omega)) ?_
              refine wa_icmplt (w_rg0 (by omega) (by omega)) (w_rg0 (by omega) (by omega)) ⟨_, rfl⟩ (fun c17 => ?_) (fun c17 => ?_)
              · skip
                refine wa_iconst ?_
                refine wa_fall ⟨_, rfl⟩ ?_
                refine wa_zreturn rfl (Or.inl rfl) ?_
                show wJ _ _ _ _ _ _ _ _ _ _
                refine wa_ifeq (w_rg0 (by omega) (by omega)) ⟨_, rfl⟩ (fun c18 => ?_) (fun c18 => ?_)
                · skip
                  refine wa_aload_n (n := 0) rfl ?_
                  refine wb_gf4 158 rfl (wy_pr rfl) wt_158 wf_5_0 (v := 72) wl_158_0 ?_
                  refine wb_gf5 72 rfl (wy_pr rfl) wt_72 wf_2_1 (v := 73) (((g12.1 72 1 (Or.inl (by decide))).trans ((w_up_slot (by decide)).trans ((w_up_slot (by decide)).trans ((w_up_slot (by decide)).trans (h1)))))) (fun r19 => ?_)
                  refine wb_gf4 73 rfl (wy_pr rfl) wt_73 wf_3_0 (v := 74) wl_73_0 ?_
                  refine wa_aload_n (n := 0) rfl ?_
                  refine wb_gf4 158 rfl (wy_pr rfl) wt_158 wf_5_15 (v := 159) wl_158_15 ?_
                  refine wa_iconst ?_
                  refine wa_iload (n := 5) rfl ?_
                  refine wa_iload (n := 4) rfl ?_
                  refine wa_iadd ?_
                  have fz : ∀ (j : Nat) (i : Int), (j ≠ 159 ∨ i < 0) → Z11 j i = S j i := fun j i hj => ((g12.1 j i (by omega)).trans (((w_up_no (by omega)).trans ((w_up_no (by omega)).trans (w_up_no (by omega))))))
                  have hlen : (wnW [115, 101, 116] W).length = 3 + W.length := by unfold wnW; rw [if_neg (by first | decide | omega), List.length_append, capW_l]; rfl
                  have hsg : ∀ i : Nat, i < (wnW [115, 101, 116] W).length → Z11 159 (i : Int) = (wnW [115, 101, 116] W).getD i 0 := by
                    intro i hi
                    rw [hlen] at hi
                    by_cases c0 : i = 0
                    · rw [c0]; exact ((g12.1 159 0 (by omega)).trans (((w_up_at (by first | decide | omega)).trans ((w_up_at (by first | decide | omega)).trans (w_up_same _ _ _ _)))))
                    by_cases c1 : i = 1
                    · rw [c1]; exact ((g12.1 159 1 (by omega)).trans (((w_up_at (by first | decide | omega)).trans (w_up_same _ _ _ _))))
                    by_cases c2 : i = 2
                    · rw [c2]; exact ((g12.1 159 2 (by omega)).trans ((w_up_same _ _ _ _)))
                    obtain ⟨k, hk⟩ : ∃ k : Nat, i = 3 + k := ⟨i - 3, by omega⟩
                    have hr : (wnW [115, 101, 116] W).getD i 0 = (capW W).getD k 0 := by rw [hk]; exact getD_r (a := [115, 101, 116])
                    have z : Z11 159 (3 + (k : Int)) = W.getD k 0 := (g12.2 (k : Int) (by omega) (by omega)).trans ((((w_up_slot (by first | decide | omega)).trans ((w_up_slot (by first | decide | omega)).trans (w_up_slot (by first | decide | omega))))).trans (e3 k (by omega)))
                    have z0 : (i : Int) = 3 + (k : Int) := by omega
                    rw [hr, z0]
                    cases k with
                    | zero =>
                      rw [capW_0 (by omega)]
                      replace z : Z11 159 3 = W.getD 0 0 := z
                      rw [if_neg (by omega)]
                      exact z
                    | succ k =>
                      rw [capW_s]
                      exact z
                  have hq1 : ∀ k : Int, wq (Z11 75) (Z11 76) (Z11 77) (Z11 159) 0 (3 + (S 5 wk)) k ↔ wq (S 75) (S 76) (S 77) (fun i => (wnW [115, 101, 116] W).getD i.toNat 0) 0 ((wnW [115, 101, 116] W).length : Int) k := fun k => by
                    rw [show Z11 75 = S 75 from funext (fun x => fz 75 x (by omega)), show Z11 76 = S 76 from funext (fun x => fz 76 x (by omega)), show Z11 77 = S 77 from funext (fun x => fz 77 x (by omega))]
                    exact wq_tx (by omega) hsg
                  have hWz : wd_at Z11 74 64 := by
                    have z := hWh
                    unfold wd_at at z ⊢
                    rw [show Z11 (74 + 1) = S (74 + 1) from funext (fun x => fz 75 x (by omega)), show Z11 (74 + 2) = S (74 + 2) from funext (fun x => fz 76 x (by omega)), show Z11 (74 + 3) = S (74 + 3) from funext (fun x => fz 77 x (by omega)), show Z11 (74 + 4) = S (74 + 4) from funext (fun x => fz 78 x (by omega)), show Z11 (74 + 10) = S (74 + 10) from funext (fun x => fz 84 x (by omega)), show Z11 74 1 = S 74 1 from fz 74 1 (by first | decide | omega), show Z11 74 7 = S 74 7 from fz 74 7 (by first | decide | omega)]
                    exact z
                  have hLz : wd_L Z11 74 64 := by
                    have z := hLh
                    unfold wd_L at z ⊢
                    rw [show Z11 (74 + 10) (-1) = S (74 + 10) (-1) from fz 84 (-1) (by first | decide | omega), show Z11 (74 + 3) (-1) = S (74 + 3) (-1) from fz 77 (-1) (by first | decide | omega), show Z11 (74 + 2) (-1) = S (74 + 2) (-1) from fz 76 (-1) (by first | decide | omega), show Z11 (74 + 4) (-1) = S (74 + 4) (-1) from fz 78 (-1) (by first | decide | omega), show Z11 (74 + 5) (-1) = S (74 + 5) (-1) from fz 79 (-1) (by first | decide | omega), show Z11 (74 + 6) (-1) = S (74 + 6) (-1) from fz 80 (-1) (by first | decide | omega), show Z11 (74 + 1) (-1) = S (74 + 1) (-1) from fz 75 (-1) (by first | decide | omega)]
                    exact z
                  have e7 : Z11 74 7 = S 74 7 := fz 74 7 (by first | decide | omega)
                  have e159 : Z11 159 (-1) = 64 := (fz 159 (-1) (by first | decide | omega)).trans h159
                  refine wa_cv 74 rfl (wy_pr rfl) wt_74 (M2 := fun _ => False) rfl at_XW_wordAt ⟨_, rfl⟩ rfl rfl ⟨(Or.inr ⟨wy_pr rfl, fun q => q⟩), (Or.inl (by omega)), (Or.inr ⟨wy_pr rfl, fun q => q⟩), trivial, trivial, trivial, trivial, trivial⟩ trivial (fun _ _ q => False.elim q) (wa_74 (S := Z11) (b := 159) (wy_pr rfl) wt_159 ⟨by omega, by omega, by omega, by omega⟩ hWz hLz) (fun oq20 Sq20 hp21 q20 => ?_)
                  rcases q20 with ⟨rfl, q, rfl, hq⟩
                  show wJ _ _ _ _ _ _ _ _ _ _
                  refine wa_ireturn rfl ?_
                  refine ⟨fz, gi13, rm14, q, rfl, ?_⟩
                  rcases hq with ⟨y0, y1, y2⟩ | ⟨y0, y1⟩
                  · exact Or.inl ⟨y0, by rw [← e7]; exact y1, (hq1 q).mp y2⟩
                  · exact Or.inr ⟨y0, fun k k0 k1 z => y1 k k0 (by rw [e7]; exact k1) ((hq1 k).mpr z)⟩
                · skip
                  exact absurd c18 (by omega)
              · skip
                refine wa_iload_n (n := 0) rfl ?_
                refine wa_bipush (w_rg2 (by omega) (by omega)) ?_
                refine wa_icmpgt (w_rg0 (by omega) (by omega)) (w_rg0 (by omega) (by omega)) ⟨_, rfl⟩ (fun c22 => ?_) (fun c22 => ?_)
                · skip
                  refine wa_iconst ?_
                  refine wa_fall ⟨_, rfl⟩ ?_
                  refine wa_zreturn rfl (Or.inl rfl) ?_
                  show wJ _ _ _ _ _ _ _ _ _ _
                  refine wa_ifeq (w_rg0 (by omega) (by omega)) ⟨_, rfl⟩ (fun c23 => ?_) (fun c23 => ?_)
                  · skip
                    refine wa_aload_n (n := 0) rfl ?_
                    refine wb_gf4 158 rfl (wy_pr rfl) wt_158 wf_5_0 (v := 72) wl_158_0 ?_
                    refine wb_gf5 72 rfl (wy_pr rfl) wt_72 wf_2_1 (v := 73) (((g12.1 72 1 (Or.inl (by decide))).trans ((w_up_slot (by decide)).trans ((w_up_slot (by decide)).trans ((w_up_slot (by decide)).trans (h1)))))) (fun r24 => ?_)
                    refine wb_gf4 73 rfl (wy_pr rfl) wt_73 wf_3_0 (v := 74) wl_73_0 ?_
                    refine wa_aload_n (n := 0) rfl ?_
                    refine wb_gf4 158 rfl (wy_pr rfl) wt_158 wf_5_15 (v := 159) wl_158_15 ?_
                    refine wa_iconst ?_
                    refine wa_iload (n := 5) rfl ?_
                    refine wa_iload (n := 4) rfl ?_
                    refine wa_iadd ?_
                    have fz : ∀ (j : Nat) (i : Int), (j ≠ 159 ∨ i < 0) → Z11 j i = S j i := fun j i hj => ((g12.1 j i (by omega)).trans (((w_up_no (by omega)).trans ((w_up_no (by omega)).trans (w_up_no (by omega))))))
                    have hlen : (wnW [115, 101, 116] W).length = 3 + W.length := by unfold wnW; rw [if_neg (by first | decide | omega), List.length_append, capW_l]; rfl
                    have hsg : ∀ i : Nat, i < (wnW [115, 101, 116] W).length → Z11 159 (i : Int) = (wnW [115, 101, 116] W).getD i 0 := by
                      intro i hi
                      rw [hlen] at hi
                      by_cases c0 : i = 0
                      · rw [c0]; exact ((g12.1 159 0 (by omega)).trans (((w_up_at (by first | decide | omega)).trans ((w_up_at (by first | decide | omega)).trans (w_up_same _ _ _ _)))))
                      by_cases c1 : i = 1
                      · rw [c1]; exact ((g12.1 159 1 (by omega)).trans (((w_up_at (by first | decide | omega)).trans (w_up_same _ _ _ _))))
                      by_cases c2 : i = 2
                      · rw [c2]; exact ((g12.1 159 2 (by omega)).trans ((w_up_same _ _ _ _)))
                      obtain ⟨k, hk⟩ : ∃ k : Nat, i = 3 + k := ⟨i - 3, by omega⟩
                      have hr : (wnW [115, 101, 116] W).getD i 0 = (capW W).getD k 0 := by rw [hk]; exact getD_r (a := [115, 101, 116])
                      have z : Z11 159 (3 + (k : Int)) = W.getD k 0 := (g12.2 (k : Int) (by omega) (by omega)).trans ((((w_up_slot (by first | decide | omega)).trans ((w_up_slot (by first | decide | omega)).trans (w_up_slot (by first | decide | omega))))).trans (e3 k (by omega)))
                      have z0 : (i : Int) = 3 + (k : Int) := by omega
                      rw [hr, z0]
                      cases k with
                      | zero =>
                        rw [capW_0 (by omega)]
                        replace z : Z11 159 3 = W.getD 0 0 := z
                        rw [if_neg (by omega)]
                        exact z
                      | succ k =>
                        rw [capW_s]
                        exact z
                    have hq1 : ∀ k : Int, wq (Z11 75) (Z11 76) (Z11 77) (Z11 159) 0 (3 + (S 5 wk)) k ↔ wq (S 75) (S 76) (S 77) (fun i => (wnW [115, 101, 116] W).getD i.toNat 0) 0 ((wnW [115, 101, 116] W).length : Int) k := fun k => by
                      rw [show Z11 75 = S 75 from funext (fun x => fz 75 x (by omega)), show Z11 76 = S 76 from funext (fun x => fz 76 x (by omega)), show Z11 77 = S 77 from funext (fun x => fz 77 x (by omega))]
                      exact wq_tx (by omega) hsg
                    have hWz : wd_at Z11 74 64 := by
                      have z := hWh
                      unfold wd_at at z ⊢
                      rw [show Z11 (74 + 1) = S (74 + 1) from funext (fun x => fz 75 x (by omega)), show Z11 (74 + 2) = S (74 + 2) from funext (fun x => fz 76 x (by omega)), show Z11 (74 + 3) = S (74 + 3) from funext (fun x => fz 77 x (by omega)), show Z11 (74 + 4) = S (74 + 4) from funext (fun x => fz 78 x (by omega)), show Z11 (74 + 10) = S (74 + 10) from funext (fun x => fz 84 x (by omega)), show Z11 74 1 = S 74 1 from fz 74 1 (by first | decide | omega), show Z11 74 7 = S 74 7 from fz 74 7 (by first | decide | omega)]
                      exact z
                    have hLz : wd_L Z11 74 64 := by
                      have z := hLh
                      unfold wd_L at z ⊢
                      rw [show Z11 (74 + 10) (-1) = S (74 + 10) (-1) from fz 84 (-1) (by first | decide | omega), show Z11 (74 + 3) (-1) = S (74 + 3) (-1) from fz 77 (-1) (by first | decide | omega), show Z11 (74 + 2) (-1) = S (74 + 2) (-1) from fz 76 (-1) (by first | decide | omega), show Z11 (74 + 4) (-1) = S (74 + 4) (-1) from fz 78 (-1) (by first | decide | omega), show Z11 (74 + 5) (-1) = S (74 + 5) (-1) from fz 79 (-1) (by first | decide | omega), show Z11 (74 + 6) (-1) = S (74 + 6) (-1) from fz 80 (-1) (by first | decide | omega), show Z11 (74 + 1) (-1) = S (74 + 1) (-1) from fz 75 (-1) (by first | decide | omega)]
                      exact z
                    have e7 : Z11 74 7 = S 74 7 := fz 74 7 (by first | decide | omega)
                    have e159 : Z11 159 (-1) = 64 := (fz 159 (-1) (by first | decide | omega)).trans h159
                    refine wa_cv 74 rfl (wy_pr rfl) wt_74 (M2 := fun _ => False) rfl at_XW_wordAt ⟨_, rfl⟩ rfl rfl ⟨(Or.inr ⟨wy_pr rfl, fun q => q⟩), (Or.inl (by omega)), (Or.inr ⟨wy_pr rfl, fun q => q⟩), trivial, trivial, trivial, trivial, trivial⟩ trivial (fun _ _ q => False.elim q) (wa_74 (S := Z11) (b := 159) (wy_pr rfl) wt_159 ⟨by omega, by omega, by omega, by omega⟩ hWz hLz) (fun oq25 Sq25 hp26 q25 => ?_)
                    rcases q25 with ⟨rfl, q, rfl, hq⟩
                    show wJ _ _ _ _ _ _ _ _ _ _
                    refine wa_ireturn rfl ?_
                    refine ⟨fz, gi13, rm14, q, rfl, ?_⟩
                    rcases hq with ⟨y0, y1, y2⟩ | ⟨y0, y1⟩
                    · exact Or.inl ⟨y0, by rw [← e7]; exact y1, (hq1 q).mp y2⟩
                    · exact Or.inr ⟨y0, fun k k0 k1 z => y1 k k0 (by rw [e7]; exact k1) ((hq1 k).mpr z)⟩
                  · skip
                    exact absurd c23 (by omega)
                · skip
                  refine wa_iconst ?_
                  refine wa_goto ⟨_, rfl⟩ ?_
                  refine wa_zreturn rfl (Or.inr rfl) ?_
                  show wJ _ _ _ _ _ _ _ _ _ _
                  refine wa_ifeq (w_rg0 (by omega) (by omega)) ⟨_, rfl⟩ (fun c27 => ?_) (fun c27 => ?_)
                  · skip
                    exact absurd c27 (by omega)
                  · skip
                    refine wa_aload_n (n := 0) rfl ?_
                    refine wb_gf4 158 rfl (wy_pr rfl) wt_158 wf_5_15 (v := 159) wl_158_15 ?_
                    refine wa_iload (n := 5) rfl ?_
                    refine wa_dup2 (by decide) (by decide) ?_
                    refine wb_bald 159 rfl (wy_pr rfl) wt_159 (n := 64) (((g12.1 159 (-1) (by omega)).trans ((w_up_at (by decide)).trans ((w_up_at (by decide)).trans ((w_up_at (by decide)).trans (h159)))))) (by omega) (by omega) (v := (Z11 159 3)) rfl (fun r28 => ?_)
                    refine wa_bipush (w_rg2 (by omega) (by omega)) ?_
                    refine wa_isub ?_
                    refine wb_i2b_r (wb_i2b_id ⟨(by omega), (by omega)⟩) ?_
                    refine wb_bast 159 rfl (wy_pr rfl) wt_159 (n := 64) (((g12.1 159 (-1) (by omega)).trans ((w_up_at (by decide)).trans ((w_up_at (by decide)).trans ((w_up_at (by decide)).trans (h159)))))) (by omega) (by omega) ⟨(by omega), (by omega)⟩ ?_
                    refine wa_fall ⟨_, rfl⟩ ?_
                    refine wa_aload_n (n := 0) rfl ?_
                    refine wb_gf4 158 rfl (wy_pr rfl) wt_158 wf_5_0 (v := 72) wl_158_0 ?_
                    refine wb_gf5 72 rfl (wy_pr rfl) wt_72 wf_2_1 (v := 73) ((w_up_slot (by decide)).trans (((g12.1 72 1 (Or.inl (by decide))).trans ((w_up_slot (by decide)).trans ((w_up_slot (by decide)).trans ((w_up_slot (by decide)).trans (h1))))))) (fun r29 => ?_)
                    refine wb_gf4 73 rfl (wy_pr rfl) wt_73 wf_3_0 (v := 74) wl_73_0 ?_
                    refine wa_aload_n (n := 0) rfl ?_
                    refine wb_gf4 158 rfl (wy_pr rfl) wt_158 wf_5_15 (v := 159) wl_158_15 ?_
                    refine wa_iconst ?_
                    refine wa_iload (n := 5) rfl ?_
                    refine wa_iload (n := 4) rfl ?_
                    refine wa_iadd ?_
                    have fz : ∀ (j : Nat) (i : Int), (j ≠ 159 ∨ i < 0) → (w_up Z11 159 3 ((Z11 159 3) - 32)) j i = S j i := fun j i hj => (w_up_no (by omega)).trans ((g12.1 j i (by omega)).trans (((w_up_no (by omega)).trans ((w_up_no (by omega)).trans (w_up_no (by omega))))))
                    have hlen : (wnW [115, 101, 116] W).length = 3 + W.length := by unfold wnW; rw [if_neg (by first | decide | omega), List.length_append, capW_l]; rfl
                    have hsg : ∀ i : Nat, i < (wnW [115, 101, 116] W).length → (w_up Z11 159 3 ((Z11 159 3) - 32)) 159 (i : Int) = (wnW [115, 101, 116] W).getD i 0 := by
                      intro i hi
                      rw [hlen] at hi
                      by_cases c0 : i = 0
                      · rw [c0]; exact (w_up_at (by omega)).trans ((g12.1 159 0 (by omega)).trans (((w_up_at (by first | decide | omega)).trans ((w_up_at (by first | decide | omega)).trans (w_up_same _ _ _ _)))))
                      by_cases c1 : i = 1
                      · rw [c1]; exact (w_up_at (by omega)).trans ((g12.1 159 1 (by omega)).trans (((w_up_at (by first | decide | omega)).trans (w_up_same _ _ _ _))))
                      by_cases c2 : i = 2
                      · rw [c2]; exact (w_up_at (by omega)).trans ((g12.1 159 2 (by omega)).trans ((w_up_same _ _ _ _)))
                      obtain ⟨k, hk⟩ : ∃ k : Nat, i = 3 + k := ⟨i - 3, by omega⟩
                      have hr : (wnW [115, 101, 116] W).getD i 0 = (capW W).getD k 0 := by rw [hk]; exact getD_r (a := [115, 101, 116])
                      have z : Z11 159 (3 + (k : Int)) = W.getD k 0 := (g12.2 (k : Int) (by omega) (by omega)).trans ((((w_up_slot (by first | decide | omega)).trans ((w_up_slot (by first | decide | omega)).trans (w_up_slot (by first | decide | omega))))).trans (e3 k (by omega)))
                      have z0 : (i : Int) = 3 + (k : Int) := by omega
                      rw [hr, z0]
                      cases k with
                      | zero =>
                        rw [capW_0 (by omega)]
                        replace z : Z11 159 3 = W.getD 0 0 := z
                        rw [if_pos (by omega)]
                        refine (w_up_same _ _ _ _).trans ?_
                        omega
                      | succ k =>
                        rw [capW_s]
                        exact (w_up_at (by omega)).trans z
                    have hq1 : ∀ k : Int, wq ((w_up Z11 159 3 ((Z11 159 3) - 32)) 75) ((w_up Z11 159 3 ((Z11 159 3) - 32)) 76) ((w_up Z11 159 3 ((Z11 159 3) - 32)) 77) ((w_up Z11 159 3 ((Z11 159 3) - 32)) 159) 0 (3 + (S 5 wk)) k ↔ wq (S 75) (S 76) (S 77) (fun i => (wnW [115, 101, 116] W).getD i.toNat 0) 0 ((wnW [115, 101, 116] W).length : Int) k := fun k => by
                      rw [show (w_up Z11 159 3 ((Z11 159 3) - 32)) 75 = S 75 from funext (fun x => fz 75 x (by omega)), show (w_up Z11 159 3 ((Z11 159 3) - 32)) 76 = S 76 from funext (fun x => fz 76 x (by omega)), show (w_up Z11 159 3 ((Z11 159 3) - 32)) 77 = S 77 from funext (fun x => fz 77 x (by omega))]
                      exact wq_tx (by omega) hsg
                    have hWz : wd_at (w_up Z11 159 3 ((Z11 159 3) - 32)) 74 64 := by
                      have z := hWh
                      unfold wd_at at z ⊢
                      rw [show (w_up Z11 159 3 ((Z11 159 3) - 32)) (74 + 1) = S (74 + 1) from funext (fun x => fz 75 x (by omega)), show (w_up Z11 159 3 ((Z11 159 3) - 32)) (74 + 2) = S (74 + 2) from funext (fun x => fz 76 x (by omega)), show (w_up Z11 159 3 ((Z11 159 3) - 32)) (74 + 3) = S (74 + 3) from funext (fun x => fz 77 x (by omega)), show (w_up Z11 159 3 ((Z11 159 3) - 32)) (74 + 4) = S (74 + 4) from funext (fun x => fz 78 x (by omega)), show (w_up Z11 159 3 ((Z11 159 3) - 32)) (74 + 10) = S (74 + 10) from funext (fun x => fz 84 x (by omega)), show (w_up Z11 159 3 ((Z11 159 3) - 32)) 74 1 = S 74 1 from fz 74 1 (by first | decide | omega), show (w_up Z11 159 3 ((Z11 159 3) - 32)) 74 7 = S 74 7 from fz 74 7 (by first | decide | omega)]
                      exact z
                    have hLz : wd_L (w_up Z11 159 3 ((Z11 159 3) - 32)) 74 64 := by
                      have z := hLh
                      unfold wd_L at z ⊢
                      rw [show (w_up Z11 159 3 ((Z11 159 3) - 32)) (74 + 10) (-1) = S (74 + 10) (-1) from fz 84 (-1) (by first | decide | omega), show (w_up Z11 159 3 ((Z11 159 3) - 32)) (74 + 3) (-1) = S (74 + 3) (-1) from fz 77 (-1) (by first | decide | omega), show (w_up Z11 159 3 ((Z11 159 3) - 32)) (74 + 2) (-1) = S (74 + 2) (-1) from fz 76 (-1) (by first | decide | omega), show (w_up Z11 159 3 ((Z11 159 3) - 32)) (74 + 4) (-1) = S (74 + 4) (-1) from fz 78 (-1) (by first | decide | omega), show (w_up Z11 159 3 ((Z11 159 3) - 32)) (74 + 5) (-1) = S (74 + 5) (-1) from fz 79 (-1) (by first | decide | omega), show (w_up Z11 159 3 ((Z11 159 3) - 32)) (74 + 6) (-1) = S (74 + 6) (-1) from fz 80 (-1) (by first | decide | omega), show (w_up Z11 159 3 ((Z11 159 3) - 32)) (74 + 1) (-1) = S (74 + 1) (-1) from fz 75 (-1) (by first | decide | omega)]
                      exact z
                    have e7 : (w_up Z11 159 3 ((Z11 159 3) - 32)) 74 7 = S 74 7 := fz 74 7 (by first | decide | omega)
                    have e159 : (w_up Z11 159 3 ((Z11 159 3) - 32)) 159 (-1) = 64 := (fz 159 (-1) (by first | decide | omega)).trans h159
                    refine wa_cv 74 rfl (wy_pr rfl) wt_74 (M2 := fun _ => False) rfl at_XW_wordAt ⟨_, rfl⟩ rfl rfl ⟨(Or.inr ⟨wy_pr rfl, fun q => q⟩), (Or.inl (by omega)), (Or.inr ⟨wy_pr rfl, fun q => q⟩), trivial, trivial, trivial, trivial, trivial⟩ trivial (fun _ _ q => False.elim q) (wa_74 (S := (w_up Z11 159 3 ((Z11 159 3) - 32))) (b := 159) (wy_pr rfl) wt_159 ⟨by omega, by omega, by omega, by omega⟩ hWz hLz) (fun oq30 Sq30 hp31 q30 => ?_)
                    rcases q30 with ⟨rfl, q, rfl, hq⟩
                    show wJ _ _ _ _ _ _ _ _ _ _
                    refine wa_ireturn rfl ?_
                    refine ⟨fz, (gI_up gi13 (by omega) (by omega) (by omega)), (rmR_up rm14 (by omega) (by first | decide | omega)), q, rfl, ?_⟩
                    rcases hq with ⟨y0, y1, y2⟩ | ⟨y0, y1⟩
                    · exact Or.inl ⟨y0, by rw [← e7]; exact y1, (hq1 q).mp y2⟩
                    · exact Or.inr ⟨y0, fun k k0 k1 z => y1 k k0 (by rw [e7]; exact k1) ((hq1 k).mpr z)⟩
          · skip
            exact absurd c9 (by omega)
  · skip
    exfalso; omega
theorem wb81_73 {nm wk : Int} {W : List Int} (hX : w_X xs) (hC : w_CL S) (hI : gI S) (h1 : S 72 1 = 73) (l11 : S 158 11 = nm) (hnm : 0 ≤ nm ∧ nm < S 9 (-1)) (hW2 : wd_at S 2 1024) (hL2 : wd_L S 2 1024) (hwk : S 9 nm = wk) (hwk2 : 0 ≤ wk ∧ wk < S 2 7) (hwq : wqL S W wk) (hWh : wd_at S 74 64) (hLh : wd_L S 74 64) (h159 : S 159 (-1) = 64) : wJ (pe_GA xs) wY0 M (d + 4) t_XL_wordBehind ((pe_at t_XL_wordBehind.bl 0).getD (0, [])).2 [(0, (2, 158)), (1, (2, (-10 - ((127 : Nat) : Int))))] [] S (fun o Z => sc_ag 159 S Z ∧ gI Z ∧ rmR S Z ∧ ∃ q : Int, o = .inl (some (0, q)) ∧ hwW 74 (wnW [103, 101, 116] W) S q) := by
  have hR := rmR_rfl S
  have a1 : 0 ≤ S 4 wk ∧ 0 ≤ S 5 wk ∧ S 5 wk ≤ 60 ∧ S 4 wk + S 5 wk ≤ S 2 1 := hW2.2.2.1 wk hwk2.1 hwk2.2
  have a2 : 0 ≤ S 2 7 ∧ S 2 7 ≤ S 4 (-1) := hW2.1
  have a3 : 0 ≤ S 2 1 ∧ S 2 1 ≤ S 3 (-1) := hW2.2.1
  have l5 : S 5 (-1) = S 4 (-1) := hL2.2.1
  have l8 : S 4 (-1) ≤ 2147483647 := hL2.2.2.2.2.2.2.2.1
  have l9 : S 3 (-1) ≤ 2147483647 := hL2.2.2.2.2.2.2.2.2
  have e5 : S 5 wk = (W.length : Int) := hwq.1
  have e3 : ∀ i : Nat, i < W.length → S 3 (S 4 wk + (i : Int)) = W.getD i 0 := fun i hi => by
    have z := hwq.2 i (by omega)
    rw [show (fun i : Int => W.getD i.toNat 0) (0 + (i : Int)) = W.getD (0 + (i : Int)).toNat 0 from rfl, Int.zero_add, Int.toNat_natCast] at z
    exact z
  refine wa_aload_n (n := 0) rfl ?_
  refine wb_gf4 158 rfl (wy_pr rfl) wt_158 wf_5_0 (v := 72) wl_158_0 ?_
  refine wb_gf4 72 rfl (wy_pr rfl) wt_72 wf_2_0 (v := 2) wl_72_0 ?_
  refine wa_astore_n (n := 2) rfl ?_
  refine wa_aload_n (n := 2) rfl ?_
  refine wb_gf4 2 rfl (wy_pr rfl) wt_2 wf_9_9 (v := 9) wl_2_9 ?_
  refine wa_aload_n (n := 0) rfl ?_
  refine wb_gfi 158 rfl (wy_pr rfl) wt_158 wf_5_11 (v := nm) (l11) (fun r1 => ?_)
  refine wb_iald 9 rfl (wy_pr rfl) wt_9 (n := (S 9 (-1))) (rfl) (by omega) (by omega) (v := wk) (hwk) (fun r2 => ?_)
  refine wa_istore_n (n := 3) rfl ?_
  refine wa_aload_n (n := 2) rfl ?_
  refine wb_gf4 2 rfl (wy_pr rfl) wt_2 wf_9_3 (v := 5) wl_2_3 ?_
  refine wa_iload_n (n := 3) rfl ?_
  refine wb_iald 5 rfl (wy_pr rfl) wt_5 (n := (S 4 (-1))) (l5) (by omega) (by omega) (v := (S 5 wk)) rfl (fun r3 => ?_)
  refine wa_istore (n := 4) rfl ?_
  refine wa_aload_n (n := 1) rfl ?_
  refine wa_sl 127 rfl (wx_127 hX) rfl rfl ?_
  refine wJ_top (show (tx_81.length : Int) = 3 from rfl) ?_
  refine wa_istore (n := 5) rfl ?_
  refine wa_iload (n := 5) rfl ?_
  refine wa_iload (n := 4) rfl ?_
  refine wa_iadd ?_
  refine wa_aload_n (n := 0) rfl ?_
  refine wb_gf4 158 rfl (wy_pr rfl) wt_158 wf_5_15 (v := 159) wl_158_15 ?_
  refine wb_alen 159 rfl (wy_pr rfl) (by rw [wt_159]; rfl) (v := 64) (h159) (fun r4 => ?_)
  refine wa_icmple (w_rg0 (by omega) (by omega)) (w_rg0 (by omega) (by omega)) ⟨_, rfl⟩ (fun c5 => ?_) (fun c5 => ?_)
  · skip
    refine wa_iconst ?_
    refine wa_istore (n := 6) rfl ?_
    refine wa_fall ⟨_, rfl⟩ ?_
    refine wJ_S (L2 := [(0, (2, 158)), (1, (2, (-10 - ((127 : Nat) : Int)))), (2, (2, 2)), (3, (0, wk)), (4, (0, (S 5 wk))), (5, (0, 3)), (6, (0, 0))]) ?_ ⟨rfl, rfl, rfl, rfl, rfl, rfl, rfl, trivial⟩
    refine wa_iload (n := 6) rfl ?_
    refine wa_iload (n := 5) rfl ?_
    refine wa_icmpge (w_rg0 (by omega) (by omega)) (w_rg0 (by omega) (by omega)) ⟨_, rfl⟩ (fun c6 => ?_) (fun c6 => ?_)
    · skip
      exact absurd c6 (by omega)
    · skip
      refine wa_aload_n (n := 0) rfl ?_
      refine wb_gf4 158 rfl (wy_pr rfl) wt_158 wf_5_15 (v := 159) wl_158_15 ?_
      refine wa_iload (n := 6) rfl ?_
      refine wa_aload_n (n := 1) rfl ?_
      refine wa_iload (n := 6) rfl ?_
      refine wa_sc 127 rfl (wx_127 hX) (by first | decide | omega) rfl rfl (by first | decide | omega) (by first | decide | omega) ?_
      refine wJ_top (show (w_tx tx_81 0) = 103 by decide) ?_
      refine wb_i2b_r (wb_i2b_id ⟨(by omega), (by omega)⟩) ?_
      refine wb_bast 159 rfl (wy_pr rfl) wt_159 (n := 64) (h159) (by omega) (by omega) ⟨(by omega), (by omega)⟩ ?_
      refine wa_iinc rfl rfl ?_
      refine wa_goto ⟨_, rfl⟩ ?_
      refine wJ_S (L2 := [(0, (2, 158)), (1, (2, (-10 - ((127 : Nat) : Int)))), (2, (2, 2)), (3, (0, wk)), (4, (0, (S 5 wk))), (5, (0, 3)), (6, (0, 1))]) ?_ ⟨rfl, rfl, rfl, rfl, rfl, rfl, rfl, trivial⟩
      refine wa_iload (n := 6) rfl ?_
      refine wa_iload (n := 5) rfl ?_
      refine wa_icmpge (w_rg0 (by omega) (by omega)) (w_rg0 (by omega) (by omega)) ⟨_, rfl⟩ (fun c7 => ?_) (fun c7 => ?_)
      · skip
        exact absurd c7 (by omega)
      · skip
        refine wa_aload_n (n := 0) rfl ?_
        refine wb_gf4 158 rfl (wy_pr rfl) wt_158 wf_5_15 (v := 159) wl_158_15 ?_
        refine wa_iload (n := 6) rfl ?_
        refine wa_aload_n (n := 1) rfl ?_
        refine wa_iload (n := 6) rfl ?_
        refine wa_sc 127 rfl (wx_127 hX) (by first | decide | omega) rfl rfl (by first | decide | omega) (by first | decide | omega) ?_
        refine wJ_top (show (w_tx tx_81 1) = 101 by decide) ?_
        refine wb_i2b_r (wb_i2b_id ⟨(by omega), (by omega)⟩) ?_
        refine wb_bast 159 rfl (wy_pr rfl) wt_159 (n := 64) ((w_up_at (by decide)).trans (h159)) (by omega) (by omega) ⟨(by omega), (by omega)⟩ ?_
        refine wa_iinc rfl rfl ?_
        refine wa_goto ⟨_, rfl⟩ ?_
        refine wJ_S (L2 := [(0, (2, 158)), (1, (2, (-10 - ((127 : Nat) : Int)))), (2, (2, 2)), (3, (0, wk)), (4, (0, (S 5 wk))), (5, (0, 3)), (6, (0, 2))]) ?_ ⟨rfl, rfl, rfl, rfl, rfl, rfl, rfl, trivial⟩
        refine wa_iload (n := 6) rfl ?_
        refine wa_iload (n := 5) rfl ?_
        refine wa_icmpge (w_rg0 (by omega) (by omega)) (w_rg0 (by omega) (by omega)) ⟨_, rfl⟩ (fun c8 => ?_) (fun c8 => ?_)
        · skip
          exact absurd c8 (by omega)
        · skip
          refine wa_aload_n (n := 0) rfl ?_
          refine wb_gf4 158 rfl (wy_pr rfl) wt_158 wf_5_15 (v := 159) wl_158_15 ?_
          refine wa_iload (n := 6) rfl ?_
          refine wa_aload_n (n := 1) rfl ?_
          refine wa_iload (n := 6) rfl ?_
          refine wa_sc 127 rfl (wx_127 hX) (by first | decide | omega) rfl rfl (by first | decide | omega) (by first | decide | omega) ?_
          refine wJ_top (show (w_tx tx_81 2) = 116 by decide) ?_
          refine wb_i2b_r (wb_i2b_id ⟨(by omega), (by omega)⟩) ?_
          refine wb_bast 159 rfl (wy_pr rfl) wt_159 (n := 64) ((w_up_at (by decide)).trans ((w_up_at (by decide)).trans (h159))) (by omega) (by omega) ⟨(by omega), (by omega)⟩ ?_
          refine wa_iinc rfl rfl ?_
          refine wa_goto ⟨_, rfl⟩ ?_
          refine wJ_S (L2 := [(0, (2, 158)), (1, (2, (-10 - ((127 : Nat) : Int)))), (2, (2, 2)), (3, (0, wk)), (4, (0, (S 5 wk))), (5, (0, 3)), (6, (0, 3))]) ?_ ⟨rfl, rfl, rfl, rfl, rfl, rfl, rfl, trivial⟩
          refine wa_iload (n := 6) rfl ?_
          refine wa_iload (n := 5) rfl ?_
          refine wa_icmpge (w_rg0 (by omega) (by omega)) (w_rg0 (by omega) (by omega)) ⟨_, rfl⟩ (fun c9 => ?_) (fun c9 => ?_)
          · skip
            refine wa_aload_n (n := 2) rfl ?_
            refine wb_gf4 2 rfl (wy_pr rfl) wt_2 wf_9_0 (v := 3) wl_2_0 ?_
            refine wa_aload_n (n := 2) rfl ?_
            refine wb_gf4 2 rfl (wy_pr rfl) wt_2 wf_9_2 (v := 4) wl_2_2 ?_
            refine wa_iload_n (n := 3) rfl ?_
            refine wb_iald 4 rfl (wy_pr rfl) wt_4 (n := (S 4 (-1))) ((w_up_slot (by decide)).trans ((w_up_slot (by decide)).trans ((w_up_slot (by decide)).trans (rfl)))) (by omega) (by omega) (v := (S 4 wk)) ((w_up_slot (by decide)).trans ((w_up_slot (by decide)).trans (w_up_slot (by decide)))) (fun r10 => ?_)
            refine wa_aload_n (n := 0) rfl ?_
            refine wb_gf4 158 rfl (wy_pr rfl) wt_158 wf_5_15 (v := 159) wl_158_15 ?_
            refine wa_iload (n := 5) rfl ?_
            refine wa_iload (n := 4) rfl ?_
            refine wb_acB (S := (w_up (w_up (w_up S 159 0 103) 159 1 101) 159 2 116)) 3 159 rfl rfl (wy_pr rfl) (wy_pr rfl) wt_3 wt_159 (gI_up (gI_up (gI_up hI (by omega) (by omega) (by omega)) (by omega) (by omega) (by omega)) (by omega) (by omega) (by omega)) (rmR_up (rmR_up (rmR_up hR (by omega) (by decide)) (by omega) (by decide)) (by omega) (by decide)) (by decide) (by omega) (by omega) (by omega) (by have e : (w_up (w_up (w_up S 159 0 103) 159 1 101) 159 2 116) 3 (-1) = (S 3 (-1)) := ((w_up_slot (by decide)).trans ((w_up_slot (by decide)).trans ((w_up_slot (by decide)).trans (rfl)))); omega) (by have e : (w_up (w_up (w_up S 159 0 103) 159 1 101) 159 2 116) 159 (-1) = 64 := ((w_up_at (by decide)).trans ((w_up_at (by decide)).trans ((w_up_at (by decide)).trans (h159)))); omega) (by omega) rfl (fun Z11 g12 gi13 rm14 => ?_)
            refine wa_iload (n := 5) rfl ?_
            refine wa_ifle (w_rg0 (by omega) (by omega)) ⟨_, rfl⟩ (fun c15 => ?_) (fun c15 => ?_)
            · skip
              exact absurd c15 (by omega)
            · skip
              refine wa_aload_n (n := 0) rfl ?_
              refine wb_gf4 158 rfl (wy_pr rfl) wt_158 wf_5_15 (v := 159) wl_158_15 ?_
              refine wa_iload (n := 5) rfl ?_
              refine wb_bald 159 rfl (wy_pr rfl) wt_159 (n := 64) (((g12.1 159 (-1) (by omega)).trans ((w_up_at (by decide)).trans ((w_up_at (by decide)).trans ((w_up_at (by decide)).trans (h159)))))) (by omega) (by omega) (v := (Z11 159 3)) rfl (fun r16 => ?_)
              refine wa_cs (M2 := fun _ => False) rfl at_X_isSmall ⟨_, rfl⟩ rfl rfl ⟨(Or.inr ⟨wy_pr rfl, fun q => q⟩), (Or.inl (by omega)), (Or.inr ⟨wy_pr rfl, fun q => q⟩), trivial, trivial, trivial, trivial, trivial⟩ trivial (fun _ _ q => False.elim q) ?_ (fun _ _ _ q => q)
              refine wa_iload_n (n := 0) rfl ?_
              refine wa_bipush (w_rg2 (by omega) (by omega)) ?_
              refine wa_icmplt (w_rg0 (by omega) (by omega)) (w_rg0 (by omega) (by omega)) ⟨_, rfl⟩ (fun c17 => ?_) (fun c17 => ?_)
              · skip
                refine wa_iconst ?_
                refine wa_fall ⟨_, rfl⟩ ?_
                refine wa_zreturn rfl (Or.inl rfl) ?_
                show wJ _ _ _ _ _ _ _ _ _ _
                refine wa_ifeq (w_rg0 (by omega) (by omega)) ⟨_, rfl⟩ (fun c18 => ?_) (fun c18 => ?_)
                · skip
                  refine wa_aload_n (n := 0) rfl ?_
                  refine wb_gf4 158 rfl (wy_pr rfl) wt_158 wf_5_0 (v := 72) wl_158_0 ?_
                  refine wb_gf5 72 rfl (wy_pr rfl) wt_72 wf_2_1 (v := 73) (((g12.1 72 1 (Or.inl (by decide))).trans ((w_up_slot (by decide)).trans ((w_up_slot (by decide)).trans ((w_up_slot (by decide)).trans (h1)))))) (fun r19 => ?_)
                  refine wb_gf4 73 rfl (wy_pr rfl) wt_73 wf_3_0 (v := 74) wl_73_0 ?_
                  refine wa_aload_n (n := 0) rfl ?_
                  refine wb_gf4 158 rfl (wy_pr rfl) wt_158 wf_5_15 (v := 159) wl_158_15 ?_
                  refine wa_iconst ?_
                  refine wa_iload (n := 5) rfl ?_
                  refine wa_iload (n := 4) rfl ?_
                  refine wa_iadd ?_
                  have fz : ∀ (j : Nat) (i : Int), (j ≠ 159 ∨ i < 0) → Z11 j i = S j i := fun j i hj => ((g12.1 j i (by omega)).trans (((w_up_no (by omega)).trans ((w_up_no (by omega)).trans (w_up_no (by omega))))))
                  have hlen : (wnW [103, 101, 116] W).length = 3 + W.length := by unfold wnW; rw [if_neg (by first | decide | omega), List.length_append, capW_l]; rfl
                  have hsg : ∀ i : Nat, i < (wnW [103, 101, 116] W).length → Z11 159 (i : Int) = (wnW [103, 101, 116] W).getD i 0 := by
                    intro i hi
                    rw [hlen] at hi
                    by_cases c0 : i = 0
                    · rw [c0]; exact ((g12.1 159 0 (by omega)).trans (((w_up_at (by first | decide | omega)).trans ((w_up_at (by first | decide | omega)).trans (w_up_same _ _ _ _)))))
                    by_cases c1 : i = 1
                    · rw [c1]; exact ((g12.1 159 1 (by omega)).trans (((w_up_at (by first | decide | omega)).trans (w_up_same _ _ _ _))))
                    by_cases c2 : i = 2
                    · rw [c2]; exact ((g12.1 159 2 (by omega)).trans ((w_up_same _ _ _ _)))
                    obtain ⟨k, hk⟩ : ∃ k : Nat, i = 3 + k := ⟨i - 3, by omega⟩
                    have hr : (wnW [103, 101, 116] W).getD i 0 = (capW W).getD k 0 := by rw [hk]; exact getD_r (a := [103, 101, 116])
                    have z : Z11 159 (3 + (k : Int)) = W.getD k 0 := (g12.2 (k : Int) (by omega) (by omega)).trans ((((w_up_slot (by first | decide | omega)).trans ((w_up_slot (by first | decide | omega)).trans (w_up_slot (by first | decide | omega))))).trans (e3 k (by omega)))
                    have z0 : (i : Int) = 3 + (k : Int) := by omega
                    rw [hr, z0]
                    cases k with
                    | zero =>
                      rw [capW_0 (by omega)]
                      replace z : Z11 159 3 = W.getD 0 0 := z
                      rw [if_neg (by omega)]
                      exact z
                    | succ k =>
                      rw [capW_s]
                      exact z
                  have hq1 : ∀ k : Int, wq (Z11 75) (Z11 76) (Z11 77) (Z11 159) 0 (3 + (S 5 wk)) k ↔ wq (S 75) (S 76) (S 77) (fun i => (wnW [103, 101, 116] W).getD i.toNat 0) 0 ((wnW [103, 101, 116] W).length : Int) k := fun k => by
                    rw [show Z11 75 = S 75 from funext (fun x => fz 75 x (by omega)), show Z11 76 = S 76 from funext (fun x => fz 76 x (by omega)), show Z11 77 = S 77 from funext (fun x => fz 77 x (by omega))]
                    exact wq_tx (by omega) hsg
                  have hWz : wd_at Z11 74 64 := by
                    have z := hWh
                    unfold wd_at at z ⊢
                    rw [show Z11 (74 + 1) = S (74 + 1) from funext (fun x => fz 75 x (by omega)), show Z11 (74 + 2) = S (74 + 2) from funext (fun x => fz 76 x (by omega)), show Z11 (74 + 3) = S (74 + 3) from funext (fun x => fz 77 x (by omega)), show Z11 (74 + 4) = S (74 + 4) from funext (fun x => fz 78 x (by omega)), show Z11 (74 + 10) = S (74 + 10) from funext (fun x => fz 84 x (by omega)), show Z11 74 1 = S 74 1 from fz 74 1 (by first | decide | omega), show Z11 74 7 = S 74 7 from fz 74 7 (by first | decide | omega)]
                    exact z
                  have hLz : wd_L Z11 74 64 := by
                    have z := hLh
                    unfold wd_L at z ⊢
                    rw [show Z11 (74 + 10) (-1) = S (74 + 10) (-1) from fz 84 (-1) (by first | decide | omega), show Z11 (74 + 3) (-1) = S (74 + 3) (-1) from fz 77 (-1) (by first | decide | omega), show Z11 (74 + 2) (-1) = S (74 + 2) (-1) from fz 76 (-1) (by first | decide | omega), show Z11 (74 + 4) (-1) = S (74 + 4) (-1) from fz 78 (-1) (by first | decide | omega), show Z11 (74 + 5) (-1) = S (74 + 5) (-1) from fz 79 (-1) (by first | decide | omega), show Z11 (74 + 6) (-1) = S (74 + 6) (-1) from fz 80 (-1) (by first | decide | omega), show Z11 (74 + 1) (-1) = S (74 + 1) (-1) from fz 75 (-1) (by first | decide | omega)]
                    exact z
                  have e7 : Z11 74 7 = S 74 7 := fz 74 7 (by first | decide | omega)
                  have e159 : Z11 159 (-1) = 64 := (fz 159 (-1) (by first | decide | omega)).trans h159
                  refine wa_cv 74 rfl (wy_pr rfl) wt_74 (M2 := fun _ => False) rfl at_XW_wordAt ⟨_, rfl⟩ rfl rfl ⟨(Or.inr ⟨wy_pr rfl, fun q => q⟩), (Or.inl (by omega)), (Or.inr ⟨wy_pr rfl, fun q => q⟩), trivial, trivial, trivial, trivial, trivial⟩ trivial (fun _ _ q => False.elim q) (wa_74 (S := Z11) (b := 159) (wy_pr rfl) wt_159 ⟨by omega, by omega, by omega, by omega⟩ hWz hLz) (fun oq20 Sq20 hp21 q20 => ?_)
                  rcases q20 with ⟨rfl, q, rfl, hq⟩
                  show wJ _ _ _ _ _ _ _ _ _ _
                  refine wa_ireturn rfl ?_
                  refine ⟨fz, gi13, rm14, q, rfl, ?_⟩
                  rcases hq with ⟨y0, y1, y2⟩ | ⟨y0, y1⟩
                  · exact Or.inl ⟨y0, by rw [← e7]; exact y1, (hq1 q).mp y2⟩
                  · exact Or.inr ⟨y0, fun k k0 k1 z => y1 k k0 (by rw [e7]; exact k1) ((hq1 k).mpr z)⟩
                · skip
                  exact absurd c18 (by omega)
              · skip
                refine wa_iload_n (n := 0) rfl ?_
                refine wa_bipush (w_rg2 (by omega) (by omega)) ?_
                refine wa_icmpgt (w_rg0 (by omega) (by omega)) (w_rg0 (by omega) (by omega)) ⟨_, rfl⟩ (fun c22 => ?_) (fun c22 => ?_)
                · skip
                  refine wa_iconst ?_
                  refine wa_fall ⟨_, rfl⟩ ?_
                  refine wa_zreturn rfl (Or.inl rfl) ?_
                  show wJ _ _ _ _ _ _ _ _ _ _
                  refine wa_ifeq (w_rg0 (by omega) (by omega)) ⟨_, rfl⟩ (fun c23 => ?_) (fun c23 => ?_)
                  · skip
                    refine wa_aload_n (n := 0) rfl ?_
                    refine wb_gf4 158 rfl (wy_pr rfl) wt_158 wf_5_0 (v := 72) wl_158_0 ?_
                    refine wb_gf5 72 rfl (wy_pr rfl) wt_72 wf_2_1 (v := 73) (((g12.1 72 1 (Or.inl (by decide))).trans ((w_up_slot (by decide)).trans ((w_up_slot (by decide)).trans ((w_up_slot (by decide)).trans (h1)))))) (fun r24 => ?_)
                    refine wb_gf4 73 rfl (wy_pr rfl) wt_73 wf_3_0 (v := 74) wl_73_0 ?_
                    refine wa_aload_n (n := 0) rfl ?_
                    refine wb_gf4 158 rfl (wy_pr rfl) wt_158 wf_5_15 (v := 159) wl_158_15 ?_
                    refine wa_iconst ?_
                    refine wa_iload (n := 5) rfl ?_
                    refine wa_iload (n := 4) rfl ?_
                    refine wa_iadd ?_
                    have fz : ∀ (j : Nat) (i : Int), (j ≠ 159 ∨ i < 0) → Z11 j i = S j i := fun j i hj => ((g12.1 j i (by omega)).trans (((w_up_no (by omega)).trans ((w_up_no (by omega)).trans (w_up_no (by omega))))))
                    have hlen : (wnW [103, 101, 116] W).length = 3 + W.length := by unfold wnW; rw [if_neg (by first | decide | omega), List.length_append, capW_l]; rfl
                    have hsg : ∀ i : Nat, i < (wnW [103, 101, 116] W).length → Z11 159 (i : Int) = (wnW [103, 101, 116] W).getD i 0 := by
                      intro i hi
                      rw [hlen] at hi
                      by_cases c0 : i = 0
                      · rw [c0]; exact ((g12.1 159 0 (by omega)).trans (((w_up_at (by first | decide | omega)).trans ((w_up_at (by first | decide | omega)).trans (w_up_same _ _ _ _)))))
                      by_cases c1 : i = 1
                      · rw [c1]; exact ((g12.1 159 1 (by omega)).trans (((w_up_at (by first | decide | omega)).trans (w_up_same _ _ _ _))))
                      by_cases c2 : i = 2
                      · rw [c2]; exact ((g12.1 159 2 (by omega)).trans ((w_up_same _ _ _ _)))
                      obtain ⟨k, hk⟩ : ∃ k : Nat, i = 3 + k := ⟨i - 3, by omega⟩
                      have hr : (wnW [103, 101, 116] W).getD i 0 = (capW W).getD k 0 := by rw [hk]; exact getD_r (a := [103, 101, 116])
                      have z : Z11 159 (3 + (k : Int)) = W.getD k 0 := (g12.2 (k : Int) (by omega) (by omega)).trans ((((w_up_slot (by first | decide | omega)).trans ((w_up_slot (by first | decide | omega)).trans (w_up_slot (by first | decide | omega))))).trans (e3 k (by omega)))
                      have z0 : (i : Int) = 3 + (k : Int) := by omega
                      rw [hr, z0]
                      cases k with
                      | zero =>
                        rw [capW_0 (by omega)]
                        replace z : Z11 159 3 = W.getD 0 0 := z
                        rw [if_neg (by omega)]
                        exact z
                      | succ k =>
                        rw [capW_s]
                        exact z
                    have hq1 : ∀ k : Int, wq (Z11 75) (Z11 76) (Z11 77) (Z11 159) 0 (3 + (S 5 wk)) k ↔ wq (S 75) (S 76) (S 77) (fun i => (wnW [103, 101, 116] W).getD i.toNat 0) 0 ((wnW [103, 101, 116] W).length : Int) k := fun k => by
                      rw [show Z11 75 = S 75 from funext (fun x => fz 75 x (by omega)), show Z11 76 = S 76 from funext (fun x => fz 76 x (by omega)), show Z11 77 = S 77 from funext (fun x => fz 77 x (by omega))]
                      exact wq_tx (by omega) hsg
                    have hWz : wd_at Z11 74 64 := by
                      have z := hWh
                      unfold wd_at at z ⊢
                      rw [show Z11 (74 + 1) = S (74 + 1) from funext (fun x => fz 75 x (by omega)), show Z11 (74 + 2) = S (74 + 2) from funext (fun x => fz 76 x (by omega)), show Z11 (74 + 3) = S (74 + 3) from funext (fun x => fz 77 x (by omega)), show Z11 (74 + 4) = S (74 + 4) from funext (fun x => fz 78 x (by omega)), show Z11 (74 + 10) = S (74 + 10) from funext (fun x => fz 84 x (by omega)), show Z11 74 1 = S 74 1 from fz 74 1 (by first | decide | omega), show Z11 74 7 = S 74 7 from fz 74 7 (by first | decide | omega)]
                      exact z
                    have hLz : wd_L Z11 74 64 := by
                      have z := hLh
                      unfold wd_L at z ⊢
                      rw [show Z11 (74 + 10) (-1) = S (74 + 10) (-1) from fz 84 (-1) (by first | decide | omega), show Z11 (74 + 3) (-1) = S (74 + 3) (-1) from fz 77 (-1) (by first | decide | omega), show Z11 (74 + 2) (-1) = S (74 + 2) (-1) from fz 76 (-1) (by first | decide | omega), show Z11 (74 + 4) (-1) = S (74 + 4) (-1) from fz 78 (-1) (by first | decide | omega), show Z11 (74 + 5) (-1) = S (74 + 5) (-1) from fz 79 (-1) (by first | decide | omega), show Z11 (74 + 6) (-1) = S (74 + 6) (-1) from fz 80 (-1) (by first | decide | omega), show Z11 (74 + 1) (-1) = S (74 + 1) (-1) from fz 75 (-1) (by first | decide | omega)]
                      exact z
                    have e7 : Z11 74 7 = S 74 7 := fz 74 7 (by first | decide | omega)
                    have e159 : Z11 159 (-1) = 64 := (fz 159 (-1) (by first | decide | omega)).trans h159
                    refine wa_cv 74 rfl (wy_pr rfl) wt_74 (M2 := fun _ => False) rfl at_XW_wordAt ⟨_, rfl⟩ rfl rfl ⟨(Or.inr ⟨wy_pr rfl, fun q => q⟩), (Or.inl (by omega)), (Or.inr ⟨wy_pr rfl, fun q => q⟩), trivial, trivial, trivial, trivial, trivial⟩ trivial (fun _ _ q => False.elim q) (wa_74 (S := Z11) (b := 159) (wy_pr rfl) wt_159 ⟨by omega, by omega, by omega, by omega⟩ hWz hLz) (fun oq25 Sq25 hp26 q25 => ?_)
                    rcases q25 with ⟨rfl, q, rfl, hq⟩
                    show wJ _ _ _ _ _ _ _ _ _ _
                    refine wa_ireturn rfl ?_
                    refine ⟨fz, gi13, rm14, q, rfl, ?_⟩
                    rcases hq with ⟨y0, y1, y2⟩ | ⟨y0, y1⟩
                    · exact Or.inl ⟨y0, by rw [← e7]; exact y1, (hq1 q).mp y2⟩
                    · exact Or.inr ⟨y0, fun k k0 k1 z => y1 k k0 (by rw [e7]; exact k1) ((hq1 k).mpr z)⟩
                  · skip
                    exact absurd c23 (by omega)
                · skip
                  refine wa_iconst ?_
                  refine wa_goto ⟨_, rfl⟩ ?_
                  refine wa_zreturn rfl (Or.inr rfl) ?_
                  show wJ _ _ _ _ _ _ _ _ _ _
                  refine wa_ifeq (w_rg0 (by omega) (by omega)) ⟨_, rfl⟩ (fun c27 => ?_) (fun c27 => ?_)
                  · skip
                    exact absurd c27 (by omega)
                  · skip
                    refine wa_aload_n (n := 0) rfl ?_
                    refine wb_gf4 158 rfl (wy_pr rfl) wt_158 wf_5_15 (v := 159) wl_158_15 ?_
                    refine wa_iload (n := 5) rfl ?_
                    refine wa_dup2 (by decide) (by decide) ?_
                    refine wb_bald 159 rfl (wy_pr rfl) wt_159 (n := 64) (((g12.1 159 (-1) (by omega)).trans ((w_up_at (by decide)).trans ((w_up_at (by decide)).trans ((w_up_at (by decide)).trans (h159)))))) (by omega) (by omega) (v := (Z11 159 3)) rfl (fun r28 => ?_)
                    refine wa_bipush (w_rg2 (by omega) (by omega)) ?_
                    refine wa_isub ?_
                    refine wb_i2b_r (wb_i2b_id ⟨(by omega), (by omega)⟩) ?_
                    refine wb_bast 159 rfl (wy_pr rfl) wt_159 (n := 64) (((g12.1 159 (-1) (by omega)).trans ((w_up_at (by decide)).trans ((w_up_at (by decide)).trans ((w_up_at (by decide)).trans (h159)))))) (by omega) (by omega) ⟨(by omega), (by omega)⟩ ?_
                    refine wa_fall ⟨_, rfl⟩ ?_
                    refine wa_aload_n (n := 0) rfl ?_
                    refine wb_gf4 158 rfl (wy_pr rfl) wt_158 wf_5_0 (v := 72) wl_158_0 ?_
                    refine wb_gf5 72 rfl (wy_pr rfl) wt_72 wf_2_1 (v := 73) ((w_up_slot (by decide)).trans (((g12.1 72 1 (Or.inl (by decide))).trans ((w_up_slot (by decide)).trans ((w_up_slot (by decide)).trans ((w_up_slot (by decide)).trans (h1))))))) (fun r29 => ?_)
                    refine wb_gf4 73 rfl (wy_pr rfl) wt_73 wf_3_0 (v := 74) wl_73_0 ?_
                    refine wa_aload_n (n := 0) rfl ?_
                    refine wb_gf4 158 rfl (wy_pr rfl) wt_158 wf_5_15 (v := 159) wl_158_15 ?_
                    refine wa_iconst ?_
                    refine wa_iload (n := 5) rfl ?_
                    refine wa_iload (n := 4) rfl ?_
                    refine wa_iadd ?_
                    have fz : ∀ (j : Nat) (i : Int), (j ≠ 159 ∨ i < 0) → (w_up Z11 159 3 ((Z11 159 3) - 32)) j i = S j i := fun j i hj => (w_up_no (by omega)).trans ((g12.1 j i (by omega)).trans (((w_up_no (by omega)).trans ((w_up_no (by omega)).trans (w_up_no (by omega))))))
                    have hlen : (wnW [103, 101, 116] W).length = 3 + W.length := by unfold wnW; rw [if_neg (by first | decide | omega), List.length_append, capW_l]; rfl
                    have hsg : ∀ i : Nat, i < (wnW [103, 101, 116] W).length → (w_up Z11 159 3 ((Z11 159 3) - 32)) 159 (i : Int) = (wnW [103, 101, 116] W).getD i 0 := by
                      intro i hi
                      rw [hlen] at hi
                      by_cases c0 : i = 0
                      · rw [c0]; exact (w_up_at (by omega)).trans ((g12.1 159 0 (by omega)).trans (((w_up_at (by first | decide | omega)).trans ((w_up_at (by first | decide | omega)).trans (w_up_same _ _ _ _)))))
                      by_cases c1 : i = 1
                      · rw [c1]; exact (w_up_at (by omega)).trans ((g12.1 159 1 (by omega)).trans (((w_up_at (by first | decide | omega)).trans (w_up_same _ _ _ _))))
                      by_cases c2 : i = 2
                      · rw [c2]; exact (w_up_at (by omega)).trans ((g12.1 159 2 (by omega)).trans ((w_up_same _ _ _ _)))
                      obtain ⟨k, hk⟩ : ∃ k : Nat, i = 3 + k := ⟨i - 3, by omega⟩
                      have hr : (wnW [103, 101, 116] W).getD i 0 = (capW W).getD k 0 := by rw [hk]; exact getD_r (a := [103, 101, 116])
                      have z : Z11 159 (3 + (k : Int)) = W.getD k 0 := (g12.2 (k : Int) (by omega) (by omega)).trans ((((w_up_slot (by first | decide | omega)).trans ((w_up_slot (by first | decide | omega)).trans (w_up_slot (by first | decide | omega))))).trans (e3 k (by omega)))
                      have z0 : (i : Int) = 3 + (k : Int) := by omega
                      rw [hr, z0]
                      cases k with
                      | zero =>
                        rw [capW_0 (by omega)]
                        replace z : Z11 159 3 = W.getD 0 0 := z
                        rw [if_pos (by omega)]
                        refine (w_up_same _ _ _ _).trans ?_
                        omega
                      | succ k =>
                        rw [capW_s]
                        exact (w_up_at (by omega)).trans z
                    have hq1 : ∀ k : Int, wq ((w_up Z11 159 3 ((Z11 159 3) - 32)) 75) ((w_up Z11 159 3 ((Z11 159 3) - 32)) 76) ((w_up Z11 159 3 ((Z11 159 3) - 32)) 77) ((w_up Z11 159 3 ((Z11 159 3) - 32)) 159) 0 (3 + (S 5 wk)) k ↔ wq (S 75) (S 76) (S 77) (fun i => (wnW [103, 101, 116] W).getD i.toNat 0) 0 ((wnW [103, 101, 116] W).length : Int) k := fun k => by
                      rw [show (w_up Z11 159 3 ((Z11 159 3) - 32)) 75 = S 75 from funext (fun x => fz 75 x (by omega)), show (w_up Z11 159 3 ((Z11 159 3) - 32)) 76 = S 76 from funext (fun x => fz 76 x (by omega)), show (w_up Z11 159 3 ((Z11 159 3) - 32)) 77 = S 77 from funext (fun x => fz 77 x (by omega))]
                      exact wq_tx (by omega) hsg
                    have hWz : wd_at (w_up Z11 159 3 ((Z11 159 3) - 32)) 74 64 := by
                      have z := hWh
                      unfold wd_at at z ⊢
                      rw [show (w_up Z11 159 3 ((Z11 159 3) - 32)) (74 + 1) = S (74 + 1) from funext (fun x => fz 75 x (by omega)), show (w_up Z11 159 3 ((Z11 159 3) - 32)) (74 + 2) = S (74 + 2) from funext (fun x => fz 76 x (by omega)), show (w_up Z11 159 3 ((Z11 159 3) - 32)) (74 + 3) = S (74 + 3) from funext (fun x => fz 77 x (by omega)), show (w_up Z11 159 3 ((Z11 159 3) - 32)) (74 + 4) = S (74 + 4) from funext (fun x => fz 78 x (by omega)), show (w_up Z11 159 3 ((Z11 159 3) - 32)) (74 + 10) = S (74 + 10) from funext (fun x => fz 84 x (by omega)), show (w_up Z11 159 3 ((Z11 159 3) - 32)) 74 1 = S 74 1 from fz 74 1 (by first | decide | omega), show (w_up Z11 159 3 ((Z11 159 3) - 32)) 74 7 = S 74 7 from fz 74 7 (by first | decide | omega)]
                      exact z
                    have hLz : wd_L (w_up Z11 159 3 ((Z11 159 3) - 32)) 74 64 := by
                      have z := hLh
                      unfold wd_L at z ⊢
                      rw [show (w_up Z11 159 3 ((Z11 159 3) - 32)) (74 + 10) (-1) = S (74 + 10) (-1) from fz 84 (-1) (by first | decide | omega), show (w_up Z11 159 3 ((Z11 159 3) - 32)) (74 + 3) (-1) = S (74 + 3) (-1) from fz 77 (-1) (by first | decide | omega), show (w_up Z11 159 3 ((Z11 159 3) - 32)) (74 + 2) (-1) = S (74 + 2) (-1) from fz 76 (-1) (by first | decide | omega), show (w_up Z11 159 3 ((Z11 159 3) - 32)) (74 + 4) (-1) = S (74 + 4) (-1) from fz 78 (-1) (by first | decide | omega), show (w_up Z11 159 3 ((Z11 159 3) - 32)) (74 + 5) (-1) = S (74 + 5) (-1) from fz 79 (-1) (by first | decide | omega), show (w_up Z11 159 3 ((Z11 159 3) - 32)) (74 + 6) (-1) = S (74 + 6) (-1) from fz 80 (-1) (by first | decide | omega), show (w_up Z11 159 3 ((Z11 159 3) - 32)) (74 + 1) (-1) = S (74 + 1) (-1) from fz 75 (-1) (by first | decide | omega)]
                      exact z
                    have e7 : (w_up Z11 159 3 ((Z11 159 3) - 32)) 74 7 = S 74 7 := fz 74 7 (by first | decide | omega)
                    have e159 : (w_up Z11 159 3 ((Z11 159 3) - 32)) 159 (-1) = 64 := (fz 159 (-1) (by first | decide | omega)).trans h159
                    refine wa_cv 74 rfl (wy_pr rfl) wt_74 (M2 := fun _ => False) rfl at_XW_wordAt ⟨_, rfl⟩ rfl rfl ⟨(Or.inr ⟨wy_pr rfl, fun q => q⟩), (Or.inl (by omega)), (Or.inr ⟨wy_pr rfl, fun q => q⟩), trivial, trivial, trivial, trivial, trivial⟩ trivial (fun _ _ q => False.elim q) (wa_74 (S := (w_up Z11 159 3 ((Z11 159 3) - 32))) (b := 159) (wy_pr rfl) wt_159 ⟨by omega, by omega, by omega, by omega⟩ hWz hLz) (fun oq30 Sq30 hp31 q30 => ?_)
                    rcases q30 with ⟨rfl, q, rfl, hq⟩
                    show wJ _ _ _ _ _ _ _ _ _ _
                    refine wa_ireturn rfl ?_
                    refine ⟨fz, (gI_up gi13 (by omega) (by omega) (by omega)), (rmR_up rm14 (by omega) (by first | decide | omega)), q, rfl, ?_⟩
                    rcases hq with ⟨y0, y1, y2⟩ | ⟨y0, y1⟩
                    · exact Or.inl ⟨y0, by rw [← e7]; exact y1, (hq1 q).mp y2⟩
                    · exact Or.inr ⟨y0, fun k k0 k1 z => y1 k k0 (by rw [e7]; exact k1) ((hq1 k).mpr z)⟩
          · skip
            exact absurd c9 (by omega)
  · skip
    exfalso; omega
theorem wb83_73 {nm wk : Int} {W : List Int} (hX : w_X xs) (hC : w_CL S) (hI : gI S) (h1 : S 72 1 = 73) (l11 : S 158 11 = nm) (hnm : 0 ≤ nm ∧ nm < S 9 (-1)) (hW2 : wd_at S 2 1024) (hL2 : wd_L S 2 1024) (hwk : S 9 nm = wk) (hwk2 : 0 ≤ wk ∧ wk < S 2 7) (hwq : wqL S W wk) (hWh : wd_at S 74 64) (hLh : wd_L S 74 64) (h159 : S 159 (-1) = 64) : wJ (pe_GA xs) wY0 M (d + 4) t_XL_wordBehind ((pe_at t_XL_wordBehind.bl 0).getD (0, [])).2 [(0, (2, 158)), (1, (2, (-10 - ((129 : Nat) : Int))))] [] S (fun o Z => sc_ag 159 S Z ∧ gI Z ∧ rmR S Z ∧ ∃ q : Int, o = .inl (some (0, q)) ∧ hwW 74 (wnW [105, 115] W) S q) := by
  have hR := rmR_rfl S
  have a1 : 0 ≤ S 4 wk ∧ 0 ≤ S 5 wk ∧ S 5 wk ≤ 60 ∧ S 4 wk + S 5 wk ≤ S 2 1 := hW2.2.2.1 wk hwk2.1 hwk2.2
  have a2 : 0 ≤ S 2 7 ∧ S 2 7 ≤ S 4 (-1) := hW2.1
  have a3 : 0 ≤ S 2 1 ∧ S 2 1 ≤ S 3 (-1) := hW2.2.1
  have l5 : S 5 (-1) = S 4 (-1) := hL2.2.1
  have l8 : S 4 (-1) ≤ 2147483647 := hL2.2.2.2.2.2.2.2.1
  have l9 : S 3 (-1) ≤ 2147483647 := hL2.2.2.2.2.2.2.2.2
  have e5 : S 5 wk = (W.length : Int) := hwq.1
  have e3 : ∀ i : Nat, i < W.length → S 3 (S 4 wk + (i : Int)) = W.getD i 0 := fun i hi => by
    have z := hwq.2 i (by omega)
    rw [show (fun i : Int => W.getD i.toNat 0) (0 + (i : Int)) = W.getD (0 + (i : Int)).toNat 0 from rfl, Int.zero_add, Int.toNat_natCast] at z
    exact z
  refine wa_aload_n (n := 0) rfl ?_
  refine wb_gf4 158 rfl (wy_pr rfl) wt_158 wf_5_0 (v := 72) wl_158_0 ?_
  refine wb_gf4 72 rfl (wy_pr rfl) wt_72 wf_2_0 (v := 2) wl_72_0 ?_
  refine wa_astore_n (n := 2) rfl ?_
  refine wa_aload_n (n := 2) rfl ?_
  refine wb_gf4 2 rfl (wy_pr rfl) wt_2 wf_9_9 (v := 9) wl_2_9 ?_
  refine wa_aload_n (n := 0) rfl ?_
  refine wb_gfi 158 rfl (wy_pr rfl) wt_158 wf_5_11 (v := nm) (l11) (fun r1 => ?_)
  refine wb_iald 9 rfl (wy_pr rfl) wt_9 (n := (S 9 (-1))) (rfl) (by omega) (by omega) (v := wk) (hwk) (fun r2 => ?_)
  refine wa_istore_n (n := 3) rfl ?_
  refine wa_aload_n (n := 2) rfl ?_
  refine wb_gf4 2 rfl (wy_pr rfl) wt_2 wf_9_3 (v := 5) wl_2_3 ?_
  refine wa_iload_n (n := 3) rfl ?_
  refine wb_iald 5 rfl (wy_pr rfl) wt_5 (n := (S 4 (-1))) (l5) (by omega) (by omega) (v := (S 5 wk)) rfl (fun r3 => ?_)
  refine wa_istore (n := 4) rfl ?_
  refine wa_aload_n (n := 1) rfl ?_
  refine wa_sl 129 rfl (wx_129 hX) rfl rfl ?_
  refine wJ_top (show (tx_83.length : Int) = 2 from rfl) ?_
  refine wa_istore (n := 5) rfl ?_
  refine wa_iload (n := 5) rfl ?_
  refine wa_iload (n := 4) rfl ?_
  refine wa_iadd ?_
  refine wa_aload_n (n := 0) rfl ?_
  refine wb_gf4 158 rfl (wy_pr rfl) wt_158 wf_5_15 (v := 159) wl_158_15 ?_
  refine wb_alen 159 rfl (wy_pr rfl) (by rw [wt_159]; rfl) (v := 64) (h159) (fun r4 => ?_)
  refine wa_icmple (w_rg0 (by omega) (by omega)) (w_rg0 (by omega) (by omega)) ⟨_, rfl⟩ (fun c5 => ?_) (fun c5 => ?_)
  · skip
    refine wa_iconst ?_
    refine wa_istore (n := 6) rfl ?_
    refine wa_fall ⟨_, rfl⟩ ?_
    refine wJ_S (L2 := [(0, (2, 158)), (1, (2, (-10 - ((129 : Nat) : Int)))), (2, (2, 2)), (3, (0, wk)), (4, (0, (S 5 wk))), (5, (0, 2)), (6, (0, 0))]) ?_ ⟨rfl, rfl, rfl, rfl, rfl, rfl, rfl, trivial⟩
    refine wa_iload (n := 6) rfl ?_
    refine wa_iload (n := 5) rfl ?_
    refine wa_icmpge (w_rg0 (by omega) (by omega)) (w_rg0 (by omega) (by omega)) ⟨_, rfl⟩ (fun c6 => ?_) (fun c6 => ?_)
    · skip
      exact absurd c6 (by omega)
    · skip
      refine wa_aload_n (n := 0) rfl ?_
      refine wb_gf4 158 rfl (wy_pr rfl) wt_158 wf_5_15 (v := 159) wl_158_15 ?_
      refine wa_iload (n := 6) rfl ?_
      refine wa_aload_n (n := 1) rfl ?_
      refine wa_iload (n := 6) rfl ?_
      refine wa_sc 129 rfl (wx_129 hX) (by first | decide | omega) rfl rfl (by first | decide | omega) (by first | decide | omega) ?_
      refine wJ_top (show (w_tx tx_83 0) = 105 by decide) ?_
      refine wb_i2b_r (wb_i2b_id ⟨(by omega), (by omega)⟩) ?_
      refine wb_bast 159 rfl (wy_pr rfl) wt_159 (n := 64) (h159) (by omega) (by omega) ⟨(by omega), (by omega)⟩ ?_
      refine wa_iinc rfl rfl ?_
      refine wa_goto ⟨_, rfl⟩ ?_
      refine wJ_S (L2 := [(0, (2, 158)), (1, (2, (-10 - ((129 : Nat) : Int)))), (2, (2, 2)), (3, (0, wk)), (4, (0, (S 5 wk))), (5, (0, 2)), (6, (0, 1))]) ?_ ⟨rfl, rfl, rfl, rfl, rfl, rfl, rfl, trivial⟩
      refine wa_iload (n := 6) rfl ?_
      refine wa_iload (n := 5) rfl ?_
      refine wa_icmpge (w_rg0 (by omega) (by omega)) (w_rg0 (by omega) (by omega)) ⟨_, rfl⟩ (fun c7 => ?_) (fun c7 => ?_)
      · skip
        exact absurd c7 (by omega)
      · skip
        refine wa_aload_n (n := 0) rfl ?_
        refine wb_gf4 158 rfl (wy_pr rfl) wt_158 wf_5_15 (v := 159) wl_158_15 ?_
        refine wa_iload (n := 6) rfl ?_
        refine wa_aload_n (n := 1) rfl ?_
        refine wa_iload (n := 6) rfl ?_
        refine wa_sc 129 rfl (wx_129 hX) (by first | decide | omega) rfl rfl (by first | decide | omega) (by first | decide | omega) ?_
        refine wJ_top (show (w_tx tx_83 1) = 115 by decide) ?_
        refine wb_i2b_r (wb_i2b_id ⟨(by omega), (by omega)⟩) ?_
        refine wb_bast 159 rfl (wy_pr rfl) wt_159 (n := 64) ((w_up_at (by decide)).trans (h159)) (by omega) (by omega) ⟨(by omega), (by omega)⟩ ?_
        refine wa_iinc rfl rfl ?_
        refine wa_goto ⟨_, rfl⟩ ?_
        refine wJ_S (L2 := [(0, (2, 158)), (1, (2, (-10 - ((129 : Nat) : Int)))), (2, (2, 2)), (3, (0, wk)), (4, (0, (S 5 wk))), (5, (0, 2)), (6, (0, 2))]) ?_ ⟨rfl, rfl, rfl, rfl, rfl, rfl, rfl, trivial⟩
        refine wa_iload (n := 6) rfl ?_
        refine wa_iload (n := 5) rfl ?_
        refine wa_icmpge (w_rg0 (by omega) (by omega)) (w_rg0 (by omega) (by omega)) ⟨_, rfl⟩ (fun c8 => ?_) (fun c8 => ?_)
        · skip
          refine wa_aload_n (n := 2) rfl ?_
          refine wb_gf4 2 rfl (wy_pr rfl) wt_2 wf_9_0 (v := 3) wl_2_0 ?_
          refine wa_aload_n (n := 2) rfl ?_
          refine wb_gf4 2 rfl (wy_pr rfl) wt_2 wf_9_2 (v := 4) wl_2_2 ?_
          refine wa_iload_n (n := 3) rfl ?_
          refine wb_iald 4 rfl (wy_pr rfl) wt_4 (n := (S 4 (-1))) ((w_up_slot (by decide)).trans ((w_up_slot (by decide)).trans (rfl))) (by omega) (by omega) (v := (S 4 wk)) ((w_up_slot (by decide)).trans (w_up_slot (by decide))) (fun r9 => ?_)
          refine wa_aload_n (n := 0) rfl ?_
          refine wb_gf4 158 rfl (wy_pr rfl) wt_158 wf_5_15 (v := 159) wl_158_15 ?_
          refine wa_iload (n := 5) rfl ?_
          refine wa_iload (n := 4) rfl ?_
          refine wb_acB (S := (w_up (w_up S 159 0 105) 159 1 115)) 3 159 rfl rfl (wy_pr rfl) (wy_pr rfl) wt_3 wt_159 (gI_up (gI_up hI (by omega) (by omega) (by omega)) (by omega) (by omega) (by omega)) (rmR_up (rmR_up hR (by omega) (by decide)) (by omega) (by decide)) (by decide) (by omega) (by omega) (by omega) (by have e : (w_up (w_up S 159 0 105) 159 1 115) 3 (-1) = (S 3 (-1)) := ((w_up_slot (by decide)).trans ((w_up_slot (by decide)).trans (rfl))); omega) (by have e : (w_up (w_up S 159 0 105) 159 1 115) 159 (-1) = 64 := ((w_up_at (by decide)).trans ((w_up_at (by decide)).trans (h159))); omega) (by omega) rfl (fun Z10 g11 gi12 rm13 => ?_)
          refine wa_iload (n := 5) rfl ?_
          refine wa_ifle (w_rg0 (by omega) (by omega)) ⟨_, rfl⟩ (fun c14 => ?_) (fun c14 => ?_)
          · skip
            exact absurd c14 (by omega)
          · skip
            refine wa_aload_n (n := 0) rfl ?_
            refine wb_gf4 158 rfl (wy_pr rfl) wt_158 wf_5_15 (v := 159) wl_158_15 ?_
            refine wa_iload (n := 5) rfl ?_
            refine wb_bald 159 rfl (wy_pr rfl) wt_159 (n := 64) (((g11.1 159 (-1) (by omega)).trans ((w_up_at (by decide)).trans ((w_up_at (by decide)).trans (h159))))) (by omega) (by omega) (v := (Z10 159 2)) rfl (fun r15 => ?_)
            refine wa_cs (M2 := fun _ => False) rfl at_X_isSmall ⟨_, rfl⟩ rfl rfl ⟨(Or.inr ⟨wy_pr rfl, fun q => q⟩), (Or.inl (by omega)), (Or.inr ⟨wy_pr rfl, fun q => q⟩), trivial, trivial, trivial, trivial, trivial⟩ trivial (fun _ _ q => False.elim q) ?_ (fun _ _ _ q => q)
            refine wa_iload_n (n := 0) rfl ?_
            refine wa_bipush (w_rg2 (by omega) (by omega)) ?_
            refine wa_icmplt (w_rg0 (by omega) (by omega)) (w_rg0 (by omega) (by omega)) ⟨_, rfl⟩ (fun c16 => ?_) (fun c16 => ?_)
            · skip
              refine wa_iconst ?_
              refine wa_fall ⟨_, rfl⟩ ?_
              refine wa_zreturn rfl (Or.inl rfl) ?_
              show wJ _ _ _ _ _ _ _ _ _ _
              refine wa_ifeq (w_rg0 (by omega) (by omega)) ⟨_, rfl⟩ (fun c17 => ?_) (fun c17 => ?_)
              · skip
                refine wa_aload_n (n := 0) rfl ?_
                refine wb_gf4 158 rfl (wy_pr rfl) wt_158 wf_5_0 (v := 72) wl_158_0 ?_
                refine wb_gf5 72 rfl (wy_pr rfl) wt_72 wf_2_1 (v := 73) (((g11.1 72 1 (Or.inl (by decide))).trans ((w_up_slot (by decide)).trans ((w_up_slot (by decide)).trans (h1))))) (fun r18 => ?_)
                refine wb_gf4 73 rfl (wy_pr rfl) wt_73 wf_3_0 (v := 74) wl_73_0 ?_
                refine wa_aload_n (n := 0) rfl ?_
                refine wb_gf4 158 rfl (wy_pr rfl) wt_158 wf_5_15 (v := 159) wl_158_15 ?_
                refine wa_iconst ?_
                refine wa_iload (n := 5) rfl ?_
                refine wa_iload (n := 4) rfl ?_
                refine wa_iadd ?_
                have fz : ∀ (j : Nat) (i : Int), (j ≠ 159 ∨ i < 0) → Z10 j i = S j i := fun j i hj => ((g11.1 j i (by omega)).trans (((w_up_no (by omega)).trans (w_up_no (by omega)))))
                have hlen : (wnW [105, 115] W).length = 2 + W.length := by unfold wnW; rw [if_neg (by first | decide | omega), List.length_append, capW_l]; rfl
                have hsg : ∀ i : Nat, i < (wnW [105, 115] W).length → Z10 159 (i : Int) = (wnW [105, 115] W).getD i 0 := by
                  intro i hi
                  rw [hlen] at hi
                  by_cases c0 : i = 0
                  · rw [c0]; exact ((g11.1 159 0 (by omega)).trans (((w_up_at (by first | decide | omega)).trans (w_up_same _ _ _ _))))
                  by_cases c1 : i = 1
                  · rw [c1]; exact ((g11.1 159 1 (by omega)).trans ((w_up_same _ _ _ _)))
                  obtain ⟨k, hk⟩ : ∃ k : Nat, i = 2 + k := ⟨i - 2, by omega⟩
                  have hr : (wnW [105, 115] W).getD i 0 = (capW W).getD k 0 := by rw [hk]; exact getD_r (a := [105, 115])
                  have z : Z10 159 (2 + (k : Int)) = W.getD k 0 := (g11.2 (k : Int) (by omega) (by omega)).trans ((((w_up_slot (by first | decide | omega)).trans (w_up_slot (by first | decide | omega)))).trans (e3 k (by omega)))
                  have z0 : (i : Int) = 2 + (k : Int) := by omega
                  rw [hr, z0]
                  cases k with
                  | zero =>
                    rw [capW_0 (by omega)]
                    replace z : Z10 159 2 = W.getD 0 0 := z
                    rw [if_neg (by omega)]
                    exact z
                  | succ k =>
                    rw [capW_s]
                    exact z
                have hq1 : ∀ k : Int, wq (Z10 75) (Z10 76) (Z10 77) (Z10 159) 0 (2 + (S 5 wk)) k ↔ wq (S 75) (S 76) (S 77) (fun i => (wnW [105, 115] W).getD i.toNat 0) 0 ((wnW [105, 115] W).length : Int) k := fun k => by
                  rw [show Z10 75 = S 75 from funext (fun x => fz 75 x (by omega)), show Z10 76 = S 76 from funext (fun x => fz 76 x (by omega)), show Z10 77 = S 77 from funext (fun x => fz 77 x (by omega))]
                  exact wq_tx (by omega) hsg
                have hWz : wd_at Z10 74 64 := by
                  have z := hWh
                  unfold wd_at at z ⊢
                  rw [show Z10 (74 + 1) = S (74 + 1) from funext (fun x => fz 75 x (by omega)), show Z10 (74 + 2) = S (74 + 2) from funext (fun x => fz 76 x (by omega)), show Z10 (74 + 3) = S (74 + 3) from funext (fun x => fz 77 x (by omega)), show Z10 (74 + 4) = S (74 + 4) from funext (fun x => fz 78 x (by omega)), show Z10 (74 + 10) = S (74 + 10) from funext (fun x => fz 84 x (by omega)), show Z10 74 1 = S 74 1 from fz 74 1 (by first | decide | omega), show Z10 74 7 = S 74 7 from fz 74 7 (by first | decide | omega)]
                  exact z
                have hLz : wd_L Z10 74 64 := by
                  have z := hLh
                  unfold wd_L at z ⊢
                  rw [show Z10 (74 + 10) (-1) = S (74 + 10) (-1) from fz 84 (-1) (by first | decide | omega), show Z10 (74 + 3) (-1) = S (74 + 3) (-1) from fz 77 (-1) (by first | decide | omega), show Z10 (74 + 2) (-1) = S (74 + 2) (-1) from fz 76 (-1) (by first | decide | omega), show Z10 (74 + 4) (-1) = S (74 + 4) (-1) from fz 78 (-1) (by first | decide | omega), show Z10 (74 + 5) (-1) = S (74 + 5) (-1) from fz 79 (-1) (by first | decide | omega), show Z10 (74 + 6) (-1) = S (74 + 6) (-1) from fz 80 (-1) (by first | decide | omega), show Z10 (74 + 1) (-1) = S (74 + 1) (-1) from fz 75 (-1) (by first | decide | omega)]
                  exact z
                have e7 : Z10 74 7 = S 74 7 := fz 74 7 (by first | decide | omega)
                have e159 : Z10 159 (-1) = 64 := (fz 159 (-1) (by first | decide | omega)).trans h159
                refine wa_cv 74 rfl (wy_pr rfl) wt_74 (M2 := fun _ => False) rfl at_XW_wordAt ⟨_, rfl⟩ rfl rfl ⟨(Or.inr ⟨wy_pr rfl, fun q => q⟩), (Or.inl (by omega)), (Or.inr ⟨wy_pr rfl, fun q => q⟩), trivial, trivial, trivial, trivial, trivial⟩ trivial (fun _ _ q => False.elim q) (wa_74 (S := Z10) (b := 159) (wy_pr rfl) wt_159 ⟨by omega, by omega, by omega, by omega⟩ hWz hLz) (fun oq19 Sq19 hp20 q19 => ?_)
                rcases q19 with ⟨rfl, q, rfl, hq⟩
                show wJ _ _ _ _ _ _ _ _ _ _
                refine wa_ireturn rfl ?_
                refine ⟨fz, gi12, rm13, q, rfl, ?_⟩
                rcases hq with ⟨y0, y1, y2⟩ | ⟨y0, y1⟩
                · exact Or.inl ⟨y0, by rw [← e7]; exact y1, (hq1 q).mp y2⟩
                · exact Or.inr ⟨y0, fun k k0 k1 z => y1 k k0 (by rw [e7]; exact k1) ((hq1 k).mpr z)⟩
              · skip
                exact absurd c17 (by omega)
            · skip
              refine wa_iload_n (n := 0) rfl ?_
              refine wa_bipush (w_rg2 (by omega) (by omega)) ?_
              refine wa_icmpgt (w_rg0 (by omega) (by omega)) (w_rg0 (by omega) (by omega)) ⟨_, rfl⟩ (fun c21 => ?_) (fun c21 => ?_)
              · skip
                refine wa_iconst ?_
                refine wa_fall ⟨_, rfl⟩ ?_
                refine wa_zreturn rfl (Or.inl rfl) ?_
                show wJ _ _ _ _ _ _ _ _ _ _
                refine wa_ifeq (w_rg0 (by omega) (by omega)) ⟨_, rfl⟩ (fun c22 => ?_) (fun c22 => ?_)
                · skip
                  refine wa_aload_n (n := 0) rfl ?_
                  refine wb_gf4 158 rfl (wy_pr rfl) wt_158 wf_5_0 (v := 72) wl_158_0 ?_
                  refine wb_gf5 72 rfl (wy_pr rfl) wt_72 wf_2_1 (v := 73) (((g11.1 72 1 (Or.inl (by decide))).trans ((w_up_slot (by decide)).trans ((w_up_slot (by decide)).trans (h1))))) (fun r23 => ?_)
                  refine wb_gf4 73 rfl (wy_pr rfl) wt_73 wf_3_0 (v := 74) wl_73_0 ?_
                  refine wa_aload_n (n := 0) rfl ?_
                  refine wb_gf4 158 rfl (wy_pr rfl) wt_158 wf_5_15 (v := 159) wl_158_15 ?_
                  refine wa_iconst ?_
                  refine wa_iload (n := 5) rfl ?_
                  refine wa_iload (n := 4) rfl ?_
                  refine wa_iadd ?_
                  have fz : ∀ (j : Nat) (i : Int), (j ≠ 159 ∨ i < 0) → Z10 j i = S j i := fun j i hj => ((g11.1 j i (by omega)).trans (((w_up_no (by omega)).trans (w_up_no (by omega)))))
                  have hlen : (wnW [105, 115] W).length = 2 + W.length := by unfold wnW; rw [if_neg (by first | decide | omega), List.length_append, capW_l]; rfl
                  have hsg : ∀ i : Nat, i < (wnW [105, 115] W).length → Z10 159 (i : Int) = (wnW [105, 115] W).getD i 0 := by
                    intro i hi
                    rw [hlen] at hi
                    by_cases c0 : i = 0
                    · rw [c0]; exact ((g11.1 159 0 (by omega)).trans (((w_up_at (by first | decide | omega)).trans (w_up_same _ _ _ _))))
                    by_cases c1 : i = 1
                    · rw [c1]; exact ((g11.1 159 1 (by omega)).trans ((w_up_same _ _ _ _)))
                    obtain ⟨k, hk⟩ : ∃ k : Nat, i = 2 + k := ⟨i - 2, by omega⟩
                    have hr : (wnW [105, 115] W).getD i 0 = (capW W).getD k 0 := by rw [hk]; exact getD_r (a := [105, 115])
                    have z : Z10 159 (2 + (k : Int)) = W.getD k 0 := (g11.2 (k : Int) (by omega) (by omega)).trans ((((w_up_slot (by first | decide | omega)).trans (w_up_slot (by first | decide | omega)))).trans (e3 k (by omega)))
                    have z0 : (i : Int) = 2 + (k : Int) := by omega
                    rw [hr, z0]
                    cases k with
                    | zero =>
                      rw [capW_0 (by omega)]
                      replace z : Z10 159 2 = W.getD 0 0 := z
                      rw [if_neg (by omega)]
                      exact z
                    | succ k =>
                      rw [capW_s]
                      exact z
                  have hq1 : ∀ k : Int, wq (Z10 75) (Z10 76) (Z10 77) (Z10 159) 0 (2 + (S 5 wk)) k ↔ wq (S 75) (S 76) (S 77) (fun i => (wnW [105, 115] W).getD i.toNat 0) 0 ((wnW [105, 115] W).length : Int) k := fun k => by
                    rw [show Z10 75 = S 75 from funext (fun x => fz 75 x (by omega)), show Z10 76 = S 76 from funext (fun x => fz 76 x (by omega)), show Z10 77 = S 77 from funext (fun x => fz 77 x (by omega))]
                    exact wq_tx (by omega) hsg
                  have hWz : wd_at Z10 74 64 := by
                    have z := hWh
                    unfold wd_at at z ⊢
                    rw [show Z10 (74 + 1) = S (74 + 1) from funext (fun x => fz 75 x (by omega)), show Z10 (74 + 2) = S (74 + 2) from funext (fun x => fz 76 x (by omega)), show Z10 (74 + 3) = S (74 + 3) from funext (fun x => fz 77 x (by omega)), show Z10 (74 + 4) = S (74 + 4) from funext (fun x => fz 78 x (by omega)), show Z10 (74 + 10) = S (74 + 10) from funext (fun x => fz 84 x (by omega)), show Z10 74 1 = S 74 1 from fz 74 1 (by first | decide | omega), show Z10 74 7 = S 74 7 from fz 74 7 (by first | decide | omega)]
                    exact z
                  have hLz : wd_L Z10 74 64 := by
                    have z := hLh
                    unfold wd_L at z ⊢
                    rw [show Z10 (74 + 10) (-1) = S (74 + 10) (-1) from fz 84 (-1) (by first | decide | omega), show Z10 (74 + 3) (-1) = S (74 + 3) (-1) from fz 77 (-1) (by first | decide | omega), show Z10 (74 + 2) (-1) = S (74 + 2) (-1) from fz 76 (-1) (by first | decide | omega), show Z10 (74 + 4) (-1) = S (74 + 4) (-1) from fz 78 (-1) (by first | decide | omega), show Z10 (74 + 5) (-1) = S (74 + 5) (-1) from fz 79 (-1) (by first | decide | omega), show Z10 (74 + 6) (-1) = S (74 + 6) (-1) from fz 80 (-1) (by first | decide | omega), show Z10 (74 + 1) (-1) = S (74 + 1) (-1) from fz 75 (-1) (by first | decide | omega)]
                    exact z
                  have e7 : Z10 74 7 = S 74 7 := fz 74 7 (by first | decide | omega)
                  have e159 : Z10 159 (-1) = 64 := (fz 159 (-1) (by first | decide | omega)).trans h159
                  refine wa_cv 74 rfl (wy_pr rfl) wt_74 (M2 := fun _ => False) rfl at_XW_wordAt ⟨_, rfl⟩ rfl rfl ⟨(Or.inr ⟨wy_pr rfl, fun q => q⟩), (Or.inl (by omega)), (Or.inr ⟨wy_pr rfl, fun q => q⟩), trivial, trivial, trivial, trivial, trivial⟩ trivial (fun _ _ q => False.elim q) (wa_74 (S := Z10) (b := 159) (wy_pr rfl) wt_159 ⟨by omega, by omega, by omega, by omega⟩ hWz hLz) (fun oq24 Sq24 hp25 q24 => ?_)
                  rcases q24 with ⟨rfl, q, rfl, hq⟩
                  show wJ _ _ _ _ _ _ _ _ _ _
                  refine wa_ireturn rfl ?_
                  refine ⟨fz, gi12, rm13, q, rfl, ?_⟩
                  rcases hq with ⟨y0, y1, y2⟩ | ⟨y0, y1⟩
                  · exact Or.inl ⟨y0, by rw [← e7]; exact y1, (hq1 q).mp y2⟩
                  · exact Or.inr ⟨y0, fun k k0 k1 z => y1 k k0 (by rw [e7]; exact k1) ((hq1 k).mpr z)⟩
                · skip
                  exact absurd c22 (by omega)
              · skip
                refine wa_iconst ?_
                refine wa_goto ⟨_, rfl⟩ ?_
                refine wa_zreturn rfl (Or.inr rfl) ?_
                show wJ _ _ _ _ _ _ _ _ _ _
                refine wa_ifeq (w_rg0 (by omega) (by omega)) ⟨_, rfl⟩ (fun c26 => ?_) (fun c26 => ?_)
                · skip
                  exact absurd c26 (by omega)
                · skip
                  refine wa_aload_n (n := 0) rfl ?_
                  refine wb_gf4 158 rfl (wy_pr rfl) wt_158 wf_5_15 (v := 159) wl_158_15 ?_
                  refine wa_iload (n := 5) rfl ?_
                  refine wa_dup2 (by decide) (by decide) ?_
                  refine wb_bald 159 rfl (wy_pr rfl) wt_159 (n := 64) (((g11.1 159 (-1) (by omega)).trans ((w_up_at (by decide)).trans ((w_up_at (by decide)).trans (h159))))) (by omega) (by omega) (v := (Z10 159 2)) rfl (fun r27 => ?_)
                  refine wa_bipush (w_rg2 (by omega) (by omega)) ?_
                  refine wa_isub ?_
                  refine wb_i2b_r (wb_i2b_id ⟨(by omega), (by omega)⟩) ?_
                  refine wb_bast 159 rfl (wy_pr rfl) wt_159 (n := 64) (((g11.1 159 (-1) (by omega)).trans ((w_up_at (by decide)).trans ((w_up_at (by decide)).trans (h159))))) (by omega) (by omega) ⟨(by omega), (by omega)⟩ ?_
                  refine wa_fall ⟨_, rfl⟩ ?_
                  refine wa_aload_n (n := 0) rfl ?_
                  refine wb_gf4 158 rfl (wy_pr rfl) wt_158 wf_5_0 (v := 72) wl_158_0 ?_
                  refine wb_gf5 72 rfl (wy_pr rfl) wt_72 wf_2_1 (v := 73) ((w_up_slot (by decide)).trans (((g11.1 72 1 (Or.inl (by decide))).trans ((w_up_slot (by decide)).trans ((w_up_slot (by decide)).trans (h1)))))) (fun r28 => ?_)
                  refine wb_gf4 73 rfl (wy_pr rfl) wt_73 wf_3_0 (v := 74) wl_73_0 ?_
                  refine wa_aload_n (n := 0) rfl ?_
                  refine wb_gf4 158 rfl (wy_pr rfl) wt_158 wf_5_15 (v := 159) wl_158_15 ?_
                  refine wa_iconst ?_
                  refine wa_iload (n := 5) rfl ?_
                  refine wa_iload (n := 4) rfl ?_
                  refine wa_iadd ?_
                  have fz : ∀ (j : Nat) (i : Int), (j ≠ 159 ∨ i < 0) → (w_up Z10 159 2 ((Z10 159 2) - 32)) j i = S j i := fun j i hj => (w_up_no (by omega)).trans ((g11.1 j i (by omega)).trans (((w_up_no (by omega)).trans (w_up_no (by omega)))))
                  have hlen : (wnW [105, 115] W).length = 2 + W.length := by unfold wnW; rw [if_neg (by first | decide | omega), List.length_append, capW_l]; rfl
                  have hsg : ∀ i : Nat, i < (wnW [105, 115] W).length → (w_up Z10 159 2 ((Z10 159 2) - 32)) 159 (i : Int) = (wnW [105, 115] W).getD i 0 := by
                    intro i hi
                    rw [hlen] at hi
                    by_cases c0 : i = 0
                    · rw [c0]; exact (w_up_at (by omega)).trans ((g11.1 159 0 (by omega)).trans (((w_up_at (by first | decide | omega)).trans (w_up_same _ _ _ _))))
                    by_cases c1 : i = 1
                    · rw [c1]; exact (w_up_at (by omega)).trans ((g11.1 159 1 (by omega)).trans ((w_up_same _ _ _ _)))
                    obtain ⟨k, hk⟩ : ∃ k : Nat, i = 2 + k := ⟨i - 2, by omega⟩
                    have hr : (wnW [105, 115] W).getD i 0 = (capW W).getD k 0 := by rw [hk]; exact getD_r (a := [105, 115])
                    have z : Z10 159 (2 + (k : Int)) = W.getD k 0 := (g11.2 (k : Int) (by omega) (by omega)).trans ((((w_up_slot (by first | decide | omega)).trans (w_up_slot (by first | decide | omega)))).trans (e3 k (by omega)))
                    have z0 : (i : Int) = 2 + (k : Int) := by omega
                    rw [hr, z0]
                    cases k with
                    | zero =>
                      rw [capW_0 (by omega)]
                      replace z : Z10 159 2 = W.getD 0 0 := z
                      rw [if_pos (by omega)]
                      refine (w_up_same _ _ _ _).trans ?_
                      omega
                    | succ k =>
                      rw [capW_s]
                      exact (w_up_at (by omega)).trans z
                  have hq1 : ∀ k : Int, wq ((w_up Z10 159 2 ((Z10 159 2) - 32)) 75) ((w_up Z10 159 2 ((Z10 159 2) - 32)) 76) ((w_up Z10 159 2 ((Z10 159 2) - 32)) 77) ((w_up Z10 159 2 ((Z10 159 2) - 32)) 159) 0 (2 + (S 5 wk)) k ↔ wq (S 75) (S 76) (S 77) (fun i => (wnW [105, 115] W).getD i.toNat 0) 0 ((wnW [105, 115] W).length : Int) k := fun k => by
                    rw [show (w_up Z10 159 2 ((Z10 159 2) - 32)) 75 = S 75 from funext (fun x => fz 75 x (by omega)), show (w_up Z10 159 2 ((Z10 159 2) - 32)) 76 = S 76 from funext (fun x => fz 76 x (by omega)), show (w_up Z10 159 2 ((Z10 159 2) - 32)) 77 = S 77 from funext (fun x => fz 77 x (by omega))]
                    exact wq_tx (by omega) hsg
                  have hWz : wd_at (w_up Z10 159 2 ((Z10 159 2) - 32)) 74 64 := by
                    have z := hWh
                    unfold wd_at at z ⊢
                    rw [show (w_up Z10 159 2 ((Z10 159 2) - 32)) (74 + 1) = S (74 + 1) from funext (fun x => fz 75 x (by omega)), show (w_up Z10 159 2 ((Z10 159 2) - 32)) (74 + 2) = S (74 + 2) from funext (fun x => fz 76 x (by omega)), show (w_up Z10 159 2 ((Z10 159 2) - 32)) (74 + 3) = S (74 + 3) from funext (fun x => fz 77 x (by omega)), show (w_up Z10 159 2 ((Z10 159 2) - 32)) (74 + 4) = S (74 + 4) from funext (fun x => fz 78 x (by omega)), show (w_up Z10 159 2 ((Z10 159 2) - 32)) (74 + 10) = S (74 + 10) from funext (fun x => fz 84 x (by omega)), show (w_up Z10 159 2 ((Z10 159 2) - 32)) 74 1 = S 74 1 from fz 74 1 (by first | decide | omega), show (w_up Z10 159 2 ((Z10 159 2) - 32)) 74 7 = S 74 7 from fz 74 7 (by first | decide | omega)]
                    exact z
                  have hLz : wd_L (w_up Z10 159 2 ((Z10 159 2) - 32)) 74 64 := by
                    have z := hLh
                    unfold wd_L at z ⊢
                    rw [show (w_up Z10 159 2 ((Z10 159 2) - 32)) (74 + 10) (-1) = S (74 + 10) (-1) from fz 84 (-1) (by first | decide | omega), show (w_up Z10 159 2 ((Z10 159 2) - 32)) (74 + 3) (-1) = S (74 + 3) (-1) from fz 77 (-1) (by first | decide | omega), show (w_up Z10 159 2 ((Z10 159 2) - 32)) (74 + 2) (-1) = S (74 + 2) (-1) from fz 76 (-1) (by first | decide | omega), show (w_up Z10 159 2 ((Z10 159 2) - 32)) (74 + 4) (-1) = S (74 + 4) (-1) from fz 78 (-1) (by first | decide | omega), show (w_up Z10 159 2 ((Z10 159 2) - 32)) (74 + 5) (-1) = S (74 + 5) (-1) from fz 79 (-1) (by first | decide | omega), show (w_up Z10 159 2 ((Z10 159 2) - 32)) (74 + 6) (-1) = S (74 + 6) (-1) from fz 80 (-1) (by first | decide | omega), show (w_up Z10 159 2 ((Z10 159 2) - 32)) (74 + 1) (-1) = S (74 + 1) (-1) from fz 75 (-1) (by first | decide | omega)]
                    exact z
                  have e7 : (w_up Z10 159 2 ((Z10 159 2) - 32)) 74 7 = S 74 7 := fz 74 7 (by first | decide | omega)
                  have e159 : (w_up Z10 159 2 ((Z10 159 2) - 32)) 159 (-1) = 64 := (fz 159 (-1) (by first | decide | omega)).trans h159
                  refine wa_cv 74 rfl (wy_pr rfl) wt_74 (M2 := fun _ => False) rfl at_XW_wordAt ⟨_, rfl⟩ rfl rfl ⟨(Or.inr ⟨wy_pr rfl, fun q => q⟩), (Or.inl (by omega)), (Or.inr ⟨wy_pr rfl, fun q => q⟩), trivial, trivial, trivial, trivial, trivial⟩ trivial (fun _ _ q => False.elim q) (wa_74 (S := (w_up Z10 159 2 ((Z10 159 2) - 32))) (b := 159) (wy_pr rfl) wt_159 ⟨by omega, by omega, by omega, by omega⟩ hWz hLz) (fun oq29 Sq29 hp30 q29 => ?_)
                  rcases q29 with ⟨rfl, q, rfl, hq⟩
                  show wJ _ _ _ _ _ _ _ _ _ _
                  refine wa_ireturn rfl ?_
                  refine ⟨fz, (gI_up gi12 (by omega) (by omega) (by omega)), (rmR_up rm13 (by omega) (by first | decide | omega)), q, rfl, ?_⟩
                  rcases hq with ⟨y0, y1, y2⟩ | ⟨y0, y1⟩
                  · exact Or.inl ⟨y0, by rw [← e7]; exact y1, (hq1 q).mp y2⟩
                  · exact Or.inr ⟨y0, fun k k0 k1 z => y1 k k0 (by rw [e7]; exact k1) ((hq1 k).mpr z)⟩
        · skip
          exact absurd c8 (by omega)
  · skip
    exfalso; omega
theorem wb53_73 {nm wk : Int} {W : List Int} (hX : w_X xs) (hC : w_CL S) (hI : gI S) (h1 : S 72 1 = 73) (l11 : S 158 11 = nm) (hnm : 0 ≤ nm ∧ nm < S 9 (-1)) (hW2 : wd_at S 2 1024) (hL2 : wd_L S 2 1024) (hwk : S 9 nm = wk) (hwk2 : 0 ≤ wk ∧ wk < S 2 7) (hwq : wqL S W wk) (hWh : wd_at S 74 64) (hLh : wd_L S 74 64) (h159 : S 159 (-1) = 64) : wJ (pe_GA xs) wY0 M (d + 4) t_XL_wordBehind ((pe_at t_XL_wordBehind.bl 0).getD (0, [])).2 [(0, (2, 158)), (1, (2, (-10 - ((125 : Nat) : Int))))] [] S (fun o Z => sc_ag 159 S Z ∧ gI Z ∧ rmR S Z ∧ ∃ q : Int, o = .inl (some (0, q)) ∧ hwW 74 (wnW ([] : List Int) W) S q) := by
  have hR := rmR_rfl S
  have a1 : 0 ≤ S 4 wk ∧ 0 ≤ S 5 wk ∧ S 5 wk ≤ 60 ∧ S 4 wk + S 5 wk ≤ S 2 1 := hW2.2.2.1 wk hwk2.1 hwk2.2
  have a2 : 0 ≤ S 2 7 ∧ S 2 7 ≤ S 4 (-1) := hW2.1
  have a3 : 0 ≤ S 2 1 ∧ S 2 1 ≤ S 3 (-1) := hW2.2.1
  have l5 : S 5 (-1) = S 4 (-1) := hL2.2.1
  have l8 : S 4 (-1) ≤ 2147483647 := hL2.2.2.2.2.2.2.2.1
  have l9 : S 3 (-1) ≤ 2147483647 := hL2.2.2.2.2.2.2.2.2
  have e5 : S 5 wk = (W.length : Int) := hwq.1
  have e3 : ∀ i : Nat, i < W.length → S 3 (S 4 wk + (i : Int)) = W.getD i 0 := fun i hi => by
    have z := hwq.2 i (by omega)
    rw [show (fun i : Int => W.getD i.toNat 0) (0 + (i : Int)) = W.getD (0 + (i : Int)).toNat 0 from rfl, Int.zero_add, Int.toNat_natCast] at z
    exact z
  refine wa_aload_n (n := 0) rfl ?_
  refine wb_gf4 158 rfl (wy_pr rfl) wt_158 wf_5_0 (v := 72) wl_158_0 ?_
  refine wb_gf4 72 rfl (wy_pr rfl) wt_72 wf_2_0 (v := 2) wl_72_0 ?_
  refine wa_astore_n (n := 2) rfl ?_
  refine wa_aload_n (n := 2) rfl ?_
  refine wb_gf4 2 rfl (wy_pr rfl) wt_2 wf_9_9 (v := 9) wl_2_9 ?_
  refine wa_aload_n (n := 0) rfl ?_
  refine wb_gfi 158 rfl (wy_pr rfl) wt_158 wf_5_11 (v := nm) (l11) (fun r1 => ?_)
  refine wb_iald 9 rfl (wy_pr rfl) wt_9 (n := (S 9 (-1))) (rfl) (by omega) (by omega) (v := wk) (hwk) (fun r2 => ?_)
  refine wa_istore_n (n := 3) rfl ?_
  refine wa_aload_n (n := 2) rfl ?_
  refine wb_gf4 2 rfl (wy_pr rfl) wt_2 wf_9_3 (v := 5) wl_2_3 ?_
  refine wa_iload_n (n := 3) rfl ?_
  refine wb_iald 5 rfl (wy_pr rfl) wt_5 (n := (S 4 (-1))) (l5) (by omega) (by omega) (v := (S 5 wk)) rfl (fun r3 => ?_)
  refine wa_istore (n := 4) rfl ?_
  refine wa_aload_n (n := 1) rfl ?_
  refine wa_sl 125 rfl (wx_125 hX) rfl rfl ?_
  refine wJ_top (show (tx_53.length : Int) = 0 from rfl) ?_
  refine wa_istore (n := 5) rfl ?_
  refine wa_iload (n := 5) rfl ?_
  refine wa_iload (n := 4) rfl ?_
  refine wa_iadd ?_
  refine wa_aload_n (n := 0) rfl ?_
  refine wb_gf4 158 rfl (wy_pr rfl) wt_158 wf_5_15 (v := 159) wl_158_15 ?_
  refine wb_alen 159 rfl (wy_pr rfl) (by rw [wt_159]; rfl) (v := 64) (h159) (fun r4 => ?_)
  refine wa_icmple (w_rg0 (by omega) (by omega)) (w_rg0 (by omega) (by omega)) ⟨_, rfl⟩ (fun c5 => ?_) (fun c5 => ?_)
  · skip
    refine wa_iconst ?_
    refine wa_istore (n := 6) rfl ?_
    refine wa_fall ⟨_, rfl⟩ ?_
    refine wJ_S (L2 := [(0, (2, 158)), (1, (2, (-10 - ((125 : Nat) : Int)))), (2, (2, 2)), (3, (0, wk)), (4, (0, (S 5 wk))), (5, (0, 0)), (6, (0, 0))]) ?_ ⟨rfl, rfl, rfl, rfl, rfl, rfl, rfl, trivial⟩
    refine wa_iload (n := 6) rfl ?_
    refine wa_iload (n := 5) rfl ?_
    refine wa_icmpge (w_rg0 (by omega) (by omega)) (w_rg0 (by omega) (by omega)) ⟨_, rfl⟩ (fun c6 => ?_) (fun c6 => ?_)
    · skip
      refine wa_aload_n (n := 2) rfl ?_
      refine wb_gf4 2 rfl (wy_pr rfl) wt_2 wf_9_0 (v := 3) wl_2_0 ?_
      refine wa_aload_n (n := 2) rfl ?_
      refine wb_gf4 2 rfl (wy_pr rfl) wt_2 wf_9_2 (v := 4) wl_2_2 ?_
      refine wa_iload_n (n := 3) rfl ?_
      refine wb_iald 4 rfl (wy_pr rfl) wt_4 (n := (S 4 (-1))) (rfl) (by omega) (by omega) (v := (S 4 wk)) rfl (fun r7 => ?_)
      refine wa_aload_n (n := 0) rfl ?_
      refine wb_gf4 158 rfl (wy_pr rfl) wt_158 wf_5_15 (v := 159) wl_158_15 ?_
      refine wa_iload (n := 5) rfl ?_
      refine wa_iload (n := 4) rfl ?_
      refine wb_acB (S := S) 3 159 rfl rfl (wy_pr rfl) (wy_pr rfl) wt_3 wt_159 hI hR (by decide) (by omega) (by omega) (by omega) (by have e : S 3 (-1) = (S 3 (-1)) := (rfl); omega) (by have e : S 159 (-1) = 64 := (h159); omega) (by omega) rfl (fun Z8 g9 gi10 rm11 => ?_)
      refine wa_iload (n := 5) rfl ?_
      refine wa_ifle (w_rg0 (by omega) (by omega)) ⟨_, rfl⟩ (fun c12 => ?_) (fun c12 => ?_)
      · skip
        refine wa_aload_n (n := 0) rfl ?_
        refine wb_gf4 158 rfl (wy_pr rfl) wt_158 wf_5_0 (v := 72) wl_158_0 ?_
        refine wb_gf5 72 rfl (wy_pr rfl) wt_72 wf_2_1 (v := 73) (((g9.1 72 1 (Or.inl (by decide))).trans (h1))) (fun r13 => ?_)
        refine wb_gf4 73 rfl (wy_pr rfl) wt_73 wf_3_0 (v := 74) wl_73_0 ?_
        refine wa_aload_n (n := 0) rfl ?_
        refine wb_gf4 158 rfl (wy_pr rfl) wt_158 wf_5_15 (v := 159) wl_158_15 ?_
        refine wa_iconst ?_
        refine wa_iload (n := 5) rfl ?_
        refine wa_iload (n := 4) rfl ?_
        refine wa_iadd ?_
        have fz : ∀ (j : Nat) (i : Int), (j ≠ 159 ∨ i < 0) → Z8 j i = S j i := fun j i hj => ((g9.1 j i (by omega)).trans (rfl))
        have hlen : (wnW ([] : List Int) W).length = 0 + W.length := by unfold wnW; rw [if_pos rfl]; omega
        have hsg : ∀ i : Nat, i < (wnW ([] : List Int) W).length → Z8 159 (i : Int) = (wnW ([] : List Int) W).getD i 0 := by
          intro i hi
          rw [hlen] at hi
          have z := g9.2 (i : Int) (by omega) (by omega)
          rw [Int.zero_add] at z
          rw [show wnW ([] : List Int) W = W from if_pos rfl]
          exact z.trans (e3 i (by omega))
        have hq1 : ∀ k : Int, wq (Z8 75) (Z8 76) (Z8 77) (Z8 159) 0 (0 + (S 5 wk)) k ↔ wq (S 75) (S 76) (S 77) (fun i => (wnW ([] : List Int) W).getD i.toNat 0) 0 ((wnW ([] : List Int) W).length : Int) k := fun k => by
          rw [show Z8 75 = S 75 from funext (fun x => fz 75 x (by omega)), show Z8 76 = S 76 from funext (fun x => fz 76 x (by omega)), show Z8 77 = S 77 from funext (fun x => fz 77 x (by omega))]
          exact wq_tx (by omega) hsg
        have hWz : wd_at Z8 74 64 := by
          have z := hWh
          unfold wd_at at z ⊢
          rw [show Z8 (74 + 1) = S (74 + 1) from funext (fun x => fz 75 x (by omega)), show Z8 (74 + 2) = S (74 + 2) from funext (fun x => fz 76 x (by omega)), show Z8 (74 + 3) = S (74 + 3) from funext (fun x => fz 77 x (by omega)), show Z8 (74 + 4) = S (74 + 4) from funext (fun x => fz 78 x (by omega)), show Z8 (74 + 10) = S (74 + 10) from funext (fun x => fz 84 x (by omega)), show Z8 74 1 = S 74 1 from fz 74 1 (by first | decide | omega), show Z8 74 7 = S 74 7 from fz 74 7 (by first | decide | omega)]
          exact z
        have hLz : wd_L Z8 74 64 := by
          have z := hLh
          unfold wd_L at z ⊢
          rw [show Z8 (74 + 10) (-1) = S (74 + 10) (-1) from fz 84 (-1) (by first | decide | omega), show Z8 (74 + 3) (-1) = S (74 + 3) (-1) from fz 77 (-1) (by first | decide | omega), show Z8 (74 + 2) (-1) = S (74 + 2) (-1) from fz 76 (-1) (by first | decide | omega), show Z8 (74 + 4) (-1) = S (74 + 4) (-1) from fz 78 (-1) (by first | decide | omega), show Z8 (74 + 5) (-1) = S (74 + 5) (-1) from fz 79 (-1) (by first | decide | omega), show Z8 (74 + 6) (-1) = S (74 + 6) (-1) from fz 80 (-1) (by first | decide | omega), show Z8 (74 + 1) (-1) = S (74 + 1) (-1) from fz 75 (-1) (by first | decide | omega)]
          exact z
        have e7 : Z8 74 7 = S 74 7 := fz 74 7 (by first | decide | omega)
        have e159 : Z8 159 (-1) = 64 := (fz 159 (-1) (by first | decide | omega)).trans h159
        refine wa_cv 74 rfl (wy_pr rfl) wt_74 (M2 := fun _ => False) rfl at_XW_wordAt ⟨_, rfl⟩ rfl rfl ⟨(Or.inr ⟨wy_pr rfl, fun q => q⟩), (Or.inl (by omega)), (Or.inr ⟨wy_pr rfl, fun q => q⟩), trivial, trivial, trivial, trivial, trivial⟩ trivial (fun _ _ q => False.elim q) (wa_74 (S := Z8) (b := 159) (wy_pr rfl) wt_159 ⟨by omega, by omega, by omega, by omega⟩ hWz hLz) (fun oq14 Sq14 hp15 q14 => ?_)
        rcases q14 with ⟨rfl, q, rfl, hq⟩
        show wJ _ _ _ _ _ _ _ _ _ _
        refine wa_ireturn rfl ?_
        refine ⟨fz, gi10, rm11, q, rfl, ?_⟩
        rcases hq with ⟨y0, y1, y2⟩ | ⟨y0, y1⟩
        · exact Or.inl ⟨y0, by rw [← e7]; exact y1, (hq1 q).mp y2⟩
        · exact Or.inr ⟨y0, fun k k0 k1 z => y1 k k0 (by rw [e7]; exact k1) ((hq1 k).mpr z)⟩
      · skip
        exact absurd c12 (by omega)
    · skip
      exact absurd c6 (by omega)
  · skip
    exfalso; omega
theorem wb51_162 {nm wk : Int} {W : List Int} (hX : w_X xs) (hC : w_CL S) (hI : gI S) (h1 : S 72 1 = 162) (l11 : S 158 11 = nm) (hnm : 0 ≤ nm ∧ nm < S 9 (-1)) (hW2 : wd_at S 2 1024) (hL2 : wd_L S 2 1024) (hwk : S 9 nm = wk) (hwk2 : 0 ≤ wk ∧ wk < S 2 7) (hwq : wqL S W wk) (hWh : wd_at S 163 64) (hLh : wd_L S 163 64) (h159 : S 159 (-1) = 64) : wJ (pe_GA xs) wY0 M (d + 4) t_XL_wordBehind ((pe_at t_XL_wordBehind.bl 0).getD (0, [])).2 [(0, (2, 158)), (1, (2, (-10 - ((123 : Nat) : Int))))] [] S (fun o Z => sc_ag 159 S Z ∧ gI Z ∧ rmR S Z ∧ ∃ q : Int, o = .inl (some (0, q)) ∧ hwW 163 (wnW [115, 101, 116] W) S q) := by
  have hR := rmR_rfl S
  have a1 : 0 ≤ S 4 wk ∧ 0 ≤ S 5 wk ∧ S 5 wk ≤ 60 ∧ S 4 wk + S 5 wk ≤ S 2 1 := hW2.2.2.1 wk hwk2.1 hwk2.2
  have a2 : 0 ≤ S 2 7 ∧ S 2 7 ≤ S 4 (-1) := hW2.1
  have a3 : 0 ≤ S 2 1 ∧ S 2 1 ≤ S 3 (-1) := hW2.2.1
  have l5 : S 5 (-1) = S 4 (-1) := hL2.2.1
  have l8 : S 4 (-1) ≤ 2147483647 := hL2.2.2.2.2.2.2.2.1
  have l9 : S 3 (-1) ≤ 2147483647 := hL2.2.2.2.2.2.2.2.2
  have e5 : S 5 wk = (W.length : Int) := hwq.1
  have e3 : ∀ i : Nat, i < W.length → S 3 (S 4 wk + (i : Int)) = W.getD i 0 := fun i hi => by
    have z := hwq.2 i (by omega)
    rw [show (fun i : Int => W.getD i.toNat 0) (0 + (i : Int)) = W.getD (0 + (i : Int)).toNat 0 from rfl, Int.zero_add, Int.toNat_natCast] at z
    exact z
  refine wa_aload_n (n := 0) rfl ?_
  refine wb_gf4 158 rfl (wy_pr rfl) wt_158 wf_5_0 (v := 72) wl_158_0 ?_
  refine wb_gf4 72 rfl (wy_pr rfl) wt_72 wf_2_0 (v := 2) wl_72_0 ?_
  refine wa_astore_n (n := 2) rfl ?_
  refine wa_aload_n (n := 2) rfl ?_
  refine wb_gf4 2 rfl (wy_pr rfl) wt_2 wf_9_9 (v := 9) wl_2_9 ?_
  refine wa_aload_n (n := 0) rfl ?_
  refine wb_gfi 158 rfl (wy_pr rfl) wt_158 wf_5_11 (v := nm) (l11) (fun r1 => ?_)
  refine wb_iald 9 rfl (wy_pr rfl) wt_9 (n := (S 9 (-1))) (rfl) (by omega) (by omega) (v := wk) (hwk) (fun r2 => ?_)
  refine wa_istore_n (n := 3) rfl ?_
  refine wa_aload_n (n := 2) rfl ?_
  refine wb_gf4 2 rfl (wy_pr rfl) wt_2 wf_9_3 (v := 5) wl_2_3 ?_
  refine wa_iload_n (n := 3) rfl ?_
  refine wb_iald 5 rfl (wy_pr rfl) wt_5 (n := (S 4 (-1))) (l5) (by omega) (by omega) (v := (S 5 wk)) rfl (fun r3 => ?_)
  refine wa_istore (n := 4) rfl ?_
  refine wa_aload_n (n := 1) rfl ?_
  refine wa_sl 123 rfl (wx_123 hX) rfl rfl ?_
  refine wJ_top (show (tx_51.length : Int) = 3 from rfl) ?_
  refine wa_istore (n := 5) rfl ?_
  refine wa_iload (n := 5) rfl ?_
  refine wa_iload (n := 4) rfl ?_
  refine wa_iadd ?_
  refine wa_aload_n (n := 0) rfl ?_
  refine wb_gf4 158 rfl (wy_pr rfl) wt_158 wf_5_15 (v := 159) wl_158_15 ?_
  refine wb_alen 159 rfl (wy_pr rfl) (by rw [wt_159]; rfl) (v := 64) (h159) (fun r4 => ?_)
  refine wa_icmple (w_rg0 (by omega) (by omega)) (w_rg0 (by omega) (by omega)) ⟨_, rfl⟩ (fun c5 => ?_) (fun c5 => ?_)
  · skip
    refine wa_iconst ?_
    refine wa_istore (n := 6) rfl ?_
    refine wa_fall ⟨_, rfl⟩ ?_
    refine wJ_S (L2 := [(0, (2, 158)), (1, (2, (-10 - ((123 : Nat) : Int)))), (2, (2, 2)), (3, (0, wk)), (4, (0, (S 5 wk))), (5, (0, 3)), (6, (0, 0))]) ?_ ⟨rfl, rfl, rfl, rfl, rfl, rfl, rfl, trivial⟩
    refine wa_iload (n := 6) rfl ?_
    refine wa_iload (n := 5) rfl ?_
    refine wa_icmpge (w_rg0 (by omega) (by omega)) (w_rg0 (by omega) (by omega)) ⟨_, rfl⟩ (fun c6 => ?_) (fun c6 => ?_)
    · skip
      exact absurd c6 (by omega)
    · skip
      refine wa_aload_n (n := 0) rfl ?_
      refine wb_gf4 158 rfl (wy_pr rfl) wt_158 wf_5_15 (v := 159) wl_158_15 ?_
      refine wa_iload (n := 6) rfl ?_
      refine wa_aload_n (n := 1) rfl ?_
      refine wa_iload (n := 6) rfl ?_
      refine wa_sc 123 rfl (wx_123 hX) (by first | decide | omega) rfl rfl (by first | decide | omega) (by first | decide | omega) ?_
      refine wJ_top (show (w_tx tx_51 0) = 115 by decide) ?_
      refine wb_i2b_r (wb_i2b_id ⟨(by omega), (by omega)⟩) ?_
      refine wb_bast 159 rfl (wy_pr rfl) wt_159 (n := 64) (h159) (by omega) (by omega) ⟨(by omega), (by omega)⟩ ?_
      refine wa_iinc rfl rfl ?_
      refine wa_goto ⟨_, rfl⟩ ?_
      refine wJ_S (L2 := [(0, (2, 158)), (1, (2, (-10 - ((123 : Nat) : Int)))), (2, (2, 2)), (3, (0, wk)), (4, (0, (S 5 wk))), (5, (0, 3)), (6, (0, 1))]) ?_ ⟨rfl, rfl, rfl, rfl, rfl, rfl, rfl, trivial⟩
      refine wa_iload (n := 6) rfl ?_
      refine wa_iload (n := 5) rfl ?_
      refine wa_icmpge (w_rg0 (by omega) (by omega)) (w_rg0 (by omega) (by omega)) ⟨_, rfl⟩ (fun c7 => ?_) (fun c7 => ?_)
      · skip
        exact absurd c7 (by omega)
      · skip
        refine wa_aload_n (n := 0) rfl ?_
        refine wb_gf4 158 rfl (wy_pr rfl) wt_158 wf_5_15 (v := 159) wl_158_15 ?_
        refine wa_iload (n := 6) rfl ?_
        refine wa_aload_n (n := 1) rfl ?_
        refine wa_iload (n := 6) rfl ?_
        refine wa_sc 123 rfl (wx_123 hX) (by first | decide | omega) rfl rfl (by first | decide | omega) (by first | decide | omega) ?_
        refine wJ_top (show (w_tx tx_51 1) = 101 by decide) ?_
        refine wb_i2b_r (wb_i2b_id ⟨(by omega), (by omega)⟩) ?_
        refine wb_bast 159 rfl (wy_pr rfl) wt_159 (n := 64) ((w_up_at (by decide)).trans (h159)) (by omega) (by omega) ⟨(by omega), (by omega)⟩ ?_
        refine wa_iinc rfl rfl ?_
        refine wa_goto ⟨_, rfl⟩ ?_
        refine wJ_S (L2 := [(0, (2, 158)), (1, (2, (-10 - ((123 : Nat) : Int)))), (2, (2, 2)), (3, (0, wk)), (4, (0, (S 5 wk))), (5, (0, 3)), (6, (0, 2))]) ?_ ⟨rfl, rfl, rfl, rfl, rfl, rfl, rfl, trivial⟩
        refine wa_iload (n := 6) rfl ?_
        refine wa_iload (n := 5) rfl ?_
        refine wa_icmpge (w_rg0 (by omega) (by omega)) (w_rg0 (by omega) (by omega)) ⟨_, rfl⟩ (fun c8 => ?_) (fun c8 => ?_)
        · skip
          exact absurd c8 (by omega)
        · skip
          refine wa_aload_n (n := 0) rfl ?_
          refine wb_gf4 158 rfl (wy_pr rfl) wt_158 wf_5_15 (v := 159) wl_158_15 ?_
          refine wa_iload (n := 6) rfl ?_
          refine wa_aload_n (n := 1) rfl ?_
          refine wa_iload (n := 6) rfl ?_
          refine wa_sc 123 rfl (wx_123 hX) (by first | decide | omega) rfl rfl (by first | decide | omega) (by first | decide | omega) ?_
          refine wJ_top (show (w_tx tx_51 2) = 116 by decide) ?_
          refine wb_i2b_r (wb_i2b_id ⟨(by omega), (by omega)⟩) ?_
          refine wb_bast 159 rfl (wy_pr rfl) wt_159 (n := 64) ((w_up_at (by decide)).trans ((w_up_at (by decide)).trans (h159))) (by omega) (by omega) ⟨(by omega), (by omega)⟩ ?_
          refine wa_iinc rfl rfl ?_
          refine wa_goto ⟨_, rfl⟩ ?_
          refine wJ_S (L2 := [(0, (2, 158)), (1, (2, (-10 - ((123 : Nat) : Int)))), (2, (2, 2)), (3, (0, wk)), (4, (0, (S 5 wk))), (5, (0, 3)), (6, (0, 3))]) ?_ ⟨rfl, rfl, rfl, rfl, rfl, rfl, rfl, trivial⟩
          refine wa_iload (n := 6) rfl ?_
          refine wa_iload (n := 5) rfl ?_
          refine wa_icmpge (w_rg0 (by omega) (by omega)) (w_rg0 (by omega) (by omega)) ⟨_, rfl⟩ (fun c9 => ?_) (fun c9 => ?_)
          · skip
            refine wa_aload_n (n := 2) rfl ?_
            refine wb_gf4 2 rfl (wy_pr rfl) wt_2 wf_9_0 (v := 3) wl_2_0 ?_
            refine wa_aload_n (n := 2) rfl ?_
            refine wb_gf4 2 rfl (wy_pr rfl) wt_2 wf_9_2 (v := 4) wl_2_2 ?_
            refine wa_iload_n (n := 3) rfl ?_
            refine wb_iald 4 rfl (wy_pr rfl) wt_4 (n := (S 4 (-1))) ((w_up_slot (by decide)).trans ((w_up_slot (by decide)).trans ((w_up_slot (by decide)).trans (rfl)))) (by omega) (by omega) (v := (S 4 wk)) ((w_up_slot (by decide)).trans ((w_up_slot (by decide)).trans (w_up_slot (by decide)))) (fun r10 => ?_)
            refine wa_aload_n (n := 0) rfl ?_
            refine wb_gf4 158 rfl (wy_pr rfl) wt_158 wf_5_15 (v := 159) wl_158_15 ?_
            refine wa_iload (n := 5) rfl ?_
            refine wa_iload (n := 4) rfl ?_
            refine wb_acB (S := (w_up (w_up (w_up S 159 0 115) 159 1 101) 159 2 116)) 3 159 rfl rfl (wy_pr rfl) (wy_pr rfl) wt_3 wt_159 (gI_up (gI_up (gI_up hI (by omega) (by omega) (by omega)) (by omega) (by omega) (by omega)) (by omega) (by omega) (by omega)) (rmR_up (rmR_up (rmR_up hR (by omega) (by decide)) (by omega) (by decide)) (by omega) (by decide)) (by decide) (by omega) (by omega) (by omega) (by have e : (w_up (w_up (w_up S 159 0 115) 159 1 101) 159 2 116) 3 (-1) = (S 3 (-1)) := ((w_up_slot (by decide)).trans ((w_up_slot (by decide)).trans ((w_up_slot (by decide)).trans (rfl)))); omega) (by have e : (w_up (w_up (w_up S 159 0 115) 159 1 101) 159 2 116) 159 (-1) = 64 := ((w_up_at (by decide)).trans ((w_up_at (by decide)).trans ((w_up_at (by decide)).trans (h159)))); omega) (by omega) rfl (fun Z11 g12 gi13 rm14 => ?_)
            refine wa_iload (n := 5) rfl ?_
            refine wa_ifle (w_rg0 (by omega) (by omega)) ⟨_, rfl⟩ (fun c15 => ?_) (fun c15 => ?_)
            · skip
              exact absurd c15 (by omega)
            · skip
              refine wa_aload_n (n := 0) rfl ?_
              refine wb_gf4 158 rfl (wy_pr rfl) wt_158 wf_5_15 (v := 159) wl_158_15 ?_
              refine wa_iload (n := 5) rfl ?_
              refine wb_bald 159 rfl (wy_pr rfl) wt_159 (n := 64) (((g12.1 159 (-1) (by omega)).trans ((w_up_at (by decide)).trans ((w_up_at (by decide)).trans ((w_up_at (by decide)).trans (h159)))))) (by omega) (by omega) (v := (Z11 159 3)) rfl (fun r16 => ?_)
              refine wa_cs (M2 := fun _ => False) rfl at_X_isSmall ⟨_, rfl⟩ rfl rfl ⟨(Or.inr ⟨wy_pr rfl, fun q => q⟩), (Or.inl (by omega)), (Or.inr ⟨wy_pr rfl, fun q => q⟩), trivial, trivial, trivial, trivial, trivial⟩ trivial (fun _ _ q => False.elim q) ?_ (fun _ _ _ q => q)
              refine wa_iload_n (n := 0) rfl ?_
              refine wa_bipush (w_rg2 (by omega) (by omega)) ?_
              refine wa_icmplt (w_rg0 (by omega) (by omega)) (w_rg0 (by omega) (by omega)) ⟨_, rfl⟩ (fun c17 => ?_) (fun c17 => ?_)
              · skip
                refine wa_iconst ?_
                refine wa_fall ⟨_, rfl⟩ ?_
                refine wa_zreturn rfl (Or.inl rfl) ?_
                show wJ _ _ _ _ _ _ _ _ _ _
                refine wa_ifeq (w_rg0 (by omega) (by omega)) ⟨_, rfl⟩ (fun c18 => ?_) (fun c18 => ?_)
                · skip
                  refine wa_aload_n (n := 0) rfl ?_
                  refine wb_gf4 158 rfl (wy_pr rfl) wt_158 wf_5_0 (v := 72) wl_158_0 ?_
                  refine wb_gf5 72 rfl (wy_pr rfl) wt_72 wf_2_1 (v := 162) (((g12.1 72 1 (Or.inl (by decide))).trans ((w_up_slot (by decide)).trans ((w_up_slot (by decide)).trans ((w_up_slot (by decide)).trans (h1)))))) (fun r19 => ?_)
                  refine wb_gf4 162 rfl (wy_pr rfl) wt_162 wf_3_0 (v := 163) wl_162_0 ?_
                  refine wa_aload_n (n := 0) rfl ?_
                  refine wb_gf4 158 rfl (wy_pr rfl) wt_158 wf_5_15 (v := 159) wl_158_15 ?_
                  refine wa_iconst ?_
                  refine wa_iload (n := 5) rfl ?_
                  refine wa_iload (n := 4) rfl ?_
                  refine wa_iadd ?_
                  have fz : ∀ (j : Nat) (i : Int), (j ≠ 159 ∨ i < 0) → Z11 j i = S j i := fun j i hj => ((g12.1 j i (by omega)).trans (((w_up_no (by omega)).trans ((w_up_no (by omega)).trans (w_up_no (by omega))))))
                  have hlen : (wnW [115, 101, 116] W).length = 3 + W.length := by unfold wnW; rw [if_neg (by first | decide | omega), List.length_append, capW_l]; rfl
                  have hsg : ∀ i : Nat, i < (wnW [115, 101, 116] W).length → Z11 159 (i : Int) = (wnW [115, 101, 116] W).getD i 0 := by
                    intro i hi
                    rw [hlen] at hi
                    by_cases c0 : i = 0
                    · rw [c0]; exact ((g12.1 159 0 (by omega)).trans (((w_up_at (by first | decide | omega)).trans ((w_up_at (by first | decide | omega)).trans (w_up_same _ _ _ _)))))
                    by_cases c1 : i = 1
                    · rw [c1]; exact ((g12.1 159 1 (by omega)).trans (((w_up_at (by first | decide | omega)).trans (w_up_same _ _ _ _))))
                    by_cases c2 : i = 2
                    · rw [c2]; exact ((g12.1 159 2 (by omega)).trans ((w_up_same _ _ _ _)))
                    obtain ⟨k, hk⟩ : ∃ k : Nat, i = 3 + k := ⟨i - 3, by omega⟩
                    have hr : (wnW [115, 101, 116] W).getD i 0 = (capW W).getD k 0 := by rw [hk]; exact getD_r (a := [115, 101, 116])
                    have z : Z11 159 (3 + (k : Int)) = W.getD k 0 := (g12.2 (k : Int) (by omega) (by omega)).trans ((((w_up_slot (by first | decide | omega)).trans ((w_up_slot (by first | decide | omega)).trans (w_up_slot (by first | decide | omega))))).trans (e3 k (by omega)))
                    have z0 : (i : Int) = 3 + (k : Int) := by omega
                    rw [hr, z0]
                    cases k with
                    | zero =>
                      rw [capW_0 (by omega)]
                      replace z : Z11 159 3 = W.getD 0 0 := z
                      rw [if_neg (by omega)]
                      exact z
                    | succ k =>
                      rw [capW_s]
                      exact z
                  have hq1 : ∀ k : Int, wq (Z11 164) (Z11 165) (Z11 166) (Z11 159) 0 (3 + (S 5 wk)) k ↔ wq (S 164) (S 165) (S 166) (fun i => (wnW [115, 101, 116] W).getD i.toNat 0) 0 ((wnW [115, 101, 116] W).length : Int) k := fun k => by
                    rw [show Z11 164 = S 164 from funext (fun x => fz 164 x (by omega)), show Z11 165 = S 165 from funext (fun x => fz 165 x (by omega)), show Z11 166 = S 166 from funext (fun x => fz 166 x (by omega))]
                    exact wq_tx (by omega) hsg
                  have hWz : wd_at Z11 163 64 := by
                    have z := hWh
                    unfold wd_at at z ⊢
                    rw [show Z11 (163 + 1) = S (163 + 1) from funext (fun x => fz 164 x (by omega)), show Z11 (163 + 2) = S (163 + 2) from funext (fun x => fz 165 x (by omega)), show Z11 (163 + 3) = S (163 + 3) from funext (fun x => fz 166 x (by omega)), show Z11 (163 + 4) = S (163 + 4) from funext (fun x => fz 167 x (by omega)), show Z11 (163 + 10) = S (163 + 10) from funext (fun x => fz 173 x (by omega)), show Z11 163 1 = S 163 1 from fz 163 1 (by first | decide | omega), show Z11 163 7 = S 163 7 from fz 163 7 (by first | decide | omega)]
                    exact z
                  have hLz : wd_L Z11 163 64 := by
                    have z := hLh
                    unfold wd_L at z ⊢
                    rw [show Z11 (163 + 10) (-1) = S (163 + 10) (-1) from fz 173 (-1) (by first | decide | omega), show Z11 (163 + 3) (-1) = S (163 + 3) (-1) from fz 166 (-1) (by first | decide | omega), show Z11 (163 + 2) (-1) = S (163 + 2) (-1) from fz 165 (-1) (by first | decide | omega), show Z11 (163 + 4) (-1) = S (163 + 4) (-1) from fz 167 (-1) (by first | decide | omega), show Z11 (163 + 5) (-1) = S (163 + 5) (-1) from fz 168 (-1) (by first | decide | omega), show Z11 (163 + 6) (-1) = S (163 + 6) (-1) from fz 169 (-1) (by first | decide | omega), show Z11 (163 + 1) (-1) = S (163 + 1) (-1) from fz 164 (-1) (by first | decide | omega)]
                    exact z
                  have e7 : Z11 163 7 = S 163 7 := fz 163 7 (by first | decide | omega)
                  have e159 : Z11 159 (-1) = 64 := (fz 159 (-1) (by first | decide | omega)).trans h159
                  refine wa_cv 163 rfl (wy_pr rfl) wt_163 (M2 := fun _ => False) rfl at_XW_wordAt ⟨_, rfl⟩ rfl rfl ⟨(Or.inr ⟨wy_pr rfl, fun q => q⟩), (Or.inl (by omega)), (Or.inr ⟨wy_pr rfl, fun q => q⟩), trivial, trivial, trivial, trivial, trivial⟩ trivial (fun _ _ q => False.elim q) (wa_163 (S := Z11) (b := 159) (wy_pr rfl) wt_159 ⟨by omega, by omega, by omega, by omega⟩ hWz hLz) (fun oq20 Sq20 hp21 q20 => ?_)
                  rcases q20 with ⟨rfl, q, rfl, hq⟩
                  show wJ _ _ _ _ _ _ _ _ _ _
                  refine wa_ireturn rfl ?_
                  refine ⟨fz, gi13, rm14, q, rfl, ?_⟩
                  rcases hq with ⟨y0, y1, y2⟩ | ⟨y0, y1⟩
                  · exact Or.inl ⟨y0, by rw [← e7]; exact y1, (hq1 q).mp y2⟩
                  · exact Or.inr ⟨y0, fun k k0 k1 z => y1 k k0 (by rw [e7]; exact k1) ((hq1 k).mpr z)⟩
                · skip
                  exact absurd c18 (by omega)
              · skip
                refine wa_iload_n (n := 0) rfl ?_
                refine wa_bipush (w_rg2 (by omega) (by omega)) ?_
                refine wa_icmpgt (w_rg0 (by omega) (by omega)) (w_rg0 (by omega) (by omega)) ⟨_, rfl⟩ (fun c22 => ?_) (fun c22 => ?_)
                · skip
                  refine wa_iconst ?_
                  refine wa_fall ⟨_, rfl⟩ ?_
                  refine wa_zreturn rfl (Or.inl rfl) ?_
                  show wJ _ _ _ _ _ _ _ _ _ _
                  refine wa_ifeq (w_rg0 (by omega) (by omega)) ⟨_, rfl⟩ (fun c23 => ?_) (fun c23 => ?_)
                  · skip
                    refine wa_aload_n (n := 0) rfl ?_
                    refine wb_gf4 158 rfl (wy_pr rfl) wt_158 wf_5_0 (v := 72) wl_158_0 ?_
                    refine wb_gf5 72 rfl (wy_pr rfl) wt_72 wf_2_1 (v := 162) (((g12.1 72 1 (Or.inl (by decide))).trans ((w_up_slot (by decide)).trans ((w_up_slot (by decide)).trans ((w_up_slot (by decide)).trans (h1)))))) (fun r24 => ?_)
                    refine wb_gf4 162 rfl (wy_pr rfl) wt_162 wf_3_0 (v := 163) wl_162_0 ?_
                    refine wa_aload_n (n := 0) rfl ?_
                    refine wb_gf4 158 rfl (wy_pr rfl) wt_158 wf_5_15 (v := 159) wl_158_15 ?_
                    refine wa_iconst ?_
                    refine wa_iload (n := 5) rfl ?_
                    refine wa_iload (n := 4) rfl ?_
                    refine wa_iadd ?_
                    have fz : ∀ (j : Nat) (i : Int), (j ≠ 159 ∨ i < 0) → Z11 j i = S j i := fun j i hj => ((g12.1 j i (by omega)).trans (((w_up_no (by omega)).trans ((w_up_no (by omega)).trans (w_up_no (by omega))))))
                    have hlen : (wnW [115, 101, 116] W).length = 3 + W.length := by unfold wnW; rw [if_neg (by first | decide | omega), List.length_append, capW_l]; rfl
                    have hsg : ∀ i : Nat, i < (wnW [115, 101, 116] W).length → Z11 159 (i : Int) = (wnW [115, 101, 116] W).getD i 0 := by
                      intro i hi
                      rw [hlen] at hi
                      by_cases c0 : i = 0
                      · rw [c0]; exact ((g12.1 159 0 (by omega)).trans (((w_up_at (by first | decide | omega)).trans ((w_up_at (by first | decide | omega)).trans (w_up_same _ _ _ _)))))
                      by_cases c1 : i = 1
                      · rw [c1]; exact ((g12.1 159 1 (by omega)).trans (((w_up_at (by first | decide | omega)).trans (w_up_same _ _ _ _))))
                      by_cases c2 : i = 2
                      · rw [c2]; exact ((g12.1 159 2 (by omega)).trans ((w_up_same _ _ _ _)))
                      obtain ⟨k, hk⟩ : ∃ k : Nat, i = 3 + k := ⟨i - 3, by omega⟩
                      have hr : (wnW [115, 101, 116] W).getD i 0 = (capW W).getD k 0 := by rw [hk]; exact getD_r (a := [115, 101, 116])
                      have z : Z11 159 (3 + (k : Int)) = W.getD k 0 := (g12.2 (k : Int) (by omega) (by omega)).trans ((((w_up_slot (by first | decide | omega)).trans ((w_up_slot (by first | decide | omega)).trans (w_up_slot (by first | decide | omega))))).trans (e3 k (by omega)))
                      have z0 : (i : Int) = 3 + (k : Int) := by omega
                      rw [hr, z0]
                      cases k with
                      | zero =>
                        rw [capW_0 (by omega)]
                        replace z : Z11 159 3 = W.getD 0 0 := z
                        rw [if_neg (by omega)]
                        exact z
                      | succ k =>
                        rw [capW_s]
                        exact z
                    have hq1 : ∀ k : Int, wq (Z11 164) (Z11 165) (Z11 166) (Z11 159) 0 (3 + (S 5 wk)) k ↔ wq (S 164) (S 165) (S 166) (fun i => (wnW [115, 101, 116] W).getD i.toNat 0) 0 ((wnW [115, 101, 116] W).length : Int) k := fun k => by
                      rw [show Z11 164 = S 164 from funext (fun x => fz 164 x (by omega)), show Z11 165 = S 165 from funext (fun x => fz 165 x (by omega)), show Z11 166 = S 166 from funext (fun x => fz 166 x (by omega))]
                      exact wq_tx (by omega) hsg
                    have hWz : wd_at Z11 163 64 := by
                      have z := hWh
                      unfold wd_at at z ⊢
                      rw [show Z11 (163 + 1) = S (163 + 1) from funext (fun x => fz 164 x (by omega)), show Z11 (163 + 2) = S (163 + 2) from funext (fun x => fz 165 x (by omega)), show Z11 (163 + 3) = S (163 + 3) from funext (fun x => fz 166 x (by omega)), show Z11 (163 + 4) = S (163 + 4) from funext (fun x => fz 167 x (by omega)), show Z11 (163 + 10) = S (163 + 10) from funext (fun x => fz 173 x (by omega)), show Z11 163 1 = S 163 1 from fz 163 1 (by first | decide | omega), show Z11 163 7 = S 163 7 from fz 163 7 (by first | decide | omega)]
                      exact z
                    have hLz : wd_L Z11 163 64 := by
                      have z := hLh
                      unfold wd_L at z ⊢
                      rw [show Z11 (163 + 10) (-1) = S (163 + 10) (-1) from fz 173 (-1) (by first | decide | omega), show Z11 (163 + 3) (-1) = S (163 + 3) (-1) from fz 166 (-1) (by first | decide | omega), show Z11 (163 + 2) (-1) = S (163 + 2) (-1) from fz 165 (-1) (by first | decide | omega), show Z11 (163 + 4) (-1) = S (163 + 4) (-1) from fz 167 (-1) (by first | decide | omega), show Z11 (163 + 5) (-1) = S (163 + 5) (-1) from fz 168 (-1) (by first | decide | omega), show Z11 (163 + 6) (-1) = S (163 + 6) (-1) from fz 169 (-1) (by first | decide | omega), show Z11 (163 + 1) (-1) = S (163 + 1) (-1) from fz 164 (-1) (by first | decide | omega)]
                      exact z
                    have e7 : Z11 163 7 = S 163 7 := fz 163 7 (by first | decide | omega)
                    have e159 : Z11 159 (-1) = 64 := (fz 159 (-1) (by first | decide | omega)).trans h159
                    refine wa_cv 163 rfl (wy_pr rfl) wt_163 (M2 := fun _ => False) rfl at_XW_wordAt ⟨_, rfl⟩ rfl rfl ⟨(Or.inr ⟨wy_pr rfl, fun q => q⟩), (Or.inl (by omega)), (Or.inr ⟨wy_pr rfl, fun q => q⟩), trivial, trivial, trivial, trivial, trivial⟩ trivial (fun _ _ q => False.elim q) (wa_163 (S := Z11) (b := 159) (wy_pr rfl) wt_159 ⟨by omega, by omega, by omega, by omega⟩ hWz hLz) (fun oq25 Sq25 hp26 q25 => ?_)
                    rcases q25 with ⟨rfl, q, rfl, hq⟩
                    show wJ _ _ _ _ _ _ _ _ _ _
                    refine wa_ireturn rfl ?_
                    refine ⟨fz, gi13, rm14, q, rfl, ?_⟩
                    rcases hq with ⟨y0, y1, y2⟩ | ⟨y0, y1⟩
                    · exact Or.inl ⟨y0, by rw [← e7]; exact y1, (hq1 q).mp y2⟩
                    · exact Or.inr ⟨y0, fun k k0 k1 z => y1 k k0 (by rw [e7]; exact k1) ((hq1 k).mpr z)⟩
                  · skip
                    exact absurd c23 (by omega)
                · skip
                  refine wa_iconst ?_
                  refine wa_goto ⟨_, rfl⟩ ?_
                  refine wa_zreturn rfl (Or.inr rfl) ?_
                  show wJ _ _ _ _ _ _ _ _ _ _
                  refine wa_ifeq (w_rg0 (by omega) (by omega)) ⟨_, rfl⟩ (fun c27 => ?_) (fun c27 => ?_)
                  · skip
                    exact absurd c27 (by omega)
                  · skip
                    refine wa_aload_n (n := 0) rfl ?_
                    refine wb_gf4 158 rfl (wy_pr rfl) wt_158 wf_5_15 (v := 159) wl_158_15 ?_
                    refine wa_iload (n := 5) rfl ?_
                    refine wa_dup2 (by decide) (by decide) ?_
                    refine wb_bald 159 rfl (wy_pr rfl) wt_159 (n := 64) (((g12.1 159 (-1) (by omega)).trans ((w_up_at (by decide)).trans ((w_up_at (by decide)).trans ((w_up_at (by decide)).trans (h159)))))) (by omega) (by omega) (v := (Z11 159 3)) rfl (fun r28 => ?_)
                    refine wa_bipush (w_rg2 (by omega) (by omega)) ?_
                    refine wa_isub ?_
                    refine wb_i2b_r (wb_i2b_id ⟨(by omega), (by omega)⟩) ?_
                    refine wb_bast 159 rfl (wy_pr rfl) wt_159 (n := 64) (((g12.1 159 (-1) (by omega)).trans ((w_up_at (by decide)).trans ((w_up_at (by decide)).trans ((w_up_at (by decide)).trans (h159)))))) (by omega) (by omega) ⟨(by omega), (by omega)⟩ ?_
                    refine wa_fall ⟨_, rfl⟩ ?_
                    refine wa_aload_n (n := 0) rfl ?_
                    refine wb_gf4 158 rfl (wy_pr rfl) wt_158 wf_5_0 (v := 72) wl_158_0 ?_
                    refine wb_gf5 72 rfl (wy_pr rfl) wt_72 wf_2_1 (v := 162) ((w_up_slot (by decide)).trans (((g12.1 72 1 (Or.inl (by decide))).trans ((w_up_slot (by decide)).trans ((w_up_slot (by decide)).trans ((w_up_slot (by decide)).trans (h1))))))) (fun r29 => ?_)
                    refine wb_gf4 162 rfl (wy_pr rfl) wt_162 wf_3_0 (v := 163) wl_162_0 ?_
                    refine wa_aload_n (n := 0) rfl ?_
                    refine wb_gf4 158 rfl (wy_pr rfl) wt_158 wf_5_15 (v := 159) wl_158_15 ?_
                    refine wa_iconst ?_
                    refine wa_iload (n := 5) rfl ?_
                    refine wa_iload (n := 4) rfl ?_
                    refine wa_iadd ?_
                    have fz : ∀ (j : Nat) (i : Int), (j ≠ 159 ∨ i < 0) → (w_up Z11 159 3 ((Z11 159 3) - 32)) j i = S j i := fun j i hj => (w_up_no (by omega)).trans ((g12.1 j i (by omega)).trans (((w_up_no (by omega)).trans ((w_up_no (by omega)).trans (w_up_no (by omega))))))
                    have hlen : (wnW [115, 101, 116] W).length = 3 + W.length := by unfold wnW; rw [if_neg (by first | decide | omega), List.length_append, capW_l]; rfl
                    have hsg : ∀ i : Nat, i < (wnW [115, 101, 116] W).length → (w_up Z11 159 3 ((Z11 159 3) - 32)) 159 (i : Int) = (wnW [115, 101, 116] W).getD i 0 := by
                      intro i hi
                      rw [hlen] at hi
                      by_cases c0 : i = 0
                      · rw [c0]; exact (w_up_at (by omega)).trans ((g12.1 159 0 (by omega)).trans (((w_up_at (by first | decide | omega)).trans ((w_up_at (by first | decide | omega)).trans (w_up_same _ _ _ _)))))
                      by_cases c1 : i = 1
                      · rw [c1]; exact (w_up_at (by omega)).trans ((g12.1 159 1 (by omega)).trans (((w_up_at (by first | decide | omega)).trans (w_up_same _ _ _ _))))
                      by_cases c2 : i = 2
                      · rw [c2]; exact (w_up_at (by omega)).trans ((g12.1 159 2 (by omega)).trans ((w_up_same _ _ _ _)))
                      obtain ⟨k, hk⟩ : ∃ k : Nat, i = 3 + k := ⟨i - 3, by omega⟩
                      have hr : (wnW [115, 101, 116] W).getD i 0 = (capW W).getD k 0 := by rw [hk]; exact getD_r (a := [115, 101, 116])
                      have z : Z11 159 (3 + (k : Int)) = W.getD k 0 := (g12.2 (k : Int) (by omega) (by omega)).trans ((((w_up_slot (by first | decide | omega)).trans ((w_up_slot (by first | decide | omega)).trans (w_up_slot (by first | decide | omega))))).trans (e3 k (by omega)))
                      have z0 : (i : Int) = 3 + (k : Int) := by omega
                      rw [hr, z0]
                      cases k with
                      | zero =>
                        rw [capW_0 (by omega)]
                        replace z : Z11 159 3 = W.getD 0 0 := z
                        rw [if_pos (by omega)]
                        refine (w_up_same _ _ _ _).trans ?_
                        omega
                      | succ k =>
                        rw [capW_s]
                        exact (w_up_at (by omega)).trans z
                    have hq1 : ∀ k : Int, wq ((w_up Z11 159 3 ((Z11 159 3) - 32)) 164) ((w_up Z11 159 3 ((Z11 159 3) - 32)) 165) ((w_up Z11 159 3 ((Z11 159 3) - 32)) 166) ((w_up Z11 159 3 ((Z11 159 3) - 32)) 159) 0 (3 + (S 5 wk)) k ↔ wq (S 164) (S 165) (S 166) (fun i => (wnW [115, 101, 116] W).getD i.toNat 0) 0 ((wnW [115, 101, 116] W).length : Int) k := fun k => by
                      rw [show (w_up Z11 159 3 ((Z11 159 3) - 32)) 164 = S 164 from funext (fun x => fz 164 x (by omega)), show (w_up Z11 159 3 ((Z11 159 3) - 32)) 165 = S 165 from funext (fun x => fz 165 x (by omega)), show (w_up Z11 159 3 ((Z11 159 3) - 32)) 166 = S 166 from funext (fun x => fz 166 x (by omega))]
                      exact wq_tx (by omega) hsg
                    have hWz : wd_at (w_up Z11 159 3 ((Z11 159 3) - 32)) 163 64 := by
                      have z := hWh
                      unfold wd_at at z ⊢
                      rw [show (w_up Z11 159 3 ((Z11 159 3) - 32)) (163 + 1) = S (163 + 1) from funext (fun x => fz 164 x (by omega)), show (w_up Z11 159 3 ((Z11 159 3) - 32)) (163 + 2) = S (163 + 2) from funext (fun x => fz 165 x (by omega)), show (w_up Z11 159 3 ((Z11 159 3) - 32)) (163 + 3) = S (163 + 3) from funext (fun x => fz 166 x (by omega)), show (w_up Z11 159 3 ((Z11 159 3) - 32)) (163 + 4) = S (163 + 4) from funext (fun x => fz 167 x (by omega)), show (w_up Z11 159 3 ((Z11 159 3) - 32)) (163 + 10) = S (163 + 10) from funext (fun x => fz 173 x (by omega)), show (w_up Z11 159 3 ((Z11 159 3) - 32)) 163 1 = S 163 1 from fz 163 1 (by first | decide | omega), show (w_up Z11 159 3 ((Z11 159 3) - 32)) 163 7 = S 163 7 from fz 163 7 (by first | decide | omega)]
                      exact z
                    have hLz : wd_L (w_up Z11 159 3 ((Z11 159 3) - 32)) 163 64 := by
                      have z := hLh
                      unfold wd_L at z ⊢
                      rw [show (w_up Z11 159 3 ((Z11 159 3) - 32)) (163 + 10) (-1) = S (163 + 10) (-1) from fz 173 (-1) (by first | decide | omega), show (w_up Z11 159 3 ((Z11 159 3) - 32)) (163 + 3) (-1) = S (163 + 3) (-1) from fz 166 (-1) (by first | decide | omega), show (w_up Z11 159 3 ((Z11 159 3) - 32)) (163 + 2) (-1) = S (163 + 2) (-1) from fz 165 (-1) (by first | decide | omega), show (w_up Z11 159 3 ((Z11 159 3) - 32)) (163 + 4) (-1) = S (163 + 4) (-1) from fz 167 (-1) (by first | decide | omega), show (w_up Z11 159 3 ((Z11 159 3) - 32)) (163 + 5) (-1) = S (163 + 5) (-1) from fz 168 (-1) (by first | decide | omega), show (w_up Z11 159 3 ((Z11 159 3) - 32)) (163 + 6) (-1) = S (163 + 6) (-1) from fz 169 (-1) (by first | decide | omega), show (w_up Z11 159 3 ((Z11 159 3) - 32)) (163 + 1) (-1) = S (163 + 1) (-1) from fz 164 (-1) (by first | decide | omega)]
                      exact z
                    have e7 : (w_up Z11 159 3 ((Z11 159 3) - 32)) 163 7 = S 163 7 := fz 163 7 (by first | decide | omega)
                    have e159 : (w_up Z11 159 3 ((Z11 159 3) - 32)) 159 (-1) = 64 := (fz 159 (-1) (by first | decide | omega)).trans h159
                    refine wa_cv 163 rfl (wy_pr rfl) wt_163 (M2 := fun _ => False) rfl at_XW_wordAt ⟨_, rfl⟩ rfl rfl ⟨(Or.inr ⟨wy_pr rfl, fun q => q⟩), (Or.inl (by omega)), (Or.inr ⟨wy_pr rfl, fun q => q⟩), trivial, trivial, trivial, trivial, trivial⟩ trivial (fun _ _ q => False.elim q) (wa_163 (S := (w_up Z11 159 3 ((Z11 159 3) - 32))) (b := 159) (wy_pr rfl) wt_159 ⟨by omega, by omega, by omega, by omega⟩ hWz hLz) (fun oq30 Sq30 hp31 q30 => ?_)
                    rcases q30 with ⟨rfl, q, rfl, hq⟩
                    show wJ _ _ _ _ _ _ _ _ _ _
                    refine wa_ireturn rfl ?_
                    refine ⟨fz, (gI_up gi13 (by omega) (by omega) (by omega)), (rmR_up rm14 (by omega) (by first | decide | omega)), q, rfl, ?_⟩
                    rcases hq with ⟨y0, y1, y2⟩ | ⟨y0, y1⟩
                    · exact Or.inl ⟨y0, by rw [← e7]; exact y1, (hq1 q).mp y2⟩
                    · exact Or.inr ⟨y0, fun k k0 k1 z => y1 k k0 (by rw [e7]; exact k1) ((hq1 k).mpr z)⟩
          · skip
            exact absurd c9 (by omega)
  · skip
    exfalso; omega
theorem wb81_162 {nm wk : Int} {W : List Int} (hX : w_X xs) (hC : w_CL S) (hI : gI S) (h1 : S 72 1 = 162) (l11 : S 158 11 = nm) (hnm : 0 ≤ nm ∧ nm < S 9 (-1)) (hW2 : wd_at S 2 1024) (hL2 : wd_L S 2 1024) (hwk : S 9 nm = wk) (hwk2 : 0 ≤ wk ∧ wk < S 2 7) (hwq : wqL S W wk) (hWh : wd_at S 163 64) (hLh : wd_L S 163 64) (h159 : S 159 (-1) = 64) : wJ (pe_GA xs) wY0 M (d + 4) t_XL_wordBehind ((pe_at t_XL_wordBehind.bl 0).getD (0, [])).2 [(0, (2, 158)), (1, (2, (-10 - ((127 : Nat) : Int))))] [] S (fun o Z => sc_ag 159 S Z ∧ gI Z ∧ rmR S Z ∧ ∃ q : Int, o = .inl (some (0, q)) ∧ hwW 163 (wnW [103, 101, 116] W) S q) := by
  have hR := rmR_rfl S
  have a1 : 0 ≤ S 4 wk ∧ 0 ≤ S 5 wk ∧ S 5 wk ≤ 60 ∧ S 4 wk + S 5 wk ≤ S 2 1 := hW2.2.2.1 wk hwk2.1 hwk2.2
  have a2 : 0 ≤ S 2 7 ∧ S 2 7 ≤ S 4 (-1) := hW2.1
  have a3 : 0 ≤ S 2 1 ∧ S 2 1 ≤ S 3 (-1) := hW2.2.1
  have l5 : S 5 (-1) = S 4 (-1) := hL2.2.1
  have l8 : S 4 (-1) ≤ 2147483647 := hL2.2.2.2.2.2.2.2.1
  have l9 : S 3 (-1) ≤ 2147483647 := hL2.2.2.2.2.2.2.2.2
  have e5 : S 5 wk = (W.length : Int) := hwq.1
  have e3 : ∀ i : Nat, i < W.length → S 3 (S 4 wk + (i : Int)) = W.getD i 0 := fun i hi => by
    have z := hwq.2 i (by omega)
    rw [show (fun i : Int => W.getD i.toNat 0) (0 + (i : Int)) = W.getD (0 + (i : Int)).toNat 0 from rfl, Int.zero_add, Int.toNat_natCast] at z
    exact z
  refine wa_aload_n (n := 0) rfl ?_
  refine wb_gf4 158 rfl (wy_pr rfl) wt_158 wf_5_0 (v := 72) wl_158_0 ?_
  refine wb_gf4 72 rfl (wy_pr rfl) wt_72 wf_2_0 (v := 2) wl_72_0 ?_
  refine wa_astore_n (n := 2) rfl ?_
  refine wa_aload_n (n := 2) rfl ?_
  refine wb_gf4 2 rfl (wy_pr rfl) wt_2 wf_9_9 (v := 9) wl_2_9 ?_
  refine wa_aload_n (n := 0) rfl ?_
  refine wb_gfi 158 rfl (wy_pr rfl) wt_158 wf_5_11 (v := nm) (l11) (fun r1 => ?_)
  refine wb_iald 9 rfl (wy_pr rfl) wt_9 (n := (S 9 (-1))) (rfl) (by omega) (by omega) (v := wk) (hwk) (fun r2 => ?_)
  refine wa_istore_n (n := 3) rfl ?_
  refine wa_aload_n (n := 2) rfl ?_
  refine wb_gf4 2 rfl (wy_pr rfl) wt_2 wf_9_3 (v := 5) wl_2_3 ?_
  refine wa_iload_n (n := 3) rfl ?_
  refine wb_iald 5 rfl (wy_pr rfl) wt_5 (n := (S 4 (-1))) (l5) (by omega) (by omega) (v := (S 5 wk)) rfl (fun r3 => ?_)
  refine wa_istore (n := 4) rfl ?_
  refine wa_aload_n (n := 1) rfl ?_
  refine wa_sl 127 rfl (wx_127 hX) rfl rfl ?_
  refine wJ_top (show (tx_81.length : Int) = 3 from rfl) ?_
  refine wa_istore (n := 5) rfl ?_
  refine wa_iload (n := 5) rfl ?_
  refine wa_iload (n := 4) rfl ?_
  refine wa_iadd ?_
  refine wa_aload_n (n := 0) rfl ?_
  refine wb_gf4 158 rfl (wy_pr rfl) wt_158 wf_5_15 (v := 159) wl_158_15 ?_
  refine wb_alen 159 rfl (wy_pr rfl) (by rw [wt_159]; rfl) (v := 64) (h159) (fun r4 => ?_)
  refine wa_icmple (w_rg0 (by omega) (by omega)) (w_rg0 (by omega) (by omega)) ⟨_, rfl⟩ (fun c5 => ?_) (fun c5 => ?_)
  · skip
    refine wa_iconst ?_
    refine wa_istore (n := 6) rfl ?_
    refine wa_fall ⟨_, rfl⟩ ?_
    refine wJ_S (L2 := [(0, (2, 158)), (1, (2, (-10 - ((127 : Nat) : Int)))), (2, (2, 2)), (3, (0, wk)), (4, (0, (S 5 wk))), (5, (0, 3)), (6, (0, 0))]) ?_ ⟨rfl, rfl, rfl, rfl, rfl, rfl, rfl, trivial⟩
    refine wa_iload (n := 6) rfl ?_
    refine wa_iload (n := 5) rfl ?_
    refine wa_icmpge (w_rg0 (by omega) (by omega)) (w_rg0 (by omega) (by omega)) ⟨_, rfl⟩ (fun c6 => ?_) (fun c6 => ?_)
    · skip
      exact absurd c6 (by omega)
    · skip
      refine wa_aload_n (n := 0) rfl ?_
      refine wb_gf4 158 rfl (wy_pr rfl) wt_158 wf_5_15 (v := 159) wl_158_15 ?_
      refine wa_iload (n := 6) rfl ?_
      refine wa_aload_n (n := 1) rfl ?_
      refine wa_iload (n := 6) rfl ?_
      refine wa_sc 127 rfl (wx_127 hX) (by first | decide | omega) rfl rfl (by first | decide | omega) (by first | decide | omega) ?_
      refine wJ_top (show (w_tx tx_81 0) = 103 by decide) ?_
      refine wb_i2b_r (wb_i2b_id ⟨(by omega), (by omega)⟩) ?_
      refine wb_bast 159 rfl (wy_pr rfl) wt_159 (n := 64) (h159) (by omega) (by omega) ⟨(by omega), (by omega)⟩ ?_
      refine wa_iinc rfl rfl ?_
      refine wa_goto ⟨_, rfl⟩ ?_
      refine wJ_S (L2 := [(0, (2, 158)), (1, (2, (-10 - ((127 : Nat) : Int)))), (2, (2, 2)), (3, (0, wk)), (4, (0, (S 5 wk))), (5, (0, 3)), (6, (0, 1))]) ?_ ⟨rfl, rfl, rfl, rfl, rfl, rfl, rfl, trivial⟩
      refine wa_iload (n := 6) rfl ?_
      refine wa_iload (n := 5) rfl ?_
      refine wa_icmpge (w_rg0 (by omega) (by omega)) (w_rg0 (by omega) (by omega)) ⟨_, rfl⟩ (fun c7 => ?_) (fun c7 => ?_)
      · skip
        exact absurd c7 (by omega)
      · skip
        refine wa_aload_n (n := 0) rfl ?_
        refine wb_gf4 158 rfl (wy_pr rfl) wt_158 wf_5_15 (v := 159) wl_158_15 ?_
        refine wa_iload (n := 6) rfl ?_
        refine wa_aload_n (n := 1) rfl ?_
        refine wa_iload (n := 6) rfl ?_
        refine wa_sc 127 rfl (wx_127 hX) (by first | decide | omega) rfl rfl (by first | decide | omega) (by first | decide | omega) ?_
        refine wJ_top (show (w_tx tx_81 1) = 101 by decide) ?_
        refine wb_i2b_r (wb_i2b_id ⟨(by omega), (by omega)⟩) ?_
        refine wb_bast 159 rfl (wy_pr rfl) wt_159 (n := 64) ((w_up_at (by decide)).trans (h159)) (by omega) (by omega) ⟨(by omega), (by omega)⟩ ?_
        refine wa_iinc rfl rfl ?_
        refine wa_goto ⟨_, rfl⟩ ?_
        refine wJ_S (L2 := [(0, (2, 158)), (1, (2, (-10 - ((127 : Nat) : Int)))), (2, (2, 2)), (3, (0, wk)), (4, (0, (S 5 wk))), (5, (0, 3)), (6, (0, 2))]) ?_ ⟨rfl, rfl, rfl, rfl, rfl, rfl, rfl, trivial⟩
        refine wa_iload (n := 6) rfl ?_
        refine wa_iload (n := 5) rfl ?_
        refine wa_icmpge (w_rg0 (by omega) (by omega)) (w_rg0 (by omega) (by omega)) ⟨_, rfl⟩ (fun c8 => ?_) (fun c8 => ?_)
        · skip
          exact absurd c8 (by omega)
        · skip
          refine wa_aload_n (n := 0) rfl ?_
          refine wb_gf4 158 rfl (wy_pr rfl) wt_158 wf_5_15 (v := 159) wl_158_15 ?_
          refine wa_iload (n := 6) rfl ?_
          refine wa_aload_n (n := 1) rfl ?_
          refine wa_iload (n := 6) rfl ?_
          refine wa_sc 127 rfl (wx_127 hX) (by first | decide | omega) rfl rfl (by first | decide | omega) (by first | decide | omega) ?_
          refine wJ_top (show (w_tx tx_81 2) = 116 by decide) ?_
          refine wb_i2b_r (wb_i2b_id ⟨(by omega), (by omega)⟩) ?_
          refine wb_bast 159 rfl (wy_pr rfl) wt_159 (n := 64) ((w_up_at (by decide)).trans ((w_up_at (by decide)).trans (h159))) (by omega) (by omega) ⟨(by omega), (by omega)⟩ ?_
          refine wa_iinc rfl rfl ?_
          refine wa_goto ⟨_, rfl⟩ ?_
          refine wJ_S (L2 := [(0, (2, 158)), (1, (2, (-10 - ((127 : Nat) : Int)))), (2, (2, 2)), (3, (0, wk)), (4, (0, (S 5 wk))), (5, (0, 3)), (6, (0, 3))]) ?_ ⟨rfl, rfl, rfl, rfl, rfl, rfl, rfl, trivial⟩
          refine wa_iload (n := 6) rfl ?_
          refine wa_iload (n := 5) rfl ?_
          refine wa_icmpge (w_rg0 (by omega) (by omega)) (w_rg0 (by omega) (by omega)) ⟨_, rfl⟩ (fun c9 => ?_) (fun c9 => ?_)
          · skip
            refine wa_aload_n (n := 2) rfl ?_
            refine wb_gf4 2 rfl (wy_pr rfl) wt_2 wf_9_0 (v := 3) wl_2_0 ?_
            refine wa_aload_n (n := 2) rfl ?_
            refine wb_gf4 2 rfl (wy_pr rfl) wt_2 wf_9_2 (v := 4) wl_2_2 ?_
            refine wa_iload_n (n := 3) rfl ?_
            refine wb_iald 4 rfl (wy_pr rfl) wt_4 (n := (S 4 (-1))) ((w_up_slot (by decide)).trans ((w_up_slot (by decide)).trans ((w_up_slot (by decide)).trans (rfl)))) (by omega) (by omega) (v := (S 4 wk)) ((w_up_slot (by decide)).trans ((w_up_slot (by decide)).trans (w_up_slot (by decide)))) (fun r10 => ?_)
            refine wa_aload_n (n := 0) rfl ?_
            refine wb_gf4 158 rfl (wy_pr rfl) wt_158 wf_5_15 (v := 159) wl_158_15 ?_
            refine wa_iload (n := 5) rfl ?_
            refine wa_iload (n := 4) rfl ?_
            refine wb_acB (S := (w_up (w_up (w_up S 159 0 103) 159 1 101) 159 2 116)) 3 159 rfl rfl (wy_pr rfl) (wy_pr rfl) wt_3 wt_159 (gI_up (gI_up (gI_up hI (by omega) (by omega) (by omega)) (by omega) (by omega) (by omega)) (by omega) (by omega) (by omega)) (rmR_up (rmR_up (rmR_up hR (by omega) (by decide)) (by omega) (by decide)) (by omega) (by decide)) (by decide) (by omega) (by omega) (by omega) (by have e : (w_up (w_up (w_up S 159 0 103) 159 1 101) 159 2 116) 3 (-1) = (S 3 (-1)) := ((w_up_slot (by decide)).trans ((w_up_slot (by decide)).trans ((w_up_slot (by decide)).trans (rfl)))); omega) (by have e : (w_up (w_up (w_up S 159 0 103) 159 1 101) 159 2 116) 159 (-1) = 64 := ((w_up_at (by decide)).trans ((w_up_at (by decide)).trans ((w_up_at (by decide)).trans (h159)))); omega) (by omega) rfl (fun Z11 g12 gi13 rm14 => ?_)
            refine wa_iload (n := 5) rfl ?_
            refine wa_ifle (w_rg0 (by omega) (by omega)) ⟨_, rfl⟩ (fun c15 => ?_) (fun c15 => ?_)
            · skip
              exact absurd c15 (by omega)
            · skip
              refine wa_aload_n (n := 0) rfl ?_
              refine wb_gf4 158 rfl (wy_pr rfl) wt_158 wf_5_15 (v := 159) wl_158_15 ?_
              refine wa_iload (n := 5) rfl ?_
              refine wb_bald 159 rfl (wy_pr rfl) wt_159 (n := 64) (((g12.1 159 (-1) (by omega)).trans ((w_up_at (by decide)).trans ((w_up_at (by decide)).trans ((w_up_at (by decide)).trans (h159)))))) (by omega) (by omega) (v := (Z11 159 3)) rfl (fun r16 => ?_)
              refine wa_cs (M2 := fun _ => False) rfl at_X_isSmall ⟨_, rfl⟩ rfl rfl ⟨(Or.inr ⟨wy_pr rfl, fun q => q⟩), (Or.inl (by omega)), (Or.inr ⟨wy_pr rfl, fun q => q⟩), trivial, trivial, trivial, trivial, trivial⟩ trivial (fun _ _ q => False.elim q) ?_ (fun _ _ _ q => q)
              refine wa_iload_n (n := 0) rfl ?_
              refine wa_bipush (w_rg2 (by omega) (by omega)) ?_
              refine wa_icmplt (w_rg0 (by omega) (by omega)) (w_rg0 (by omega) (by omega)) ⟨_, rfl⟩ (fun c17 => ?_) (fun c17 => ?_)
              · skip
                refine wa_iconst ?_
                refine wa_fall ⟨_, rfl⟩ ?_
                refine wa_zreturn rfl (Or.inl rfl) ?_
                show wJ _ _ _ _ _ _ _ _ _ _
                refine wa_ifeq (w_rg0 (by omega) (by omega)) ⟨_, rfl⟩ (fun c18 => ?_) (fun c18 => ?_)
                · skip
                  refine wa_aload_n (n := 0) rfl ?_
                  refine wb_gf4 158 rfl (wy_pr rfl) wt_158 wf_5_0 (v := 72) wl_158_0 ?_
                  refine wb_gf5 72 rfl (wy_pr rfl) wt_72 wf_2_1 (v := 162) (((g12.1 72 1 (Or.inl (by decide))).trans ((w_up_slot (by decide)).trans ((w_up_slot (by decide)).trans ((w_up_slot (by decide)).trans (h1)))))) (fun r19 => ?_)
                  refine wb_gf4 162 rfl (wy_pr rfl) wt_162 wf_3_0 (v := 163) wl_162_0 ?_
                  refine wa_aload_n (n := 0) rfl ?_
                  refine wb_gf4 158 rfl (wy_pr rfl) wt_158 wf_5_15 (v := 159) wl_158_15 ?_
                  refine wa_iconst ?_
                  refine wa_iload (n := 5) rfl ?_
                  refine wa_iload (n := 4) rfl ?_
                  refine wa_iadd ?_
                  have fz : ∀ (j : Nat) (i : Int), (j ≠ 159 ∨ i < 0) → Z11 j i = S j i := fun j i hj => ((g12.1 j i (by omega)).trans (((w_up_no (by omega)).trans ((w_up_no (by omega)).trans (w_up_no (by omega))))))
                  have hlen : (wnW [103, 101, 116] W).length = 3 + W.length := by unfold wnW; rw [if_neg (by first | decide | omega), List.length_append, capW_l]; rfl
                  have hsg : ∀ i : Nat, i < (wnW [103, 101, 116] W).length → Z11 159 (i : Int) = (wnW [103, 101, 116] W).getD i 0 := by
                    intro i hi
                    rw [hlen] at hi
                    by_cases c0 : i = 0
                    · rw [c0]; exact ((g12.1 159 0 (by omega)).trans (((w_up_at (by first | decide | omega)).trans ((w_up_at (by first | decide | omega)).trans (w_up_same _ _ _ _)))))
                    by_cases c1 : i = 1
                    · rw [c1]; exact ((g12.1 159 1 (by omega)).trans (((w_up_at (by first | decide | omega)).trans (w_up_same _ _ _ _))))
                    by_cases c2 : i = 2
                    · rw [c2]; exact ((g12.1 159 2 (by omega)).trans ((w_up_same _ _ _ _)))
                    obtain ⟨k, hk⟩ : ∃ k : Nat, i = 3 + k := ⟨i - 3, by omega⟩
                    have hr : (wnW [103, 101, 116] W).getD i 0 = (capW W).getD k 0 := by rw [hk]; exact getD_r (a := [103, 101, 116])
                    have z : Z11 159 (3 + (k : Int)) = W.getD k 0 := (g12.2 (k : Int) (by omega) (by omega)).trans ((((w_up_slot (by first | decide | omega)).trans ((w_up_slot (by first | decide | omega)).trans (w_up_slot (by first | decide | omega))))).trans (e3 k (by omega)))
                    have z0 : (i : Int) = 3 + (k : Int) := by omega
                    rw [hr, z0]
                    cases k with
                    | zero =>
                      rw [capW_0 (by omega)]
                      replace z : Z11 159 3 = W.getD 0 0 := z
                      rw [if_neg (by omega)]
                      exact z
                    | succ k =>
                      rw [capW_s]
                      exact z
                  have hq1 : ∀ k : Int, wq (Z11 164) (Z11 165) (Z11 166) (Z11 159) 0 (3 + (S 5 wk)) k ↔ wq (S 164) (S 165) (S 166) (fun i => (wnW [103, 101, 116] W).getD i.toNat 0) 0 ((wnW [103, 101, 116] W).length : Int) k := fun k => by
                    rw [show Z11 164 = S 164 from funext (fun x => fz 164 x (by omega)), show Z11 165 = S 165 from funext (fun x => fz 165 x (by omega)), show Z11 166 = S 166 from funext (fun x => fz 166 x (by omega))]
                    exact wq_tx (by omega) hsg
                  have hWz : wd_at Z11 163 64 := by
                    have z := hWh
                    unfold wd_at at z ⊢
                    rw [show Z11 (163 + 1) = S (163 + 1) from funext (fun x => fz 164 x (by omega)), show Z11 (163 + 2) = S (163 + 2) from funext (fun x => fz 165 x (by omega)), show Z11 (163 + 3) = S (163 + 3) from funext (fun x => fz 166 x (by omega)), show Z11 (163 + 4) = S (163 + 4) from funext (fun x => fz 167 x (by omega)), show Z11 (163 + 10) = S (163 + 10) from funext (fun x => fz 173 x (by omega)), show Z11 163 1 = S 163 1 from fz 163 1 (by first | decide | omega), show Z11 163 7 = S 163 7 from fz 163 7 (by first | decide | omega)]
                    exact z
                  have hLz : wd_L Z11 163 64 := by
                    have z := hLh
                    unfold wd_L at z ⊢
                    rw [show Z11 (163 + 10) (-1) = S (163 + 10) (-1) from fz 173 (-1) (by first | decide | omega), show Z11 (163 + 3) (-1) = S (163 + 3) (-1) from fz 166 (-1) (by first | decide | omega), show Z11 (163 + 2) (-1) = S (163 + 2) (-1) from fz 165 (-1) (by first | decide | omega), show Z11 (163 + 4) (-1) = S (163 + 4) (-1) from fz 167 (-1) (by first | decide | omega), show Z11 (163 + 5) (-1) = S (163 + 5) (-1) from fz 168 (-1) (by first | decide | omega), show Z11 (163 + 6) (-1) = S (163 + 6) (-1) from fz 169 (-1) (by first | decide | omega), show Z11 (163 + 1) (-1) = S (163 + 1) (-1) from fz 164 (-1) (by first | decide | omega)]
                    exact z
                  have e7 : Z11 163 7 = S 163 7 := fz 163 7 (by first | decide | omega)
                  have e159 : Z11 159 (-1) = 64 := (fz 159 (-1) (by first | decide | omega)).trans h159
                  refine wa_cv 163 rfl (wy_pr rfl) wt_163 (M2 := fun _ => False) rfl at_XW_wordAt ⟨_, rfl⟩ rfl rfl ⟨(Or.inr ⟨wy_pr rfl, fun q => q⟩), (Or.inl (by omega)), (Or.inr ⟨wy_pr rfl, fun q => q⟩), trivial, trivial, trivial, trivial, trivial⟩ trivial (fun _ _ q => False.elim q) (wa_163 (S := Z11) (b := 159) (wy_pr rfl) wt_159 ⟨by omega, by omega, by omega, by omega⟩ hWz hLz) (fun oq20 Sq20 hp21 q20 => ?_)
                  rcases q20 with ⟨rfl, q, rfl, hq⟩
                  show wJ _ _ _ _ _ _ _ _ _ _
                  refine wa_ireturn rfl ?_
                  refine ⟨fz, gi13, rm14, q, rfl, ?_⟩
                  rcases hq with ⟨y0, y1, y2⟩ | ⟨y0, y1⟩
                  · exact Or.inl ⟨y0, by rw [← e7]; exact y1, (hq1 q).mp y2⟩
                  · exact Or.inr ⟨y0, fun k k0 k1 z => y1 k k0 (by rw [e7]; exact k1) ((hq1 k).mpr z)⟩
                · skip
                  exact absurd c18 (by omega)
              · skip
                refine wa_iload_n (n := 0) rfl ?_
                refine wa_bipush (w_rg2 (by omega) (by omega)) ?_
                refine wa_icmpgt (w_rg0 (by omega) (by omega)) (w_rg0 (by omega) (by omega)) ⟨_, rfl⟩ (fun c22 => ?_) (fun c22 => ?_)
                · skip
                  refine wa_iconst ?_
                  refine wa_fall ⟨_, rfl⟩ ?_
                  refine wa_zreturn rfl (Or.inl rfl) ?_
                  show wJ _ _ _ _ _ _ _ _ _ _
                  refine wa_ifeq (w_rg0 (by omega) (by omega)) ⟨_, rfl⟩ (fun c23 => ?_) (fun c23 => ?_)
                  · skip
                    refine wa_aload_n (n := 0) rfl ?_
                    refine wb_gf4 158 rfl (wy_pr rfl) wt_158 wf_5_0 (v := 72) wl_158_0 ?_
                    refine wb_gf5 72 rfl (wy_pr rfl) wt_72 wf_2_1 (v := 162) (((g12.1 72 1 (Or.inl (by decide))).trans ((w_up_slot (by decide)).trans ((w_up_slot (by decide)).trans ((w_up_slot (by decide)).trans (h1)))))) (fun r24 => ?_)
                    refine wb_gf4 162 rfl (wy_pr rfl) wt_162 wf_3_0 (v := 163) wl_162_0 ?_
                    refine wa_aload_n (n := 0) rfl ?_
                    refine wb_gf4 158 rfl (wy_pr rfl) wt_158 wf_5_15 (v := 159) wl_158_15 ?_
                    refine wa_iconst ?_
                    refine wa_iload (n := 5) rfl ?_
                    refine wa_iload (n := 4) rfl ?_
                    refine wa_iadd ?_
                    have fz : ∀ (j : Nat) (i : Int), (j ≠ 159 ∨ i < 0) → Z11 j i = S j i := fun j i hj => ((g12.1 j i (by omega)).trans (((w_up_no (by omega)).trans ((w_up_no (by omega)).trans (w_up_no (by omega))))))
                    have hlen : (wnW [103, 101, 116] W).length = 3 + W.length := by unfold wnW; rw [if_neg (by first | decide | omega), List.length_append, capW_l]; rfl
                    have hsg : ∀ i : Nat, i < (wnW [103, 101, 116] W).length → Z11 159 (i : Int) = (wnW [103, 101, 116] W).getD i 0 := by
                      intro i hi
                      rw [hlen] at hi
                      by_cases c0 : i = 0
                      · rw [c0]; exact ((g12.1 159 0 (by omega)).trans (((w_up_at (by first | decide | omega)).trans ((w_up_at (by first | decide | omega)).trans (w_up_same _ _ _ _)))))
                      by_cases c1 : i = 1
                      · rw [c1]; exact ((g12.1 159 1 (by omega)).trans (((w_up_at (by first | decide | omega)).trans (w_up_same _ _ _ _))))
                      by_cases c2 : i = 2
                      · rw [c2]; exact ((g12.1 159 2 (by omega)).trans ((w_up_same _ _ _ _)))
                      obtain ⟨k, hk⟩ : ∃ k : Nat, i = 3 + k := ⟨i - 3, by omega⟩
                      have hr : (wnW [103, 101, 116] W).getD i 0 = (capW W).getD k 0 := by rw [hk]; exact getD_r (a := [103, 101, 116])
                      have z : Z11 159 (3 + (k : Int)) = W.getD k 0 := (g12.2 (k : Int) (by omega) (by omega)).trans ((((w_up_slot (by first | decide | omega)).trans ((w_up_slot (by first | decide | omega)).trans (w_up_slot (by first | decide | omega))))).trans (e3 k (by omega)))
                      have z0 : (i : Int) = 3 + (k : Int) := by omega
                      rw [hr, z0]
                      cases k with
                      | zero =>
                        rw [capW_0 (by omega)]
                        replace z : Z11 159 3 = W.getD 0 0 := z
                        rw [if_neg (by omega)]
                        exact z
                      | succ k =>
                        rw [capW_s]
                        exact z
                    have hq1 : ∀ k : Int, wq (Z11 164) (Z11 165) (Z11 166) (Z11 159) 0 (3 + (S 5 wk)) k ↔ wq (S 164) (S 165) (S 166) (fun i => (wnW [103, 101, 116] W).getD i.toNat 0) 0 ((wnW [103, 101, 116] W).length : Int) k := fun k => by
                      rw [show Z11 164 = S 164 from funext (fun x => fz 164 x (by omega)), show Z11 165 = S 165 from funext (fun x => fz 165 x (by omega)), show Z11 166 = S 166 from funext (fun x => fz 166 x (by omega))]
                      exact wq_tx (by omega) hsg
                    have hWz : wd_at Z11 163 64 := by
                      have z := hWh
                      unfold wd_at at z ⊢
                      rw [show Z11 (163 + 1) = S (163 + 1) from funext (fun x => fz 164 x (by omega)), show Z11 (163 + 2) = S (163 + 2) from funext (fun x => fz 165 x (by omega)), show Z11 (163 + 3) = S (163 + 3) from funext (fun x => fz 166 x (by omega)), show Z11 (163 + 4) = S (163 + 4) from funext (fun x => fz 167 x (by omega)), show Z11 (163 + 10) = S (163 + 10) from funext (fun x => fz 173 x (by omega)), show Z11 163 1 = S 163 1 from fz 163 1 (by first | decide | omega), show Z11 163 7 = S 163 7 from fz 163 7 (by first | decide | omega)]
                      exact z
                    have hLz : wd_L Z11 163 64 := by
                      have z := hLh
                      unfold wd_L at z ⊢
                      rw [show Z11 (163 + 10) (-1) = S (163 + 10) (-1) from fz 173 (-1) (by first | decide | omega), show Z11 (163 + 3) (-1) = S (163 + 3) (-1) from fz 166 (-1) (by first | decide | omega), show Z11 (163 + 2) (-1) = S (163 + 2) (-1) from fz 165 (-1) (by first | decide | omega), show Z11 (163 + 4) (-1) = S (163 + 4) (-1) from fz 167 (-1) (by first | decide | omega), show Z11 (163 + 5) (-1) = S (163 + 5) (-1) from fz 168 (-1) (by first | decide | omega), show Z11 (163 + 6) (-1) = S (163 + 6) (-1) from fz 169 (-1) (by first | decide | omega), show Z11 (163 + 1) (-1) = S (163 + 1) (-1) from fz 164 (-1) (by first | decide | omega)]
                      exact z
                    have e7 : Z11 163 7 = S 163 7 := fz 163 7 (by first | decide | omega)
                    have e159 : Z11 159 (-1) = 64 := (fz 159 (-1) (by first | decide | omega)).trans h159
                    refine wa_cv 163 rfl (wy_pr rfl) wt_163 (M2 := fun _ => False) rfl at_XW_wordAt ⟨_, rfl⟩ rfl rfl ⟨(Or.inr ⟨wy_pr rfl, fun q => q⟩), (Or.inl (by omega)), (Or.inr ⟨wy_pr rfl, fun q => q⟩), trivial, trivial, trivial, trivial, trivial⟩ trivial (fun _ _ q => False.elim q) (wa_163 (S := Z11) (b := 159) (wy_pr rfl) wt_159 ⟨by omega, by omega, by omega, by omega⟩ hWz hLz) (fun oq25 Sq25 hp26 q25 => ?_)
                    rcases q25 with ⟨rfl, q, rfl, hq⟩
                    show wJ _ _ _ _ _ _ _ _ _ _
                    refine wa_ireturn rfl ?_
                    refine ⟨fz, gi13, rm14, q, rfl, ?_⟩
                    rcases hq with ⟨y0, y1, y2⟩ | ⟨y0, y1⟩
                    · exact Or.inl ⟨y0, by rw [← e7]; exact y1, (hq1 q).mp y2⟩
                    · exact Or.inr ⟨y0, fun k k0 k1 z => y1 k k0 (by rw [e7]; exact k1) ((hq1 k).mpr z)⟩
                  · skip
                    exact absurd c23 (by omega)
                · skip
                  refine wa_iconst ?_
                  refine wa_goto ⟨_, rfl⟩ ?_
                  refine wa_zreturn rfl (Or.inr rfl) ?_
                  show wJ _ _ _ _ _ _ _ _ _ _
                  refine wa_ifeq (w_rg0 (by omega) (by omega)) ⟨_, rfl⟩ (fun c27 => ?_) (fun c27 => ?_)
                  · skip
                    exact absurd c27 (by omega)
                  · skip
                    refine wa_aload_n (n := 0) rfl ?_
                    refine wb_gf4 158 rfl (wy_pr rfl) wt_158 wf_5_15 (v := 159) wl_158_15 ?_
                    refine wa_iload (n := 5) rfl ?_
                    refine wa_dup2 (by decide) (by decide) ?_
                    refine wb_bald 159 rfl (wy_pr rfl) wt_159 (n := 64) (((g12.1 159 (-1) (by omega)).trans ((w_up_at (by decide)).trans ((w_up_at (by decide)).trans ((w_up_at (by decide)).trans (h159)))))) (by omega) (by omega) (v := (Z11 159 3)) rfl (fun r28 => ?_)
                    refine wa_bipush (w_rg2 (by omega) (by omega)) ?_
                    refine wa_isub ?_
                    refine wb_i2b_r (wb_i2b_id ⟨(by omega), (by omega)⟩) ?_
                    refine wb_bast 159 rfl (wy_pr rfl) wt_159 (n := 64) (((g12.1 159 (-1) (by omega)).trans ((w_up_at (by decide)).trans ((w_up_at (by decide)).trans ((w_up_at (by decide)).trans (h159)))))) (by omega) (by omega) ⟨(by omega), (by omega)⟩ ?_
                    refine wa_fall ⟨_, rfl⟩ ?_
                    refine wa_aload_n (n := 0) rfl ?_
                    refine wb_gf4 158 rfl (wy_pr rfl) wt_158 wf_5_0 (v := 72) wl_158_0 ?_
                    refine wb_gf5 72 rfl (wy_pr rfl) wt_72 wf_2_1 (v := 162) ((w_up_slot (by decide)).trans (((g12.1 72 1 (Or.inl (by decide))).trans ((w_up_slot (by decide)).trans ((w_up_slot (by decide)).trans ((w_up_slot (by decide)).trans (h1))))))) (fun r29 => ?_)
                    refine wb_gf4 162 rfl (wy_pr rfl) wt_162 wf_3_0 (v := 163) wl_162_0 ?_
                    refine wa_aload_n (n := 0) rfl ?_
                    refine wb_gf4 158 rfl (wy_pr rfl) wt_158 wf_5_15 (v := 159) wl_158_15 ?_
                    refine wa_iconst ?_
                    refine wa_iload (n := 5) rfl ?_
                    refine wa_iload (n := 4) rfl ?_
                    refine wa_iadd ?_
                    have fz : ∀ (j : Nat) (i : Int), (j ≠ 159 ∨ i < 0) → (w_up Z11 159 3 ((Z11 159 3) - 32)) j i = S j i := fun j i hj => (w_up_no (by omega)).trans ((g12.1 j i (by omega)).trans (((w_up_no (by omega)).trans ((w_up_no (by omega)).trans (w_up_no (by omega))))))
                    have hlen : (wnW [103, 101, 116] W).length = 3 + W.length := by unfold wnW; rw [if_neg (by first | decide | omega), List.length_append, capW_l]; rfl
                    have hsg : ∀ i : Nat, i < (wnW [103, 101, 116] W).length → (w_up Z11 159 3 ((Z11 159 3) - 32)) 159 (i : Int) = (wnW [103, 101, 116] W).getD i 0 := by
                      intro i hi
                      rw [hlen] at hi
                      by_cases c0 : i = 0
                      · rw [c0]; exact (w_up_at (by omega)).trans ((g12.1 159 0 (by omega)).trans (((w_up_at (by first | decide | omega)).trans ((w_up_at (by first | decide | omega)).trans (w_up_same _ _ _ _)))))
                      by_cases c1 : i = 1
                      · rw [c1]; exact (w_up_at (by omega)).trans ((g12.1 159 1 (by omega)).trans (((w_up_at (by first | decide | omega)).trans (w_up_same _ _ _ _))))
                      by_cases c2 : i = 2
                      · rw [c2]; exact (w_up_at (by omega)).trans ((g12.1 159 2 (by omega)).trans ((w_up_same _ _ _ _)))
                      obtain ⟨k, hk⟩ : ∃ k : Nat, i = 3 + k := ⟨i - 3, by omega⟩
                      have hr : (wnW [103, 101, 116] W).getD i 0 = (capW W).getD k 0 := by rw [hk]; exact getD_r (a := [103, 101, 116])
                      have z : Z11 159 (3 + (k : Int)) = W.getD k 0 := (g12.2 (k : Int) (by omega) (by omega)).trans ((((w_up_slot (by first | decide | omega)).trans ((w_up_slot (by first | decide | omega)).trans (w_up_slot (by first | decide | omega))))).trans (e3 k (by omega)))
                      have z0 : (i : Int) = 3 + (k : Int) := by omega
                      rw [hr, z0]
                      cases k with
                      | zero =>
                        rw [capW_0 (by omega)]
                        replace z : Z11 159 3 = W.getD 0 0 := z
                        rw [if_pos (by omega)]
                        refine (w_up_same _ _ _ _).trans ?_
                        omega
                      | succ k =>
                        rw [capW_s]
                        exact (w_up_at (by omega)).trans z
                    have hq1 : ∀ k : Int, wq ((w_up Z11 159 3 ((Z11 159 3) - 32)) 164) ((w_up Z11 159 3 ((Z11 159 3) - 32)) 165) ((w_up Z11 159 3 ((Z11 159 3) - 32)) 166) ((w_up Z11 159 3 ((Z11 159 3) - 32)) 159) 0 (3 + (S 5 wk)) k ↔ wq (S 164) (S 165) (S 166) (fun i => (wnW [103, 101, 116] W).getD i.toNat 0) 0 ((wnW [103, 101, 116] W).length : Int) k := fun k => by
                      rw [show (w_up Z11 159 3 ((Z11 159 3) - 32)) 164 = S 164 from funext (fun x => fz 164 x (by omega)), show (w_up Z11 159 3 ((Z11 159 3) - 32)) 165 = S 165 from funext (fun x => fz 165 x (by omega)), show (w_up Z11 159 3 ((Z11 159 3) - 32)) 166 = S 166 from funext (fun x => fz 166 x (by omega))]
                      exact wq_tx (by omega) hsg
                    have hWz : wd_at (w_up Z11 159 3 ((Z11 159 3) - 32)) 163 64 := by
                      have z := hWh
                      unfold wd_at at z ⊢
                      rw [show (w_up Z11 159 3 ((Z11 159 3) - 32)) (163 + 1) = S (163 + 1) from funext (fun x => fz 164 x (by omega)), show (w_up Z11 159 3 ((Z11 159 3) - 32)) (163 + 2) = S (163 + 2) from funext (fun x => fz 165 x (by omega)), show (w_up Z11 159 3 ((Z11 159 3) - 32)) (163 + 3) = S (163 + 3) from funext (fun x => fz 166 x (by omega)), show (w_up Z11 159 3 ((Z11 159 3) - 32)) (163 + 4) = S (163 + 4) from funext (fun x => fz 167 x (by omega)), show (w_up Z11 159 3 ((Z11 159 3) - 32)) (163 + 10) = S (163 + 10) from funext (fun x => fz 173 x (by omega)), show (w_up Z11 159 3 ((Z11 159 3) - 32)) 163 1 = S 163 1 from fz 163 1 (by first | decide | omega), show (w_up Z11 159 3 ((Z11 159 3) - 32)) 163 7 = S 163 7 from fz 163 7 (by first | decide | omega)]
                      exact z
                    have hLz : wd_L (w_up Z11 159 3 ((Z11 159 3) - 32)) 163 64 := by
                      have z := hLh
                      unfold wd_L at z ⊢
                      rw [show (w_up Z11 159 3 ((Z11 159 3) - 32)) (163 + 10) (-1) = S (163 + 10) (-1) from fz 173 (-1) (by first | decide | omega), show (w_up Z11 159 3 ((Z11 159 3) - 32)) (163 + 3) (-1) = S (163 + 3) (-1) from fz 166 (-1) (by first | decide | omega), show (w_up Z11 159 3 ((Z11 159 3) - 32)) (163 + 2) (-1) = S (163 + 2) (-1) from fz 165 (-1) (by first | decide | omega), show (w_up Z11 159 3 ((Z11 159 3) - 32)) (163 + 4) (-1) = S (163 + 4) (-1) from fz 167 (-1) (by first | decide | omega), show (w_up Z11 159 3 ((Z11 159 3) - 32)) (163 + 5) (-1) = S (163 + 5) (-1) from fz 168 (-1) (by first | decide | omega), show (w_up Z11 159 3 ((Z11 159 3) - 32)) (163 + 6) (-1) = S (163 + 6) (-1) from fz 169 (-1) (by first | decide | omega), show (w_up Z11 159 3 ((Z11 159 3) - 32)) (163 + 1) (-1) = S (163 + 1) (-1) from fz 164 (-1) (by first | decide | omega)]
                      exact z
                    have e7 : (w_up Z11 159 3 ((Z11 159 3) - 32)) 163 7 = S 163 7 := fz 163 7 (by first | decide | omega)
                    have e159 : (w_up Z11 159 3 ((Z11 159 3) - 32)) 159 (-1) = 64 := (fz 159 (-1) (by first | decide | omega)).trans h159
                    refine wa_cv 163 rfl (wy_pr rfl) wt_163 (M2 := fun _ => False) rfl at_XW_wordAt ⟨_, rfl⟩ rfl rfl ⟨(Or.inr ⟨wy_pr rfl, fun q => q⟩), (Or.inl (by omega)), (Or.inr ⟨wy_pr rfl, fun q => q⟩), trivial, trivial, trivial, trivial, trivial⟩ trivial (fun _ _ q => False.elim q) (wa_163 (S := (w_up Z11 159 3 ((Z11 159 3) - 32))) (b := 159) (wy_pr rfl) wt_159 ⟨by omega, by omega, by omega, by omega⟩ hWz hLz) (fun oq30 Sq30 hp31 q30 => ?_)
                    rcases q30 with ⟨rfl, q, rfl, hq⟩
                    show wJ _ _ _ _ _ _ _ _ _ _
                    refine wa_ireturn rfl ?_
                    refine ⟨fz, (gI_up gi13 (by omega) (by omega) (by omega)), (rmR_up rm14 (by omega) (by first | decide | omega)), q, rfl, ?_⟩
                    rcases hq with ⟨y0, y1, y2⟩ | ⟨y0, y1⟩
                    · exact Or.inl ⟨y0, by rw [← e7]; exact y1, (hq1 q).mp y2⟩
                    · exact Or.inr ⟨y0, fun k k0 k1 z => y1 k k0 (by rw [e7]; exact k1) ((hq1 k).mpr z)⟩
          · skip
            exact absurd c9 (by omega)
  · skip
    exfalso; omega
theorem wb83_162 {nm wk : Int} {W : List Int} (hX : w_X xs) (hC : w_CL S) (hI : gI S) (h1 : S 72 1 = 162) (l11 : S 158 11 = nm) (hnm : 0 ≤ nm ∧ nm < S 9 (-1)) (hW2 : wd_at S 2 1024) (hL2 : wd_L S 2 1024) (hwk : S 9 nm = wk) (hwk2 : 0 ≤ wk ∧ wk < S 2 7) (hwq : wqL S W wk) (hWh : wd_at S 163 64) (hLh : wd_L S 163 64) (h159 : S 159 (-1) = 64) : wJ (pe_GA xs) wY0 M (d + 4) t_XL_wordBehind ((pe_at t_XL_wordBehind.bl 0).getD (0, [])).2 [(0, (2, 158)), (1, (2, (-10 - ((129 : Nat) : Int))))] [] S (fun o Z => sc_ag 159 S Z ∧ gI Z ∧ rmR S Z ∧ ∃ q : Int, o = .inl (some (0, q)) ∧ hwW 163 (wnW [105, 115] W) S q) := by
  have hR := rmR_rfl S
  have a1 : 0 ≤ S 4 wk ∧ 0 ≤ S 5 wk ∧ S 5 wk ≤ 60 ∧ S 4 wk + S 5 wk ≤ S 2 1 := hW2.2.2.1 wk hwk2.1 hwk2.2
  have a2 : 0 ≤ S 2 7 ∧ S 2 7 ≤ S 4 (-1) := hW2.1
  have a3 : 0 ≤ S 2 1 ∧ S 2 1 ≤ S 3 (-1) := hW2.2.1
  have l5 : S 5 (-1) = S 4 (-1) := hL2.2.1
  have l8 : S 4 (-1) ≤ 2147483647 := hL2.2.2.2.2.2.2.2.1
  have l9 : S 3 (-1) ≤ 2147483647 := hL2.2.2.2.2.2.2.2.2
  have e5 : S 5 wk = (W.length : Int) := hwq.1
  have e3 : ∀ i : Nat, i < W.length → S 3 (S 4 wk + (i : Int)) = W.getD i 0 := fun i hi => by
    have z := hwq.2 i (by omega)
    rw [show (fun i : Int => W.getD i.toNat 0) (0 + (i : Int)) = W.getD (0 + (i : Int)).toNat 0 from rfl, Int.zero_add, Int.toNat_natCast] at z
    exact z
  refine wa_aload_n (n := 0) rfl ?_
  refine wb_gf4 158 rfl (wy_pr rfl) wt_158 wf_5_0 (v := 72) wl_158_0 ?_
  refine wb_gf4 72 rfl (wy_pr rfl) wt_72 wf_2_0 (v := 2) wl_72_0 ?_
  refine wa_astore_n (n := 2) rfl ?_
  refine wa_aload_n (n := 2) rfl ?_
  refine wb_gf4 2 rfl (wy_pr rfl) wt_2 wf_9_9 (v := 9) wl_2_9 ?_
  refine wa_aload_n (n := 0) rfl ?_
  refine wb_gfi 158 rfl (wy_pr rfl) wt_158 wf_5_11 (v := nm) (l11) (fun r1 => ?_)
  refine wb_iald 9 rfl (wy_pr rfl) wt_9 (n := (S 9 (-1))) (rfl) (by omega) (by omega) (v := wk) (hwk) (fun r2 => ?_)
  refine wa_istore_n (n := 3) rfl ?_
  refine wa_aload_n (n := 2) rfl ?_
  refine wb_gf4 2 rfl (wy_pr rfl) wt_2 wf_9_3 (v := 5) wl_2_3 ?_
  refine wa_iload_n (n := 3) rfl ?_
  refine wb_iald 5 rfl (wy_pr rfl) wt_5 (n := (S 4 (-1))) (l5) (by omega) (by omega) (v := (S 5 wk)) rfl (fun r3 => ?_)
  refine wa_istore (n := 4) rfl ?_
  refine wa_aload_n (n := 1) rfl ?_
  refine wa_sl 129 rfl (wx_129 hX) rfl rfl ?_
  refine wJ_top (show (tx_83.length : Int) = 2 from rfl) ?_
  refine wa_istore (n := 5) rfl ?_
  refine wa_iload (n := 5) rfl ?_
  refine wa_iload (n := 4) rfl ?_
  refine wa_iadd ?_
  refine wa_aload_n (n := 0) rfl ?_
  refine wb_gf4 158 rfl (wy_pr rfl) wt_158 wf_5_15 (v := 159) wl_158_15 ?_
  refine wb_alen 159 rfl (wy_pr rfl) (by rw [wt_159]; rfl) (v := 64) (h159) (fun r4 => ?_)
  refine wa_icmple (w_rg0 (by omega) (by omega)) (w_rg0 (by omega) (by omega)) ⟨_, rfl⟩ (fun c5 => ?_) (fun c5 => ?_)
  · skip
    refine wa_iconst ?_
    refine wa_istore (n := 6) rfl ?_
    refine wa_fall ⟨_, rfl⟩ ?_
    refine wJ_S (L2 := [(0, (2, 158)), (1, (2, (-10 - ((129 : Nat) : Int)))), (2, (2, 2)), (3, (0, wk)), (4, (0, (S 5 wk))), (5, (0, 2)), (6, (0, 0))]) ?_ ⟨rfl, rfl, rfl, rfl, rfl, rfl, rfl, trivial⟩
    refine wa_iload (n := 6) rfl ?_
    refine wa_iload (n := 5) rfl ?_
    refine wa_icmpge (w_rg0 (by omega) (by omega)) (w_rg0 (by omega) (by omega)) ⟨_, rfl⟩ (fun c6 => ?_) (fun c6 => ?_)
    · skip
      exact absurd c6 (by omega)
    · skip
      refine wa_aload_n (n := 0) rfl ?_
      refine wb_gf4 158 rfl (wy_pr rfl) wt_158 wf_5_15 (v := 159) wl_158_15 ?_
      refine wa_iload (n := 6) rfl ?_
      refine wa_aload_n (n := 1) rfl ?_
      refine wa_iload (n := 6) rfl ?_
      refine wa_sc 129 rfl (wx_129 hX) (by first | decide | omega) rfl rfl (by first | decide | omega) (by first | decide | omega) ?_
      refine wJ_top (show (w_tx tx_83 0) = 105 by decide) ?_
      refine wb_i2b_r (wb_i2b_id ⟨(by omega), (by omega)⟩) ?_
      refine wb_bast 159 rfl (wy_pr rfl) wt_159 (n := 64) (h159) (by omega) (by omega) ⟨(by omega), (by omega)⟩ ?_
      refine wa_iinc rfl rfl ?_
      refine wa_goto ⟨_, rfl⟩ ?_
      refine wJ_S (L2 := [(0, (2, 158)), (1, (2, (-10 - ((129 : Nat) : Int)))), (2, (2, 2)), (3, (0, wk)), (4, (0, (S 5 wk))), (5, (0, 2)), (6, (0, 1))]) ?_ ⟨rfl, rfl, rfl, rfl, rfl, rfl, rfl, trivial⟩
      refine wa_iload (n := 6) rfl ?_
      refine wa_iload (n := 5) rfl ?_
      refine wa_icmpge (w_rg0 (by omega) (by omega)) (w_rg0 (by omega) (by omega)) ⟨_, rfl⟩ (fun c7 => ?_) (fun c7 => ?_)
      · skip
        exact absurd c7 (by omega)
      · skip
        refine wa_aload_n (n := 0) rfl ?_
        refine wb_gf4 158 rfl (wy_pr rfl) wt_158 wf_5_15 (v := 159) wl_158_15 ?_
        refine wa_iload (n := 6) rfl ?_
        refine wa_aload_n (n := 1) rfl ?_
        refine wa_iload (n := 6) rfl ?_
        refine wa_sc 129 rfl (wx_129 hX) (by first | decide | omega) rfl rfl (by first | decide | omega) (by first | decide | omega) ?_
        refine wJ_top (show (w_tx tx_83 1) = 115 by decide) ?_
        refine wb_i2b_r (wb_i2b_id ⟨(by omega), (by omega)⟩) ?_
        refine wb_bast 159 rfl (wy_pr rfl) wt_159 (n := 64) ((w_up_at (by decide)).trans (h159)) (by omega) (by omega) ⟨(by omega), (by omega)⟩ ?_
        refine wa_iinc rfl rfl ?_
        refine wa_goto ⟨_, rfl⟩ ?_
        refine wJ_S (L2 := [(0, (2, 158)), (1, (2, (-10 - ((129 : Nat) : Int)))), (2, (2, 2)), (3, (0, wk)), (4, (0, (S 5 wk))), (5, (0, 2)), (6, (0, 2))]) ?_ ⟨rfl, rfl, rfl, rfl, rfl, rfl, rfl, trivial⟩
        refine wa_iload (n := 6) rfl ?_
        refine wa_iload (n := 5) rfl ?_
        refine wa_icmpge (w_rg0 (by omega) (by omega)) (w_rg0 (by omega) (by omega)) ⟨_, rfl⟩ (fun c8 => ?_) (fun c8 => ?_)
        · skip
          refine wa_aload_n (n := 2) rfl ?_
          refine wb_gf4 2 rfl (wy_pr rfl) wt_2 wf_9_0 (v := 3) wl_2_0 ?_
          refine wa_aload_n (n := 2) rfl ?_
          refine wb_gf4 2 rfl (wy_pr rfl) wt_2 wf_9_2 (v := 4) wl_2_2 ?_
          refine wa_iload_n (n := 3) rfl ?_
          refine wb_iald 4 rfl (wy_pr rfl) wt_4 (n := (S 4 (-1))) ((w_up_slot (by decide)).trans ((w_up_slot (by decide)).trans (rfl))) (by omega) (by omega) (v := (S 4 wk)) ((w_up_slot (by decide)).trans (w_up_slot (by decide))) (fun r9 => ?_)
          refine wa_aload_n (n := 0) rfl ?_
          refine wb_gf4 158 rfl (wy_pr rfl) wt_158 wf_5_15 (v := 159) wl_158_15 ?_
          refine wa_iload (n := 5) rfl ?_
          refine wa_iload (n := 4) rfl ?_
          refine wb_acB (S := (w_up (w_up S 159 0 105) 159 1 115)) 3 159 rfl rfl (wy_pr rfl) (wy_pr rfl) wt_3 wt_159 (gI_up (gI_up hI (by omega) (by omega) (by omega)) (by omega) (by omega) (by omega)) (rmR_up (rmR_up hR (by omega) (by decide)) (by omega) (by decide)) (by decide) (by omega) (by omega) (by omega) (by have e : (w_up (w_up S 159 0 105) 159 1 115) 3 (-1) = (S 3 (-1)) := ((w_up_slot (by decide)).trans ((w_up_slot (by decide)).trans (rfl))); omega) (by have e : (w_up (w_up S 159 0 105) 159 1 115) 159 (-1) = 64 := ((w_up_at (by decide)).trans ((w_up_at (by decide)).trans (h159))); omega) (by omega) rfl (fun Z10 g11 gi12 rm13 => ?_)
          refine wa_iload (n := 5) rfl ?_
          refine wa_ifle (w_rg0 (by omega) (by omega)) ⟨_, rfl⟩ (fun c14 => ?_) (fun c14 => ?_)
          · skip
            exact absurd c14 (by omega)
          · skip
            refine wa_aload_n (n := 0) rfl ?_
            refine wb_gf4 158 rfl (wy_pr rfl) wt_158 wf_5_15 (v := 159) wl_158_15 ?_
            refine wa_iload (n := 5) rfl ?_
            refine wb_bald 159 rfl (wy_pr rfl) wt_159 (n := 64) (((g11.1 159 (-1) (by omega)).trans ((w_up_at (by decide)).trans ((w_up_at (by decide)).trans (h159))))) (by omega) (by omega) (v := (Z10 159 2)) rfl (fun r15 => ?_)
            refine wa_cs (M2 := fun _ => False) rfl at_X_isSmall ⟨_, rfl⟩ rfl rfl ⟨(Or.inr ⟨wy_pr rfl, fun q => q⟩), (Or.inl (by omega)), (Or.inr ⟨wy_pr rfl, fun q => q⟩), trivial, trivial, trivial, trivial, trivial⟩ trivial (fun _ _ q => False.elim q) ?_ (fun _ _ _ q => q)
            refine wa_iload_n (n := 0) rfl ?_
            refine wa_bipush (w_rg2 (by omega) (by omega)) ?_
            refine wa_icmplt (w_rg0 (by omega) (by omega)) (w_rg0 (by omega) (by omega)) ⟨_, rfl⟩ (fun c16 => ?_) (fun c16 => ?_)
            · skip
              refine wa_iconst ?_
              refine wa_fall ⟨_, rfl⟩ ?_
              refine wa_zreturn rfl (Or.inl rfl) ?_
              show wJ _ _ _ _ _ _ _ _ _ _
              refine wa_ifeq (w_rg0 (by omega) (by omega)) ⟨_, rfl⟩ (fun c17 => ?_) (fun c17 => ?_)
              · skip
                refine wa_aload_n (n := 0) rfl ?_
                refine wb_gf4 158 rfl (wy_pr rfl) wt_158 wf_5_0 (v := 72) wl_158_0 ?_
                refine wb_gf5 72 rfl (wy_pr rfl) wt_72 wf_2_1 (v := 162) (((g11.1 72 1 (Or.inl (by decide))).trans ((w_up_slot (by decide)).trans ((w_up_slot (by decide)).trans (h1))))) (fun r18 => ?_)
                refine wb_gf4 162 rfl (wy_pr rfl) wt_162 wf_3_0 (v := 163) wl_162_0 ?_
                refine wa_aload_n (n := 0) rfl ?_
                refine wb_gf4 158 rfl (wy_pr rfl) wt_158 wf_5_15 (v := 159) wl_158_15 ?_
                refine wa_iconst ?_
                refine wa_iload (n := 5) rfl ?_
                refine wa_iload (n := 4) rfl ?_
                refine wa_iadd ?_
                have fz : ∀ (j : Nat) (i : Int), (j ≠ 159 ∨ i < 0) → Z10 j i = S j i := fun j i hj => ((g11.1 j i (by omega)).trans (((w_up_no (by omega)).trans (w_up_no (by omega)))))
                have hlen : (wnW [105, 115] W).length = 2 + W.length := by unfold wnW; rw [if_neg (by first | decide | omega), List.length_append, capW_l]; rfl
                have hsg : ∀ i : Nat, i < (wnW [105, 115] W).length → Z10 159 (i : Int) = (wnW [105, 115] W).getD i 0 := by
                  intro i hi
                  rw [hlen] at hi
                  by_cases c0 : i = 0
                  · rw [c0]; exact ((g11.1 159 0 (by omega)).trans (((w_up_at (by first | decide | omega)).trans (w_up_same _ _ _ _))))
                  by_cases c1 : i = 1
                  · rw [c1]; exact ((g11.1 159 1 (by omega)).trans ((w_up_same _ _ _ _)))
                  obtain ⟨k, hk⟩ : ∃ k : Nat, i = 2 + k := ⟨i - 2, by omega⟩
                  have hr : (wnW [105, 115] W).getD i 0 = (capW W).getD k 0 := by rw [hk]; exact getD_r (a := [105, 115])
                  have z : Z10 159 (2 + (k : Int)) = W.getD k 0 := (g11.2 (k : Int) (by omega) (by omega)).trans ((((w_up_slot (by first | decide | omega)).trans (w_up_slot (by first | decide | omega)))).trans (e3 k (by omega)))
                  have z0 : (i : Int) = 2 + (k : Int) := by omega
                  rw [hr, z0]
                  cases k with
                  | zero =>
                    rw [capW_0 (by omega)]
                    replace z : Z10 159 2 = W.getD 0 0 := z
                    rw [if_neg (by omega)]
                    exact z
                  | succ k =>
                    rw [capW_s]
                    exact z
                have hq1 : ∀ k : Int, wq (Z10 164) (Z10 165) (Z10 166) (Z10 159) 0 (2 + (S 5 wk)) k ↔ wq (S 164) (S 165) (S 166) (fun i => (wnW [105, 115] W).getD i.toNat 0) 0 ((wnW [105, 115] W).length : Int) k := fun k => by
                  rw [show Z10 164 = S 164 from funext (fun x => fz 164 x (by omega)), show Z10 165 = S 165 from funext (fun x => fz 165 x (by omega)), show Z10 166 = S 166 from funext (fun x => fz 166 x (by omega))]
                  exact wq_tx (by omega) hsg
                have hWz : wd_at Z10 163 64 := by
                  have z := hWh
                  unfold wd_at at z ⊢
                  rw [show Z10 (163 + 1) = S (163 + 1) from funext (fun x => fz 164 x (by omega)), show Z10 (163 + 2) = S (163 + 2) from funext (fun x => fz 165 x (by omega)), show Z10 (163 + 3) = S (163 + 3) from funext (fun x => fz 166 x (by omega)), show Z10 (163 + 4) = S (163 + 4) from funext (fun x => fz 167 x (by omega)), show Z10 (163 + 10) = S (163 + 10) from funext (fun x => fz 173 x (by omega)), show Z10 163 1 = S 163 1 from fz 163 1 (by first | decide | omega), show Z10 163 7 = S 163 7 from fz 163 7 (by first | decide | omega)]
                  exact z
                have hLz : wd_L Z10 163 64 := by
                  have z := hLh
                  unfold wd_L at z ⊢
                  rw [show Z10 (163 + 10) (-1) = S (163 + 10) (-1) from fz 173 (-1) (by first | decide | omega), show Z10 (163 + 3) (-1) = S (163 + 3) (-1) from fz 166 (-1) (by first | decide | omega), show Z10 (163 + 2) (-1) = S (163 + 2) (-1) from fz 165 (-1) (by first | decide | omega), show Z10 (163 + 4) (-1) = S (163 + 4) (-1) from fz 167 (-1) (by first | decide | omega), show Z10 (163 + 5) (-1) = S (163 + 5) (-1) from fz 168 (-1) (by first | decide | omega), show Z10 (163 + 6) (-1) = S (163 + 6) (-1) from fz 169 (-1) (by first | decide | omega), show Z10 (163 + 1) (-1) = S (163 + 1) (-1) from fz 164 (-1) (by first | decide | omega)]
                  exact z
                have e7 : Z10 163 7 = S 163 7 := fz 163 7 (by first | decide | omega)
                have e159 : Z10 159 (-1) = 64 := (fz 159 (-1) (by first | decide | omega)).trans h159
                refine wa_cv 163 rfl (wy_pr rfl) wt_163 (M2 := fun _ => False) rfl at_XW_wordAt ⟨_, rfl⟩ rfl rfl ⟨(Or.inr ⟨wy_pr rfl, fun q => q⟩), (Or.inl (by omega)), (Or.inr ⟨wy_pr rfl, fun q => q⟩), trivial, trivial, trivial, trivial, trivial⟩ trivial (fun _ _ q => False.elim q) (wa_163 (S := Z10) (b := 159) (wy_pr rfl) wt_159 ⟨by omega, by omega, by omega, by omega⟩ hWz hLz) (fun oq19 Sq19 hp20 q19 => ?_)
                rcases q19 with ⟨rfl, q, rfl, hq⟩
                show wJ _ _ _ _ _ _ _ _ _ _
                refine wa_ireturn rfl ?_
                refine ⟨fz, gi12, rm13, q, rfl, ?_⟩
                rcases hq with ⟨y0, y1, y2⟩ | ⟨y0, y1⟩
                · exact Or.inl ⟨y0, by rw [← e7]; exact y1, (hq1 q).mp y2⟩
                · exact Or.inr ⟨y0, fun k k0 k1 z => y1 k k0 (by rw [e7]; exact k1) ((hq1 k).mpr z)⟩
              · skip
                exact absurd c17 (by omega)
            · skip
              refine wa_iload_n (n := 0) rfl ?_
              refine wa_bipush (w_rg2 (by omega) (by omega)) ?_
              refine wa_icmpgt (w_rg0 (by omega) (by omega)) (w_rg0 (by omega) (by omega)) ⟨_, rfl⟩ (fun c21 => ?_) (fun c21 => ?_)
              · skip
                refine wa_iconst ?_
                refine wa_fall ⟨_, rfl⟩ ?_
                refine wa_zreturn rfl (Or.inl rfl) ?_
                show wJ _ _ _ _ _ _ _ _ _ _
                refine wa_ifeq (w_rg0 (by omega) (by omega)) ⟨_, rfl⟩ (fun c22 => ?_) (fun c22 => ?_)
                · skip
                  refine wa_aload_n (n := 0) rfl ?_
                  refine wb_gf4 158 rfl (wy_pr rfl) wt_158 wf_5_0 (v := 72) wl_158_0 ?_
                  refine wb_gf5 72 rfl (wy_pr rfl) wt_72 wf_2_1 (v := 162) (((g11.1 72 1 (Or.inl (by decide))).trans ((w_up_slot (by decide)).trans ((w_up_slot (by decide)).trans (h1))))) (fun r23 => ?_)
                  refine wb_gf4 162 rfl (wy_pr rfl) wt_162 wf_3_0 (v := 163) wl_162_0 ?_
                  refine wa_aload_n (n := 0) rfl ?_
                  refine wb_gf4 158 rfl (wy_pr rfl) wt_158 wf_5_15 (v := 159) wl_158_15 ?_
                  refine wa_iconst ?_
                  refine wa_iload (n := 5) rfl ?_
                  refine wa_iload (n := 4) rfl ?_
                  refine wa_iadd ?_
                  have fz : ∀ (j : Nat) (i : Int), (j ≠ 159 ∨ i < 0) → Z10 j i = S j i := fun j i hj => ((g11.1 j i (by omega)).trans (((w_up_no (by omega)).trans (w_up_no (by omega)))))
                  have hlen : (wnW [105, 115] W).length = 2 + W.length := by unfold wnW; rw [if_neg (by first | decide | omega), List.length_append, capW_l]; rfl
                  have hsg : ∀ i : Nat, i < (wnW [105, 115] W).length → Z10 159 (i : Int) = (wnW [105, 115] W).getD i 0 := by
                    intro i hi
                    rw [hlen] at hi
                    by_cases c0 : i = 0
                    · rw [c0]; exact ((g11.1 159 0 (by omega)).trans (((w_up_at (by first | decide | omega)).trans (w_up_same _ _ _ _))))
                    by_cases c1 : i = 1
                    · rw [c1]; exact ((g11.1 159 1 (by omega)).trans ((w_up_same _ _ _ _)))
                    obtain ⟨k, hk⟩ : ∃ k : Nat, i = 2 + k := ⟨i - 2, by omega⟩
                    have hr : (wnW [105, 115] W).getD i 0 = (capW W).getD k 0 := by rw [hk]; exact getD_r (a := [105, 115])
                    have z : Z10 159 (2 + (k : Int)) = W.getD k 0 := (g11.2 (k : Int) (by omega) (by omega)).trans ((((w_up_slot (by first | decide | omega)).trans (w_up_slot (by first | decide | omega)))).trans (e3 k (by omega)))
                    have z0 : (i : Int) = 2 + (k : Int) := by omega
                    rw [hr, z0]
                    cases k with
                    | zero =>
                      rw [capW_0 (by omega)]
                      replace z : Z10 159 2 = W.getD 0 0 := z
                      rw [if_neg (by omega)]
                      exact z
                    | succ k =>
                      rw [capW_s]
                      exact z
                  have hq1 : ∀ k : Int, wq (Z10 164) (Z10 165) (Z10 166) (Z10 159) 0 (2 + (S 5 wk)) k ↔ wq (S 164) (S 165) (S 166) (fun i => (wnW [105, 115] W).getD i.toNat 0) 0 ((wnW [105, 115] W).length : Int) k := fun k => by
                    rw [show Z10 164 = S 164 from funext (fun x => fz 164 x (by omega)), show Z10 165 = S 165 from funext (fun x => fz 165 x (by omega)), show Z10 166 = S 166 from funext (fun x => fz 166 x (by omega))]
                    exact wq_tx (by omega) hsg
                  have hWz : wd_at Z10 163 64 := by
                    have z := hWh
                    unfold wd_at at z ⊢
                    rw [show Z10 (163 + 1) = S (163 + 1) from funext (fun x => fz 164 x (by omega)), show Z10 (163 + 2) = S (163 + 2) from funext (fun x => fz 165 x (by omega)), show Z10 (163 + 3) = S (163 + 3) from funext (fun x => fz 166 x (by omega)), show Z10 (163 + 4) = S (163 + 4) from funext (fun x => fz 167 x (by omega)), show Z10 (163 + 10) = S (163 + 10) from funext (fun x => fz 173 x (by omega)), show Z10 163 1 = S 163 1 from fz 163 1 (by first | decide | omega), show Z10 163 7 = S 163 7 from fz 163 7 (by first | decide | omega)]
                    exact z
                  have hLz : wd_L Z10 163 64 := by
                    have z := hLh
                    unfold wd_L at z ⊢
                    rw [show Z10 (163 + 10) (-1) = S (163 + 10) (-1) from fz 173 (-1) (by first | decide | omega), show Z10 (163 + 3) (-1) = S (163 + 3) (-1) from fz 166 (-1) (by first | decide | omega), show Z10 (163 + 2) (-1) = S (163 + 2) (-1) from fz 165 (-1) (by first | decide | omega), show Z10 (163 + 4) (-1) = S (163 + 4) (-1) from fz 167 (-1) (by first | decide | omega), show Z10 (163 + 5) (-1) = S (163 + 5) (-1) from fz 168 (-1) (by first | decide | omega), show Z10 (163 + 6) (-1) = S (163 + 6) (-1) from fz 169 (-1) (by first | decide | omega), show Z10 (163 + 1) (-1) = S (163 + 1) (-1) from fz 164 (-1) (by first | decide | omega)]
                    exact z
                  have e7 : Z10 163 7 = S 163 7 := fz 163 7 (by first | decide | omega)
                  have e159 : Z10 159 (-1) = 64 := (fz 159 (-1) (by first | decide | omega)).trans h159
                  refine wa_cv 163 rfl (wy_pr rfl) wt_163 (M2 := fun _ => False) rfl at_XW_wordAt ⟨_, rfl⟩ rfl rfl ⟨(Or.inr ⟨wy_pr rfl, fun q => q⟩), (Or.inl (by omega)), (Or.inr ⟨wy_pr rfl, fun q => q⟩), trivial, trivial, trivial, trivial, trivial⟩ trivial (fun _ _ q => False.elim q) (wa_163 (S := Z10) (b := 159) (wy_pr rfl) wt_159 ⟨by omega, by omega, by omega, by omega⟩ hWz hLz) (fun oq24 Sq24 hp25 q24 => ?_)
                  rcases q24 with ⟨rfl, q, rfl, hq⟩
                  show wJ _ _ _ _ _ _ _ _ _ _
                  refine wa_ireturn rfl ?_
                  refine ⟨fz, gi12, rm13, q, rfl, ?_⟩
                  rcases hq with ⟨y0, y1, y2⟩ | ⟨y0, y1⟩
                  · exact Or.inl ⟨y0, by rw [← e7]; exact y1, (hq1 q).mp y2⟩
                  · exact Or.inr ⟨y0, fun k k0 k1 z => y1 k k0 (by rw [e7]; exact k1) ((hq1 k).mpr z)⟩
                · skip
                  exact absurd c22 (by omega)
              · skip
                refine wa_iconst ?_
                refine wa_goto ⟨_, rfl⟩ ?_
                refine wa_zreturn rfl (Or.inr rfl) ?_
                show wJ _ _ _ _ _ _ _ _ _ _
                refine wa_ifeq (w_rg0 (by omega) (by omega)) ⟨_, rfl⟩ (fun c26 => ?_) (fun c26 => ?_)
                · skip
                  exact absurd c26 (by omega)
                · skip
                  refine wa_aload_n (n := 0) rfl ?_
                  refine wb_gf4 158 rfl (wy_pr rfl) wt_158 wf_5_15 (v := 159) wl_158_15 ?_
                  refine wa_iload (n := 5) rfl ?_
                  refine wa_dup2 (by decide) (by decide) ?_
                  refine wb_bald 159 rfl (wy_pr rfl) wt_159 (n := 64) (((g11.1 159 (-1) (by omega)).trans ((w_up_at (by decide)).trans ((w_up_at (by decide)).trans (h159))))) (by omega) (by omega) (v := (Z10 159 2)) rfl (fun r27 => ?_)
                  refine wa_bipush (w_rg2 (by omega) (by omega)) ?_
                  refine wa_isub ?_
                  refine wb_i2b_r (wb_i2b_id ⟨(by omega), (by omega)⟩) ?_
                  refine wb_bast 159 rfl (wy_pr rfl) wt_159 (n := 64) (((g11.1 159 (-1) (by omega)).trans ((w_up_at (by decide)).trans ((w_up_at (by decide)).trans (h159))))) (by omega) (by omega) ⟨(by omega), (by omega)⟩ ?_
                  refine wa_fall ⟨_, rfl⟩ ?_
                  refine wa_aload_n (n := 0) rfl ?_
                  refine wb_gf4 158 rfl (wy_pr rfl) wt_158 wf_5_0 (v := 72) wl_158_0 ?_
                  refine wb_gf5 72 rfl (wy_pr rfl) wt_72 wf_2_1 (v := 162) ((w_up_slot (by decide)).trans (((g11.1 72 1 (Or.inl (by decide))).trans ((w_up_slot (by decide)).trans ((w_up_slot (by decide)).trans (h1)))))) (fun r28 => ?_)
                  refine wb_gf4 162 rfl (wy_pr rfl) wt_162 wf_3_0 (v := 163) wl_162_0 ?_
                  refine wa_aload_n (n := 0) rfl ?_
                  refine wb_gf4 158 rfl (wy_pr rfl) wt_158 wf_5_15 (v := 159) wl_158_15 ?_
                  refine wa_iconst ?_
                  refine wa_iload (n := 5) rfl ?_
                  refine wa_iload (n := 4) rfl ?_
                  refine wa_iadd ?_
                  have fz : ∀ (j : Nat) (i : Int), (j ≠ 159 ∨ i < 0) → (w_up Z10 159 2 ((Z10 159 2) - 32)) j i = S j i := fun j i hj => (w_up_no (by omega)).trans ((g11.1 j i (by omega)).trans (((w_up_no (by omega)).trans (w_up_no (by omega)))))
                  have hlen : (wnW [105, 115] W).length = 2 + W.length := by unfold wnW; rw [if_neg (by first | decide | omega), List.length_append, capW_l]; rfl
                  have hsg : ∀ i : Nat, i < (wnW [105, 115] W).length → (w_up Z10 159 2 ((Z10 159 2) - 32)) 159 (i : Int) = (wnW [105, 115] W).getD i 0 := by
                    intro i hi
                    rw [hlen] at hi
                    by_cases c0 : i = 0
                    · rw [c0]; exact (w_up_at (by omega)).trans ((g11.1 159 0 (by omega)).trans (((w_up_at (by first | decide | omega)).trans (w_up_same _ _ _ _))))
                    by_cases c1 : i = 1
                    · rw [c1]; exact (w_up_at (by omega)).trans ((g11.1 159 1 (by omega)).trans ((w_up_same _ _ _ _)))
                    obtain ⟨k, hk⟩ : ∃ k : Nat, i = 2 + k := ⟨i - 2, by omega⟩
                    have hr : (wnW [105, 115] W).getD i 0 = (capW W).getD k 0 := by rw [hk]; exact getD_r (a := [105, 115])
                    have z : Z10 159 (2 + (k : Int)) = W.getD k 0 := (g11.2 (k : Int) (by omega) (by omega)).trans ((((w_up_slot (by first | decide | omega)).trans (w_up_slot (by first | decide | omega)))).trans (e3 k (by omega)))
                    have z0 : (i : Int) = 2 + (k : Int) := by omega
                    rw [hr, z0]
                    cases k with
                    | zero =>
                      rw [capW_0 (by omega)]
                      replace z : Z10 159 2 = W.getD 0 0 := z
                      rw [if_pos (by omega)]
                      refine (w_up_same _ _ _ _).trans ?_
                      omega
                    | succ k =>
                      rw [capW_s]
                      exact (w_up_at (by omega)).trans z
                  have hq1 : ∀ k : Int, wq ((w_up Z10 159 2 ((Z10 159 2) - 32)) 164) ((w_up Z10 159 2 ((Z10 159 2) - 32)) 165) ((w_up Z10 159 2 ((Z10 159 2) - 32)) 166) ((w_up Z10 159 2 ((Z10 159 2) - 32)) 159) 0 (2 + (S 5 wk)) k ↔ wq (S 164) (S 165) (S 166) (fun i => (wnW [105, 115] W).getD i.toNat 0) 0 ((wnW [105, 115] W).length : Int) k := fun k => by
                    rw [show (w_up Z10 159 2 ((Z10 159 2) - 32)) 164 = S 164 from funext (fun x => fz 164 x (by omega)), show (w_up Z10 159 2 ((Z10 159 2) - 32)) 165 = S 165 from funext (fun x => fz 165 x (by omega)), show (w_up Z10 159 2 ((Z10 159 2) - 32)) 166 = S 166 from funext (fun x => fz 166 x (by omega))]
                    exact wq_tx (by omega) hsg
                  have hWz : wd_at (w_up Z10 159 2 ((Z10 159 2) - 32)) 163 64 := by
                    have z := hWh
                    unfold wd_at at z ⊢
                    rw [show (w_up Z10 159 2 ((Z10 159 2) - 32)) (163 + 1) = S (163 + 1) from funext (fun x => fz 164 x (by omega)), show (w_up Z10 159 2 ((Z10 159 2) - 32)) (163 + 2) = S (163 + 2) from funext (fun x => fz 165 x (by omega)), show (w_up Z10 159 2 ((Z10 159 2) - 32)) (163 + 3) = S (163 + 3) from funext (fun x => fz 166 x (by omega)), show (w_up Z10 159 2 ((Z10 159 2) - 32)) (163 + 4) = S (163 + 4) from funext (fun x => fz 167 x (by omega)), show (w_up Z10 159 2 ((Z10 159 2) - 32)) (163 + 10) = S (163 + 10) from funext (fun x => fz 173 x (by omega)), show (w_up Z10 159 2 ((Z10 159 2) - 32)) 163 1 = S 163 1 from fz 163 1 (by first | decide | omega), show (w_up Z10 159 2 ((Z10 159 2) - 32)) 163 7 = S 163 7 from fz 163 7 (by first | decide | omega)]
                    exact z
                  have hLz : wd_L (w_up Z10 159 2 ((Z10 159 2) - 32)) 163 64 := by
                    have z := hLh
                    unfold wd_L at z ⊢
                    rw [show (w_up Z10 159 2 ((Z10 159 2) - 32)) (163 + 10) (-1) = S (163 + 10) (-1) from fz 173 (-1) (by first | decide | omega), show (w_up Z10 159 2 ((Z10 159 2) - 32)) (163 + 3) (-1) = S (163 + 3) (-1) from fz 166 (-1) (by first | decide | omega), show (w_up Z10 159 2 ((Z10 159 2) - 32)) (163 + 2) (-1) = S (163 + 2) (-1) from fz 165 (-1) (by first | decide | omega), show (w_up Z10 159 2 ((Z10 159 2) - 32)) (163 + 4) (-1) = S (163 + 4) (-1) from fz 167 (-1) (by first | decide | omega), show (w_up Z10 159 2 ((Z10 159 2) - 32)) (163 + 5) (-1) = S (163 + 5) (-1) from fz 168 (-1) (by first | decide | omega), show (w_up Z10 159 2 ((Z10 159 2) - 32)) (163 + 6) (-1) = S (163 + 6) (-1) from fz 169 (-1) (by first | decide | omega), show (w_up Z10 159 2 ((Z10 159 2) - 32)) (163 + 1) (-1) = S (163 + 1) (-1) from fz 164 (-1) (by first | decide | omega)]
                    exact z
                  have e7 : (w_up Z10 159 2 ((Z10 159 2) - 32)) 163 7 = S 163 7 := fz 163 7 (by first | decide | omega)
                  have e159 : (w_up Z10 159 2 ((Z10 159 2) - 32)) 159 (-1) = 64 := (fz 159 (-1) (by first | decide | omega)).trans h159
                  refine wa_cv 163 rfl (wy_pr rfl) wt_163 (M2 := fun _ => False) rfl at_XW_wordAt ⟨_, rfl⟩ rfl rfl ⟨(Or.inr ⟨wy_pr rfl, fun q => q⟩), (Or.inl (by omega)), (Or.inr ⟨wy_pr rfl, fun q => q⟩), trivial, trivial, trivial, trivial, trivial⟩ trivial (fun _ _ q => False.elim q) (wa_163 (S := (w_up Z10 159 2 ((Z10 159 2) - 32))) (b := 159) (wy_pr rfl) wt_159 ⟨by omega, by omega, by omega, by omega⟩ hWz hLz) (fun oq29 Sq29 hp30 q29 => ?_)
                  rcases q29 with ⟨rfl, q, rfl, hq⟩
                  show wJ _ _ _ _ _ _ _ _ _ _
                  refine wa_ireturn rfl ?_
                  refine ⟨fz, (gI_up gi12 (by omega) (by omega) (by omega)), (rmR_up rm13 (by omega) (by first | decide | omega)), q, rfl, ?_⟩
                  rcases hq with ⟨y0, y1, y2⟩ | ⟨y0, y1⟩
                  · exact Or.inl ⟨y0, by rw [← e7]; exact y1, (hq1 q).mp y2⟩
                  · exact Or.inr ⟨y0, fun k k0 k1 z => y1 k k0 (by rw [e7]; exact k1) ((hq1 k).mpr z)⟩
        · skip
          exact absurd c8 (by omega)
  · skip
    exfalso; omega
theorem wb53_162 {nm wk : Int} {W : List Int} (hX : w_X xs) (hC : w_CL S) (hI : gI S) (h1 : S 72 1 = 162) (l11 : S 158 11 = nm) (hnm : 0 ≤ nm ∧ nm < S 9 (-1)) (hW2 : wd_at S 2 1024) (hL2 : wd_L S 2 1024) (hwk : S 9 nm = wk) (hwk2 : 0 ≤ wk ∧ wk < S 2 7) (hwq : wqL S W wk) (hWh : wd_at S 163 64) (hLh : wd_L S 163 64) (h159 : S 159 (-1) = 64) : wJ (pe_GA xs) wY0 M (d + 4) t_XL_wordBehind ((pe_at t_XL_wordBehind.bl 0).getD (0, [])).2 [(0, (2, 158)), (1, (2, (-10 - ((125 : Nat) : Int))))] [] S (fun o Z => sc_ag 159 S Z ∧ gI Z ∧ rmR S Z ∧ ∃ q : Int, o = .inl (some (0, q)) ∧ hwW 163 (wnW ([] : List Int) W) S q) := by
  have hR := rmR_rfl S
  have a1 : 0 ≤ S 4 wk ∧ 0 ≤ S 5 wk ∧ S 5 wk ≤ 60 ∧ S 4 wk + S 5 wk ≤ S 2 1 := hW2.2.2.1 wk hwk2.1 hwk2.2
  have a2 : 0 ≤ S 2 7 ∧ S 2 7 ≤ S 4 (-1) := hW2.1
  have a3 : 0 ≤ S 2 1 ∧ S 2 1 ≤ S 3 (-1) := hW2.2.1
  have l5 : S 5 (-1) = S 4 (-1) := hL2.2.1
  have l8 : S 4 (-1) ≤ 2147483647 := hL2.2.2.2.2.2.2.2.1
  have l9 : S 3 (-1) ≤ 2147483647 := hL2.2.2.2.2.2.2.2.2
  have e5 : S 5 wk = (W.length : Int) := hwq.1
  have e3 : ∀ i : Nat, i < W.length → S 3 (S 4 wk + (i : Int)) = W.getD i 0 := fun i hi => by
    have z := hwq.2 i (by omega)
    rw [show (fun i : Int => W.getD i.toNat 0) (0 + (i : Int)) = W.getD (0 + (i : Int)).toNat 0 from rfl, Int.zero_add, Int.toNat_natCast] at z
    exact z
  refine wa_aload_n (n := 0) rfl ?_
  refine wb_gf4 158 rfl (wy_pr rfl) wt_158 wf_5_0 (v := 72) wl_158_0 ?_
  refine wb_gf4 72 rfl (wy_pr rfl) wt_72 wf_2_0 (v := 2) wl_72_0 ?_
  refine wa_astore_n (n := 2) rfl ?_
  refine wa_aload_n (n := 2) rfl ?_
  refine wb_gf4 2 rfl (wy_pr rfl) wt_2 wf_9_9 (v := 9) wl_2_9 ?_
  refine wa_aload_n (n := 0) rfl ?_
  refine wb_gfi 158 rfl (wy_pr rfl) wt_158 wf_5_11 (v := nm) (l11) (fun r1 => ?_)
  refine wb_iald 9 rfl (wy_pr rfl) wt_9 (n := (S 9 (-1))) (rfl) (by omega) (by omega) (v := wk) (hwk) (fun r2 => ?_)
  refine wa_istore_n (n := 3) rfl ?_
  refine wa_aload_n (n := 2) rfl ?_
  refine wb_gf4 2 rfl (wy_pr rfl) wt_2 wf_9_3 (v := 5) wl_2_3 ?_
  refine wa_iload_n (n := 3) rfl ?_
  refine wb_iald 5 rfl (wy_pr rfl) wt_5 (n := (S 4 (-1))) (l5) (by omega) (by omega) (v := (S 5 wk)) rfl (fun r3 => ?_)
  refine wa_istore (n := 4) rfl ?_
  refine wa_aload_n (n := 1) rfl ?_
  refine wa_sl 125 rfl (wx_125 hX) rfl rfl ?_
  refine wJ_top (show (tx_53.length : Int) = 0 from rfl) ?_
  refine wa_istore (n := 5) rfl ?_
  refine wa_iload (n := 5) rfl ?_
  refine wa_iload (n := 4) rfl ?_
  refine wa_iadd ?_
  refine wa_aload_n (n := 0) rfl ?_
  refine wb_gf4 158 rfl (wy_pr rfl) wt_158 wf_5_15 (v := 159) wl_158_15 ?_
  refine wb_alen 159 rfl (wy_pr rfl) (by rw [wt_159]; rfl) (v := 64) (h159) (fun r4 => ?_)
  refine wa_icmple (w_rg0 (by omega) (by omega)) (w_rg0 (by omega) (by omega)) ⟨_, rfl⟩ (fun c5 => ?_) (fun c5 => ?_)
  · skip
    refine wa_iconst ?_
    refine wa_istore (n := 6) rfl ?_
    refine wa_fall ⟨_, rfl⟩ ?_
    refine wJ_S (L2 := [(0, (2, 158)), (1, (2, (-10 - ((125 : Nat) : Int)))), (2, (2, 2)), (3, (0, wk)), (4, (0, (S 5 wk))), (5, (0, 0)), (6, (0, 0))]) ?_ ⟨rfl, rfl, rfl, rfl, rfl, rfl, rfl, trivial⟩
    refine wa_iload (n := 6) rfl ?_
    refine wa_iload (n := 5) rfl ?_
    refine wa_icmpge (w_rg0 (by omega) (by omega)) (w_rg0 (by omega) (by omega)) ⟨_, rfl⟩ (fun c6 => ?_) (fun c6 => ?_)
    · skip
      refine wa_aload_n (n := 2) rfl ?_
      refine wb_gf4 2 rfl (wy_pr rfl) wt_2 wf_9_0 (v := 3) wl_2_0 ?_
      refine wa_aload_n (n := 2) rfl ?_
      refine wb_gf4 2 rfl (wy_pr rfl) wt_2 wf_9_2 (v := 4) wl_2_2 ?_
      refine wa_iload_n (n := 3) rfl ?_
      refine wb_iald 4 rfl (wy_pr rfl) wt_4 (n := (S 4 (-1))) (rfl) (by omega) (by omega) (v := (S 4 wk)) rfl (fun r7 => ?_)
      refine wa_aload_n (n := 0) rfl ?_
      refine wb_gf4 158 rfl (wy_pr rfl) wt_158 wf_5_15 (v := 159) wl_158_15 ?_
      refine wa_iload (n := 5) rfl ?_
      refine wa_iload (n := 4) rfl ?_
      refine wb_acB (S := S) 3 159 rfl rfl (wy_pr rfl) (wy_pr rfl) wt_3 wt_159 hI hR (by decide) (by omega) (by omega) (by omega) (by have e : S 3 (-1) = (S 3 (-1)) := (rfl); omega) (by have e : S 159 (-1) = 64 := (h159); omega) (by omega) rfl (fun Z8 g9 gi10 rm11 => ?_)
      refine wa_iload (n := 5) rfl ?_
      refine wa_ifle (w_rg0 (by omega) (by omega)) ⟨_, rfl⟩ (fun c12 => ?_) (fun c12 => ?_)
      · skip
        refine wa_aload_n (n := 0) rfl ?_
        refine wb_gf4 158 rfl (wy_pr rfl) wt_158 wf_5_0 (v := 72) wl_158_0 ?_
        refine wb_gf5 72 rfl (wy_pr rfl) wt_72 wf_2_1 (v := 162) (((g9.1 72 1 (Or.inl (by decide))).trans (h1))) (fun r13 => ?_)
        refine wb_gf4 162 rfl (wy_pr rfl) wt_162 wf_3_0 (v := 163) wl_162_0 ?_
        refine wa_aload_n (n := 0) rfl ?_
        refine wb_gf4 158 rfl (wy_pr rfl) wt_158 wf_5_15 (v := 159) wl_158_15 ?_
        refine wa_iconst ?_
        refine wa_iload (n := 5) rfl ?_
        refine wa_iload (n := 4) rfl ?_
        refine wa_iadd ?_
        have fz : ∀ (j : Nat) (i : Int), (j ≠ 159 ∨ i < 0) → Z8 j i = S j i := fun j i hj => ((g9.1 j i (by omega)).trans (rfl))
        have hlen : (wnW ([] : List Int) W).length = 0 + W.length := by unfold wnW; rw [if_pos rfl]; omega
        have hsg : ∀ i : Nat, i < (wnW ([] : List Int) W).length → Z8 159 (i : Int) = (wnW ([] : List Int) W).getD i 0 := by
          intro i hi
          rw [hlen] at hi
          have z := g9.2 (i : Int) (by omega) (by omega)
          rw [Int.zero_add] at z
          rw [show wnW ([] : List Int) W = W from if_pos rfl]
          exact z.trans (e3 i (by omega))
        have hq1 : ∀ k : Int, wq (Z8 164) (Z8 165) (Z8 166) (Z8 159) 0 (0 + (S 5 wk)) k ↔ wq (S 164) (S 165) (S 166) (fun i => (wnW ([] : List Int) W).getD i.toNat 0) 0 ((wnW ([] : List Int) W).length : Int) k := fun k => by
          rw [show Z8 164 = S 164 from funext (fun x => fz 164 x (by omega)), show Z8 165 = S 165 from funext (fun x => fz 165 x (by omega)), show Z8 166 = S 166 from funext (fun x => fz 166 x (by omega))]
          exact wq_tx (by omega) hsg
        have hWz : wd_at Z8 163 64 := by
          have z := hWh
          unfold wd_at at z ⊢
          rw [show Z8 (163 + 1) = S (163 + 1) from funext (fun x => fz 164 x (by omega)), show Z8 (163 + 2) = S (163 + 2) from funext (fun x => fz 165 x (by omega)), show Z8 (163 + 3) = S (163 + 3) from funext (fun x => fz 166 x (by omega)), show Z8 (163 + 4) = S (163 + 4) from funext (fun x => fz 167 x (by omega)), show Z8 (163 + 10) = S (163 + 10) from funext (fun x => fz 173 x (by omega)), show Z8 163 1 = S 163 1 from fz 163 1 (by first | decide | omega), show Z8 163 7 = S 163 7 from fz 163 7 (by first | decide | omega)]
          exact z
        have hLz : wd_L Z8 163 64 := by
          have z := hLh
          unfold wd_L at z ⊢
          rw [show Z8 (163 + 10) (-1) = S (163 + 10) (-1) from fz 173 (-1) (by first | decide | omega), show Z8 (163 + 3) (-1) = S (163 + 3) (-1) from fz 166 (-1) (by first | decide | omega), show Z8 (163 + 2) (-1) = S (163 + 2) (-1) from fz 165 (-1) (by first | decide | omega), show Z8 (163 + 4) (-1) = S (163 + 4) (-1) from fz 167 (-1) (by first | decide | omega), show Z8 (163 + 5) (-1) = S (163 + 5) (-1) from fz 168 (-1) (by first | decide | omega), show Z8 (163 + 6) (-1) = S (163 + 6) (-1) from fz 169 (-1) (by first | decide | omega), show Z8 (163 + 1) (-1) = S (163 + 1) (-1) from fz 164 (-1) (by first | decide | omega)]
          exact z
        have e7 : Z8 163 7 = S 163 7 := fz 163 7 (by first | decide | omega)
        have e159 : Z8 159 (-1) = 64 := (fz 159 (-1) (by first | decide | omega)).trans h159
        refine wa_cv 163 rfl (wy_pr rfl) wt_163 (M2 := fun _ => False) rfl at_XW_wordAt ⟨_, rfl⟩ rfl rfl ⟨(Or.inr ⟨wy_pr rfl, fun q => q⟩), (Or.inl (by omega)), (Or.inr ⟨wy_pr rfl, fun q => q⟩), trivial, trivial, trivial, trivial, trivial⟩ trivial (fun _ _ q => False.elim q) (wa_163 (S := Z8) (b := 159) (wy_pr rfl) wt_159 ⟨by omega, by omega, by omega, by omega⟩ hWz hLz) (fun oq14 Sq14 hp15 q14 => ?_)
        rcases q14 with ⟨rfl, q, rfl, hq⟩
        show wJ _ _ _ _ _ _ _ _ _ _
        refine wa_ireturn rfl ?_
        refine ⟨fz, gi10, rm11, q, rfl, ?_⟩
        rcases hq with ⟨y0, y1, y2⟩ | ⟨y0, y1⟩
        · exact Or.inl ⟨y0, by rw [← e7]; exact y1, (hq1 q).mp y2⟩
        · exact Or.inr ⟨y0, fun k k0 k1 z => y1 k k0 (by rw [e7]; exact k1) ((hq1 k).mpr z)⟩
      · skip
        exact absurd c12 (by omega)
    · skip
      exact absurd c6 (by omega)
  · skip
    exfalso; omega
end Wh8
