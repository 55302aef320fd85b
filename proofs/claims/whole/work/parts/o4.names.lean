/-! PART o4: every name in a host's text that was read is one of its words, a class's or a member's. -/
section Wo4
variable {A B S : wS} {T : Int → Int} {n : Int} {K : Int → Prop} {b : Nat}
/-- the name at p is one of the first words -/
def uW (T : Int → Int) (n p : Int) : Prop := ∃ k : Nat, k < 13 ∧ lx_en T n 1 p - p = ((hwl k).length : Int) ∧ ∀ i : Nat, i < (hwl k).length → T (p + (i : Int)) = w_tx (hwl k) i
/-- from one token to another all names are in K -/
def nmP (T : Int → Int) (n : Int) (K : Int → Prop) (p q : Int) : Prop := ∀ i : Nat, tp T n 1 i = p → ∃ m : Nat, i ≤ m ∧ tp T n 1 m = q ∧ ∀ k : Nat, i ≤ k → k < m → lx_tk T n 1 (tp T n 1 k) = 1 → K (tp T n 1 k)
theorem nm_rf {p : Int} : nmP T n K p p := fun i e => ⟨i, Nat.le_refl i, e, fun k k0 k1 => absurd k1 (by omega)⟩
theorem nm_tr {p q r : Int} (h1 : nmP T n K p q) (h2 : nmP T n K q r) : nmP T n K p r := fun i e => by
  obtain ⟨m, a1, a2, a3⟩ := h1 i e
  obtain ⟨m2, b1, b2, b3⟩ := h2 m a2
  refine ⟨m2, by omega, b2, fun k k0 k1 kt => ?_⟩
  by_cases c : k < m
  · exact a3 k k0 c kt
  · exact b3 k (by omega) k1 kt
theorem nm_x {p : Int} (hB : zT B T n) (h : lx_tk T n 1 p = 1 → K p) : nmP T n K p (lx_ne (zq B p) p) := fun i e => by
  refine ⟨i + 1, by omega, ?_, fun k k0 k1 kt => ?_⟩
  · rw [zT_ne hB]
    show lx_go T n (lx_en T n 1 (tp T n 1 i)) = _
    rw [e]
  · have ek : k = i := by omega
    subst ek
    rw [e] at kt ⊢
    exact h kt
theorem nm_is {p c : Int} (hB : zT B T n) (h : lx_is (zq B p) c = true) : nmP T n K p (lx_ne (zq B p) p) := nm_x hB (fun e => by
  have h4 := (lx_is4 h).1
  rw [zT_6 hB, e] at h4
  omega)
theorem uW_w {p : Int} {k : Nat} (hB : zT B T n) (hk : k < 13) (h : lx_w (zq B p) (hwl k) = true) : uW T n p := by
  unfold lx_w at h
  rw [decide_eq_true_iff, zT_6 hB, zT_8 hB, zT_T hB, zq_7] at h
  exact ⟨k, hk, h.2.1, h.2.2⟩
theorem uW_pl {p : Int} (hB : zT B T n) (h : 0 ≤ pl_of (zq B p) tx_27) : uW T n p := by
  rw [pl_27_w] at h
  by_cases c0 : lx_w (zq B p) (hwl 0) = true
  · exact uW_w hB (by first | decide | omega) c0
  by_cases c1 : lx_w (zq B p) (hwl 1) = true
  · exact uW_w hB (by first | decide | omega) c1
  by_cases c2 : lx_w (zq B p) (hwl 2) = true
  · exact uW_w hB (by first | decide | omega) c2
  by_cases c3 : lx_w (zq B p) (hwl 3) = true
  · exact uW_w hB (by first | decide | omega) c3
  by_cases c4 : lx_w (zq B p) (hwl 4) = true
  · exact uW_w hB (by first | decide | omega) c4
  by_cases c5 : lx_w (zq B p) (hwl 5) = true
  · exact uW_w hB (by first | decide | omega) c5
  by_cases c6 : lx_w (zq B p) (hwl 6) = true
  · exact uW_w hB (by first | decide | omega) c6
  by_cases c7 : lx_w (zq B p) (hwl 7) = true
  · exact uW_w hB (by first | decide | omega) c7
  by_cases c8 : lx_w (zq B p) (hwl 8) = true
  · exact uW_w hB (by first | decide | omega) c8
  rw [if_neg c0, if_neg c1, if_neg c2, if_neg c3, if_neg c4, if_neg c5, if_neg c6, if_neg c7, if_neg c8] at h
  exact absurd h (by first | decide | omega)
theorem ch_f_sp {U : Int → Int} {tk p e N : Int} {F G : Int → Int} : ∀ (f : Nat) (c : Int), 0 ≤ c → 0 ≤ ch_f U tk p e F G N f c → ∃ k : Int, 0 ≤ k ∧ k < N ∧ tp_q U (F k) (G k) p e = true := by
  intro f
  induction f with
  | zero => intro c c0 h; exact absurd h (by unfold ch_f; decide)
  | succ f ih =>
    intro c c0 h
    rw [ch_f_s] at h
    by_cases h1 : c < N
    · rw [if_pos h1] at h
      by_cases h2 : tk = 1 ∧ tp_q U (F c) (G c) p e = true
      · exact ⟨c, c0, h1, h2.2⟩
      · rw [if_neg h2] at h
        exact ih (c + 1) (by omega) h
    · rw [if_neg h1] at h
      exact absurd h (by first | decide | omega)
/-- every class's name that stands in the rows is in K -/
def uF (T : Int → Int) (n : Int) (K : Int → Prop) (b : Nat) (B : wS) : Prop := ∀ c p : Int, 0 ≤ c → c < B b 1 → tp_q T (B (b + 9) c) (B (b + 10) c) p (lx_en T n 1 p) = true → K p
theorem uF_ch {p : Int} (hb : b = 241 ∨ b = 261) (hB : zT B T n) (hF : uF T n K b B) (h : 0 ≤ ch_of (zq B p) b) : K p := by
  unfold ch_of at h
  rw [zq_o (show b + 9 ≠ 237 by omega), zq_o (show b + 10 ≠ 237 by omega), zq_o (show b ≠ 237 by omega), zT_T hB, zT_8 hB, zq_7] at h
  obtain ⟨k, k0, k1, k2⟩ := ch_f_sp _ 0 (Int.le_refl 0) h
  exact hF k p k0 k1 k2
theorem ty_K {p av t q : Int} (hb : b = 241 ∨ b = 261) (hB : zT B T n) (hW : ∀ p : Int, uW T n p → K p) (hF : uF T n K b B) (h : hy_type (zq B p) b p av = .inr (t, q)) : nmP T n K p q := by
  unfold hy_type at h
  by_cases c1 : zq B p 237 6 = 1
  · rw [if_pos c1] at h
    by_cases c2 : pl_of (zq B p) tx_27 = 0 ∧ av = 0
    · rw [if_pos c2] at h; cases h
    · rw [if_neg c2] at h
      by_cases c3 : 0 ≤ pl_of (zq B p) tx_27
      · rw [if_pos c3] at h; cases h
        exact nm_x hB (fun _ => hW p (uW_pl hB c3))
      · rw [if_neg c3] at h
        by_cases c4 : 0 ≤ ch_of (zq B p) b
        · rw [if_pos c4] at h; cases h
          exact nm_x hB (fun _ => uF_ch hb hB hF c4)
        · rw [if_neg c4] at h; cases h
  · rw [if_neg c1] at h; cases h
theorem pr_K (hb : b = 241 ∨ b = 261) (hB : zT B T n) (hW : ∀ p : Int, uW T n p → K p) (hF : uF T n K b B) : ∀ (f : Nat) (p : Int) (l : List Int) (q : Int) (l2 : List Int) (v : Int), pr_f B b f p l = .inr (q, l2, v) → nmP T n K p q := by
  intro f
  induction f with
  | zero => intro p l q l2 v h; cases h
  | succ f ih =>
    intro p l q l2 v h
    rw [pr_f_s] at h
    split at h
    · split at h
      · split at h
        · cases hy : hy_type (zq B p) b p 0 with
          | inl e => rw [hy] at h; cases h
          | inr x =>
            obtain ⟨t, q1⟩ := x
            rw [hy] at h
            have k1 := ty_K hb hB hW hF hy
            have h : (if lx_is (zq B q1) 262 = true then (.inr (lx_ne (zq B q1) q1, l ++ [t], 1) : (Int × Int) ⊕ (Int × List Int × Int)) else if lx_is (zq B q1) 44 = true then pr_f B b f (lx_ne (zq B q1) q1) (l ++ [t]) else .inr (q1, l ++ [t], 0)) = .inr (q, l2, v) := h
            by_cases c1 : lx_is (zq B q1) 262 = true
            · rw [if_pos c1] at h; cases h
              exact nm_tr k1 (nm_is hB c1)
            · rw [if_neg c1] at h
              by_cases c2 : lx_is (zq B q1) 44 = true
              · rw [if_pos c2] at h
                exact nm_tr k1 (nm_tr (nm_is hB c2) (ih _ _ _ _ _ h))
              · rw [if_neg c2] at h; cases h
                exact k1
        · cases h
      · cases h
    · cases h
theorem pq_K {p q v : Int} {l : List Int} (hb : b = 241 ∨ b = 261) (hB : zT B T n) (hW : ∀ p : Int, uW T n p → K p) (hF : uF T n K b B) (h : pq_r B b p = .inr (q, l, v)) : nmP T n K p q := by
  unfold pq_r at h
  split at h
  · cases h; exact nm_rf
  · exact pr_K hb hB hW hF _ _ _ _ _ _ h
theorem pk_K {p q v so f e : Int} {l : List Int} {rs : List hMR} (hb : b = 241 ∨ b = 261) (hB : zT B T n) (hW : ∀ p : Int, uW T n p → K p) (hF : uF T n K b B) (h : pk_L B so f e rs (pq_r B b p) = .inr (q, l, v)) : nmP T n K p q := by
  cases hy : pq_r B b p with
  | inl x => rw [hy] at h; cases h
  | inr x =>
    obtain ⟨q1, l1, v1⟩ := x
    rw [hy] at h
    have k1 := pq_K hb hB hW hF hy
    have h : (if lx_is (zq B q1) 41 = true then (if dp_L (B 239) so f e l1 rs = true then (.inl (7, q1) : (Int × Int) ⊕ (Int × List Int × Int)) else .inr (lx_ne (zq B q1) q1, l1, v1)) else .inl (1, q1)) = .inr (q, l, v) := h
    by_cases c1 : lx_is (zq B q1) 41 = true
    · rw [if_pos c1] at h
      split at h
      · cases h
      · cases h; exact nm_tr k1 (nm_is hB c1)
    · rw [if_neg c1] at h; cases h
theorem par2_K {p q v so f e : Int} {l : List Int} {rs : List hMR} (hb : b = 241 ∨ b = 261) (hB : zT B T n) (hW : ∀ p : Int, uW T n p → K p) (hF : uF T n K b B) (h : rm_par2 B b so f e rs p = .inr (q, l, v)) : nmP T n K p q := by
  unfold rm_par2 at h
  by_cases c1 : lx_is (zq B p) 40 = true
  · rw [if_pos c1] at h
    exact nm_tr (nm_is hB c1) (pk_K hb hB hW hF h)
  · rw [if_neg c1] at h; cases h
theorem end_K {q so st ty v f e p2 so2 st2 ty2 v2 f2 e2 : Int} {l l2 : List Int} (hB : zT B T n) (h : rm_end B q so st ty l v f e = .inr (p2, so2, st2, ty2, l2, v2, f2, e2)) : nmP T n K q p2 := by
  unfold rm_end at h
  by_cases c1 : lx_is (zq B q) 59 = true
  · rw [if_pos c1] at h; cases h; exact nm_is hB c1
  · rw [if_neg c1] at h; cases h
theorem fin_K {p : Int} {rs : List hMR} {so st ty f e p2 so2 st2 ty2 v2 f2 e2 : Int} {l2 : List Int} (hb : b = 241 ∨ b = 261) (hB : zT B T n) (hW : ∀ p : Int, uW T n p → K p) (hF : uF T n K b B) (h : rm_fin B (rm_par2 B b so f e rs p) so st ty f e = .inr (p2, so2, st2, ty2, l2, v2, f2, e2)) : nmP T n K p p2 := by
  cases hy : rm_par2 B b so f e rs p with
  | inl x => rw [hy] at h; cases h
  | inr x =>
    obtain ⟨q1, l1, v1⟩ := x
    rw [hy] at h
    exact nm_tr (par2_K hb hB hW hF hy) (end_K hB h)
theorem tp_q_rf {a e : Int} : tp_q T a e a e = true := by
  unfold tp_q
  rw [decide_eq_true_iff]
  exact ⟨rfl, fun i _ => rfl⟩
theorem rb_K {kc itf p1 st p2 so2 st2 ty2 v2 f2 e2 : Int} {l2 : List Int} {rs : List hMR} {N : Nat} (hb : b = 241 ∨ b = 261) (hB : zT B T n) (hW : ∀ p : Int, uW T n p → K p) (hF : uF T n K b B) (h : rb_L B b kc itf rs N p1 st = .inr (p2, so2, st2, ty2, l2, v2, f2, e2)) (hM : so2 ≠ 2 → ∀ p : Int, tp_q T f2 e2 p (lx_en T n 1 p) = true → K p) : nmP T n K p1 p2 := by
  by_cases h1n : ¬ zq B p1 237 6 = 1
  · rw [rb_1 h1n] at h; cases h
  have h1 := Decidable.not_not.1 h1n
  by_cases hn : lx_w (zq B p1) tx_25 = true
  · by_cases hs : st = 1
    · rw [rb_2 hs hn] at h; cases h
    · by_cases hN : (N : Int) < 400
      · by_cases hi : itf = 0
        · rw [rb_n h1 hs hn hN hi] at h
          exact nm_tr (nm_x hB (fun _ => hW p1 (uW_w (k := 12) hB (by first | decide | omega) hn))) (fin_K hb hB hW hF h)
        · rw [rb_6 h1 hs hn hN hi] at h; cases h
      · rw [rb_5 h1 (fun z => hs z.1) (Or.inl hn) hN] at h; cases h
  · by_cases hpn : ¬ (0 ≤ pl_of (zq B p1) tx_27 ∨ 0 ≤ ch_of (zq B p1) b)
    · rw [rb_3 h1 hn hpn] at h; cases h
    have hp := Decidable.not_not.1 hpn
    by_cases hNn : ¬ (N : Int) < 400
    · rw [rb_5 h1 (fun z => hn z.2) (Or.inr hp) hNn] at h; cases h
    have hN := Decidable.not_not.1 hNn
    cases hy : hy_type (zq B p1) b p1 1 with
    | inl x =>
      unfold rb_L at h
      rw [if_pos ⟨h1, fun z => hn z.2⟩, if_pos (Or.inr hp), if_pos hN, if_neg hn, hy] at h
      cases h
    | inr tp2 =>
      obtain ⟨t, q⟩ := tp2
      rw [rb_t h1 hn hp hN hy] at h
      have k1 := ty_K hb hB hW hF hy
      by_cases h2n : ¬ zq B q 237 6 = 1
      · rw [rn_1 h2n] at h; cases h
      have h2 := Decidable.not_not.1 h2n
      by_cases ho : lx_oo (zq B q) tx_21 = true
      · rw [rn_2 h2 ho] at h; cases h
      by_cases hf : lx_is (zq B (lx_ne (zq B q) q)) 59 = true ∧ t ≠ 0
      · by_cases h4 : lx_is (zq B (lx_ne (zq B q) q)) 40 = true
        · exfalso
          have e1 := (lx_is4 h4).2
          have e2 := (lx_is4 hf.1).2
          omega
        · rw [rn_f h2 ho h4 hf] at h
          split at h
          · cases h
          · split at h
            · obtain ⟨a1, a2, a3, a4⟩ := rm_end_mo h
              rw [zT_8 hB] at a4
              refine nm_tr k1 (nm_tr (nm_x hB (fun _ => hM (by rw [a1]; decide) q ?_)) (end_K hB h))
              rw [a3, a4]
              exact tp_q_rf
            · cases h
      · rw [rn_m h2 ho hf] at h
        obtain ⟨a1, a2, a3, a4⟩ := rm_fin_mo h
        rw [zT_8 hB] at a4
        refine nm_tr k1 (nm_tr (nm_x hB (fun _ => hM (by rw [a1]; decide) q ?_)) (fin_K hb hB hW hF h))
        rw [a3, a4]
        exact tp_q_rf
theorem rm_K {kc itf p p2 so2 st2 ty2 v2 f2 e2 : Int} {l2 : List Int} {rs : List hMR} {N : Nat} (hb : b = 241 ∨ b = 261) (hB : zT B T n) (hW : ∀ p : Int, uW T n p → K p) (hF : uF T n K b B) (h : rm_L B b kc itf rs N p = .inr (p2, so2, st2, ty2, l2, v2, f2, e2)) (hM : so2 ≠ 2 → ∀ p : Int, tp_q T f2 e2 p (lx_en T n 1 p) = true → K p) : nmP T n K p p2 := by
  by_cases h1 : lx_w (zq B p) tx_23 = true
  · by_cases hi : itf = 0
    · rw [rm_s h1 hi] at h
      exact nm_tr (nm_x hB (fun _ => hW p (uW_w (k := 11) hB (by first | decide | omega) h1))) (rb_K hb hB hW hF h hM)
    · rw [rm_s6 h1 hi] at h; cases h
  · rw [rm_o h1] at h; exact rb_K hb hB hW hF h hM
theorem mb_K {kc itf : Int} {fi : Nat} (hb : b = 241 ∨ b = 261) (hB : zT B T n) (hW : ∀ p : Int, uW T n p → K p) (hF : uF T n K b B) : ∀ (f : Nat) (p : Int) (ms : List hMR) (q : Int) (ms2 : List hMR), mb_f B b kc itf fi f p ms = .inr (q, ms2) → (∃ rs : List hMR, ms2 = ms ++ rs) ∧ ((∀ r ∈ ms2, r.2.1 ≠ 2 → ∀ p : Int, tp_q T r.2.2.2.2.2.2.1 r.2.2.2.2.2.2.2 p (lx_en T n 1 p) = true → K p) → nmP T n K p q) := by
  intro f
  induction f with
  | zero => intro p ms q ms2 h; cases h
  | succ f ih =>
    intro p ms q ms2 h
    rw [mb_f_s] at h
    split at h
    · cases h; exact ⟨⟨[], (List.append_nil _).symm⟩, fun _ => nm_rf⟩
    · cases hr : rm_L B b kc itf (ms.drop fi) ms.length p with
      | inl x => rw [hr] at h; cases h
      | inr x =>
        obtain ⟨p2, so, st, ty, l, v, f2, e2⟩ := x
        rw [hr] at h
        obtain ⟨⟨rs, e1⟩, e3⟩ := ih p2 (ms ++ [(kc, so, st, ty, l, v, f2, e2)]) q ms2 h
        refine ⟨⟨(kc, so, st, ty, l, v, f2, e2) :: rs, by rw [e1, List.append_assoc]; rfl⟩, fun hM => nm_tr (rm_K hb hB hW hF hr (fun h2 => hM (kc, so, st, ty, l, v, f2, e2) (by rw [e1]; exact List.mem_append_left _ (List.mem_append_right _ (List.mem_singleton.2 rfl))) h2)) (e3 hM)⟩
theorem su1_K {c p a s : Int} {l : List Int} (hb : b = 241 ∨ b = 261) (hB : zT B T n) (hF : uF T n K b B) (h : su_1 B b c p a l = .inr s) : nmP T n K p (lx_ne (zq B p) p) := by
  unfold su_1 at h
  split at h
  · by_cases c1 : 0 ≤ ch_of (zq B p) b
    · exact nm_x hB (fun _ => uF_ch hb hB hF c1)
    · rw [if_neg c1] at h; cases h
  · cases h
theorem suf_K {c : Int} (hb : b = 241 ∨ b = 261) (hB : zT B T n) (hF : uF T n K b B) : ∀ (f : Nat) (p : Int) (l : List Int) (a al q a2 al2 : Int) (l2 : List Int), su_f B b c f p l a al = .inr (q, l2, a2, al2) → nmP T n K p q := by
  intro f
  induction f with
  | zero => intro p l a al q a2 al2 l2 h; cases h
  | succ f ih =>
    intro p l a al q a2 al2 l2 h
    rw [su_f_s] at h
    by_cases c1 : lx_is (zq B p) 44 = true
    · rw [if_pos c1] at h
      cases hs : su_1 B b c (lx_ne (zq B p) p) a l with
      | inl e => rw [hs] at h; cases h
      | inr s =>
        rw [hs] at h
        exact nm_tr (nm_is hB c1) (nm_tr (su1_K hb hB hF hs) (ih _ _ _ _ _ _ _ _ h))
    · rw [if_neg c1] at h; cases h; exact nm_rf
theorem sua_K {c p q a al : Int} {l : List Int} (hb : b = 241 ∨ b = 261) (hB : zT B T n) (hF : uF T n K b B) (h : su_a B b c p = .inr (q, l, a, al)) : nmP T n K p q := by
  unfold su_a at h
  cases hs : su_1 B b c p (B (b + 3) c) [] with
  | inl e => rw [hs] at h; cases h
  | inr s =>
    rw [hs] at h
    exact nm_tr (su1_K hb hB hF hs) (suf_K hb hB hF _ _ _ _ _ _ _ _ _ h)
theorem mb_end {kc itf : Int} {fi : Nat} : ∀ (f : Nat) (p : Int) (ms : List hMR) (q : Int) (ms2 : List hMR), mb_f B b kc itf fi f p ms = .inr (q, ms2) → lx_is (zq B q) 125 = true := by
  intro f
  induction f with
  | zero => intro p ms q ms2 h; cases h
  | succ f ih =>
    intro p ms q ms2 h
    rw [mb_f_s] at h
    by_cases c : lx_is (zq B p) 125 = true
    · rw [if_pos c] at h; cases h; exact c
    · rw [if_neg c] at h
      cases hr : rm_L B b kc itf (ms.drop fi) ms.length p with
      | inl x => rw [hr] at h; cases h
      | inr x =>
        obtain ⟨p2, so, st, ty, l, v, f2, e2⟩ := x
        rw [hr] at h
        exact ih _ _ _ _ h
theorem rcb_K {B1 : wS} {k0 itf p1 p2 : Int} {ms ms2 : List hMR} {cr : hCR} (hb : b = 241 ∨ b = 261) (hB : zT B T n) (hB1 : zT B1 T n) (hW : ∀ p : Int, uW T n p → K p) (hF : uF T n K b (w_up B1 b 1 (k0 + 1))) (h1 : B1 b 1 ≤ k0 + 1) (hK : K p1) (h : rc_body B B1 b k0 ms itf p1 = .inr (p2, cr, ms2)) : (∃ rs : List hMR, ms2 = ms ++ rs) ∧ (cr.2.1 = p1 ∧ cr.2.2.1 = lx_en T n 1 p1) ∧ ((∀ r ∈ ms2, r.2.1 ≠ 2 → ∀ p : Int, tp_q T r.2.2.2.2.2.2.1 r.2.2.2.2.2.2.2 p (lx_en T n 1 p) = true → K p) → nmP T n K p1 p2) := by
  have hB2 : zT (w_up B1 b 1 (k0 + 1)) T n := by
    unfold zT
    rw [w_up_row (by omega), w_up_row (by omega)]; exact hB1
  have hF1 : uF T n K b B1 := fun c p c0 c1 ht => hF c p c0 (by rw [w_up_same]; omega) (by rw [w_up_row (by omega), w_up_row (by omega)]; exact ht)
  cases hs : rc_su B B1 b k0 p1 with
  | inl e => rw [rcb_1 hs] at h; cases h
  | inr x =>
    obtain ⟨q, l, a, al⟩ := x
    have kq : nmP T n K p1 q := by
      unfold rc_su at hs
      by_cases c1 : lx_is (zq B (lx_ne (zq B p1) p1)) 58 = true
      · rw [if_pos c1] at hs
        exact nm_tr (nm_x hB (fun _ => hK)) (nm_tr (nm_is hB c1) (sua_K hb hB1 hF1 hs))
      · rw [if_neg c1] at hs; cases hs
        exact nm_x hB (fun _ => hK)
    by_cases h123 : lx_is (zq B q) 123 = true
    · cases hm : mb_f (w_up B1 b 1 (k0 + 1)) b k0 itf ms.length ((B 237 4 - lx_ne (zq B q) q).toNat + 1) (lx_ne (zq B q) q) ms with
      | inl e => rw [rcb_3 hs h123 hm] at h; cases h
      | inr y =>
        obtain ⟨z, ms3⟩ := y
        rw [rcb_4 hs h123 hm] at h
        obtain ⟨g1, g2⟩ := mb_K (K := K) hb hB2 hW hF _ _ _ z ms3 hm
        have hz := mb_end _ _ _ _ _ hm
        have hz2 : lx_is (zq B z) 125 = true := by
          have e1 := (lx_is4 hz).1
          have e2 := (lx_is4 hz).2
          unfold lx_is
          rw [zT_6 hB2] at e1
          rw [zT_9 hB2] at e2
          rw [decide_eq_true_iff, zT_6 hB, zT_9 hB]
          exact ⟨e1, e2⟩
        cases h
        exact ⟨g1, ⟨rfl, zT_8 hB⟩, fun hM => nm_tr kq (nm_tr (nm_is hB h123) (nm_tr (g2 hM) (nm_is hB hz2)))⟩
    · rw [rcb_2 hs h123] at h; cases h
/-- the name at p is a class's -/
def uC (T : Int → Int) (n : Int) (cs : List hCR) (p : Int) : Prop := ∃ r ∈ cs, tp_q T r.2.1 r.2.2.1 p (lx_en T n 1 p) = true
/-- the name at p is a member's -/
def uM (T : Int → Int) (n : Int) (ms : List hMR) (p : Int) : Prop := ∃ r ∈ ms, r.2.1 ≠ 2 ∧ tp_q T r.2.2.2.2.2.2.1 r.2.2.2.2.2.2.2 p (lx_en T n 1 p) = true
def uN (T : Int → Int) (n : Int) (cs : List hCR) (ms : List hMR) (p : Int) : Prop := uW T n p ∨ uC T n cs p ∨ uM T n ms p
/-- K has the words, the classes' names and the members' -/
def uK (T : Int → Int) (n : Int) (cs : List hCR) (ms : List hMR) (K : Int → Prop) : Prop := ∀ p : Int, uN T n cs ms p → K p
theorem hq_uF {cs : List hCR} (hK : ∀ p : Int, uC T n cs p → K p) (hb : b = 241 ∨ b = 261) : uF T n K b (hq_cn A b cs) := fun c p c0 c1 ht => by
  have e1 : hq_cn A b cs b 1 = (cs.length : Int) := if_pos ⟨rfl, rfl⟩
  rw [e1] at c1
  have e9 : hq_cn A b cs (b + 9) c = (cs.getD c.toNat hq_0).2.1 := by
    unfold hq_cn
    rw [if_neg (by omega), if_pos ⟨c0, c1⟩, if_neg (by omega), if_neg (by omega), if_neg (by omega), if_pos rfl]
  have e10 : hq_cn A b cs (b + 10) c = (cs.getD c.toNat hq_0).2.2.1 := by
    unfold hq_cn
    rw [if_neg (by omega), if_pos ⟨c0, c1⟩, if_neg (by omega), if_neg (by omega), if_neg (by omega), if_neg (by omega), if_pos rfl]
  rw [e9, e10] at ht
  have hl : c.toNat < cs.length := by omega
  refine hK p ⟨cs.getD c.toNat hq_0, ?_, ht⟩
  rw [List.getD_eq_getElem?_getD, List.getElem?_eq_getElem hl]
  exact List.getElem_mem hl
theorem hqT_241 {cs : List hCR} (h : zT A T n) : zT (hq_cn A 241 cs) T n := by
  have e : ∀ (j : Nat) (i : Int), (j = 239 ∨ j = 237) → hq_cn A 241 cs j i = A j i := fun j i hj => by
    unfold hq_cn
    rw [if_neg (by omega)]
    split
    · rw [if_neg (by omega), if_neg (by omega), if_neg (by omega), if_neg (by omega), if_neg (by omega)]
    · rfl
  exact ⟨(funext fun i => e 239 i (Or.inl rfl)).trans h.1, (e 237 4 (Or.inr rfl)).trans h.2.1, (e 237 5 (Or.inr rfl)).trans h.2.2⟩
theorem rcn_K_241 {k0 itf p1 p2 : Int} {ms ms2 : List hMR} {cr : hCR} {cs : List hCR} (hB : zT (hq_cn A 241 cs) T n) (hk0 : k0 = (cs.length : Int)) (h : rc_n_241 (hq_cn A 241 cs) k0 ms itf p1 = .inr (p2, cr, ms2)) : (∃ rs : List hMR, ms2 = ms ++ rs) ∧ (uK T n (cs ++ [cr]) ms2 K → nmP T n K p1 p2) := by
  unfold rc_n_241 at h
  by_cases h1 : zq (hq_cn A 241 cs) p1 237 6 = 1
  · rw [if_pos h1] at h
    by_cases h2 : ch_of (zq (hq_cn A 241 cs) p1) 241 < 0 ∧ lx_oo (zq (hq_cn A 241 cs) p1) tx_21 = false
    · rw [if_pos h2] at h
      by_cases h3 : k0 < 60
      · rw [if_pos h3] at h
        have hB1 : zT (w_up (w_up (w_up (w_up (w_up (w_up (w_up (w_up (hq_cn A 241 cs) 243 k0 itf) 250 k0 p1) 251 k0 (zq (hq_cn A 241 cs) p1 237 8)) 244 k0 (-1)) 245 k0 0) 247 k0 (wb_lshl 1 k0)) 248 k0 (hq_cn A 241 cs 241 11)) 249 k0 0) T n := by
          unfold zT
          refine ⟨?_, ?_, ?_⟩
          · rw [w_up_row (by first | decide | omega), w_up_row (by first | decide | omega), w_up_row (by first | decide | omega), w_up_row (by first | decide | omega), w_up_row (by first | decide | omega), w_up_row (by first | decide | omega), w_up_row (by first | decide | omega), w_up_row (by first | decide | omega)]; exact hB.1
          · rw [w_up_row (by first | decide | omega), w_up_row (by first | decide | omega), w_up_row (by first | decide | omega), w_up_row (by first | decide | omega), w_up_row (by first | decide | omega), w_up_row (by first | decide | omega), w_up_row (by first | decide | omega), w_up_row (by first | decide | omega)]; exact hB.2.1
          · rw [w_up_row (by first | decide | omega), w_up_row (by first | decide | omega), w_up_row (by first | decide | omega), w_up_row (by first | decide | omega), w_up_row (by first | decide | omega), w_up_row (by first | decide | omega), w_up_row (by first | decide | omega), w_up_row (by first | decide | omega)]; exact hB.2.2
        have hW0 : ∀ p : Int, uW T n p → True := fun _ _ => trivial
        have g0 := rcb_K (K := fun _ => True) (Or.inl rfl) hB hB1 hW0 (fun _ _ _ _ _ => trivial) (by
          rw [w_up_row (by first | decide | omega), w_up_row (by first | decide | omega), w_up_row (by first | decide | omega), w_up_row (by first | decide | omega), w_up_row (by first | decide | omega), w_up_row (by first | decide | omega), w_up_row (by first | decide | omega), w_up_row (by first | decide | omega), show hq_cn A 241 cs 241 1 = (cs.length : Int) from if_pos ⟨rfl, rfl⟩]; omega) trivial h
        refine ⟨g0.1, fun hK => ?_⟩
        have hC : ∀ p : Int, uC T n (cs ++ [cr]) p → K p := fun p z => hK p (Or.inr (Or.inl z))
        have hcr : ∀ p : Int, tp_q T p1 (lx_en T n 1 p1) p (lx_en T n 1 p) = true → K p := fun p z => hC p ⟨cr, List.mem_append_right _ (List.mem_singleton.2 rfl), by rw [g0.2.1.1, g0.2.1.2]; exact z⟩
        refine (rcb_K (K := K) (Or.inl rfl) hB hB1 (fun p z => hK p (Or.inl z)) ?_ (by
          rw [w_up_row (by first | decide | omega), w_up_row (by first | decide | omega), w_up_row (by first | decide | omega), w_up_row (by first | decide | omega), w_up_row (by first | decide | omega), w_up_row (by first | decide | omega), w_up_row (by first | decide | omega), w_up_row (by first | decide | omega), show hq_cn A 241 cs 241 1 = (cs.length : Int) from if_pos ⟨rfl, rfl⟩]; omega) (hcr p1 tp_q_rf) h).2.2 (fun r hr r2 p z => hK p (Or.inr (Or.inr ⟨r, hr, r2, z⟩)))
        intro c p c0 c1 ht
        rw [w_up_same] at c1
        have e9 : (w_up (w_up (w_up (w_up (w_up (w_up (w_up (w_up (w_up (hq_cn A 241 cs) 243 k0 itf) 250 k0 p1) 251 k0 (zq (hq_cn A 241 cs) p1 237 8)) 244 k0 (-1)) 245 k0 0) 247 k0 (wb_lshl 1 k0)) 248 k0 (hq_cn A 241 cs 241 11)) 249 k0 0) 241 1 (k0 + 1)) (241 + 9) c = w_up (hq_cn A 241 cs) 250 k0 p1 250 c := by
          show w_up _ 241 1 (k0 + 1) 250 c = _
          rw [w_up_row (by first | decide | omega), w_up_row (by first | decide | omega), w_up_row (by first | decide | omega), w_up_row (by first | decide | omega), w_up_row (by first | decide | omega), w_up_row (by first | decide | omega), w_up_row (by first | decide | omega)]
          by_cases e : c = k0
          · rw [e, w_up_same, w_up_same]
          · rw [w_up_at e, w_up_at e, w_up_at e]
        have e10 : (w_up (w_up (w_up (w_up (w_up (w_up (w_up (w_up (w_up (hq_cn A 241 cs) 243 k0 itf) 250 k0 p1) 251 k0 (zq (hq_cn A 241 cs) p1 237 8)) 244 k0 (-1)) 245 k0 0) 247 k0 (wb_lshl 1 k0)) 248 k0 (hq_cn A 241 cs 241 11)) 249 k0 0) 241 1 (k0 + 1)) (241 + 10) c = w_up (hq_cn A 241 cs) 251 k0 (lx_en T n 1 p1) 251 c := by
          show w_up _ 241 1 (k0 + 1) 251 c = _
          rw [w_up_row (by first | decide | omega), w_up_row (by first | decide | omega), w_up_row (by first | decide | omega), w_up_row (by first | decide | omega), w_up_row (by first | decide | omega), w_up_row (by first | decide | omega), zT_8 hB]
          by_cases e : c = k0
          · rw [e, w_up_same, w_up_same]
          · rw [w_up_at e, w_up_at e, w_up_at e, w_up_at e]
        rw [e9, e10] at ht
        by_cases e : c = k0
        · rw [e, w_up_same, w_up_same] at ht
          exact hcr p ht
        · rw [w_up_at e, w_up_at e] at ht
          exact hq_uF (A := A) (b := 241) (cs := cs) (K := K) (fun p z => hC p (by obtain ⟨r, r1, r2⟩ := z; exact ⟨r, List.mem_append_left _ r1, r2⟩)) (Or.inl rfl) c p c0 (by rw [show hq_cn A 241 cs 241 1 = (cs.length : Int) from if_pos ⟨rfl, rfl⟩]; omega) ht
      · rw [if_neg h3] at h; cases h
    · rw [if_neg h2] at h; cases h
  · rw [if_neg h1] at h; cases h
theorem rco_K_241 {k0 p p2 : Int} {ms ms2 : List hMR} {cr : hCR} {cs : List hCR} (hB : zT (hq_cn A 241 cs) T n) (hk0 : k0 = (cs.length : Int)) (h : rc_of_241 (hq_cn A 241 cs) k0 ms p = .inr (p2, cr, ms2)) : (∃ rs : List hMR, ms2 = ms ++ rs) ∧ (uK T n (cs ++ [cr]) ms2 K → nmP T n K p p2) := by
  unfold rc_of_241 at h
  by_cases h1 : lx_w (zq (hq_cn A 241 cs) p) tx_19 = true
  · rw [if_pos h1] at h
    have g := rcn_K_241 (K := K) hB hk0 h
    exact ⟨g.1, fun hK => nm_tr (nm_x hB (fun _ => hK p (Or.inl (uW_w (k := 10) hB (by first | decide | omega) h1)))) (g.2 hK)⟩
  · rw [if_neg h1] at h
    by_cases h2 : lx_w (zq (hq_cn A 241 cs) p) tx_17 = true
    · rw [if_pos h2] at h
      have g := rcn_K_241 (K := K) hB hk0 h
      exact ⟨g.1, fun hK => nm_tr (nm_x hB (fun _ => hK p (Or.inl (uW_w (k := 9) hB (by first | decide | omega) h2)))) (g.2 hK)⟩
    · rw [if_neg h2] at h; cases h
theorem hof_K_241 (hA : zT A T n) : ∀ (f : Nat) (cs : List hCR) (ms : List hMR) (p : Int) (cs2 : List hCR) (ms2 : List hMR), ho_f_241 A f cs ms p = .inr (cs2, ms2) → (∃ cr : List hCR, cs2 = cs ++ cr) ∧ (∃ rs : List hMR, ms2 = ms ++ rs) ∧ ∃ q : Int, lx_tk T n 1 q = 0 ∧ nmP T n (uN T n cs2 ms2) p q := by
  intro f
  induction f with
  | zero => intro cs ms p cs2 ms2 h; cases h
  | succ f ih =>
    intro cs ms p cs2 ms2 h
    rw [ho_f_s_241] at h
    by_cases h0 : zq A p 237 6 = 0
    · rw [if_pos h0] at h; cases h
      exact ⟨⟨[], (List.append_nil _).symm⟩, ⟨[], (List.append_nil _).symm⟩, p, by rw [← zT_6 hA]; exact h0, nm_rf⟩
    · rw [if_neg h0] at h
      cases hr : rc_of_241 (hq_cn A 241 cs) (cs.length : Int) ms p with
      | inl e => rw [hr] at h; cases h
      | inr x =>
        obtain ⟨p2, cr, ms3⟩ := x
        rw [hr] at h
        have hB : zT (hq_cn A 241 cs) T n := hqT_241 hA
        obtain ⟨⟨c2, ec⟩, ⟨r2, er⟩, q, q0, q1⟩ := ih _ _ _ _ _ h
        obtain ⟨⟨r1, e1⟩, g⟩ := rco_K_241 (K := uN T n cs2 ms2) hB rfl hr
        refine ⟨⟨cr :: c2, by rw [ec, List.append_assoc]; rfl⟩, ⟨r1 ++ r2, by rw [er, e1, List.append_assoc]⟩, q, q0, nm_tr (g (fun y hy => ?_)) q1⟩
        rcases hy with z | ⟨r, r3, r4⟩ | ⟨r, r3, r4⟩
        · exact Or.inl z
        · exact Or.inr (Or.inl ⟨r, by rw [ec]; exact List.mem_append_left _ r3, r4⟩)
        · exact Or.inr (Or.inr ⟨r, by rw [er]; exact List.mem_append_left _ r3, r4⟩)
theorem hqT_261 {cs : List hCR} (h : zT A T n) : zT (hq_cn A 261 cs) T n := by
  have e : ∀ (j : Nat) (i : Int), (j = 239 ∨ j = 237) → hq_cn A 261 cs j i = A j i := fun j i hj => by
    unfold hq_cn
    rw [if_neg (by omega)]
    split
    · rw [if_neg (by omega), if_neg (by omega), if_neg (by omega), if_neg (by omega), if_neg (by omega)]
    · rfl
  exact ⟨(funext fun i => e 239 i (Or.inl rfl)).trans h.1, (e 237 4 (Or.inr rfl)).trans h.2.1, (e 237 5 (Or.inr rfl)).trans h.2.2⟩
theorem rcn_K_261 {k0 itf p1 p2 : Int} {ms ms2 : List hMR} {cr : hCR} {cs : List hCR} (hB : zT (hq_cn A 261 cs) T n) (hk0 : k0 = (cs.length : Int)) (h : rc_n_261 (hq_cn A 261 cs) k0 ms itf p1 = .inr (p2, cr, ms2)) : (∃ rs : List hMR, ms2 = ms ++ rs) ∧ (uK T n (cs ++ [cr]) ms2 K → nmP T n K p1 p2) := by
  unfold rc_n_261 at h
  by_cases h1 : zq (hq_cn A 261 cs) p1 237 6 = 1
  · rw [if_pos h1] at h
    by_cases h2 : ch_of (zq (hq_cn A 261 cs) p1) 261 < 0 ∧ lx_oo (zq (hq_cn A 261 cs) p1) tx_21 = false
    · rw [if_pos h2] at h
      by_cases h3 : k0 < 60
      · rw [if_pos h3] at h
        have hB1 : zT (w_up (w_up (w_up (w_up (w_up (w_up (w_up (w_up (hq_cn A 261 cs) 263 k0 itf) 270 k0 p1) 271 k0 (zq (hq_cn A 261 cs) p1 237 8)) 264 k0 (-1)) 265 k0 0) 267 k0 (wb_lshl 1 k0)) 268 k0 (hq_cn A 261 cs 261 11)) 269 k0 0) T n := by
          unfold zT
          refine ⟨?_, ?_, ?_⟩
          · rw [w_up_row (by first | decide | omega), w_up_row (by first | decide | omega), w_up_row (by first | decide | omega), w_up_row (by first | decide | omega), w_up_row (by first | decide | omega), w_up_row (by first | decide | omega), w_up_row (by first | decide | omega), w_up_row (by first | decide | omega)]; exact hB.1
          · rw [w_up_row (by first | decide | omega), w_up_row (by first | decide | omega), w_up_row (by first | decide | omega), w_up_row (by first | decide | omega), w_up_row (by first | decide | omega), w_up_row (by first | decide | omega), w_up_row (by first | decide | omega), w_up_row (by first | decide | omega)]; exact hB.2.1
          · rw [w_up_row (by first | decide | omega), w_up_row (by first | decide | omega), w_up_row (by first | decide | omega), w_up_row (by first | decide | omega), w_up_row (by first | decide | omega), w_up_row (by first | decide | omega), w_up_row (by first | decide | omega), w_up_row (by first | decide | omega)]; exact hB.2.2
        have hW0 : ∀ p : Int, uW T n p → True := fun _ _ => trivial
        have g0 := rcb_K (K := fun _ => True) (Or.inr rfl) hB hB1 hW0 (fun _ _ _ _ _ => trivial) (by
          rw [w_up_row (by first | decide | omega), w_up_row (by first | decide | omega), w_up_row (by first | decide | omega), w_up_row (by first | decide | omega), w_up_row (by first | decide | omega), w_up_row (by first | decide | omega), w_up_row (by first | decide | omega), w_up_row (by first | decide | omega), show hq_cn A 261 cs 261 1 = (cs.length : Int) from if_pos ⟨rfl, rfl⟩]; omega) trivial h
        refine ⟨g0.1, fun hK => ?_⟩
        have hC : ∀ p : Int, uC T n (cs ++ [cr]) p → K p := fun p z => hK p (Or.inr (Or.inl z))
        have hcr : ∀ p : Int, tp_q T p1 (lx_en T n 1 p1) p (lx_en T n 1 p) = true → K p := fun p z => hC p ⟨cr, List.mem_append_right _ (List.mem_singleton.2 rfl), by rw [g0.2.1.1, g0.2.1.2]; exact z⟩
        refine (rcb_K (K := K) (Or.inr rfl) hB hB1 (fun p z => hK p (Or.inl z)) ?_ (by
          rw [w_up_row (by first | decide | omega), w_up_row (by first | decide | omega), w_up_row (by first | decide | omega), w_up_row (by first | decide | omega), w_up_row (by first | decide | omega), w_up_row (by first | decide | omega), w_up_row (by first | decide | omega), w_up_row (by first | decide | omega), show hq_cn A 261 cs 261 1 = (cs.length : Int) from if_pos ⟨rfl, rfl⟩]; omega) (hcr p1 tp_q_rf) h).2.2 (fun r hr r2 p z => hK p (Or.inr (Or.inr ⟨r, hr, r2, z⟩)))
        intro c p c0 c1 ht
        rw [w_up_same] at c1
        have e9 : (w_up (w_up (w_up (w_up (w_up (w_up (w_up (w_up (w_up (hq_cn A 261 cs) 263 k0 itf) 270 k0 p1) 271 k0 (zq (hq_cn A 261 cs) p1 237 8)) 264 k0 (-1)) 265 k0 0) 267 k0 (wb_lshl 1 k0)) 268 k0 (hq_cn A 261 cs 261 11)) 269 k0 0) 261 1 (k0 + 1)) (261 + 9) c = w_up (hq_cn A 261 cs) 270 k0 p1 270 c := by
          show w_up _ 261 1 (k0 + 1) 270 c = _
          rw [w_up_row (by first | decide | omega), w_up_row (by first | decide | omega), w_up_row (by first | decide | omega), w_up_row (by first | decide | omega), w_up_row (by first | decide | omega), w_up_row (by first | decide | omega), w_up_row (by first | decide | omega)]
          by_cases e : c = k0
          · rw [e, w_up_same, w_up_same]
          · rw [w_up_at e, w_up_at e, w_up_at e]
        have e10 : (w_up (w_up (w_up (w_up (w_up (w_up (w_up (w_up (w_up (hq_cn A 261 cs) 263 k0 itf) 270 k0 p1) 271 k0 (zq (hq_cn A 261 cs) p1 237 8)) 264 k0 (-1)) 265 k0 0) 267 k0 (wb_lshl 1 k0)) 268 k0 (hq_cn A 261 cs 261 11)) 269 k0 0) 261 1 (k0 + 1)) (261 + 10) c = w_up (hq_cn A 261 cs) 271 k0 (lx_en T n 1 p1) 271 c := by
          show w_up _ 261 1 (k0 + 1) 271 c = _
          rw [w_up_row (by first | decide | omega), w_up_row (by first | decide | omega), w_up_row (by first | decide | omega), w_up_row (by first | decide | omega), w_up_row (by first | decide | omega), w_up_row (by first | decide | omega), zT_8 hB]
          by_cases e : c = k0
          · rw [e, w_up_same, w_up_same]
          · rw [w_up_at e, w_up_at e, w_up_at e, w_up_at e]
        rw [e9, e10] at ht
        by_cases e : c = k0
        · rw [e, w_up_same, w_up_same] at ht
          exact hcr p ht
        · rw [w_up_at e, w_up_at e] at ht
          exact hq_uF (A := A) (b := 261) (cs := cs) (K := K) (fun p z => hC p (by obtain ⟨r, r1, r2⟩ := z; exact ⟨r, List.mem_append_left _ r1, r2⟩)) (Or.inr rfl) c p c0 (by rw [show hq_cn A 261 cs 261 1 = (cs.length : Int) from if_pos ⟨rfl, rfl⟩]; omega) ht
      · rw [if_neg h3] at h; cases h
    · rw [if_neg h2] at h; cases h
  · rw [if_neg h1] at h; cases h
theorem rco_K_261 {k0 p p2 : Int} {ms ms2 : List hMR} {cr : hCR} {cs : List hCR} (hB : zT (hq_cn A 261 cs) T n) (hk0 : k0 = (cs.length : Int)) (h : rc_of_261 (hq_cn A 261 cs) k0 ms p = .inr (p2, cr, ms2)) : (∃ rs : List hMR, ms2 = ms ++ rs) ∧ (uK T n (cs ++ [cr]) ms2 K → nmP T n K p p2) := by
  unfold rc_of_261 at h
  by_cases h1 : lx_w (zq (hq_cn A 261 cs) p) tx_19 = true
  · rw [if_pos h1] at h
    have g := rcn_K_261 (K := K) hB hk0 h
    exact ⟨g.1, fun hK => nm_tr (nm_x hB (fun _ => hK p (Or.inl (uW_w (k := 10) hB (by first | decide | omega) h1)))) (g.2 hK)⟩
  · rw [if_neg h1] at h
    by_cases h2 : lx_w (zq (hq_cn A 261 cs) p) tx_17 = true
    · rw [if_pos h2] at h
      have g := rcn_K_261 (K := K) hB hk0 h
      exact ⟨g.1, fun hK => nm_tr (nm_x hB (fun _ => hK p (Or.inl (uW_w (k := 9) hB (by first | decide | omega) h2)))) (g.2 hK)⟩
    · rw [if_neg h2] at h; cases h
theorem hof_K_261 (hA : zT A T n) : ∀ (f : Nat) (cs : List hCR) (ms : List hMR) (p : Int) (cs2 : List hCR) (ms2 : List hMR), ho_f_261 A f cs ms p = .inr (cs2, ms2) → (∃ cr : List hCR, cs2 = cs ++ cr) ∧ (∃ rs : List hMR, ms2 = ms ++ rs) ∧ ∃ q : Int, lx_tk T n 1 q = 0 ∧ nmP T n (uN T n cs2 ms2) p q := by
  intro f
  induction f with
  | zero => intro cs ms p cs2 ms2 h; cases h
  | succ f ih =>
    intro cs ms p cs2 ms2 h
    rw [ho_f_s_261] at h
    by_cases h0 : zq A p 237 6 = 0
    · rw [if_pos h0] at h; cases h
      exact ⟨⟨[], (List.append_nil _).symm⟩, ⟨[], (List.append_nil _).symm⟩, p, by rw [← zT_6 hA]; exact h0, nm_rf⟩
    · rw [if_neg h0] at h
      cases hr : rc_of_261 (hq_cn A 261 cs) (cs.length : Int) ms p with
      | inl e => rw [hr] at h; cases h
      | inr x =>
        obtain ⟨p2, cr, ms3⟩ := x
        rw [hr] at h
        have hB : zT (hq_cn A 261 cs) T n := hqT_261 hA
        obtain ⟨⟨c2, ec⟩, ⟨r2, er⟩, q, q0, q1⟩ := ih _ _ _ _ _ h
        obtain ⟨⟨r1, e1⟩, g⟩ := rco_K_261 (K := uN T n cs2 ms2) hB rfl hr
        refine ⟨⟨cr :: c2, by rw [ec, List.append_assoc]; rfl⟩, ⟨r1 ++ r2, by rw [er, e1, List.append_assoc]⟩, q, q0, nm_tr (g (fun y hy => ?_)) q1⟩
        rcases hy with z | ⟨r, r3, r4⟩ | ⟨r, r3, r4⟩
        · exact Or.inl z
        · exact Or.inr (Or.inl ⟨r, by rw [ec]; exact List.mem_append_left _ r3, r4⟩)
        · exact Or.inr (Or.inr ⟨r, by rw [er]; exact List.mem_append_left _ r3, r4⟩)
end Wo4
