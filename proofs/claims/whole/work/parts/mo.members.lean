/-! PART mo: which member a lookup at a host's value gives. -/
section Wmo
variable {HT : Int → Int} {cs : List hCR} {ms : List hMR} {os : Int → List Int} {k kd am : Int} {W tl : List Int}
theorem sgP_v {ph : Int} {nn : Nat} {f : List Int} (h : 0 ≤ sgP cs ms ph nn f) : sgP cs ms ph nn f ∈ f := by
  unfold sgP at h ⊢
  by_cases c : (bsA cs ms ph nn f).length = 1
  · rw [if_pos c] at h ⊢
    obtain ⟨a, ha⟩ := List.length_eq_one_iff.mp c
    rw [ha]
    show a ∈ f
    have : a ∈ bsA cs ms ph nn f := by rw [ha]; exact List.mem_singleton.mpr rfl
    exact (List.mem_filter.mp this).1
  · rw [if_neg c] at h
    omega
theorem sg_m {cd : List Int} (h : 0 ≤ sgA cs ms tl cd) : sgA cs ms tl cd ∈ cd ∧ ∃ ph : Int, (ph = 1 ∨ ph = 2 ∨ ph = 3) ∧ ftA cs ms ph tl (sgA cs ms tl cd) = true := by
  unfold sgA at h ⊢
  by_cases c1 : ftL cs ms 1 tl cd ≠ []
  · rw [if_pos c1] at h ⊢
    have z := List.mem_filter.mp (sgP_v h)
    exact ⟨z.1, 1, Or.inl rfl, z.2⟩
  · rw [if_neg c1] at h ⊢
    by_cases c2 : ftL cs ms 2 tl cd ≠ []
    · rw [if_pos c2] at h ⊢
      have z := List.mem_filter.mp (sgP_v h)
      exact ⟨z.1, 2, Or.inr (Or.inl rfl), z.2⟩
    · rw [if_neg c2] at h ⊢
      by_cases c3 : ftL cs ms 3 tl cd ≠ []
      · rw [if_pos c3] at h ⊢
        have z := List.mem_filter.mp (sgP_v h)
        exact ⟨z.1, 3, Or.inr (Or.inr rfl), z.2⟩
      · rw [if_neg c3] at h
        omega
theorem ft_n {ph m : Int} (h : ftA cs ms ph tl m = true) : (hmR ms m).2.2.2.2.2.1 = (if ph = 3 then 1 else 0) ∧ (if ph = 3 then (hmR ms m).2.2.2.2.1.length ≤ tl.length + 1 else (hmR ms m).2.2.2.2.1.length = tl.length) := by
  unfold ftA at h
  rw [Bool.and_eq_true, Bool.and_eq_true] at h
  exact ⟨of_decide_eq_true h.1.1, of_decide_eq_true h.1.2⟩
theorem FA_mv {c fs x : Int} {WW : List Int} (h : x ∈ FA HT cs ms os c am fs WW) : x ∈ mOr cs (if am = 2 then [c] else os c) ∧ (hmR ms x).2.1 = (if am = 2 then 2 else 1) ∧ (hmR ms x).2.2.1 = (if am = 1 then 1 else 0) ∧ (fs = 1 → ((hmR ms x).2.2.2.2.1.length : Int) = 1) := by
  unfold FA at h
  rcases cdA_m _ _ _ x h with z | z
  · exact absurd z (List.not_mem_nil)
  · have y := of_decide_eq_true z.2
    refine ⟨z.1, y.1, y.2.1, fun f1 => ?_⟩
    have y3 := y.2.2.1
    rw [if_pos f1] at y3
    omega
theorem rv_m {q : aQ} (h : 0 ≤ rvA HT cs ms os q) : rvA HT cs ms os q ∈ FA HT cs ms os q.1 q.2.1 q.2.2.1 q.2.2.2.1 ∧ ∃ ph : Int, (ph = 1 ∨ ph = 2 ∨ ph = 3) ∧ ftA cs ms ph q.2.2.2.2 (rvA HT cs ms os q) = true := by
  unfold rvA at h ⊢
  by_cases c : FA HT cs ms os q.1 q.2.1 q.2.2.1 q.2.2.2.1 = []
  · rw [if_pos c] at h
    omega
  · rw [if_neg c] at h ⊢
    exact sg_m h
theorem mO_g {x : Int} {l : List Int} (h : x ∈ mOr cs l) : ∃ o ∈ l, x ∈ mIx cs o := by
  unfold mOr at h
  exact List.mem_flatMap.mp h
theorem fd_m (hw : wHo cs ms os) (hk : 0 ≤ k ∧ k < (cs.length : Int)) (h : 0 ≤ fdA HT cs ms am W k) : (0 ≤ fdA HT cs ms am W k ∧ fdA HT cs ms am W k < (ms.length : Int)) ∧ (hmR ms (fdA HT cs ms am W k)).2.1 = 0 ∧ (am = -1 ∨ (hmR ms (fdA HT cs ms am W k)).2.2.1 = am) ∧ ((hmR ms (fdA HT cs ms am W k)).2.2.1 = 0 → fdA HT cs ms am W k ∈ flA cs ms k) := by
  rcases fsA_rg (ok := okF HT ms am W) (mOr cs (ch_l (Ab cs) (k.toNat + 1) k)) with z | z
  · replace z : fdA HT cs ms am W k = -1 := z
    omega
  · replace z : fdA HT cs ms am W k ∈ mOr cs (ch_l (Ab cs) (k.toNat + 1) k) ∧ okF HT ms am W (fdA HT cs ms am W k) = true := z
    generalize fdA HT cs ms am W k = x at *
    have hr := ch_rg hw (k.toNat + 1) k (by omega) hk.2
    have y := of_decide_eq_true z.2
    obtain ⟨q, q1, q2⟩ := mO_g z.1
    refine ⟨mOr_rg hw hr z.1, y.1, y.2.1.imp id Eq.symm, fun s0 => ?_⟩
    unfold flA chA
    refine List.mem_flatMap.mpr ⟨q, List.mem_reverse.mpr q1, ?_⟩
    unfold flO
    exact List.mem_filter.mpr ⟨q2, decide_eq_true ⟨y.1, s0⟩⟩
/-- what member it is -/
def whF (HT : Int → Int) (cs : List hCR) (ms : List hMR) (os : Int → List Int) (kd am k : Int) (nn : Nat) (m : Int) : Prop := ((kd = 0 ∨ kd = 1) ∧ (0 ≤ m ∧ m < (ms.length : Int)) ∧ (hmR ms m).2.1 = 0 ∧ (hmR ms m).2.2.1 = am ∧ (am = 0 → m ∈ flA cs ms k)) ∨ ((kd = 0 ∨ kd = 1 ∨ kd = 5) ∧ (0 ≤ m ∧ m < (ms.length : Int)) ∧ (hmR ms m).2.1 = 1 ∧ (hmR ms m).2.2.1 = am ∧ (∃ q ∈ os k, m ∈ mIx cs q) ∧ (kd = 0 → (hmR ms m).2.2.2.2.1.length = 0) ∧ (kd = 1 → (hmR ms m).2.2.2.2.1.length = 1) ∧ (kd = 5 → (hmR ms m).2.2.2.2.2.1 = 0 → (hmR ms m).2.2.2.2.1.length = nn)) ∨ (kd = 6 ∧ (0 ≤ m ∧ m < (ms.length : Int)) ∧ (hmR ms m).2.1 = 2 ∧ (0 < nn → 1 ≤ (hmR ms m).2.2.2.2.1.length))
theorem gt_m (hw : wHo cs ms os) (hk : 0 ≤ k ∧ k < (cs.length : Int)) (h : gtA HT cs ms os am W k ≠ -1) : (0 ≤ gtA HT cs ms os am W k ∧ gtA HT cs ms os am W k < (ms.length : Int)) ∧ (hmR ms (gtA HT cs ms os am W k)).2.1 = 1 ∧ (hmR ms (gtA HT cs ms os am W k)).2.2.1 = am ∧ (∃ q ∈ os k, gtA HT cs ms os am W k ∈ mIx cs q) ∧ (hmR ms (gtA HT cs ms os am W k)).2.2.2.2.1.length = 0 := by
  have key : ∀ WW : List Int, fsA (okM HT ms 1 am 0 WW) (mOr cs (os k)) ≠ -1 → (0 ≤ fsA (okM HT ms 1 am 0 WW) (mOr cs (os k)) ∧ fsA (okM HT ms 1 am 0 WW) (mOr cs (os k)) < (ms.length : Int)) ∧ (hmR ms (fsA (okM HT ms 1 am 0 WW) (mOr cs (os k)))).2.1 = 1 ∧ (hmR ms (fsA (okM HT ms 1 am 0 WW) (mOr cs (os k)))).2.2.1 = am ∧ (∃ q ∈ os k, fsA (okM HT ms 1 am 0 WW) (mOr cs (os k)) ∈ mIx cs q) ∧ (hmR ms (fsA (okM HT ms 1 am 0 WW) (mOr cs (os k)))).2.2.2.2.1.length = 0 := fun WW hn => by
    have z := (fsA_rg (ok := okM HT ms 1 am 0 WW) (mOr cs (os k))).resolve_left hn
    generalize fsA (okM HT ms 1 am 0 WW) (mOr cs (os k)) = x at *
    have y := of_decide_eq_true z.2
    refine ⟨mOr_rg hw (hw.2.2.1 k hk.1 hk.2).2.2 z.1, y.1, y.2.1, mO_g z.1, ?_⟩
    have := y.2.2.1
    omega
  unfold gtA at h ⊢
  by_cases c1 : fsA (okM HT ms 1 am 0 (wnW [103, 101, 116] W)) (mOr cs (os k)) ≠ -1
  · rw [if_pos c1]
    exact key _ c1
  · rw [if_neg c1] at h ⊢
    by_cases c2 : fsA (okM HT ms 1 am 0 (wnW [105, 115] W)) (mOr cs (os k)) ≠ -1 ∧ (hmR ms (fsA (okM HT ms 1 am 0 (wnW [105, 115] W)) (mOr cs (os k)))).2.2.2.1 = 3
    · rw [if_pos c2]
      exact key _ c2.1
    · rw [if_neg c2] at h
      exact absurd rfl h
theorem wh_m (hw : wHo cs ms os) (hk : 0 ≤ k ∧ k < (cs.length : Int)) (ham : am = 0 ∨ am = 1) (hkd : kd = 0 ∨ kd = 1 ∨ kd = 5 ∨ kd = 6) (h : 0 ≤ whA HT cs ms os kd am W k tl) : whF HT cs ms os kd am k tl.length (whA HT cs ms os kd am W k tl) := by
  unfold whA at h ⊢
  by_cases k0 : kd = 0
  · rw [if_pos k0] at h ⊢
    by_cases g : gtA HT cs ms os am W k = -1
    · rw [if_pos g] at h ⊢
      obtain ⟨z1, z2, z3, z4⟩ := fd_m hw hk h
      have z5 := z3.resolve_left (by omega)
      exact Or.inl ⟨Or.inl k0, z1, z2, z5, fun a0 => z4 (by omega)⟩
    · rw [if_neg g] at h ⊢
      obtain ⟨z1, z2, z3, z4, z5⟩ := gt_m hw hk g
      exact Or.inr (Or.inl ⟨Or.inl k0, z1, z2, z3, z4, fun _ => z5, fun q => by omega, fun q => by omega⟩)
  · rw [if_neg k0] at h ⊢
    have go : ∀ q : aQ, 0 ≤ rvA HT cs ms os q → q.1 = k → q.2.1 = am → q.2.2.2.2 = tl → (q.2.2.1 = 1 ∧ kd = 1) ∨ kd = 5 → whF HT cs ms os kd am k tl.length (rvA HT cs ms os q) := fun q hq q1 q2 q3 q4 => by
      obtain ⟨y1, ph, y2, y3⟩ := rv_m hq
      rw [q1, q2] at y1
      obtain ⟨x1, x2, x3, x4⟩ := FA_mv y1
      rw [if_neg (by omega)] at x1 x2
      obtain ⟨f1, f2⟩ := ft_n y3
      rw [q3] at f2
      refine Or.inr (Or.inl ⟨by omega, mOr_rg hw (hw.2.2.1 k hk.1 hk.2).2.2 x1, x2, ?_, mO_g x1, fun z => absurd z k0, fun z => ?_, fun z v0 => ?_⟩)
      · rw [x3]
        rcases ham with a | a
        · rw [if_neg (by omega)]
          exact a.symm
        · rw [if_pos a]
          exact a.symm
      · have := x4 (by omega)
        omega
      · by_cases p3 : ph = 3
        · rw [if_pos p3] at f1
          omega
        · rw [if_neg p3] at f2
          exact f2
    by_cases k1 : kd = 1
    · rw [if_pos k1] at h ⊢
      by_cases g : FA HT cs ms os k am 1 (wnW [115, 101, 116] W) = []
      · rw [if_pos g] at h ⊢
        obtain ⟨z1, z2, z3, z4⟩ := fd_m hw hk h
        have z5 := z3.resolve_left (by omega)
        exact Or.inl ⟨Or.inr k1, z1, z2, z5, fun a0 => z4 (by omega)⟩
      · rw [if_neg g] at h ⊢
        exact go _ h rfl rfl rfl (Or.inl ⟨rfl, k1⟩)
    · rw [if_neg k1] at h ⊢
      by_cases k5 : kd = 5
      · rw [if_pos k5] at h ⊢
        exact go _ h rfl rfl rfl (Or.inr k5)
      · rw [if_neg k5] at h ⊢
        obtain ⟨y1, ph, y2, y3⟩ := rv_m h
        obtain ⟨x1, x2, x3, x4⟩ := FA_mv y1
        replace x1 : rvA HT cs ms os (k, 2, 0, [], tl) ∈ mOr cs [k] := x1
        replace x2 : (hmR ms (rvA HT cs ms os (k, 2, 0, [], tl))).2.1 = 2 := x2
        have hrg := mOr_rg hw (fun q hq => by rw [List.mem_singleton.mp hq]; exact hk) x1
        obtain ⟨f1, f2⟩ := ft_n y3
        replace f2 : if ph = 3 then (hmR ms (rvA HT cs ms os (k, 2, 0, [], tl))).2.2.2.2.1.length ≤ tl.length + 1 else (hmR ms (rvA HT cs ms os (k, 2, 0, [], tl))).2.2.2.2.1.length = tl.length := f2
        refine Or.inr (Or.inr ⟨by omega, hrg, x2, fun n0 => ?_⟩)
        by_cases p3 : ph = 3
        · rw [if_pos p3] at f1
          rcases (hw.2.2.2 _ hrg.1 hrg.2).2.1 with v | v
          · omega
          · exact v.2
        · rw [if_neg p3] at f2
          omega
theorem ff_m (hw : wHo cs ms os) {m : Int} (hm : 0 ≤ m ∧ m < (ms.length : Int)) : ffA HT cs ms m = -1 ∨ (((0 ≤ ffA HT cs ms m ∧ ffA HT cs ms m < (ms.length : Int)) ∧ (hmR ms (ffA HT cs ms m)).2.1 = 0 ∧ (hmR ms (ffA HT cs ms m)).2.2.1 = (hmR ms m).2.2.1) ∧ (((hmR ms m).2.2.2.1 = 0 ∧ (hmR ms m).2.2.2.2.1.length = 1 ∧ (hmR ms m).2.2.2.2.2.1 = 0) ∨ ((hmR ms m).2.2.2.2.1.length = 0 ∧ (hmR ms (ffA HT cs ms m)).2.2.2.1 = (hmR ms m).2.2.2.1))) := by
  have how := (hw.2.2.2 m hm.1 hm.2).1.1
  unfold ffA
  by_cases c : sB ms (nmR HT (hmR ms m)) m = true ∨ gB ms (nmR HT (hmR ms m)) m = true
  · rw [if_pos c]
    unfold ftF
    by_cases c2 : 0 ≤ (fdA HT cs ms (-1) (wtN (nmR HT (hmR ms m)) (skN (nmR HT (hmR ms m)))) (hmR ms m).1) ∧ (hmR ms (fdA HT cs ms (-1) (wtN (nmR HT (hmR ms m)) (skN (nmR HT (hmR ms m)))) (hmR ms m).1)).2.2.1 = (hmR ms m).2.2.1 ∧ (hmR ms (fdA HT cs ms (-1) (wtN (nmR HT (hmR ms m)) (skN (nmR HT (hmR ms m)))) (hmR ms m).1)).2.2.2.1 = (if sB ms (nmR HT (hmR ms m)) m = true then (hmR ms m).2.2.2.2.1.getD 0 0 else (hmR ms m).2.2.2.1)
    · rw [if_pos c2]
      obtain ⟨z1, z2, -, -⟩ := fd_m hw how c2.1
      refine Or.inr ⟨⟨z1, z2, c2.2.1⟩, ?_⟩
      by_cases cs9 : sB ms (nmR HT (hmR ms m)) m = true
      · left
        have y := cs9
        unfold sB at y
        rw [Bool.and_eq_true] at y
        exact of_decide_eq_true y.2
      · right
        have y := c.resolve_left cs9
        unfold gB at y
        rw [Bool.and_eq_true] at y
        have c3 := c2.2.2
        rw [if_neg cs9] at c3
        exact ⟨of_decide_eq_true y.1, c3⟩
    · rw [if_neg c2]
      exact Or.inl rfl
  · rw [if_neg c]
    exact Or.inl rfl
theorem an_G {T : List aO} {n ty x : Int} : vG T n ((anK ty, anB ty x, []) : aV) := by
  unfold anK anB
  by_cases c : ty = 3 ∨ ty = 6
  · rw [if_pos c, if_pos c]
    exact vG_b (by have := land_1 x; omega)
  · rw [if_neg c, if_neg c]
    exact vG_n
end Wmo
