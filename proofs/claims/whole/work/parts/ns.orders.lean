/-! PART ns: the orders of classes, and which class is above which. -/
section Wns0
variable {A B B1 S Z : wS} {T : Int → Int} {n : Int} {cs : List hCR}
theorem so_2_cg {I I2 : Int → Int} {os os2 : Int → List Int} : ∀ (sl l : List Int), (∀ s ∈ sl, I s = I2 s ∧ os s = os2 s) → so_2 I os l sl = so_2 I2 os2 l sl
  | [], _, _ => rfl
  | s :: sl, l, h => by
    obtain ⟨h1, h2⟩ := h s List.mem_cons_self
    show so_2 I os (if I s = 1 then (os s).foldl ad_l l else l) sl = so_2 I2 os2 (if I2 s = 1 then (os2 s).foldl ad_l l else l) sl
    rw [h1, h2]
    exact so_2_cg sl _ (fun t ht => h t (List.mem_cons_of_mem _ ht))
theorem so_L_cg {I I2 A A2 : Int → Int} {os os2 : Int → List Int} {k : Int} {sl : List Int} (hk : 0 ≤ k) (hA : ∀ q : Int, 0 ≤ q → q ≤ k → A q = A2 q ∧ -1 ≤ A q ∧ A q < q) (hs : ∀ s ∈ sl, I s = I2 s ∧ os s = os2 s) (ho : A k ≠ -1 → os (A k) = os2 (A k)) : so_L I A os k sl = so_L I2 A2 os2 k sl := by
  unfold so_L
  rw [ch_l_cg (B := A2) (k.toNat + 1) k (by omega) hA, so_2_cg sl _ hs]
  have e := (hA k hk (Int.le_refl _)).1
  by_cases c : A k = -1
  · rw [if_pos c, if_pos (by omega)]
  · rw [if_neg c, if_neg (by omega), ho c, e]
theorem su_1_i {b : Nat} {c p a s : Int} {l : List Int} (h : su_1 B b c p a l = .inr s) (hI : B (b + 2) c ≠ 0) : B (b + 2) s ≠ 0 := by
  unfold su_1 at h
  split at h
  · split at h
    · split at h
      · cases h
      · rename_i h3
        cases h
        intro z
        apply h3
        unfold tw_l
        rw [Bool.or_eq_true]
        exact Or.inl (decide_eq_true ⟨z, Or.inl hI⟩)
    · cases h
  · cases h
theorem su_f_i {b : Nat} {c : Int} : ∀ (f : Nat) (p : Int) (l : List Int) (a al q : Int) (l2 : List Int) (a2 al2 : Int), su_f B b c f p l a al = .inr (q, l2, a2, al2) → (a2 = a ∨ B (b + 2) a2 = 0) ∧ (B (b + 2) c ≠ 0 → a2 = a) := by
  intro f
  induction f with
  | zero => intro p l a al q l2 a2 al2 h; cases h
  | succ f ih =>
    intro p l a al q l2 a2 al2 h
    rw [su_f_s] at h
    split at h
    · cases hs : su_1 B b c (lx_ne (zq B p) p) a l with
      | inl e => rw [hs] at h; cases h
      | inr s =>
        rw [hs] at h
        obtain ⟨i1, i2⟩ := ih _ _ _ _ _ _ _ _ h
        refine ⟨?_, fun hI => ?_⟩
        · rcases i1 with z | z
          · by_cases c0 : B (b + 2) s = 0
            · rw [if_pos c0] at z
              exact Or.inr (by rw [z]; exact c0)
            · rw [if_neg c0] at z
              exact Or.inl z
          · exact Or.inr z
        · rw [i2 hI, if_neg (su_1_i hs hI)]
    · cases h
      exact ⟨Or.inl rfl, fun _ => rfl⟩
theorem su_a_i {b : Nat} {c p q a al : Int} {l : List Int} (h : su_a B b c p = .inr (q, l, a, al)) : (a = B (b + 3) c ∨ B (b + 2) a = 0) ∧ (B (b + 2) c ≠ 0 → a = B (b + 3) c) := by
  unfold su_a at h
  cases hs : su_1 B b c p (B (b + 3) c) [] with
  | inl e => rw [hs] at h; cases h
  | inr s =>
    rw [hs] at h
    obtain ⟨i1, i2⟩ := su_f_i _ _ _ _ _ _ _ _ _ h
    refine ⟨?_, fun hI => ?_⟩
    · rcases i1 with z | z
      · by_cases c0 : B (b + 2) s = 0
        · rw [if_pos c0] at z
          exact Or.inr (by rw [z]; exact c0)
        · rw [if_neg c0] at z
          exact Or.inl z
      · exact Or.inr z
    · rw [i2 hI, if_neg (su_1_i hs hI)]
theorem rcb_i {b : Nat} {k0 itf p1 p2 : Int} {ms ms2 : List hMR} {cr : hCR} (h3 : B1 (b + 3) k0 = -1) (h : rc_body B B1 b k0 ms itf p1 = .inr (p2, cr, ms2)) : (cr.2.2.2.1 = -1 ∨ B1 (b + 2) cr.2.2.2.1 = 0) ∧ (B1 (b + 2) k0 ≠ 0 → cr.2.2.2.1 = -1) := by
  cases hs : rc_su B B1 b k0 p1 with
  | inl e => rw [rcb_1 hs] at h; cases h
  | inr x =>
    obtain ⟨q, l, a, al⟩ := x
    by_cases h123 : lx_is (zq B q) 123 = true
    · cases hm : mb_f (w_up B1 b 1 (k0 + 1)) b k0 itf ms.length ((B 237 4 - lx_ne (zq B q) q).toNat + 1) (lx_ne (zq B q) q) ms with
      | inl e => rw [rcb_3 hs h123 hm] at h; cases h
      | inr y =>
        obtain ⟨z, ms3⟩ := y
        rw [rcb_4 hs h123 hm] at h
        cases h
        unfold rc_su at hs
        split at hs
        · have z := su_a_i hs
          rw [h3] at z
          exact z
        · cases hs
          exact ⟨Or.inl rfl, fun _ => rfl⟩
    · rw [rcb_2 hs h123] at h; cases h
theorem hcR_o {r : hCR} {k : Int} (h0 : 0 ≤ k) (h : k < (cs.length : Int)) : hcR (cs ++ [r]) k = hcR cs k := by
  unfold hcR
  rw [List.getD_eq_getElem?_getD, List.getD_eq_getElem?_getD, List.getElem?_append_left (by omega)]
theorem hcR_n {r : hCR} : hcR (cs ++ [r]) (cs.length : Int) = r := by
  unfold hcR
  rw [List.getD_eq_getElem?_getD, Int.toNat_natCast, List.getElem?_append_right (Nat.le_refl _), Nat.sub_self]
  rfl
end Wns0
section Wns
variable {A S : wS} {T : Int → Int} {n : Int} {c : Nat}
theorem rcn_i_73 {B : wS} {k0 itf p1 p2 : Int} {ms ms2 : List hMR} {cr : hCR} (h : rc_n_241 B k0 ms itf p1 = .inr (p2, cr, ms2)) : (cr.2.2.2.1 = -1 ∨ (cr.2.2.2.1 ≠ k0 → B 243 cr.2.2.2.1 = 0)) ∧ (itf ≠ 0 → cr.2.2.2.1 = -1) := by
  unfold rc_n_241 at h
  by_cases h1 : zq B p1 237 6 = 1
  · rw [if_pos h1] at h
    by_cases h2 : ch_of (zq B p1) 241 < 0 ∧ lx_oo (zq B p1) tx_21 = false
    · rw [if_pos h2] at h
      by_cases h3 : k0 < 60
      · rw [if_pos h3] at h
        obtain ⟨i1, i2⟩ := rcb_i (by rw [w_up_slot (by first | decide | omega), w_up_slot (by first | decide | omega), w_up_slot (by first | decide | omega), w_up_slot (by first | decide | omega), w_up_same]) h
        refine ⟨i1.imp id (fun z hk => ?_), fun hi => i2 ?_⟩
        · rw [w_up_slot (by first | decide | omega), w_up_slot (by first | decide | omega), w_up_slot (by first | decide | omega), w_up_slot (by first | decide | omega), w_up_slot (by first | decide | omega), w_up_slot (by first | decide | omega), w_up_slot (by first | decide | omega), w_up_at hk] at z
          exact z
        · rw [w_up_slot (by first | decide | omega), w_up_slot (by first | decide | omega), w_up_slot (by first | decide | omega), w_up_slot (by first | decide | omega), w_up_slot (by first | decide | omega), w_up_slot (by first | decide | omega), w_up_slot (by first | decide | omega), w_up_same]
          exact hi
      · rw [if_neg h3] at h; cases h
    · rw [if_neg h2] at h; cases h
  · rw [if_neg h1] at h; cases h
theorem JW_73 : JE_73 A T n c (fun cs _ os _ => wOs cs os ∧ wAb cs) := by
  refine ⟨fun Z _ => ⟨fun k k0 k1 => ?_, fun k k0 k1 => ?_⟩, fun cs ms os S x h => h, ?_⟩
  · have : k < 0 := k1
    omega
  · have : k < 0 := k1
    omega
  intro cs ms os S i itf S3 a al l Zo i2 ms2 Zm Z1 Zf hj h hP hit y1 y2 y3 y4 y5 y6 y7 y8 y9 y10 y11 y12 y13 y14 y15 y16 y17
  obtain ⟨hO, hB⟩ := h
  obtain ⟨i1, i2⟩ := rcn_i_73 y1
  replace i1 : a = -1 ∨ (a ≠ (cs.length : Int) → hq_cn A 241 cs 243 a = 0) := i1
  replace i2 : itf ≠ 0 → a = -1 := i2
  have hc : (cs.length : Int) < 60 := by
    unfold rc_n_241 at y1
    split at y1
    · split at y1
      · split at y1
        · assumption
        · cases y1
      · cases y1
    · cases y1
  have hl60 := su_nd_len (by omega) y4
  have eI : ∀ s : Int, 0 ≤ s → s < (cs.length : Int) → S3 87 s = Ib cs s ∧ S3 88 s = Ab cs s := fun s s0 s1 => by
    obtain ⟨g1, g2, -⟩ := hj.2.2.2.2.2.1 s.toNat _ (hcR_i s0 s1)
    rw [show ((s.toNat : Nat) : Int) = s by omega] at g1 g2
    rw [y2 87 (by first | decide | omega) (by first | decide | omega) (by first | decide | omega), y2 88 (by first | decide | omega) (by first | decide | omega) (by first | decide | omega)]
    exact ⟨g1, g2⟩
  generalize hr : ((itf, tp T n 1 i, zq (hq_cn A 241 cs) (tp T n 1 i) 237 8, a, l, al, (ms.length : Int), (ms2.length : Int) - (ms.length : Int)) : hCR) = r
  have r1 : r.1 = itf := by rw [← hr]
  have r4 : r.2.2.2.1 = a := by rw [← hr]
  have r5 : r.2.2.2.2.1 = l := by rw [← hr]
  have Io : ∀ s : Int, 0 ≤ s → s < (cs.length : Int) → Ib (cs ++ [r]) s = Ib cs s ∧ Ab (cs ++ [r]) s = Ab cs s ∧ sup (cs ++ [r]) s = sup cs s := fun s s0 s1 => ⟨by unfold Ib; rw [hcR_o s0 s1], Ab_o ⟨s0, s1⟩, by unfold sup; rw [hcR_o s0 s1]⟩
  have In : Ib (cs ++ [r]) (cs.length : Int) = itf ∧ Ab (cs ++ [r]) (cs.length : Int) = a ∧ sup (cs ++ [r]) (cs.length : Int) = l := ⟨by unfold Ib; rw [hcR_n]; exact r1, Ab_n.trans r4, by unfold sup; rw [hcR_n]; exact r5⟩
  have hlen : ((cs ++ [r]).length : Int) = (cs.length : Int) + 1 := by rw [List.length_append]; rfl
  have ab : ∀ s : Int, 0 ≤ s → s < (cs.length : Int) → -1 ≤ Ab cs s ∧ Ab cs s < s := fun s s0 s1 => (hO s s0 s1).2.2.2.1
  have aI : a ≠ -1 → Ib cs a = 0 := fun ha => by
    rcases i1 with z | z
    · exact absurd z ha
    · have q := z (by omega)
      unfold hq_cn at q
      rw [if_neg (by omega), if_pos ⟨by omega, by omega⟩, if_pos rfl] at q
      exact q
  refine ⟨fun k k0 k1 => ?_, fun k k0 k1 => ?_⟩
  · rw [hlen] at k1
    by_cases ck : k = (cs.length : Int)
    · subst ck
      refine ⟨?_, ?_, ?_, ?_, ?_⟩
      · show (if (cs.length : Int) = (cs.length : Int) then _ else os (cs.length : Int)) = _
        rw [if_pos rfl, In.2.2]
        refine so_L_cg (by omega) (fun q q0 q1 => ?_) (fun s hs => ?_) (fun ha => ?_)
        · by_cases cq : q = (cs.length : Int)
          · rw [cq, In.2.1, w_up_slot (by first | decide | omega), w_up_slot (by first | decide | omega), w_up_slot (by first | decide | omega), w_up_slot (by first | decide | omega), w_up_same]
            exact ⟨rfl, y5.1, y5.2⟩
          · rw [w_up_slot (by first | decide | omega), w_up_slot (by first | decide | omega), w_up_slot (by first | decide | omega), w_up_slot (by first | decide | omega), w_up_at cq, w_up_slot (by first | decide | omega), (eI q q0 (by omega)).2, (Io q q0 (by omega)).2.1]
            exact ⟨rfl, ab q q0 (by omega)⟩
        · have hs2 := y4.2 s hs
          rw [w_up_slot (by first | decide | omega), w_up_slot (by first | decide | omega), w_up_slot (by first | decide | omega), w_up_slot (by first | decide | omega), w_up_slot (by first | decide | omega), w_up_at (by omega), (eI s hs2.1 hs2.2).1, (Io s hs2.1 hs2.2).1]
          refine ⟨rfl, ?_⟩
          show os s = (if s = (cs.length : Int) then _ else os s)
          rw [if_neg (by omega)]
        · rw [w_up_slot (by first | decide | omega), w_up_slot (by first | decide | omega), w_up_slot (by first | decide | omega), w_up_slot (by first | decide | omega), w_up_same]
          show os a = (if a = (cs.length : Int) then _ else os a)
          rw [if_neg (by omega)]
      · rw [In.2.2]; exact y4.2
      · rw [In.1, In.2.1]; exact fun z => i2 (by omega)
      · rw [In.2.1]; exact y5
      · rw [In.2.2]; omega
    · have kl : k < (cs.length : Int) := by omega
      obtain ⟨o1, o2, o3, o4, o5⟩ := hO k k0 kl
      obtain ⟨j1, j2, j3⟩ := Io k k0 kl
      refine ⟨?_, by rw [j3]; exact o2, by rw [j1, j2]; exact o3, by rw [j2]; exact o4, by rw [j3]; exact o5⟩
      show (if k = (cs.length : Int) then _ else os k) = _
      rw [if_neg ck, j3, o1]
      refine so_L_cg k0 (fun q q0 q1 => ?_) (fun s hs => ?_) (fun ha => ?_)
      · rw [(Io q q0 (by omega)).2.1]
        exact ⟨rfl, ab q q0 (by omega)⟩
      · have hs2 := o2 s hs
        rw [(Io s hs2.1 (by omega)).1]
        refine ⟨rfl, ?_⟩
        show os s = (if s = (cs.length : Int) then _ else os s)
        rw [if_neg (by omega)]
      · show os (Ab cs k) = (if Ab cs k = (cs.length : Int) then _ else os (Ab cs k))
        rw [if_neg (by omega)]
  · rw [hlen] at k1
    by_cases ck : k = (cs.length : Int)
    · subst ck
      rw [In.1, In.2.1]
      exact ⟨fun ha => by rw [(Io a (by omega) y5.2).1]; exact aI ha, hit⟩
    · have kl : k < (cs.length : Int) := by omega
      obtain ⟨o1, o2⟩ := hB k k0 kl
      obtain ⟨j1, j2, -⟩ := Io k k0 kl
      have hab := ab k k0 kl
      rw [j1, j2]
      exact ⟨fun ha => by rw [(Io (Ab cs k) (by omega) (by omega)).1]; exact o1 ha, o2⟩
theorem rcn_i_162 {B : wS} {k0 itf p1 p2 : Int} {ms ms2 : List hMR} {cr : hCR} (h : rc_n_261 B k0 ms itf p1 = .inr (p2, cr, ms2)) : (cr.2.2.2.1 = -1 ∨ (cr.2.2.2.1 ≠ k0 → B 263 cr.2.2.2.1 = 0)) ∧ (itf ≠ 0 → cr.2.2.2.1 = -1) := by
  unfold rc_n_261 at h
  by_cases h1 : zq B p1 237 6 = 1
  · rw [if_pos h1] at h
    by_cases h2 : ch_of (zq B p1) 261 < 0 ∧ lx_oo (zq B p1) tx_21 = false
    · rw [if_pos h2] at h
      by_cases h3 : k0 < 60
      · rw [if_pos h3] at h
        obtain ⟨i1, i2⟩ := rcb_i (by rw [w_up_slot (by first | decide | omega), w_up_slot (by first | decide | omega), w_up_slot (by first | decide | omega), w_up_slot (by first | decide | omega), w_up_same]) h
        refine ⟨i1.imp id (fun z hk => ?_), fun hi => i2 ?_⟩
        · rw [w_up_slot (by first | decide | omega), w_up_slot (by first | decide | omega), w_up_slot (by first | decide | omega), w_up_slot (by first | decide | omega), w_up_slot (by first | decide | omega), w_up_slot (by first | decide | omega), w_up_slot (by first | decide | omega), w_up_at hk] at z
          exact z
        · rw [w_up_slot (by first | decide | omega), w_up_slot (by first | decide | omega), w_up_slot (by first | decide | omega), w_up_slot (by first | decide | omega), w_up_slot (by first | decide | omega), w_up_slot (by first | decide | omega), w_up_slot (by first | decide | omega), w_up_same]
          exact hi
      · rw [if_neg h3] at h; cases h
    · rw [if_neg h2] at h; cases h
  · rw [if_neg h1] at h; cases h
theorem JW_162 : JE_162 A T n c (fun cs _ os _ => wOs cs os ∧ wAb cs) := by
  refine ⟨fun Z _ => ⟨fun k k0 k1 => ?_, fun k k0 k1 => ?_⟩, fun cs ms os S x h => h, ?_⟩
  · have : k < 0 := k1
    omega
  · have : k < 0 := k1
    omega
  intro cs ms os S i itf S3 a al l Zo i2 ms2 Zm Z1 Zf hj h hP hit y1 y2 y3 y4 y5 y6 y7 y8 y9 y10 y11 y12 y13 y14 y15 y16 y17
  obtain ⟨hO, hB⟩ := h
  obtain ⟨i1, i2⟩ := rcn_i_162 y1
  replace i1 : a = -1 ∨ (a ≠ (cs.length : Int) → hq_cn A 261 cs 263 a = 0) := i1
  replace i2 : itf ≠ 0 → a = -1 := i2
  have hc : (cs.length : Int) < 60 := by
    unfold rc_n_261 at y1
    split at y1
    · split at y1
      · split at y1
        · assumption
        · cases y1
      · cases y1
    · cases y1
  have hl60 := su_nd_len (by omega) y4
  have eI : ∀ s : Int, 0 ≤ s → s < (cs.length : Int) → S3 176 s = Ib cs s ∧ S3 177 s = Ab cs s := fun s s0 s1 => by
    obtain ⟨g1, g2, -⟩ := hj.2.2.2.2.2.1 s.toNat _ (hcR_i s0 s1)
    rw [show ((s.toNat : Nat) : Int) = s by omega] at g1 g2
    rw [y2 176 (by first | decide | omega) (by first | decide | omega) (by first | decide | omega), y2 177 (by first | decide | omega) (by first | decide | omega) (by first | decide | omega)]
    exact ⟨g1, g2⟩
  generalize hr : ((itf, tp T n 1 i, zq (hq_cn A 261 cs) (tp T n 1 i) 237 8, a, l, al, (ms.length : Int), (ms2.length : Int) - (ms.length : Int)) : hCR) = r
  have r1 : r.1 = itf := by rw [← hr]
  have r4 : r.2.2.2.1 = a := by rw [← hr]
  have r5 : r.2.2.2.2.1 = l := by rw [← hr]
  have Io : ∀ s : Int, 0 ≤ s → s < (cs.length : Int) → Ib (cs ++ [r]) s = Ib cs s ∧ Ab (cs ++ [r]) s = Ab cs s ∧ sup (cs ++ [r]) s = sup cs s := fun s s0 s1 => ⟨by unfold Ib; rw [hcR_o s0 s1], Ab_o ⟨s0, s1⟩, by unfold sup; rw [hcR_o s0 s1]⟩
  have In : Ib (cs ++ [r]) (cs.length : Int) = itf ∧ Ab (cs ++ [r]) (cs.length : Int) = a ∧ sup (cs ++ [r]) (cs.length : Int) = l := ⟨by unfold Ib; rw [hcR_n]; exact r1, Ab_n.trans r4, by unfold sup; rw [hcR_n]; exact r5⟩
  have hlen : ((cs ++ [r]).length : Int) = (cs.length : Int) + 1 := by rw [List.length_append]; rfl
  have ab : ∀ s : Int, 0 ≤ s → s < (cs.length : Int) → -1 ≤ Ab cs s ∧ Ab cs s < s := fun s s0 s1 => (hO s s0 s1).2.2.2.1
  have aI : a ≠ -1 → Ib cs a = 0 := fun ha => by
    rcases i1 with z | z
    · exact absurd z ha
    · have q := z (by omega)
      unfold hq_cn at q
      rw [if_neg (by omega), if_pos ⟨by omega, by omega⟩, if_pos rfl] at q
      exact q
  refine ⟨fun k k0 k1 => ?_, fun k k0 k1 => ?_⟩
  · rw [hlen] at k1
    by_cases ck : k = (cs.length : Int)
    · subst ck
      refine ⟨?_, ?_, ?_, ?_, ?_⟩
      · show (if (cs.length : Int) = (cs.length : Int) then _ else os (cs.length : Int)) = _
        rw [if_pos rfl, In.2.2]
        refine so_L_cg (by omega) (fun q q0 q1 => ?_) (fun s hs => ?_) (fun ha => ?_)
        · by_cases cq : q = (cs.length : Int)
          · rw [cq, In.2.1, w_up_slot (by first | decide | omega), w_up_slot (by first | decide | omega), w_up_slot (by first | decide | omega), w_up_slot (by first | decide | omega), w_up_same]
            exact ⟨rfl, y5.1, y5.2⟩
          · rw [w_up_slot (by first | decide | omega), w_up_slot (by first | decide | omega), w_up_slot (by first | decide | omega), w_up_slot (by first | decide | omega), w_up_at cq, w_up_slot (by first | decide | omega), (eI q q0 (by omega)).2, (Io q q0 (by omega)).2.1]
            exact ⟨rfl, ab q q0 (by omega)⟩
        · have hs2 := y4.2 s hs
          rw [w_up_slot (by first | decide | omega), w_up_slot (by first | decide | omega), w_up_slot (by first | decide | omega), w_up_slot (by first | decide | omega), w_up_slot (by first | decide | omega), w_up_at (by omega), (eI s hs2.1 hs2.2).1, (Io s hs2.1 hs2.2).1]
          refine ⟨rfl, ?_⟩
          show os s = (if s = (cs.length : Int) then _ else os s)
          rw [if_neg (by omega)]
        · rw [w_up_slot (by first | decide | omega), w_up_slot (by first | decide | omega), w_up_slot (by first | decide | omega), w_up_slot (by first | decide | omega), w_up_same]
          show os a = (if a = (cs.length : Int) then _ else os a)
          rw [if_neg (by omega)]
      · rw [In.2.2]; exact y4.2
      · rw [In.1, In.2.1]; exact fun z => i2 (by omega)
      · rw [In.2.1]; exact y5
      · rw [In.2.2]; omega
    · have kl : k < (cs.length : Int) := by omega
      obtain ⟨o1, o2, o3, o4, o5⟩ := hO k k0 kl
      obtain ⟨j1, j2, j3⟩ := Io k k0 kl
      refine ⟨?_, by rw [j3]; exact o2, by rw [j1, j2]; exact o3, by rw [j2]; exact o4, by rw [j3]; exact o5⟩
      show (if k = (cs.length : Int) then _ else os k) = _
      rw [if_neg ck, j3, o1]
      refine so_L_cg k0 (fun q q0 q1 => ?_) (fun s hs => ?_) (fun ha => ?_)
      · rw [(Io q q0 (by omega)).2.1]
        exact ⟨rfl, ab q q0 (by omega)⟩
      · have hs2 := o2 s hs
        rw [(Io s hs2.1 (by omega)).1]
        refine ⟨rfl, ?_⟩
        show os s = (if s = (cs.length : Int) then _ else os s)
        rw [if_neg (by omega)]
      · show os (Ab cs k) = (if Ab cs k = (cs.length : Int) then _ else os (Ab cs k))
        rw [if_neg (by omega)]
  · rw [hlen] at k1
    by_cases ck : k = (cs.length : Int)
    · subst ck
      rw [In.1, In.2.1]
      exact ⟨fun ha => by rw [(Io a (by omega) y5.2).1]; exact aI ha, hit⟩
    · have kl : k < (cs.length : Int) := by omega
      obtain ⟨o1, o2⟩ := hB k k0 kl
      obtain ⟨j1, j2, -⟩ := Io k k0 kl
      have hab := ab k k0 kl
      rw [j1, j2]
      exact ⟨fun ha => by rw [(Io (Ab cs k) (by omega) (by omega)).1]; exact o1 ha, o2⟩
end Wns
