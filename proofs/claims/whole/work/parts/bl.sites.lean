/-! PART bl: the Code's descriptorOf. -/
section Wbl
variable {xs : List (Nat × List Int32)} {M : Nat → Prop} {d : Nat} {A B C S Z : wS} {Q : wO → wS → Prop} {T : Int → Int} {n : Int} {N X : List (List Int)} {c i : Nat} {f u w : Int} {I : List pz_I} {F : List pz_F}
theorem wb_and255 (x : Int) : 0 ≤ wb_iand x 255 ∧ wb_iand x 255 ≤ 255 := by
  have h : wb_iand x 255 = ((Int32.ofInt x &&& 255).toInt) := rfl
  rw [h, sb_and32]
  have := Nat.mod_lt (Int32.ofInt x).toBitVec.toNat (show 0 < 256 by decide)
  omega
/-- the head of a site's chain -/
def dh (K Y E : Int → Int) (s : Int) : Int := wb_iand (Y s * 7 + K s + E s * 61) 255
/-- sites of one descriptor -/
def dk (K Y E : Int → Int) (a b : Int) : Prop := K a = K b ∧ Y a = Y b ∧ E a = E b
/-- the descriptors of the first m sites -/
def dI (K Y E D FS NX HD : Int → Int) (m c : Int) : Prop := (0 ≤ c ∧ c ≤ m) ∧ (∀ e : Int, 0 ≤ e → e < c → (0 ≤ FS e ∧ FS e < m) ∧ (0 ≤ NX e ∧ NX e ≤ e) ∧ (0 < NX e → dh K Y E (FS (NX e - 1)) = dh K Y E (FS e))) ∧ (∀ h : Int, 0 ≤ h → h < 256 → 0 ≤ HD h ∧ HD h ≤ c ∧ (0 < HD h → dh K Y E (FS (HD h - 1)) = h)) ∧ (∀ e : Int, 0 ≤ e → e < c → e + 1 ≤ HD (dh K Y E (FS e))) ∧ (∀ e e2 : Int, 0 ≤ e2 → e2 < e → e < c → dh K Y E (FS e2) = dh K Y E (FS e) → e2 + 1 ≤ NX e) ∧ (∀ s : Int, 0 ≤ s → s < m → 0 ≤ D s ∧ D s < c ∧ dk K Y E (FS (D s)) s) ∧ ∀ e e2 : Int, 0 ≤ e → e < c → 0 ≤ e2 → e2 < c → dk K Y E (FS e) (FS e2) → e = e2
variable {K Y E D FS NX HD K2 Y2 E2 D2 FS2 NX2 HD2 : Int → Int} {m c0 s : Int}
theorem dk_h {a b : Int} (h : dk K Y E a b) : dh K Y E a = dh K Y E b := by unfold dh; rw [h.1, h.2.1, h.2.2]
theorem dk_sy {a b : Int} (h : dk K Y E a b) : dk K Y E b a := ⟨h.1.symm, h.2.1.symm, h.2.2.symm⟩
theorem dk_tr {a b e : Int} (h : dk K Y E a b) (k : dk K Y E b e) : dk K Y E a e := ⟨h.1.trans k.1, h.2.1.trans k.2.1, h.2.2.trans k.2.2⟩
theorem dh_rg (a : Int) : 0 ≤ dh K Y E a ∧ dh K Y E a < 256 := by
  have := wb_and255 (Y a * 7 + K a + E a * 61)
  unfold dh
  omega
theorem dI_cg (h : dI K Y E D FS NX HD m c0) (hk : ∀ i : Int, 0 ≤ i → i < m → K2 i = K i ∧ Y2 i = Y i ∧ E2 i = E i ∧ D2 i = D i) (hf : ∀ e : Int, 0 ≤ e → e < c0 → FS2 e = FS e ∧ NX2 e = NX e) (hh : ∀ x : Int, 0 ≤ x → x < 256 → HD2 x = HD x) : dI K2 Y2 E2 D2 FS2 NX2 HD2 m c0 := by
  obtain ⟨h0, h1, h2, h3, h4, h5, h6⟩ := h
  have ed : ∀ a : Int, 0 ≤ a → a < m → dh K2 Y2 E2 a = dh K Y E a := fun a a0 a1 => by
    obtain ⟨q1, q2, q3, q4⟩ := hk a a0 a1
    unfold dh; rw [q1, q2, q3]
  have ek : ∀ a b : Int, 0 ≤ a → a < m → 0 ≤ b → b < m → (dk K2 Y2 E2 a b ↔ dk K Y E a b) := fun a b a0 a1 b0 b1 => by
    obtain ⟨q1, q2, q3, q4⟩ := hk a a0 a1
    obtain ⟨p1, p2, p3, p4⟩ := hk b b0 b1
    unfold dk; rw [q1, q2, q3, p1, p2, p3]
  have ef : ∀ e : Int, 0 ≤ e → e < c0 → dh K2 Y2 E2 (FS2 e) = dh K Y E (FS e) := fun e e0 e1 => by
    obtain ⟨q1, q2, q3⟩ := h1 e e0 e1
    rw [(hf e e0 e1).1]; exact ed _ q1.1 q1.2
  refine ⟨h0, fun e e0 e1 => ?_, fun x x0 x1 => ?_, fun e e0 e1 => ?_, fun e e2 q0 q1 q2 q3 => ?_, fun a a0 a1 => ?_, fun e e2 q0 q1 q2 q3 q4 => ?_⟩
  · obtain ⟨q1, q2, q3⟩ := h1 e e0 e1
    refine ⟨by rw [(hf e e0 e1).1]; exact q1, by rw [(hf e e0 e1).2]; exact q2, fun q4 => ?_⟩
    rw [(hf e e0 e1).2] at q4 ⊢
    rw [ef e e0 e1, ef _ (by omega) (by omega)]
    exact q3 q4
  · obtain ⟨q1, q2, q3⟩ := h2 x x0 x1
    rw [hh x x0 x1]
    refine ⟨q1, q2, fun q4 => ?_⟩
    rw [ef _ (by omega) (by omega)]
    exact q3 q4
  · rw [ef e e0 e1, hh _ (dh_rg _).1 (dh_rg _).2]; exact h3 e e0 e1
  · rw [ef e2 q0 (by omega), ef e (by omega) q2] at q3
    rw [(hf e (by omega) q2).2]
    exact h4 e e2 q0 q1 q2 q3
  · obtain ⟨q1, q2, q3⟩ := h5 a a0 a1
    obtain ⟨p1, p2, p3⟩ := h1 (D a) q1 q2
    rw [(hk a a0 a1).2.2.2, (hf _ q1 q2).1]
    exact ⟨q1, q2, (ek _ _ p1.1 p1.2 a0 a1).2 q3⟩
  · obtain ⟨p1, p2, p3⟩ := h1 e q0 q1
    obtain ⟨r1, r2, r3⟩ := h1 e2 q2 q3
    rw [(hf e q0 q1).1, (hf e2 q2 q3).1] at q4
    exact h6 e e2 q0 q1 q2 q3 ((ek _ _ p1.1 p1.2 r1.1 r1.2).1 q4)
/-- one more site of a descriptor that is there -/
theorem dI_old {e0 : Int} (h : dI K Y E D FS NX HD m c0) (he : 0 ≤ e0 ∧ e0 < c0) (hk : dk K Y E (FS e0) m) (hD : ∀ i : Int, 0 ≤ i → i < m → D2 i = D i) (hm : D2 m = e0) : dI K Y E D2 FS NX HD (m + 1) c0 := by
  obtain ⟨h0, h1, h2, h3, h4, h5, h6⟩ := h
  refine ⟨by omega, fun e e0 e1 => ?_, h2, h3, h4, fun a a0 a1 => ?_, h6⟩
  · obtain ⟨q1, q2, q3⟩ := h1 e e0 e1
    exact ⟨⟨q1.1, by omega⟩, q2, q3⟩
  · by_cases ha : a = m
    · subst ha; rw [hm]; exact ⟨he.1, he.2, hk⟩
    · rw [hD a a0 (by omega)]; exact h5 a a0 (by omega)
/-- one more site, the first of its descriptor -/
theorem dI_new (h : dI K Y E D FS NX HD m c0) (hn : ∀ e : Int, 0 ≤ e → e < c0 → ¬ dk K Y E (FS e) m) (hD : ∀ i : Int, 0 ≤ i → i < m → D2 i = D i) (hm : D2 m = c0) (hF : ∀ e : Int, 0 ≤ e → e < c0 → FS2 e = FS e ∧ NX2 e = NX e) (hFc : FS2 c0 = m) (hNc : NX2 c0 = HD (dh K Y E m)) (hH : ∀ x : Int, 0 ≤ x → x < 256 → x ≠ dh K Y E m → HD2 x = HD x) (hHm : HD2 (dh K Y E m) = c0 + 1) (hm0 : 0 ≤ m) : dI K Y E D2 FS2 NX2 HD2 (m + 1) (c0 + 1) := by
  obtain ⟨h0, h1, h2, h3, h4, h5, h6⟩ := h
  have hr := dh_rg (K := K) (Y := Y) (E := E) m
  have h2m := h2 (dh K Y E m) hr.1 hr.2
  have cs : ∀ e : Int, 0 ≤ e → e < c0 + 1 → e = c0 ∨ (e < c0 ∧ FS2 e = FS e ∧ NX2 e = NX e) := fun e e0 e1 => by
    by_cases he : e = c0
    · exact Or.inl he
    · exact Or.inr ⟨by omega, hF e e0 (by omega)⟩
  refine ⟨by omega, fun e e0 e1 => ?_, fun x x0 x1 => ?_, fun e e0 e1 => ?_, fun e e2 q0 q1 q2 q3 => ?_, fun a a0 a1 => ?_, fun e e2 q0 q1 q2 q3 q4 => ?_⟩
  · rcases cs e e0 e1 with rfl | ⟨p0, p1, p2⟩
    · rw [hFc, hNc]
      refine ⟨by omega, by omega, fun q => ?_⟩
      rw [(hF _ (by omega) (by omega)).1]
      exact h2m.2.2 q
    · obtain ⟨q1, q2, q3⟩ := h1 e e0 p0
      rw [p1, p2]
      refine ⟨by omega, q2, fun q => ?_⟩
      rw [(hF _ (by omega) (by omega)).1]
      exact q3 q
  · by_cases hx : x = dh K Y E m
    · rw [hx, hHm]
      refine ⟨by omega, by omega, fun _ => ?_⟩
      rw [show c0 + 1 - 1 = c0 by omega, hFc]
    · obtain ⟨q1, q2, q3⟩ := h2 x x0 x1
      rw [hH x x0 x1 hx]
      refine ⟨q1, by omega, fun q => ?_⟩
      rw [(hF _ (by omega) (by omega)).1]
      exact q3 q
  · rcases cs e e0 e1 with rfl | ⟨p0, p1, p2⟩
    · rw [hFc, hHm]; omega
    · rw [p1]
      by_cases hx : dh K Y E (FS e) = dh K Y E m
      · rw [hx, hHm]; omega
      · rw [hH _ (dh_rg _).1 (dh_rg _).2 hx]; exact h3 e e0 p0
  · rcases cs e (by omega) q2 with rfl | ⟨p0, p1, p2⟩
    · rw [hFc, (hF e2 q0 (by omega)).1] at q3
      rw [hNc, ← q3]
      exact h3 e2 q0 (by omega)
    · rw [p1, (hF e2 q0 (by omega)).1] at q3
      rw [p2]
      exact h4 e e2 q0 q1 p0 q3
  · by_cases ha : a = m
    · subst ha; rw [hm, hFc]; exact ⟨by omega, by omega, rfl, rfl, rfl⟩
    · obtain ⟨q1, q2, q3⟩ := h5 a a0 (by omega)
      rw [hD a a0 (by omega), (hF _ q1 q2).1]
      exact ⟨q1, by omega, q3⟩
  · rcases cs e q0 q1 with rfl | ⟨p0, p1, p2⟩
    · rcases cs e2 q2 q3 with r | ⟨r0, r1, r2⟩
      · exact r.symm
      · rw [hFc, r1] at q4
        exact absurd (dk_sy q4) (hn e2 q2 r0)
    · rcases cs e2 q2 q3 with rfl | ⟨r0, r1, r2⟩
      · rw [hFc, p1] at q4
        exact absurd q4 (hn e q0 p0)
      · rw [p1, r1] at q4
        exact h6 e e2 q0 p0 q2 r0 q4
/-- sites of one descriptor have one number -/
theorem dI_eq {a b : Int} (h : dI K Y E D FS NX HD m c0) (ha : 0 ≤ a ∧ a < m) (hb : 0 ≤ b ∧ b < m) (hk : dk K Y E a b) : D a = D b := by
  obtain ⟨h0, h1, h2, h3, h4, h5, h6⟩ := h
  obtain ⟨q1, q2, q3⟩ := h5 a ha.1 ha.2
  obtain ⟨p1, p2, p3⟩ := h5 b hb.1 hb.2
  exact h6 _ _ q1 q2 p1 p2 (dk_tr q3 (dk_tr hk (dk_sy p3)))
theorem do_l (hd : dI (S 35) (S 36) (S 37) (S 40) (S 58) (S 59) (S 60) s (S 19 16)) (hs : 0 ≤ s ∧ s < S 35 (-1) ∧ s ≤ 4000) (hl : ∀ x : Nat, x < 12 → S (35 + x) (-1) = S 35 (-1)) (h34 : S 34 (-1) = 12) (l59 : S 59 (-1) = S 58 (-1)) (hc : S 19 16 ≤ S 58 (-1) ∧ 64 ≤ S 58 (-1) ∧ S 58 (-1) ≤ 8191) (h60 : S 60 (-1) = 256) (hkk : (∀ e : Int, 0 ≤ e → e < S 19 16 → ¬ dk (S 35) (S 36) (S 37) (S 58 e) s) → wJ (pe_GA xs) wY0 M d t_XC_descriptorOf ((pe_at t_XC_descriptorOf.bl 4).getD (0, [])).2 [(0, (2, 19)), (1, (0, s)), (2, (0, (dh (S 35) (S 36) (S 37) s)))] [] S Q) (hf : ∀ e : Int, 0 ≤ e → e < S 19 16 → dk (S 35) (S 36) (S 37) (S 58 e) s → Q (.inl (some (0, e))) S) : ∀ (fu : Nat) (x k : Int), (x + 1).toNat < fu → (-1 ≤ x ∧ x < S 19 16) → (0 ≤ x → dh (S 35) (S 36) (S 37) (S 58 x) = (dh (S 35) (S 36) (S 37) s)) → (∀ e : Int, 0 ≤ e → x < e → e < S 19 16 → ¬ dk (S 35) (S 36) (S 37) (S 58 e) s) → (0 ≤ k ∧ x ≤ S 19 16 - 1 - k) → wJ (pe_GA xs) wY0 M d t_XC_descriptorOf ((pe_at t_XC_descriptorOf.bl 1).getD (0, [])).2 [(0, (2, 19)), (1, (0, s)), (2, (0, (dh (S 35) (S 36) (S 37) s))), (3, (0, x)), (4, (0, k))] [] S Q := by
  have hr := dh_rg (K := S 35) (Y := S 36) (E := S 37) s
  obtain ⟨h0, h1, h2, h3, h4, h5, h6⟩ := hd
  intro fu
  induction fu with
  | zero => intro x k hm; exact absurd hm (Nat.not_lt_zero _)
  | succ fu ih =>
    intro x k hm hx hxh hno hkx
    refine wa_iload (n := 4) rfl ?_
    refine wa_aload_n (n := 0) rfl ?_
    refine wb_gfi 19 rfl (wy_pr rfl) wt_19 wf_0_16 (v := (S 19 16)) rfl (fun r101 => ?_)
    refine wa_icmpge (w_rg0 (by omega) (by omega)) (w_rg0 (by omega) (by omega)) ⟨_, rfl⟩ (fun c102 => ?_) (fun c102 => ?_)
    · skip
      exact wJ_S (hkk (fun e e0 e1 => hno e e0 (by omega) e1)) ⟨rfl, rfl, rfl, trivial⟩
    · skip
      refine wa_iload_n (n := 3) rfl ?_
      refine wa_iflt (w_rg0 (by omega) (by omega)) ⟨_, rfl⟩ (fun c103 => ?_) (fun c103 => ?_)
      · skip
        exact wJ_S (hkk (fun e e0 e1 => hno e e0 (by omega) e1)) ⟨rfl, rfl, rfl, trivial⟩
      · skip
        obtain ⟨⟨f1, f1b⟩, ⟨f2, f2b⟩, f3⟩ := h1 x (by omega) (by omega)
        refine wa_aload_n (n := 0) rfl ?_
        refine wb_gf4 19 rfl (wy_pr rfl) wt_19 wf_0_13 (v := 58) wl_19_13 ?_
        refine wa_iload_n (n := 3) rfl ?_
        refine wb_iald 58 rfl (wy_pr rfl) wt_58 (n := (S 58 (-1))) rfl (by omega) (by omega) (v := (S 58 x)) rfl (fun r104 => ?_)
        refine wa_istore (n := 5) rfl ?_
        refine wa_aload_n (n := 0) rfl ?_
        refine wb_gf4 19 rfl (wy_pr rfl) wt_19 wf_0_8 (v := 34) wl_19_8 ?_
        refine wa_iconst ?_
        refine wb_aald5 34 0 rfl rfl (wy_pr rfl) wt_34 (by rw [show _ = _ from (h34)]; omega) wl_34_0 ?_
        refine wa_iload (n := 5) rfl ?_
        refine wb_iald 35 rfl (wy_pr rfl) wt_35 (n := (S 35 (-1))) rfl (by omega) (by omega) (v := (S 35 (S 58 x))) rfl (fun r105 => ?_)
        refine wa_aload_n (n := 0) rfl ?_
        refine wb_gf4 19 rfl (wy_pr rfl) wt_19 wf_0_8 (v := 34) wl_19_8 ?_
        refine wa_iconst ?_
        refine wb_aald5 34 0 rfl rfl (wy_pr rfl) wt_34 (by rw [show _ = _ from (h34)]; omega) wl_34_0 ?_
        refine wa_iload_n (n := 1) rfl ?_
        refine wb_iald 35 rfl (wy_pr rfl) wt_35 (n := (S 35 (-1))) rfl (by omega) (by omega) (v := (S 35 s)) rfl (fun r106 => ?_)
        refine wa_icmpne (w_rg0 (by omega) (by omega)) (w_rg0 (by omega) (by omega)) ⟨_, rfl⟩ (fun c107 => ?_) (fun c107 => ?_)
        · skip
          refine wa_aload_n (n := 0) rfl ?_
          refine wb_gf4 19 rfl (wy_pr rfl) wt_19 wf_0_14 (v := 59) wl_19_14 ?_
          refine wa_iload_n (n := 3) rfl ?_
          refine wb_iald 59 rfl (wy_pr rfl) wt_59 (n := (S 58 (-1))) (l59) (by omega) (by omega) (v := (S 59 x)) rfl (fun r108 => ?_)
          refine wa_iconst ?_
          refine wa_isub ?_
          refine wa_istore_n (n := 3) rfl ?_
          refine wa_iinc rfl rfl ?_
          refine wa_goto ⟨_, rfl⟩ ?_
          have hne : ¬ dk (S 35) (S 36) (S 37) (S 58 x) s := fun q => by have q1 := q.1; have q2 := q.2.1; have q3 := q.2.2; omega
          refine wJ_S (ih (S 59 x - 1) (k + 1) (by omega) ⟨by omega, by omega⟩ (fun q => ?_) (fun e e0 e1 e2 => ?_) ⟨by omega, by omega⟩) ⟨rfl, rfl, rfl, rfl, rfl, trivial⟩
          · exact (f3 (by omega)).trans (hxh (by omega))
          · intro q
            by_cases he : e = x
            · subst he; exact hne q
            · by_cases hl2 : x < e
              · exact hno e e0 hl2 e2 q
              · have := h4 x e e0 (by omega) (by omega) ((dk_h q).trans (hxh (by omega)).symm); omega
        · skip
          refine wa_aload_n (n := 0) rfl ?_
          refine wb_gf4 19 rfl (wy_pr rfl) wt_19 wf_0_8 (v := 34) wl_19_8 ?_
          refine wa_iconst ?_
          refine wb_aald5 34 1 rfl rfl (wy_pr rfl) wt_34 (by rw [show _ = _ from (h34)]; omega) wl_34_1 ?_
          refine wa_iload (n := 5) rfl ?_
          refine wb_iald 36 rfl (wy_pr rfl) wt_36 (n := (S 35 (-1))) ((hl 1 (by decide))) (by omega) (by omega) (v := (S 36 (S 58 x))) rfl (fun r109 => ?_)
          refine wa_aload_n (n := 0) rfl ?_
          refine wb_gf4 19 rfl (wy_pr rfl) wt_19 wf_0_8 (v := 34) wl_19_8 ?_
          refine wa_iconst ?_
          refine wb_aald5 34 1 rfl rfl (wy_pr rfl) wt_34 (by rw [show _ = _ from (h34)]; omega) wl_34_1 ?_
          refine wa_iload_n (n := 1) rfl ?_
          refine wb_iald 36 rfl (wy_pr rfl) wt_36 (n := (S 35 (-1))) ((hl 1 (by decide))) (by omega) (by omega) (v := (S 36 s)) rfl (fun r110 => ?_)
          refine wa_icmpne (w_rg0 (by omega) (by omega)) (w_rg0 (by omega) (by omega)) ⟨_, rfl⟩ (fun c111 => ?_) (fun c111 => ?_)
          · skip
            refine wa_aload_n (n := 0) rfl ?_
            refine wb_gf4 19 rfl (wy_pr rfl) wt_19 wf_0_14 (v := 59) wl_19_14 ?_
            refine wa_iload_n (n := 3) rfl ?_
            refine wb_iald 59 rfl (wy_pr rfl) wt_59 (n := (S 58 (-1))) (l59) (by omega) (by omega) (v := (S 59 x)) rfl (fun r112 => ?_)
            refine wa_iconst ?_
            refine wa_isub ?_
            refine wa_istore_n (n := 3) rfl ?_
            refine wa_iinc rfl rfl ?_
            refine wa_goto ⟨_, rfl⟩ ?_
            have hne : ¬ dk (S 35) (S 36) (S 37) (S 58 x) s := fun q => by have q1 := q.1; have q2 := q.2.1; have q3 := q.2.2; omega
            refine wJ_S (ih (S 59 x - 1) (k + 1) (by omega) ⟨by omega, by omega⟩ (fun q => ?_) (fun e e0 e1 e2 => ?_) ⟨by omega, by omega⟩) ⟨rfl, rfl, rfl, rfl, rfl, trivial⟩
            · exact (f3 (by omega)).trans (hxh (by omega))
            · intro q
              by_cases he : e = x
              · subst he; exact hne q
              · by_cases hl2 : x < e
                · exact hno e e0 hl2 e2 q
                · have := h4 x e e0 (by omega) (by omega) ((dk_h q).trans (hxh (by omega)).symm); omega
          · skip
            refine wa_aload_n (n := 0) rfl ?_
            refine wb_gf4 19 rfl (wy_pr rfl) wt_19 wf_0_8 (v := 34) wl_19_8 ?_
            refine wa_iconst ?_
            refine wa_fall ⟨_, rfl⟩ ?_
            refine wb_aald5 34 2 rfl rfl (wy_pr rfl) wt_34 (by rw [show _ = _ from (h34)]; omega) wl_34_2 ?_
            refine wa_iload (n := 5) rfl ?_
            refine wb_iald 37 rfl (wy_pr rfl) wt_37 (n := (S 35 (-1))) ((hl 2 (by decide))) (by omega) (by omega) (v := (S 37 (S 58 x))) rfl (fun r113 => ?_)
            refine wa_aload_n (n := 0) rfl ?_
            refine wb_gf4 19 rfl (wy_pr rfl) wt_19 wf_0_8 (v := 34) wl_19_8 ?_
            refine wa_iconst ?_
            refine wb_aald5 34 2 rfl rfl (wy_pr rfl) wt_34 (by rw [show _ = _ from (h34)]; omega) wl_34_2 ?_
            refine wa_iload_n (n := 1) rfl ?_
            refine wb_iald 37 rfl (wy_pr rfl) wt_37 (n := (S 35 (-1))) ((hl 2 (by decide))) (by omega) (by omega) (v := (S 37 s)) rfl (fun r114 => ?_)
            refine wa_icmpne (w_rg0 (by omega) (by omega)) (w_rg0 (by omega) (by omega)) ⟨_, rfl⟩ (fun c115 => ?_) (fun c115 => ?_)
            · skip
              refine wa_aload_n (n := 0) rfl ?_
              refine wb_gf4 19 rfl (wy_pr rfl) wt_19 wf_0_14 (v := 59) wl_19_14 ?_
              refine wa_iload_n (n := 3) rfl ?_
              refine wb_iald 59 rfl (wy_pr rfl) wt_59 (n := (S 58 (-1))) (l59) (by omega) (by omega) (v := (S 59 x)) rfl (fun r116 => ?_)
              refine wa_iconst ?_
              refine wa_isub ?_
              refine wa_istore_n (n := 3) rfl ?_
              refine wa_iinc rfl rfl ?_
              refine wa_goto ⟨_, rfl⟩ ?_
              have hne : ¬ dk (S 35) (S 36) (S 37) (S 58 x) s := fun q => by have q1 := q.1; have q2 := q.2.1; have q3 := q.2.2; omega
              refine wJ_S (ih (S 59 x - 1) (k + 1) (by omega) ⟨by omega, by omega⟩ (fun q => ?_) (fun e e0 e1 e2 => ?_) ⟨by omega, by omega⟩) ⟨rfl, rfl, rfl, rfl, rfl, trivial⟩
              · exact (f3 (by omega)).trans (hxh (by omega))
              · intro q
                by_cases he : e = x
                · subst he; exact hne q
                · by_cases hl2 : x < e
                  · exact hno e e0 hl2 e2 q
                  · have := h4 x e e0 (by omega) (by omega) ((dk_h q).trans (hxh (by omega)).symm); omega
            · skip
              refine wa_iload_n (n := 3) rfl ?_
              refine wa_ireturn rfl ?_
              exact hf x (by omega) (by omega) ⟨by omega, by omega, by omega⟩
/-- a descriptor more -/
def do_N (s : Int) (S Z : wS) : Prop := (Z 58 (S 19 16) = s ∧ Z 59 (S 19 16) = S 60 (dh (S 35) (S 36) (S 37) s) ∧ Z 60 (dh (S 35) (S 36) (S 37) s) = S 19 16 + 1 ∧ Z 19 16 = S 19 16 + 1) ∧ (∀ x : Int, x ≠ (dh (S 35) (S 36) (S 37) s) → Z 60 x = S 60 x) ∧ (∀ e : Int, 0 ≤ e → e < S 19 16 → Z 58 e = S 58 e ∧ Z 59 e = S 59 e) ∧ (∀ (j : Nat) (i : Int), j < 4000000 → j ≠ wG → j ≠ 58 → j ≠ 59 → j ≠ 60 → (j ≠ 19 ∨ i ≠ 16) → Z j i = S j i) ∧ (Z 59 (-1) = Z 58 (-1) ∧ S 19 16 + 1 ≤ Z 58 (-1) ∧ 64 ≤ Z 58 (-1) ∧ Z 58 (-1) ≤ 8191) ∧ gI Z ∧ rmR S Z
theorem do_4 (hI : gI S) (hd : dI (S 35) (S 36) (S 37) (S 40) (S 58) (S 59) (S 60) s (S 19 16)) (hs : 0 ≤ s ∧ s < S 35 (-1) ∧ s ≤ 4000) (hl : ∀ x : Nat, x < 12 → S (35 + x) (-1) = S 35 (-1)) (h34 : S 34 (-1) = 12) (l59 : S 59 (-1) = S 58 (-1)) (hc : S 19 16 ≤ S 58 (-1) ∧ 64 ≤ S 58 (-1) ∧ S 58 (-1) ≤ 8191) (h60 : S 60 (-1) = 256) : wJ (pe_GA xs) wY0 (mS [58, 59]) (d + 2) t_XC_descriptorOf ((pe_at t_XC_descriptorOf.bl 4).getD (0, [])).2 [(0, (2, 19)), (1, (0, s)), (2, (0, (dh (S 35) (S 36) (S 37) s)))] [] S (fun o Z => o = .inl (some (0, S 19 16)) ∧ do_N s S Z) := by
  have hr := dh_rg (K := S 35) (Y := S 36) (E := S 37) s
  have hR := rmR_rfl S
  have h0 := hd.1
  have hh := hd.2.2.1 (dh (S 35) (S 36) (S 37) s) hr.1 hr.2
  refine wa_aload_n (n := 0) rfl ?_
  refine wb_gfi 19 rfl (wy_pr rfl) wt_19 wf_0_16 (v := (S 19 16)) rfl (fun r101 => ?_)
  refine wa_istore_n (n := 3) rfl ?_
  refine wa_iload_n (n := 3) rfl ?_
  refine wa_aload_n (n := 0) rfl ?_
  refine wb_gf4 19 rfl (wy_pr rfl) wt_19 wf_0_14 (v := 59) wl_19_14 ?_
  refine wb_alen 59 rfl (wy_pr rfl) (by rw [wt_59]; rfl) (v := (S 58 (-1))) (l59) (fun r102 => ?_)
  refine wa_icmpne (w_rg0 (by omega) (by omega)) (w_rg0 (by omega) (by omega)) ⟨_, rfl⟩ (fun c103 => ?_) (fun c103 => ?_)
  · skip
    refine wa_aload_n (n := 0) rfl ?_
    refine wb_gf4 19 rfl (wy_pr rfl) wt_19 wf_0_13 (v := 58) wl_19_13 ?_
    refine wa_iload_n (n := 3) rfl ?_
    refine wa_iload_n (n := 1) rfl ?_
    refine wb_iast 58 rfl (wy_pr rfl) wt_58 (n := (S 58 (-1))) rfl (by omega) (by omega) ⟨(by omega), (by omega)⟩ ?_
    refine wa_aload_n (n := 0) rfl ?_
    refine wb_gf4 19 rfl (wy_pr rfl) wt_19 wf_0_14 (v := 59) wl_19_14 ?_
    refine wa_iload_n (n := 3) rfl ?_
    refine wa_aload_n (n := 0) rfl ?_
    refine wb_gf4 19 rfl (wy_pr rfl) wt_19 wf_0_15 (v := 60) wl_19_15 ?_
    refine wa_iload_n (n := 2) rfl ?_
    refine wb_iald 60 rfl (wy_pr rfl) wt_60 (n := 256) ((w_up_slot (by decide)).trans (h60)) (by omega) (by omega) (v := (S 60 (dh (S 35) (S 36) (S 37) s))) (w_up_slot (by decide)) (fun r104 => ?_)
    refine wb_iast 59 rfl (wy_pr rfl) wt_59 (n := (S 58 (-1))) ((w_up_slot (by decide)).trans (l59)) (by omega) (by omega) ⟨(by omega), (by omega)⟩ ?_
    refine wa_aload_n (n := 0) rfl ?_
    refine wb_gf4 19 rfl (wy_pr rfl) wt_19 wf_0_15 (v := 60) wl_19_15 ?_
    refine wa_iload_n (n := 2) rfl ?_
    refine wa_iload_n (n := 3) rfl ?_
    refine wa_iconst ?_
    refine wa_iadd ?_
    refine wb_iast 60 rfl (wy_pr rfl) wt_60 (n := 256) ((w_up_slot (by decide)).trans ((w_up_slot (by decide)).trans (h60))) (by omega) (by omega) ⟨(by omega), (by omega)⟩ ?_
    refine wa_aload_n (n := 0) rfl ?_
    refine wa_dup (by decide) ?_
    refine wb_gfi 19 rfl (wy_pr rfl) wt_19 wf_0_16 (v := (S 19 16)) ((w_up_slot (by decide)).trans ((w_up_slot (by decide)).trans (w_up_slot (by decide)))) (fun r105 => ?_)
    refine wa_iconst ?_
    refine wa_iadd ?_
    refine wb_pfi 19 rfl (wy_pr rfl) wt_19 wf_0_16 (n := 16) rfl ⟨(by omega), (by omega)⟩ ?_
    refine wa_iload_n (n := 3) rfl ?_
    refine wa_ireturn rfl ?_
    have l58 : (w_up (w_up (w_up (w_up S 58 (S 19 16) s) 59 (S 19 16) (S 60 (dh (S 35) (S 36) (S 37) s))) 60 (dh (S 35) (S 36) (S 37) s) ((S 19 16) + 1)) 19 16 ((S 19 16) + 1)) 58 (-1) = (S 58 (-1)) := ((w_up_slot (by decide)).trans ((w_up_slot (by decide)).trans ((w_up_slot (by decide)).trans (w_up_at (by omega)))))
    have l59b : (w_up (w_up (w_up (w_up S 58 (S 19 16) s) 59 (S 19 16) (S 60 (dh (S 35) (S 36) (S 37) s))) 60 (dh (S 35) (S 36) (S 37) s) ((S 19 16) + 1)) 19 16 ((S 19 16) + 1)) 59 (-1) = (S 58 (-1)) := ((w_up_slot (by decide)).trans ((w_up_slot (by decide)).trans ((w_up_at (by omega)).trans ((w_up_slot (by decide)).trans (l59)))))
    refine ⟨congrArg (fun z => Sum.inl (some (0, z))) rfl, ⟨((w_up_slot (by decide)).trans ((w_up_slot (by decide)).trans ((w_up_slot (by decide)).trans (w_up_same _ _ _ _)))), ((w_up_slot (by decide)).trans ((w_up_slot (by decide)).trans (w_up_same _ _ _ _))), ((w_up_slot (by decide)).trans (w_up_same _ _ _ _)), (w_up_same _ _ _ _)⟩, fun x hx => ?_, fun e e0 e1 => ⟨?_, ?_⟩, fun j i j0 j1 j2 j3 j4 j5 => ?_, ⟨by omega, by omega, by omega, by omega⟩, (gI_up (gI_up (gI_up (gI_up hI (by omega) (by omega) (by omega)) (by omega) (by omega) (by omega)) (by omega) (by omega) (by omega)) (by omega) (by omega) (by omega)), (rmR_up (rmR_up (rmR_up (rmR_up hR (by omega) (by decide)) (by omega) (by decide)) (by omega) (by decide)) (by omega) (by decide))⟩
    · exact (w_up_no (by omega)).trans ((w_up_no (by omega)).trans ((w_up_no (by omega)).trans ((w_up_no (by omega)).trans (rfl))))
    · exact (w_up_no (by omega)).trans ((w_up_no (by omega)).trans ((w_up_no (by omega)).trans ((w_up_no (by omega)).trans (rfl))))
    · exact (w_up_no (by omega)).trans ((w_up_no (by omega)).trans ((w_up_no (by omega)).trans ((w_up_no (by omega)).trans (rfl))))
    · exact (w_up_no (by omega)).trans ((w_up_no (by omega)).trans ((w_up_no (by omega)).trans ((w_up_no (by omega)).trans (rfl))))
  · skip
    refine wa_aload_n (n := 0) rfl ?_
    refine wa_aload_n (n := 0) rfl ?_
    refine wb_gf4 19 rfl (wy_pr rfl) wt_19 wf_0_14 (v := 59) wl_19_14 ?_
    refine wa_iload_n (n := 3) rfl ?_
    refine wa_iconst ?_
    refine wa_imul ?_
    refine wa_cs (M2 := fun _ => False) rfl at_JA_copyOf_2 ⟨_, rfl⟩ rfl rfl ⟨trivial, (Or.inr ⟨wy_pr rfl, fun q => q⟩), trivial, trivial, trivial⟩ ⟨(Or.inr ⟨wy_pr rfl, fun q => q⟩), trivial⟩ (fun _ _ q => False.elim q) (cp_I (S := S) (a := 59) (n := ((S 19 16) * 2)) (len := (S 58 (-1))) (wy_pr rfl) wt_59 (l59) ⟨by omega, by omega, by omega⟩) (fun oq106 Sq106 _ q106 => ?_)
    rcases q106 with ⟨rfl, rfl⟩
    show wJ _ _ _ _ _ _ _ _ _ _
    refine wg_pf (S := S) (len := (S 58 (-1))) 0 19 59 rfl rfl rfl wt_19 wf_0_14 wl_19_14 (by decide +kernel) wt_59 (by decide) (by decide +kernel) hI (fun q => absurd q (by decide)) (by decide) ⟨by omega, by omega⟩ (l59) (fun _ => ⟨Or.inr (by decide), Or.inl (nN_ge _)⟩) ⟨trivial, (Or.inr ⟨wy_pr rfl, mS_no rfl⟩), trivial, trivial, trivial⟩ trivial (fun Z107 g108 gi109 => ?_)
    have rm110 := rmR_gr hR g108 (by decide +kernel) (len := (S 58 (-1))) (l59) ⟨by omega, by omega⟩ ⟨fun q => by first | omega | exact absurd q (by decide), by show _ ≤ (100000000 : Int); omega⟩
    refine wa_aload_n (n := 0) rfl ?_
    refine wa_aload_n (n := 0) rfl ?_
    refine wb_gf4 19 rfl (wy_pr rfl) wt_19 wf_0_13 (v := 58) wl_19_13 ?_
    refine wa_iload_n (n := 3) rfl ?_
    refine wa_iconst ?_
    refine wa_imul ?_
    refine wa_cs (M2 := fun _ => False) rfl at_JA_copyOf_2 ⟨_, rfl⟩ rfl rfl ⟨trivial, (Or.inr ⟨wy_pr rfl, fun q => q⟩), trivial, trivial, trivial⟩ ⟨(Or.inr ⟨wy_pr rfl, fun q => q⟩), trivial⟩ (fun _ _ q => False.elim q) (cp_I (S := Z107) (a := 58) (n := ((S 19 16) * 2)) (len := (S 58 (-1))) (wy_pr rfl) wt_58 ((congrFun (g108.2.2.1 58 (by decide) (by decide) (by decide)) (-1))) ⟨by omega, by omega, by omega⟩) (fun oq111 Sq111 _ q111 => ?_)
    rcases q111 with ⟨rfl, rfl⟩
    show wJ _ _ _ _ _ _ _ _ _ _
    refine wg_pf (S := Z107) (len := (S 58 (-1))) 0 19 58 rfl rfl rfl wt_19 wf_0_13 wl_19_13 (by decide +kernel) wt_58 (by decide) (by decide +kernel) gi109 (fun q => absurd q (by decide)) (by decide) ⟨by omega, by omega⟩ ((congrFun (g108.2.2.1 58 (by decide) (by decide) (by decide)) (-1))) (fun _ => ⟨Or.inr (by decide), Or.inl (nN_ge _)⟩) ⟨trivial, (Or.inr ⟨wy_pr rfl, mS_no rfl⟩), trivial, trivial, trivial⟩ trivial (fun Z112 g113 gi114 => ?_)
    have rm115 := rmR_gr rm110 g113 (by decide +kernel) (len := (S 58 (-1))) ((congrFun (g108.2.2.1 58 (by decide) (by decide) (by decide)) (-1))) ⟨by omega, by omega⟩ ⟨fun q => by first | omega | exact absurd q (by decide), by show _ ≤ (100000000 : Int); omega⟩
    refine wa_fall ⟨_, rfl⟩ ?_
    refine wa_aload_n (n := 0) rfl ?_
    refine wb_gf4 19 rfl (wy_pr rfl) wt_19 wf_0_13 (v := 58) wl_19_13 ?_
    refine wa_iload_n (n := 3) rfl ?_
    refine wa_iload_n (n := 1) rfl ?_
    refine wb_iast 58 rfl (wy_pr rfl) wt_58 (n := ((S 19 16) * 2)) (g113.1) (by omega) (by omega) ⟨(by omega), (by omega)⟩ ?_
    refine wa_aload_n (n := 0) rfl ?_
    refine wb_gf4 19 rfl (wy_pr rfl) wt_19 wf_0_14 (v := 59) wl_19_14 ?_
    refine wa_iload_n (n := 3) rfl ?_
    refine wa_aload_n (n := 0) rfl ?_
    refine wb_gf4 19 rfl (wy_pr rfl) wt_19 wf_0_15 (v := 60) wl_19_15 ?_
    refine wa_iload_n (n := 2) rfl ?_
    refine wb_iald 60 rfl (wy_pr rfl) wt_60 (n := 256) ((w_up_slot (by decide)).trans (((congrFun (g113.2.2.1 60 (by decide) (by decide) (by decide)) (-1)).trans (((congrFun (g108.2.2.1 60 (by decide) (by decide) (by decide)) (-1)).trans (h60)))))) (by omega) (by omega) (v := (S 60 (dh (S 35) (S 36) (S 37) s))) ((w_up_slot (by decide)).trans (((congrFun (g113.2.2.1 60 (by decide) (by decide) (by decide)) (dh (S 35) (S 36) (S 37) s)).trans ((congrFun (g108.2.2.1 60 (by decide) (by decide) (by decide)) (dh (S 35) (S 36) (S 37) s)))))) (fun r116 => ?_)
    refine wb_iast 59 rfl (wy_pr rfl) wt_59 (n := ((S 19 16) * 2)) ((w_up_slot (by decide)).trans (((congrFun (g113.2.2.1 59 (by decide) (by decide) (by decide)) (-1)).trans (g108.1)))) (by omega) (by omega) ⟨(by omega), (by omega)⟩ ?_
    refine wa_aload_n (n := 0) rfl ?_
    refine wb_gf4 19 rfl (wy_pr rfl) wt_19 wf_0_15 (v := 60) wl_19_15 ?_
    refine wa_iload_n (n := 2) rfl ?_
    refine wa_iload_n (n := 3) rfl ?_
    refine wa_iconst ?_
    refine wa_iadd ?_
    refine wb_iast 60 rfl (wy_pr rfl) wt_60 (n := 256) ((w_up_slot (by decide)).trans ((w_up_slot (by decide)).trans (((congrFun (g113.2.2.1 60 (by decide) (by decide) (by decide)) (-1)).trans (((congrFun (g108.2.2.1 60 (by decide) (by decide) (by decide)) (-1)).trans (h60))))))) (by omega) (by omega) ⟨(by omega), (by omega)⟩ ?_
    refine wa_aload_n (n := 0) rfl ?_
    refine wa_dup (by decide) ?_
    refine wb_gfi 19 rfl (wy_pr rfl) wt_19 wf_0_16 (v := (S 19 16)) ((w_up_slot (by decide)).trans ((w_up_slot (by decide)).trans ((w_up_slot (by decide)).trans (((congrFun (g113.2.2.1 19 (by decide) (by decide) (by decide)) 16).trans ((congrFun (g108.2.2.1 19 (by decide) (by decide) (by decide)) 16))))))) (fun r117 => ?_)
    refine wa_iconst ?_
    refine wa_iadd ?_
    refine wb_pfi 19 rfl (wy_pr rfl) wt_19 wf_0_16 (n := 16) rfl ⟨(by omega), (by omega)⟩ ?_
    refine wa_iload_n (n := 3) rfl ?_
    refine wa_ireturn rfl ?_
    have zz : ∀ (j : Nat) (i : Int), j < 4000000 → j ≠ wG → j ≠ 58 → j ≠ 59 → Z112 j i = S j i := fun j i j0 j1 k58 k59 => (congrFun (g113.2.2.1 j (by omega) j0 j1) i).trans ((congrFun (g108.2.2.1 j (by omega) j0 j1) i).trans (rfl))
    have y58 : ∀ i : Int, 0 ≤ i → i < S 19 16 → Z112 58 i = S 58 i := by
      intro i i0 i1
      have e0 : Z107 58 (-1) = (S 58 (-1)) := ((congrFun (g108.2.2.1 58 (by decide) (by decide) (by decide)) (-1)))
      have f0 : Z112 58 i = Z107 58 i := g113.2.1 i i0 (by rw [e0]; omega)
      have f1 : Z107 58 i = S 58 i := congrFun (g108.2.2.1 58 (by decide) (by decide) (by decide)) i
      exact f0.trans (f1.trans (rfl))
    have n58 : Z112 58 (-1) = ((S 19 16) * 2) := (g113.1)
    have y59 : ∀ i : Int, 0 ≤ i → i < S 19 16 → Z112 59 i = S 59 i := by
      intro i i0 i1
      have f0 : Z112 59 i = Z107 59 i := congrFun (g113.2.2.1 59 (by decide) (by decide) (by decide)) i
      have e1 : S 59 (-1) = (S 58 (-1)) := (l59)
      have f1 : Z107 59 i = S 59 i := g108.2.1 i i0 (by rw [e1]; omega)
      exact f0.trans (f1.trans (rfl))
    have n59 : Z112 59 (-1) = ((S 19 16) * 2) := (((congrFun (g113.2.2.1 59 (by decide) (by decide) (by decide)) (-1)).trans (g108.1)))
    have l58 : (w_up (w_up (w_up (w_up Z112 58 (S 19 16) s) 59 (S 19 16) (S 60 (dh (S 35) (S 36) (S 37) s))) 60 (dh (S 35) (S 36) (S 37) s) ((S 19 16) + 1)) 19 16 ((S 19 16) + 1)) 58 (-1) = ((S 19 16) * 2) := ((w_up_slot (by decide)).trans ((w_up_slot (by decide)).trans ((w_up_slot (by decide)).trans ((w_up_at (by omega)).trans (g113.1)))))
    have l59b : (w_up (w_up (w_up (w_up Z112 58 (S 19 16) s) 59 (S 19 16) (S 60 (dh (S 35) (S 36) (S 37) s))) 60 (dh (S 35) (S 36) (S 37) s) ((S 19 16) + 1)) 19 16 ((S 19 16) + 1)) 59 (-1) = ((S 19 16) * 2) := ((w_up_slot (by decide)).trans ((w_up_slot (by decide)).trans ((w_up_at (by omega)).trans ((w_up_slot (by decide)).trans (((congrFun (g113.2.2.1 59 (by decide) (by decide) (by decide)) (-1)).trans (g108.1)))))))
    refine ⟨congrArg (fun z => Sum.inl (some (0, z))) rfl, ⟨((w_up_slot (by decide)).trans ((w_up_slot (by decide)).trans ((w_up_slot (by decide)).trans (w_up_same _ _ _ _)))), ((w_up_slot (by decide)).trans ((w_up_slot (by decide)).trans (w_up_same _ _ _ _))), ((w_up_slot (by decide)).trans (w_up_same _ _ _ _)), (w_up_same _ _ _ _)⟩, fun x hx => ?_, fun e e0 e1 => ⟨?_, ?_⟩, fun j i j0 j1 j2 j3 j4 j5 => ?_, ⟨by omega, by omega, by omega, by omega⟩, (gI_up (gI_up (gI_up (gI_up gi114 (by omega) (by omega) (by omega)) (by omega) (by omega) (by omega)) (by omega) (by omega) (by omega)) (by omega) (by omega) (by omega)), (rmR_up (rmR_up (rmR_up (rmR_up rm115 (by omega) (by decide)) (by omega) (by decide)) (by omega) (by decide)) (by omega) (by decide))⟩
    · exact (w_up_no (by omega)).trans ((w_up_no (by omega)).trans ((w_up_no (by omega)).trans ((w_up_no (by omega)).trans (zz 60 x (by decide) (by decide) (by decide) (by decide)))))
    · exact (w_up_no (by omega)).trans ((w_up_no (by omega)).trans ((w_up_no (by omega)).trans ((w_up_no (by omega)).trans (y58 e e0 e1))))
    · exact (w_up_no (by omega)).trans ((w_up_no (by omega)).trans ((w_up_no (by omega)).trans ((w_up_no (by omega)).trans (y59 e e0 e1))))
    · exact (w_up_no (by omega)).trans ((w_up_no (by omega)).trans ((w_up_no (by omega)).trans ((w_up_no (by omega)).trans (zz j i j0 j1 j2 j3))))
theorem do_ok (hI : gI S) (hd : dI (S 35) (S 36) (S 37) (S 40) (S 58) (S 59) (S 60) s (S 19 16)) (hs : 0 ≤ s ∧ s < S 35 (-1) ∧ s ≤ 4000) (hl : ∀ x : Nat, x < 12 → S (35 + x) (-1) = S 35 (-1)) (h34 : S 34 (-1) = 12) (l59 : S 59 (-1) = S 58 (-1)) (hc : S 19 16 ≤ S 58 (-1) ∧ 64 ≤ S 58 (-1) ∧ S 58 (-1) ≤ 8191) (h60 : S 60 (-1) = 256) : wJ (pe_GA xs) wY0 (mS [58, 59]) (d + 2) t_XC_descriptorOf ((pe_at t_XC_descriptorOf.bl 0).getD (0, [])).2 [(0, (2, 19)), (1, (0, s))] [] S (fun o Z => (∃ e : Int, o = .inl (some (0, e)) ∧ S = Z ∧ (0 ≤ e ∧ e < S 19 16) ∧ dk (S 35) (S 36) (S 37) (S 58 e) s) ∨ (o = .inl (some (0, S 19 16)) ∧ (∀ e : Int, 0 ≤ e → e < S 19 16 → ¬ dk (S 35) (S 36) (S 37) (S 58 e) s) ∧ do_N s S Z)) := by
  have hr := dh_rg (K := S 35) (Y := S 36) (E := S 37) s
  have h0 := hd.1
  have hh := hd.2.2.1 (dh (S 35) (S 36) (S 37) s) hr.1 hr.2
  refine wa_aload_n (n := 0) rfl ?_
  refine wb_gf4 19 rfl (wy_pr rfl) wt_19 wf_0_8 (v := 34) wl_19_8 ?_
  refine wa_iconst ?_
  refine wb_aald5 34 1 rfl rfl (wy_pr rfl) wt_34 (by rw [show _ = _ from (h34)]; omega) wl_34_1 ?_
  refine wa_iload_n (n := 1) rfl ?_
  refine wb_iald 36 rfl (wy_pr rfl) wt_36 (n := (S 35 (-1))) ((hl 1 (by decide))) (by omega) (by omega) (v := (S 36 s)) rfl (fun r101 => ?_)
  refine wa_bipush (w_rg2 (by omega) (by omega)) ?_
  refine wa_imul ?_
  refine wa_aload_n (n := 0) rfl ?_
  refine wb_gf4 19 rfl (wy_pr rfl) wt_19 wf_0_8 (v := 34) wl_19_8 ?_
  refine wa_iconst ?_
  refine wb_aald5 34 0 rfl rfl (wy_pr rfl) wt_34 (by rw [show _ = _ from (h34)]; omega) wl_34_0 ?_
  refine wa_iload_n (n := 1) rfl ?_
  refine wb_iald 35 rfl (wy_pr rfl) wt_35 (n := (S 35 (-1))) rfl (by omega) (by omega) (v := (S 35 s)) rfl (fun r102 => ?_)
  refine wa_iadd ?_
  refine wa_aload_n (n := 0) rfl ?_
  refine wb_gf4 19 rfl (wy_pr rfl) wt_19 wf_0_8 (v := 34) wl_19_8 ?_
  refine wa_iconst ?_
  refine wb_aald5 34 2 rfl rfl (wy_pr rfl) wt_34 (by rw [show _ = _ from (h34)]; omega) wl_34_2 ?_
  refine wa_iload_n (n := 1) rfl ?_
  refine wb_iald 37 rfl (wy_pr rfl) wt_37 (n := (S 35 (-1))) ((hl 2 (by decide))) (by omega) (by omega) (v := (S 37 s)) rfl (fun r103 => ?_)
  refine wa_bipush (w_rg2 (by omega) (by omega)) ?_
  refine wa_imul ?_
  refine wa_iadd ?_
  refine wa_sipush (by omega) ?_
  refine wa_iand ?_
  show wJ _ _ _ _ _ _ _ ((0, (dh (S 35) (S 36) (S 37) s)) :: _) _ _
  refine wa_istore_n (n := 2) rfl ?_
  refine wa_aload_n (n := 0) rfl ?_
  refine wb_gf4 19 rfl (wy_pr rfl) wt_19 wf_0_15 (v := 60) wl_19_15 ?_
  refine wa_iload_n (n := 2) rfl ?_
  refine wb_iald 60 rfl (wy_pr rfl) wt_60 (n := 256) (h60) (by omega) (by omega) (v := (S 60 (dh (S 35) (S 36) (S 37) s))) rfl (fun r104 => ?_)
  refine wa_iconst ?_
  refine wa_isub ?_
  refine wa_istore_n (n := 3) rfl ?_
  refine wa_iconst ?_
  refine wa_istore (n := 4) rfl ?_
  refine wa_fall ⟨_, rfl⟩ ?_
  refine wJ_S (do_l hd hs hl h34 l59 hc h60 (fun hno => wJ_mono (do_4 hI hd hs hl h34 l59 hc h60) (fun o Z hz => Or.inr ⟨hz.1, hno, hz.2⟩)) (fun e e0 e1 e2 => Or.inl ⟨e, rfl, rfl, ⟨e0, e1⟩, e2⟩) (S 19 16 + 2).toNat (S 60 (dh (S 35) (S 36) (S 37) s) - 1) 0 (by omega) ⟨by omega, by omega⟩ (fun q => hh.2.2 (by omega)) (fun e e0 e1 e2 => ?_) ⟨by omega, by omega⟩) ⟨rfl, rfl, rfl, rfl, rfl, trivial⟩
  intro q
  have q1 := hd.2.2.2.1 e e0 e2
  rw [dk_h q] at q1
  omega
end Wbl
