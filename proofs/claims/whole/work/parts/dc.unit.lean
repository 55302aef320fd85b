/-! PART dc: a unit that comes. -/
section Wdc
variable {S Z : wS} {T : Int → Int} {n p q g f0 u un sb y v a h nn nx : Int} {N X : List (List Int)} {I : List pz_I} {F : List pz_F} {fa fb : Int → Int} {c i k j : Nat}
theorem ox_ow (hi : i < (on u I).length) : (ox u I i).2.2.2 = u := by
  unfold ox
  rw [List.getD_eq_getElem?_getD, List.getElem?_eq_getElem hi]
  exact (on_mem (List.getElem_mem hi)).2
/-- a function of a unit, as it is kept -/
theorem mcF_n (hk : k < F.length) (hty : tyF nn nx f0 F (on (f0 + (k : Int)) I)) (hR : ∀ q : Nat, q < F.length → kR f0 I F un p sb q Z) (hF : fW f0 I F) (z34 : Z 237 34 = f0 + (F.length : Int)) (z47 : Z 237 47 = sb + pz_s I) (hsb : 0 ≤ sb) (hown : ∀ x ∈ I, f0 ≤ x.2.2.2 ∧ x.2.2.2 < f0 + (F.length : Int)) (hnn : nn = Z 237 16) (hnx : nx = Z 237 19) (hfb : ∀ x : Int, f0 ≤ x → x < f0 + (F.length : Int) → fb x = (pz_f f0 F x).1) : mcF fb Z (f0 + (k : Int)) := by
  obtain ⟨H, D, h0, ⟨ha, hb⟩, hj, hn, hl⟩ := hty
  obtain ⟨⟨c1, c2, c3, c4, c5, c6, c7⟩, kd⟩ := hR k hk
  have hsal := psm_so f0 F.length I hown
  have hlen := on_len (f0 + (k : Int)) I
  have h00 := hF.1.1
  refine ⟨H, D, (on (f0 + (k : Int)) I).length, c5.trans hlen.symm, h0, hn, ha, fun i hi => ?_, ?_⟩
  · obtain ⟨⟨d1, d2, d3⟩, ds⟩ := kd i hi
    obtain ⟨⟨t1, t2, t3, t4, t9⟩, t5⟩ := hb i hi
    have hj2 := hj i hi
    have how := ox_ow hi
    rw [c4, d1, d2, d3]
    have hxe : (on (f0 + (k : Int)) I).getD i (0, 0, 0, 0) = (ox (f0 + (k : Int)) I i) := rfl
    rw [hxe] at t1 t2 t3 t4 t5 t9 hj2
    obtain ⟨s1, s2, s3, s4, s5, s6, s7⟩ := t5
    by_cases e : (ox (f0 + (k : Int)) I i).1 = 27
    · have hfx : fx f0 F (f0 + (k : Int)) (sb + (psm (fun u => pz_s (on u I)) f0 k) + os (f0 + (k : Int)) I i) (ox (f0 + (k : Int)) I i).1 (ox (f0 + (k : Int)) I i).2.1 (ox (f0 + (k : Int)) I i).2.2.1 = (27, (sb + (psm (fun u => pz_s (on u I)) f0 k) + os (f0 + (k : Int)) I i), 0) := if_pos e
      rw [hfx]
      obtain ⟨r1, r2, r3, -⟩ := ds e
      obtain ⟨q1, q2, q3, q4, q5, q6⟩ := s6 e
      have hos := os_lt hi e
      have hon := os_nn (f0 + (k : Int)) I i
      have hS1 := SS_s f0 I k
      have hS2 := SS_le f0 I (show k + 1 ≤ F.length by omega)
      have hS3 := SS_le f0 I (Nat.le_refl k)
      rw [e] at t1 t2 t3 t4
      have hm : mes ((ox (f0 + (k : Int)) I i).2.1 % 16) ((ox (f0 + (k : Int)) I i).2.1 / 16) = tes (ox (f0 + (k : Int)) I i).2.1 := rfl
      show mcI fb Z H D _ i _ 27 (sb + (psm (fun u => pz_s (on u I)) f0 k) + os (f0 + (k : Int)) I i) 0
      unfold mcI
      rw [r1, r3, hm]
      refine ⟨t1, fun q => t2 q, t3, fun q => absurd q (show ¬ tjm 27 by unfold tjm; decide), ⟨fun q => absurd q (by decide), fun q => absurd q (by decide)⟩, by decide, fun q => absurd q (by decide), fun q => absurd q (by decide), fun q => absurd q (by decide), fun q => absurd q (by decide), fun q => absurd q (by decide), fun _ => ⟨⟨?_, ?_⟩, ?_, ?_, fun q => ?_, ?_⟩, fun q => absurd q (by decide)⟩
      · omega
      · rw [z47]; omega
      · rw [r1]; omega
      · rw [r3, r1]; omega
      · rw [r1] at q; rw [r2, ← hnn]; exact q4 q
      · rw [r2, ← hnn]; exact q6
    · have hmn : ∀ o2 A2 E : Int, o2 ≠ 27 → o2 ≠ 1 → o2 ≠ 2 → mne o2 A2 E = tne o2 A2 ∧ mde o2 A2 E = tde o2 A2 := fun o2 A2 E q1 q2 q3 => by
        unfold mne mde
        rw [if_neg q1, if_neg q2, if_neg q3, if_neg q1, if_neg q2, if_neg q3]
        exact ⟨rfl, rfl⟩
      have same : fx f0 F (f0 + (k : Int)) (sb + (psm (fun u => pz_s (on u I)) f0 k) + os (f0 + (k : Int)) I i) (ox (f0 + (k : Int)) I i).1 (ox (f0 + (k : Int)) I i).2.1 (ox (f0 + (k : Int)) I i).2.2.1 = ((ox (f0 + (k : Int)) I i).1, (ox (f0 + (k : Int)) I i).2.1, (ox (f0 + (k : Int)) I i).2.2.1) → mcI fb Z H D (on (f0 + (k : Int)) I).length i (f0 + (k : Int)) (fx f0 F (f0 + (k : Int)) (sb + (psm (fun u => pz_s (on u I)) f0 k) + os (f0 + (k : Int)) I i) (ox (f0 + (k : Int)) I i).1 (ox (f0 + (k : Int)) I i).2.1 (ox (f0 + (k : Int)) I i).2.2.1).1 (fx f0 F (f0 + (k : Int)) (sb + (psm (fun u => pz_s (on u I)) f0 k) + os (f0 + (k : Int)) I i) (ox (f0 + (k : Int)) I i).1 (ox (f0 + (k : Int)) I i).2.1 (ox (f0 + (k : Int)) I i).2.2.1).2.1 (fx f0 F (f0 + (k : Int)) (sb + (psm (fun u => pz_s (on u I)) f0 k) + os (f0 + (k : Int)) I i) (ox (f0 + (k : Int)) I i).1 (ox (f0 + (k : Int)) I i).2.1 (ox (f0 + (k : Int)) I i).2.2.1).2.2 := fun hfx => by
        rw [hfx]
        show mcI fb Z H D _ i _ (ox (f0 + (k : Int)) I i).1 (ox (f0 + (k : Int)) I i).2.1 (ox (f0 + (k : Int)) I i).2.2.1
        unfold mcI
        rw [(hmn (ox (f0 + (k : Int)) I i).1 (ox (f0 + (k : Int)) I i).2.1 _ e s1.2.2.1 s1.2.2.2).1, (hmn (ox (f0 + (k : Int)) I i).1 (ox (f0 + (k : Int)) I i).2.1 _ e s1.2.2.1 s1.2.2.2).2]
        refine ⟨t1, t2, t3, fun q => ?_, t9, ⟨s1.1, s1.2.1⟩, fun q => ?_, fun q => by omega, fun q => ?_, fun q => ?_, s5, fun q => absurd q e, s7⟩
        · obtain ⟨g1, g2, g3, g4⟩ := t4 q (fun z => z)
          exact ⟨g1, hj2 q, g3, g4⟩
        · rw [← hnx]; exact s2 q
        · rw [← hnn]; exact s3 q
        · obtain ⟨g1, g2, g3⟩ := s4 q
          refine ⟨by omega, by rw [z34]; exact g2, ?_⟩
          rw [hfb _ g1 g2]
          exact g3.trans how
      by_cases e3 : (ox (f0 + (k : Int)) I i).1 = 3 ∨ (ox (f0 + (k : Int)) I i).1 = 4
      · cases hr : rvf f0 F (ox (f0 + (k : Int)) I i).2.1 F.length (f0 + (k : Int)) 0 with
        | none =>
          refine same ?_
          unfold fx
          rw [if_neg e, if_pos e3, hr]
        | some av =>
          obtain ⟨a, v⟩ := av
          have hfx : fx f0 F (f0 + (k : Int)) (sb + (psm (fun u => pz_s (on u I)) f0 k) + os (f0 + (k : Int)) I i) (ox (f0 + (k : Int)) I i).1 (ox (f0 + (k : Int)) I i).2.1 (ox (f0 + (k : Int)) I i).2.2.1 = (if (ox (f0 + (k : Int)) I i).1 = 3 then 1 else 2, a, v) := by
            unfold fx
            rw [if_neg e, if_pos e3, hr]
          rw [hfx]
          obtain ⟨r, r1, r2, r3, r4⟩ := rvf_at (fa := fb) (fun q hq => by
            rcases (hF.2.2 q hq).1 with ⟨w1, w2, -⟩ | w
            · exact Or.inl ⟨w1, w2⟩
            · exact Or.inr w) h00 hfb F.length (f0 + (k : Int)) 0 (by omega) (by omega) hr
          have hra : a.toNat = r := by omega
          have h12 : ∃ o2 : Int, (if (ox (f0 + (k : Int)) I i).1 = 3 then (1 : Int) else 2) = o2 ∧ ((o2 = 1 ∧ (ox (f0 + (k : Int)) I i).1 = 3) ∨ (o2 = 2 ∧ (ox (f0 + (k : Int)) I i).1 = 4)) := by
            by_cases w : (ox (f0 + (k : Int)) I i).1 = 3
            · exact ⟨1, if_pos w, Or.inl ⟨rfl, w⟩⟩
            · exact ⟨2, if_neg w, Or.inr ⟨rfl, by omega⟩⟩
          obtain ⟨o2, w1, w2⟩ := h12
          rw [w1]
          have hv : Z 296 (fup fb a.toNat (f0 + (k : Int))) = ((pz_f f0 F (fup fb r (f0 + (k : Int)))).2.2.length : Int) := by
            rw [hra]
            have r2r := r2 r (Nat.le_refl _)
            have := (hR (fup fb r (f0 + (k : Int)) - f0).toNat (by omega)).1.2.2.1
            rw [show f0 + (((fup fb r (f0 + (k : Int)) - f0).toNat : Nat) : Int) = fup fb r (f0 + (k : Int)) by omega] at this
            exact this
          show mcI fb Z H D _ i _ o2 a v
          have hst : mcS fb Z (f0 + (k : Int)) o2 a v := by
            refine ⟨by omega, fun q => by omega, fun _ => ⟨by omega, fun j hj => ?_, r3, by rw [hv]; exact r4⟩, fun q => by omega, fun q => by omega, fun q => by omega, fun q => by omega, fun q => by omega⟩
            have := r2 j (by omega)
            rw [z34]
            omega
          rcases w2 with ⟨rfl, w3⟩ | ⟨rfl, w3⟩
          · rw [w3] at t1 t2 t3
            exact ⟨t1, fun q => t2 (by decide), t3, fun q => absurd q (show ¬ tjm 1 by unfold tjm; decide), ⟨fun q => absurd q (by decide), fun q => absurd q (by decide)⟩, hst⟩
          · rw [w3] at t1 t2 t3
            exact ⟨t1, fun q => t2 (by decide), t3, fun q => absurd q (show ¬ tjm 2 by unfold tjm; decide), ⟨fun q => absurd q (by decide), fun q => absurd q (by decide)⟩, hst⟩
      · refine same ?_
        unfold fx
        rw [if_neg e, if_neg e3]
  · have hl2 : (ox (f0 + (k : Int)) I ((on (f0 + (k : Int)) I).length - 1)).1 = 29 := hl
    obtain ⟨⟨d1, -, -⟩, -⟩ := kd ((on (f0 + (k : Int)) I).length - 1) (by omega)
    rw [c4, d1]
    unfold fx
    rw [if_neg (by rw [hl2]; decide), if_neg (by rw [hl2]; decide)]
    exact hl2
/-- a unit has come -/
theorem mW_s (h : mW S) (hK : mK S) (hf : S 237 34 = f0) (hu : S 237 33 = un) (hp : S 237 43 = p) (hs : S 237 47 = sb) (hFl : 0 < F.length) (hown : ∀ x ∈ I, f0 ≤ x.2.2.2 ∧ x.2.2.2 < f0 + (F.length : Int)) (hF : fW f0 I F) (hty : ∀ k : Nat, k < F.length → tyF nn nx f0 F (on (f0 + (k : Int)) I)) (b0 : Z 237 33 = un + 1 ∧ Z 237 34 = f0 + (F.length : Int) ∧ Z 237 43 = p + (I.length : Int) ∧ Z 237 47 = sb + pz_s I ∧ Z 294 un = f0) (b1 : ∀ k : Nat, k < F.length → kR f0 I F un p sb k Z) (hnn : nn = Z 237 16) (hnx : nx = Z 237 19) (eN : S 237 16 ≤ Z 237 16 ∧ S 237 19 ≤ Z 237 19)
    (eF : ∀ (j : Nat) (x : Int), (293 ≤ j ∧ j ≤ 300 ∧ j ≠ 294) → 0 ≤ x → x < f0 → Z j x = S j x) (eU : ∀ x : Int, 0 ≤ x → x < un → Z 294 x = S 294 x) (eI : ∀ (j : Nat) (x : Int), (301 ≤ j ∧ j ≤ 303) → 0 ≤ x → x < p → Z j x = S j x) (eS : ∀ (j : Nat) (x : Int), ((304 ≤ j ∧ j ≤ 313) ∨ j = 376) → 0 ≤ x → x < sb → Z j x = S j x) : mW Z := by
  obtain ⟨fa, h1, h2⟩ := h
  obtain ⟨k1, k2, k3, k4, k5, k6, -, -⟩ := hK
  obtain ⟨b2, b3, b4, b5, b6⟩ := b0
  have hsn := pz_s_nn I
  have hfb : ∀ x : Int, f0 ≤ x → x < f0 + (F.length : Int) → (fun x => if x < f0 then fa x else (pz_f f0 F x).1) x = (pz_f f0 F x).1 := fun x x0 _ => if_neg (by omega)
  refine ⟨fun x => if x < f0 then fa x else (pz_f f0 F x).1, fun g g0 g1 => ?_, fun k k0 k1' => ?_⟩
  · by_cases e : g < f0
    · obtain ⟨c1, c2, c3⟩ := h1 g g0 (by omega)
      obtain ⟨-, d1, d2, d3⟩ := k5 g g0 (by omega)
      have e96 := eF 296 g (by omega) g0 e
      rw [e96]
      have hfg : (fun x => if x < f0 then fa x else (pz_f f0 F x).1) g = fa g := if_pos e
      rw [hfg]
      exact ⟨mcF_mo c1 ⟨d1, d3⟩ ⟨g0, by omega⟩ ⟨eN.1, eN.2, by omega, by omega⟩ (fun j x hj x0 x1 => eF j x (by omega) x0 (by omega)) (fun j x hj x0 x1 => eI j x hj x0 (by omega)) (fun j x hj x0 x1 => eS j x (by omega) x0 (by omega)) (fun x x0 x1 => if_pos (by omega)), c2, c3⟩
    · obtain ⟨q, rfl⟩ : ∃ q : Nat, g = f0 + (q : Int) := ⟨(g - f0).toNat, by omega⟩
      have hq : q < F.length := by omega
      have hfg := hfb (f0 + (q : Int)) (by omega) (by omega)
      have hpf : pz_f f0 F (f0 + (q : Int)) = F.getD q (-1, 0, []) := by
        unfold pz_f
        rw [show (f0 + (q : Int) - f0).toNat = q by omega]
      have h96 := (b1 q hq).1.2.2.1
      obtain ⟨w1, w2⟩ := hF.2.2 q hq
      have h00 := hF.1.1
      refine ⟨mcF_n hq (hty q hq) b1 hF b3 b5 (by omega) hown hnn hnx hfb, ?_, by rw [h96]; omega, by rw [h96]; omega⟩
      rw [hfg, hpf, h96]
      rcases w1 with ⟨-, w3, w4⟩ | w3
      · exact Or.inl ⟨w3, by rw [w4]; rfl⟩
      · exact Or.inr ⟨by omega, w3.2⟩
  · by_cases e : k < un
    · obtain ⟨-, d1, d2⟩ := k6 k k0 (by omega)
      rw [eU k k0 e]
      have hfg : (fun x => if x < f0 then fa x else (pz_f f0 F x).1) (S 294 k) = fa (S 294 k) := if_pos (by omega)
      rw [hfg]
      exact h2 k k0 (by omega)
    · obtain rfl : k = un := by omega
      rw [b6, hfb f0 (Int.le_refl _) (by omega)]
      have hpf : pz_f f0 F f0 = F.getD 0 (-1, 0, []) := by
        unfold pz_f
        rw [show (f0 - f0).toNat = 0 by omega]
      rw [hpf]
      rcases (hF.2.2 0 hFl).1 with ⟨-, w, -⟩ | w
      · exact w
      · omega
/-- what it speaks of has stayed -/
theorem mW_ag (h : mW S) (hK : mK S) (eN : S 237 16 ≤ Z 237 16 ∧ S 237 19 ≤ Z 237 19) (e237 : ∀ x : Int, (x = 33 ∨ x = 34 ∨ x = 43 ∨ x = 47) → Z 237 x = S 237 x) (eF : ∀ (j : Nat) (x : Int), (293 ≤ j ∧ j ≤ 300) → 0 ≤ x → Z j x = S j x) (eI : ∀ (j : Nat) (x : Int), (301 ≤ j ∧ j ≤ 306) → 0 ≤ x → Z j x = S j x) : mW Z := by
  obtain ⟨fa, h1, h2⟩ := h
  obtain ⟨-, -, -, -, k5, -, -, -⟩ := hK
  refine ⟨fa, fun g g0 g1 => ?_, fun k k0 k1 => ?_⟩
  · rw [e237 34 (by omega)] at g1
    obtain ⟨c1, c2, c3⟩ := h1 g g0 g1
    obtain ⟨-, d1, d2, d3⟩ := k5 g g0 g1
    rw [eF 296 g (by omega) g0]
    exact ⟨mcF_mo c1 ⟨d1, d3⟩ ⟨g0, g1⟩ ⟨eN.1, eN.2, by rw [e237 34 (by omega)]; omega, by rw [e237 47 (by omega)]; omega⟩ (fun j x hj x0 _ => eF j x (by omega) x0) (fun j x hj x0 _ => eI j x (by omega) x0) (fun j x hj x0 _ => eI j x (by omega) x0) (fun _ _ _ => rfl), c2, c3⟩
  · rw [e237 33 (by omega)] at k1
    rw [eF 294 k (by omega) k0]
    exact h2 k k0 k1
end Wdc
