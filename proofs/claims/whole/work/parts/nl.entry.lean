/-! PART nl: entry. -/
section Wnl0
variable {xs : List (Nat × List Int32)} {M : Nat → Prop} {d : Nat} {S Z : wS} {H : List aH} {T : List aO} {L : List aC} {Gg : Int → aV} {sl : Nat → List Int} {E : Int → List aE} {ix : Int → List Int} {fl : List Int} {ow Y : Int → Int} {s k wh : Int}
theorem menq (hM : w_ML S) (hW : rWd S sl T L Gg) (hH : rHs S H) (hw : wSh T H) (hT : (T.length : Int) ≤ 8000) (h82 : S 237 82 ≤ 60000) (hse : rSe S E) (hkd : ∀ s : Int, 0 ≤ s → s < S 237 47 → 0 < (E s).length → 0 ≤ S 304 s ∧ S 304 s ≤ 6) (hwe : ∀ s : Int, 0 ≤ s → s < S 237 47 → ∀ i : Nat, i < (E s).length → (eSn (S 304 s) ((E s).getD i (0, 0, 0, 0, 0, 0, 0, 0, 0)) ≠ -1 → 0 ≤ ((E s).getD i (0, 0, 0, 0, 0, 0, 0, 0, 0)).2.1 ∧ ((E s).getD i (0, 0, 0, 0, 0, 0, 0, 0, 0)).2.1 < (H.length : Int)) ∧ -1 ≤ ((E s).getD i (0, 0, 0, 0, 0, 0, 0, 0, 0)).2.2.2.1 ∧ 0 ≤ ((E s).getD i (0, 0, 0, 0, 0, 0, 0, 0, 0)).2.2.2.2.2.2.1) (hs : -2147483648 ≤ s ∧ s ≤ 2147483647) (hk : -2147483648 ≤ k ∧ k ≤ 2147483647) (hwh : -2147483648 ≤ wh ∧ wh ≤ 2147483647) : wJ (pe_GA xs) wY0 M (d + 3) t_M_entry ((pe_at t_M_entry.bl 0).getD (0, [])).2 [(0, (2, 237)), (1, (0, s)), (2, (0, k)), (3, (0, wh))] [] S (fun o Z => (w_up S 237 0 0) = Z ∧ o = .inl (some (0, enW T H E (S 304) (S 237 47) s k wh))) := by
  obtain ⟨hs47, hsi⟩ := id hse
  refine wa_aload_n (n := 0) rfl ?_
  refine wa_iconst ?_
  refine wb_pfi 237 rfl (wy_pr rfl) wt_237 wf_15_0 (n := 0) rfl ⟨(by omega), (by omega)⟩ ?_
  refine wa_iload_n (n := 1) rfl ?_
  refine wa_i2l (w_rg0 (by omega) (by omega)) ?_
  refine wa_lconst ?_
  refine wa_aload_n (n := 0) rfl ?_
  refine wb_gfi 237 rfl (wy_pr rfl) wt_237 wf_15_47 (v := (S 237 47)) (w_up_at (by decide)) (fun r1 => ?_)
  refine wa_iconst ?_
  refine wa_isub ?_
  refine wa_i2l (w_rg0 (by omega) (by omega)) ?_
  refine wa_cs (M2 := fun _ => False) rfl at_M_in ⟨_, rfl⟩ rfl rfl ⟨(Or.inr ⟨wy_pr rfl, fun q => q⟩), trivial, trivial, trivial, trivial⟩ trivial (fun _ _ q => False.elim q) (in_ok (S := (w_up S 237 0 0)) (a := s) (lo := 0) (hi := ((S 237 47) - 1)) ⟨by omega, by omega⟩ ⟨by omega, by omega⟩ ⟨by omega, by omega⟩) (fun oq3 Sq3 hp4 q3 => ?_)
  rcases q3 with ⟨rfl, ⟨rfl, hin2⟩ | ⟨rfl, hin2⟩⟩
  · skip
    show wJ _ _ _ _ _ _ _ _ _ _
    refine wa_ifeq (w_rg0 (by omega) (by omega)) ⟨_, rfl⟩ (fun c5 => ?_) (fun c5 => ?_)
    · skip
      exact absurd c5 (by omega)
    · skip
      obtain ⟨uu1, uu2, uu3⟩ := hsi s (by omega) (by omega)
      refine wa_iload_n (n := 2) rfl ?_
      refine wa_i2l (w_rg0 (by omega) (by omega)) ?_
      refine wa_lconst ?_
      refine wa_aload_n (n := 0) rfl ?_
      refine wb_gf4 237 rfl (wy_pr rfl) wt_237 wf_15_156 (v := 376) wl_237_156 ?_
      refine wa_iload_n (n := 1) rfl ?_
      refine wb_iald 376 rfl (wy_pr rfl) wt_376 (n := 4000) ((w_up_slot (by decide)).trans ((ml_376 hM))) (by omega) (by omega) (v := (S 376 s)) (w_up_slot (by decide)) (fun r6 => ?_)
      refine wa_iconst ?_
      refine wa_isub ?_
      refine wa_i2l (w_rg0 (by omega) (by omega)) ?_
      refine wa_cs (M2 := fun _ => False) rfl at_M_in ⟨_, rfl⟩ rfl rfl ⟨(Or.inr ⟨wy_pr rfl, fun q => q⟩), trivial, trivial, trivial, trivial⟩ trivial (fun _ _ q => False.elim q) (in_ok (S := (w_up S 237 0 0)) (a := k) (lo := 0) (hi := ((S 376 s) - 1)) ⟨by omega, by omega⟩ ⟨by omega, by omega⟩ ⟨by omega, by omega⟩) (fun oq8 Sq8 hp9 q8 => ?_)
      rcases q8 with ⟨rfl, ⟨rfl, hin7⟩ | ⟨rfl, hin7⟩⟩
      · skip
        show wJ _ _ _ _ _ _ _ _ _ _
        refine wa_ifne (w_rg0 (by omega) (by omega)) ⟨_, rfl⟩ (fun c10 => ?_) (fun c10 => ?_)
        · skip
          have c3k := uu3 k.toNat (by omega)
          rw [show ((k.toNat : Nat) : Int) = k by omega] at c3k
          obtain ⟨⟨e77, e78, e79, e80, e81, e82⟩, e83, -⟩ := id c3k
          have hkd1 := hkd s (by omega) (by omega) (by omega)
          have hwe1 := hwe s (by omega) (by omega) k.toNat (by omega)
          have heq : enW T H E (S 304) (S 237 47) s k wh = enV T H (S 304 s) ((E s).getD k.toNat (0, 0, 0, 0, 0, 0, 0, 0, 0)) wh := if_pos ⟨by omega, by omega, by omega, by omega⟩
          rw [heq]
          refine wa_iconst ?_
          refine wa_iload_n (n := 1) rfl ?_
          refine wa_imul ?_
          refine wa_iload_n (n := 2) rfl ?_
          refine wa_iadd ?_
          refine wa_istore (n := 4) rfl ?_
          refine wa_iload_n (n := 3) rfl ?_
          by_cases c11 : wh = 0
          · refine wb_sw (w_rg0 (by omega) (by omega)) (tb := 3) (by rw [c11]; rfl) ⟨_, rfl⟩ ?_
            refine wa_aload_n (n := 0) rfl ?_
            refine wb_gf4 237 rfl (wy_pr rfl) wt_237 wf_15_157 (v := 377) wl_237_157 ?_
            refine wa_iload (n := 4) rfl ?_
            refine wb_iald 377 rfl (wy_pr rfl) wt_377 (n := 20000) ((w_up_slot (by decide)).trans ((ml_377 hM))) (by omega) (by omega) (v := (S 377 ((5 * s) + k))) (w_up_slot (by decide)) (fun r12 => ?_)
            refine wa_ireturn rfl ?_
            refine ⟨rfl, congrArg (fun z => Sum.inl (some (0, z))) ?_⟩
            unfold enV
            repeat (first | rw [if_pos (by omega)] | rw [if_neg (by omega)])
            all_goals first | rfl | omega
          by_cases c13 : wh = 1
          · refine wb_sw (w_rg0 (by omega) (by omega)) (tb := 4) (by rw [c13]; rfl) ⟨_, rfl⟩ ?_
            refine wa_aload_n (n := 0) rfl ?_
            refine wb_gf4 237 rfl (wy_pr rfl) wt_237 wf_15_158 (v := 378) wl_237_158 ?_
            refine wa_iload (n := 4) rfl ?_
            refine wb_iald 378 rfl (wy_pr rfl) wt_378 (n := 20000) ((w_up_slot (by decide)).trans ((ml_378 hM))) (by omega) (by omega) (v := (S 378 ((5 * s) + k))) (w_up_slot (by decide)) (fun r14 => ?_)
            refine wa_ireturn rfl ?_
            refine ⟨rfl, congrArg (fun z => Sum.inl (some (0, z))) ?_⟩
            unfold enV
            repeat (first | rw [if_pos (by omega)] | rw [if_neg (by omega)])
            all_goals first | rfl | omega
          by_cases c15 : wh = 2
          · refine wb_sw (w_rg0 (by omega) (by omega)) (tb := 5) (by rw [c15]; rfl) ⟨_, rfl⟩ ?_
            refine wa_aload_n (n := 0) rfl ?_
            refine wb_gf4 237 rfl (wy_pr rfl) wt_237 wf_15_160 (v := 380) wl_237_160 ?_
            refine wa_iload (n := 4) rfl ?_
            refine wb_iald 380 rfl (wy_pr rfl) wt_380 (n := 20000) ((w_up_slot (by decide)).trans ((ml_380 hM))) (by omega) (by omega) (v := (S 380 ((5 * s) + k))) (w_up_slot (by decide)) (fun r16 => ?_)
            refine wa_ireturn rfl ?_
            refine ⟨rfl, congrArg (fun z => Sum.inl (some (0, z))) ?_⟩
            unfold enV
            repeat (first | rw [if_pos (by omega)] | rw [if_neg (by omega)])
            all_goals first | rfl | omega
          by_cases c17 : wh = 3
          · refine wb_sw (w_rg0 (by omega) (by omega)) (tb := 6) (by rw [c17]; rfl) ⟨_, rfl⟩ ?_
            refine wa_aload_n (n := 0) rfl ?_
            refine wb_gf4 237 rfl (wy_pr rfl) wt_237 wf_15_161 (v := 381) wl_237_161 ?_
            refine wa_iload (n := 4) rfl ?_
            refine wb_iald 381 rfl (wy_pr rfl) wt_381 (n := 20000) ((w_up_slot (by decide)).trans ((ml_381 hM))) (by omega) (by omega) (v := (S 381 ((5 * s) + k))) (w_up_slot (by decide)) (fun r18 => ?_)
            refine wa_ireturn rfl ?_
            refine ⟨rfl, congrArg (fun z => Sum.inl (some (0, z))) ?_⟩
            unfold enV
            repeat (first | rw [if_pos (by omega)] | rw [if_neg (by omega)])
            all_goals first | rfl | omega
          by_cases c19 : wh = 4
          · refine wb_sw (w_rg0 (by omega) (by omega)) (tb := 7) (by rw [c19]; rfl) ⟨_, rfl⟩ ?_
            refine wa_aload_n (n := 0) rfl ?_
            refine wb_gf4 237 rfl (wy_pr rfl) wt_237 wf_15_162 (v := 382) wl_237_162 ?_
            refine wa_iload (n := 4) rfl ?_
            refine wb_iald 382 rfl (wy_pr rfl) wt_382 (n := 20000) ((w_up_slot (by decide)).trans ((ml_382 hM))) (by omega) (by omega) (v := (S 382 ((5 * s) + k))) (w_up_slot (by decide)) (fun r20 => ?_)
            refine wa_ireturn rfl ?_
            refine ⟨rfl, congrArg (fun z => Sum.inl (some (0, z))) ?_⟩
            unfold enV
            repeat (first | rw [if_pos (by omega)] | rw [if_neg (by omega)])
            all_goals first | rfl | omega
          by_cases c21 : wh = 5
          · refine wb_sw (w_rg0 (by omega) (by omega)) (tb := 8) (by rw [c21]; rfl) ⟨_, rfl⟩ ?_
            refine wa_aload_n (n := 0) rfl ?_
            refine wa_iload (n := 4) rfl ?_
            refine wa_aload_n (n := 0) rfl ?_
            refine wb_gf4 237 rfl (wy_pr rfl) wt_237 wf_15_49 (v := 304) wl_237_49 ?_
            refine wa_iload_n (n := 1) rfl ?_
            refine wb_iald 304 rfl (wy_pr rfl) wt_304 (n := 4000) ((w_up_slot (by decide)).trans ((ml_304 hM))) (by omega) (by omega) (v := (S 304 s)) (w_up_slot (by decide)) (fun r22 => ?_)
            refine wa_cv 237 rfl (wy_pr rfl) wt_237 (M2 := fun _ => False) rfl at_M_isStale ⟨_, rfl⟩ rfl rfl ⟨trivial, (Or.inr ⟨wy_pr rfl, fun q => q⟩), trivial, trivial, trivial, trivial⟩ trivial (fun _ _ q => False.elim q) (rst_ok (S := (w_up S 237 0 0)) (r := (5 * s + k)) (kd := S 304 s) (e := ((E s).getD k.toNat (0, 0, 0, 0, 0, 0, 0, 0, 0))) (sl := sl) (H := H) (T := T) (w_ML_up hM (by decide)) hW.1 hH hw hT h82 (by omega) c3k hwe1.1 ⟨hwe1.2.1, hwe1.2.2, by omega, by omega⟩) (fun oq23 Sq23 hp24 q23 => ?_)
            rcases q23 with ⟨rfl, rfl⟩
            show wJ _ _ _ _ _ _ _ _ _ _
            have hstr : eSt T H (S 304 s) ((E s).getD k.toNat (0, 0, 0, 0, 0, 0, 0, 0, 0)) = 0 ∨ eSt T H (S 304 s) ((E s).getD k.toNat (0, 0, 0, 0, 0, 0, 0, 0, 0)) = 1 := eSt_rg
            refine wa_ifeq (w_rg0 (by omega) (by omega)) ⟨_, rfl⟩ (fun c25 => ?_) (fun c25 => ?_)
            · skip
              refine wa_iconst ?_
              refine wa_fall ⟨_, rfl⟩ ?_
              refine wa_ireturn rfl ?_
              refine ⟨rfl, congrArg (fun z => Sum.inl (some (0, z))) ?_⟩
              unfold enV
              repeat (first | rw [if_pos (by omega)] | rw [if_neg (by omega)])
              all_goals first | rfl | omega
            · skip
              refine wa_iconst ?_
              refine wa_goto ⟨_, rfl⟩ ?_
              refine wa_ireturn rfl ?_
              refine ⟨rfl, congrArg (fun z => Sum.inl (some (0, z))) ?_⟩
              unfold enV
              repeat (first | rw [if_pos (by omega)] | rw [if_neg (by omega)])
              all_goals first | rfl | omega
          refine wb_sw (w_rg0 (by omega) (by omega)) (tb := 11) (w_tb_df (by simp only [List.length_cons, List.length_nil]; omega)) ⟨_, rfl⟩ ?_
          refine wa_iconst ?_
          refine wa_ireturn rfl ?_
          refine ⟨rfl, congrArg (fun z => Sum.inl (some (0, z))) ?_⟩
          unfold enV
          repeat (first | rw [if_pos (by omega)] | rw [if_neg (by omega)])
          all_goals first | rfl | omega
        · skip
          exact absurd c10 (by omega)
      · skip
        show wJ _ _ _ _ _ _ _ _ _ _
        refine wa_ifne (w_rg0 (by omega) (by omega)) ⟨_, rfl⟩ (fun c26 => ?_) (fun c26 => ?_)
        · skip
          exact absurd c26 (by omega)
        · skip
          refine wa_fall ⟨_, rfl⟩ ?_
          refine wa_iconst ?_
          refine wa_ireturn rfl ?_
          refine ⟨rfl, congrArg (fun z => Sum.inl (some (0, z))) ?_⟩
          unfold enW; rw [if_neg (by omega)]
  · skip
    show wJ _ _ _ _ _ _ _ _ _ _
    refine wa_ifeq (w_rg0 (by omega) (by omega)) ⟨_, rfl⟩ (fun c27 => ?_) (fun c27 => ?_)
    · skip
      refine wa_iconst ?_
      refine wa_ireturn rfl ?_
      refine ⟨rfl, congrArg (fun z => Sum.inl (some (0, z))) ?_⟩
      unfold enW; rw [if_neg (by omega)]
    · skip
      exact absurd c27 (by omega)
end Wnl0
section Wnl
variable {xs : List (Nat × List Int32)} {d : Nat} {S0 S Z : wS} {p w m : Nat} {HT : Int → Int} {cs : List hCR} {ms : List hMR} {os : Int → List Int} {X : List (List Int)} {mo t n B B2 oq : Int} {fa : Int → Int} {WE : aA → Prop} {A A2 : aA} {K2 : aK} {ml : List Nat} {k c s kd nms ne ec bh nm en : Int} {b ba : Nat} {ar : List aV} {e : aE} {V Z2 Y : wS} {o : wO} {dn : Int} {H2 : List aH} {N2 : List (List Int)} {E2 : Int → List aE} {C2 : List aQ} {W2 : Int} {c2 : Int → Int} {k2 : Int → Int → Int} {mk rk : Nat → Int → Prop} {K : aK} {T : List aO} {H : List aH} {E : Int → List aE} {gk gb es lo hi a : Int} {r : List aE × Int × Option aE} {A1 : aA} {tl cl : List Int} {sl : Nat → List Int} {L : List aC} {G : Int → aV} {u : aV} {x : List Int} {T2 : List aO} {L2 : List aC} {G2 : Int → aV} {H2 : List aH} {c2 : Int → Int} {y : Int} {Q : wO → wS → Prop} {ps : List (Int × aV)} {k hd wh : Int} {f a9 pn fn md : Int} {vn m9 : Nat} {th : aV} {g : Int} {lp : List aV} {l ds fo g : Int} {mk : Nat → Int → Prop} {C2 : List aQ} {W2 : Int} {RZ : wS → Prop} {N3 : Nat} {SB : wS} {r r0 : Int} {sh : Int} {K9 : aK} {nt : Int} {R2 : List Int} {S2 : Int → aV} {wh en9 : Int} {q b2 pm m9 : Nat} {N : List (List Int)}
theorem kc9 {M : Nat → Prop} {k i wh : Int} (h : RM xs m9 S) (hm : m9 < 512) (hk : -2147483648 ≤ k ∧ k ≤ 2147483647) (hi : -2147483648 ≤ i ∧ i ≤ 2147483647) (hwh : -2147483648 ≤ wh ∧ wh ≤ 2147483647) : wJ (pe_GA xs) wY0 M (d + 2) t_X_entry ((pe_at t_X_entry.bl 0).getD (0, [])).2 [(0, (2, 0)), (1, (0, k)), (2, (0, i)), (3, (0, wh))] [] S (fun o1 Z => ∀ (M2 : Nat → Prop) (d2 : Nat), wJ (pe_GA xs) wY0 M2 (d2 + 3) t_M_entry ((pe_at t_M_entry.bl 0).getD (0, [])).2 [(0, (2, 237)), (1, (0, k)), (2, (0, i)), (3, (0, wh))] [] Z (fun o2 S2 => (∃ v : Int, o1 = .inl (some (0, v)) ∧ o2 = .inl (some (0, v))) ∧ RM xs (m9 + 1) S2)) := by
  obtain ⟨p, q, b, b2, pm, X, HT, nt, cs, ms, os, mo, fa, A, hp, hA, ⟨⟨k1, ⟨k2, k3, k4, k5⟩, k6⟩, k7⟩, ⟨hC, hr⟩, hw, hT, ⟨hX, hX2⟩, hv, -⟩ := id h
  refine wJ_E (fun hE => ?_)
  have k47 : S 19 9 = S 237 47 := k6.2.2.2.1.1
  obtain ⟨ix, fl, ow, hce⟩ := hC.2.2.2.2.1
  have hre := hr.2.2.2.2.1
  obtain ⟨⟨sl, hW⟩, hH⟩ := hr.2.2.1
  have hwe := hw.2.2.2.2.2.2.1
  have hct := hw.2.2.2.2.1
  have hN := hw.2.2.2.2.2.1.1.1
  let E9 : Int → List aE := fun s => if 0 ≤ s ∧ s < S 237 47 then a_E A s else []
  have e9 : ∀ s : Int, 0 ≤ s → s < S 237 47 → E9 s = a_E A s := fun s s0 s1 => if_pos ⟨s0, s1⟩
  have ge : ∀ (l : List aE) (i : Nat), i < l.length → l.getD i (0, 0, 0, 0, 0, 0, 0, 0, 0) ∈ l := fun l i hi => by
    rw [List.getD_eq_getElem?_getD, List.getElem?_eq_getElem hi]
    exact List.getElem_mem hi
  have wk9 : ∀ s : Int, 0 ≤ s → s < S 237 47 → ∀ e ∈ a_E A s, wEn (a_H A) (S 304 s) (S 305 s) e ∧ (0 ≤ S 304 s ∧ S 304 s ≤ 6) ∧ 0 ≤ e.2.2.2.2.2.2.1 ∧ -1 ≤ e.2.2.2.1 := fun s s0 s1 e he => by
    have q := (hwe s s0 s1).2 e he
    obtain ⟨⟨y1, y2⟩, y3, y4, y5, y6⟩ := id q
    obtain ⟨q1, q2⟩ := y1.2.2.2
    have q3 := y1.2.2.1
    refine ⟨wEn_of q rfl rfl hN q1 (fun z => ⟨q2 z, ?_⟩), q1, y2.1, ?_⟩
    · rw [k2.1] at q3
      omega
    · by_cases c0 : e.1 = 0
      · exact (y4 c0).2.1
      · by_cases c3 : e.1 = 3
        · have z := congrArg (fun x : aE => x.2.2.2.1) (y5 c3).2.1
          replace z : e.2.2.2.1 = -1 := z
          omega
        · obtain ⟨-, -, tl, -, -, z⟩ := y6 (by omega)
          have z2 := congrArg (fun x : aE => x.2.2.2.1) z
          replace z2 : e.2.2.2.1 = -1 := z2
          omega
  have c9 : cSe S E9 ix fl ow := by
    refine ⟨hce.1, fun s s0 s1 => ?_, hce.2.2⟩
    rw [e9 s s0 (by omega)]
    exact hce.2.1 s s0 s1
  have r9 : rSe S E9 := by
    refine ⟨hre.1, fun s s0 s1 => ?_⟩
    rw [e9 s s0 s1]
    exact hre.2 s s0 s1
  have w9 : ∀ s : Int, 0 ≤ s → s < S 19 9 → ∀ i : Nat, i < (E9 s).length → wEn (a_H A) (S 35 s) (S 36 s) ((E9 s).getD i (0, 0, 0, 0, 0, 0, 0, 0, 0)) := fun s s0 s1 i hi => by
    rw [e9 s s0 (by omega)] at hi ⊢
    obtain ⟨a1, a2, -⟩ := k6.2.2.2.2.2.2.2 s s0 (by omega)
    rw [a1, a2]
    exact (wk9 s s0 (by omega) _ (ge _ i hi)).1
  have rg : ∀ s : Int, ∀ e ∈ E9 s, (-2147483648 ≤ e.2.1 ∧ e.2.1 ≤ 2147483647) ∧ (-2147483648 ≤ e.2.2.2.1 ∧ e.2.2.2.1 ≤ 2147483647) ∧ -2147483648 ≤ e.2.2.2.2.2.2.1 ∧ e.2.2.2.2.2.2.1 ≤ 2147483647 := fun s e he => by
    by_cases c : 0 ≤ s ∧ s < S 237 47
    · rw [e9 s c.1 c.2] at he
      obtain ⟨i, hi, rfl⟩ := List.mem_iff_getElem.mp he
      obtain ⟨x1, x2, x3⟩ := hre.2 s c.1 c.2
      have h4 := hre.1.2
      obtain ⟨⟨y1, y2, y3, y4, y5, y6⟩, y7, -⟩ := x3 i hi
      rw [List.getD_eq_getElem?_getD, List.getElem?_eq_getElem hi] at y2 y4 y7
      replace y2 : S 378 (5 * s + (i : Int)) = (a_E A s)[i].2.1 := y2
      replace y4 : S 380 (5 * s + (i : Int)) = (a_E A s)[i].2.2.2.1 := y4
      replace y7 : S 383 (5 * s + (i : Int)) = (a_E A s)[i].2.2.2.2.2.2.1 := y7
      rw [← y2, ← y4, ← y7]
      exact ⟨ir_E hE (wy_pr rfl) wt_378 (by omega) (by rw [ml_378 hA.2.2.1]; omega), ir_E hE (wy_pr rfl) wt_380 (by omega) (by rw [ml_380 hA.2.2.1]; omega), ir_E hE (wy_pr rfl) wt_383 (by omega) (by rw [ml_383 hA.2.2.1]; omega)⟩
    · rw [show E9 s = [] from if_neg c] at he
      exact absurd he List.not_mem_nil
  have cg : ∀ k : Int, isO (a_T A) k → aCg (a_T A) k ≤ S 72 11 := fun k hk => by
    rw [hC.2.2.2.2.2.2.2.1.2.1.1]
    exact (hct.2.2.2.2.2.2.2.1 k hk.1.1 hk.1.2).2.2
  refine wJ_mono (xen (d := d) hC.1.1 hC.2.2.1.1 hC.2.2.1.2.1 hw.2.1 c9 w9 cg rg hk hi hwh) (fun o1 Z hz => ?_)
  obtain ⟨rfl, rfl⟩ := hz
  intro M2 d2
  have rc := hr.2.2.2.2.2.2.2.1
  refine wJ_mono (menq (d := d2) hA.2.2.1 hW hH hw.2.1 (by have := hct.1; omega) ?_ r9 (fun s s0 s1 h0 => ?_) (fun s s0 s1 i hi => ?_) hk hi hwh) (fun o2 S2 hz => ⟨⟨_, rfl, ?_⟩, by rw [← hz.1]; exact RM_t h hm⟩)
  · have a1 := rc.1 1 (by first | decide | omega)
    have a2 := rc.2.2.2.2.2
    have a3 := hct.2.1
    replace a1 : S 237 63 = a_c A 1 := a1
    omega
  · rw [e9 s s0 s1] at h0
    exact (wk9 s s0 s1 _ (ge _ 0 h0)).2.1
  · rw [e9 s s0 s1] at hi ⊢
    obtain ⟨a1, -, a3, a4⟩ := wk9 s s0 s1 _ (ge _ i hi)
    exact ⟨a1.2.1, a4, a3⟩
  · rw [hz.2]
    have eq : enW (a_T A) (a_H A) E9 (S 304) (S 237 47) k i wh = enW (a_T A) (a_H A) E9 (S 35) (S 19 9) k i wh := by
      unfold enW
      rw [k47]
      by_cases c : 0 ≤ k ∧ k < S 237 47 ∧ 0 ≤ i ∧ i < ((E9 k).length : Int)
      · rw [if_pos c, if_pos c, (k6.2.2.2.2.2.2.2 k c.1 c.2.1).1]
      · rw [if_neg c, if_neg c]
    rw [eq]
end Wnl
