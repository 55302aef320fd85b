/-! PART mf: a host's method is called: the trace grows, static fields may change. -/
section Wmf
variable {Sb : wS} {xs : List (Nat × List Int32)} {d : Nat} {S0 S Z : wS} {p w m : Nat} {HT : Int → Int} {cs : List hCR} {ms : List hMR} {os : Int → List Int} {X : List (List Int)} {mo t n B B2 oq : Int} {fa : Int → Int} {WE : aA → Prop} {A A2 : aA} {K2 : aK} {ml : List Nat} {k c s kd nms ne ec bh nm en : Int} {b ba : Nat} {ar : List aV} {e : aE} {V Z2 Y : wS} {o : wO} {dn : Int} {H2 : List aH} {N2 : List (List Int)} {E2 : Int → List aE} {C2 : List aQ} {W2 : Int} {c2 : Int → Int} {k2 : Int → Int → Int} {mk rk : Nat → Int → Prop} {K : aK} {T : List aO} {H : List aH} {E : Int → List aE} {gk gb es lo hi a : Int} {r : List aE × Int × Option aE} {A1 : aA} {tl cl : List Int} {sl : Nat → List Int} {L : List aC} {G : Int → aV} {u : aV} {x : List Int} {T2 : List aO} {L2 : List aC} {G2 : Int → aV} {H2 : List aH} {c2 : Int → Int} {y : Int} {Q : wO → wS → Prop} {ps : List (Int × aV)} {k hd wh : Int} {f a9 pn fn md : Int} {vn m9 : Nat} {th : aV} {g : Int} {lp : List aV} {l ds fo g : Int} {mk : Nat → Int → Prop} {C2 : List aQ} {W2 : Int} {RZ : wS → Prop} {N3 : Nat} {SB : wS} {r r0 : Int} {sh : Int} {K9 : aK} {nt : Int} {R2 : List Int} {S2 : Int → aV} {wh en9 : Int}
theorem cA_B (h : hyA S0 p HT cs ms os X fa n B2 w t A s kd nms ne ec bh ba ar) (hs : ∀ k ∈ ml, k ∈ sML) {mk : Nat → Int → Prop} (hmk : ∀ (j : Nat) (x : Int), mk j x → mB9 p j x) (hc : ∀ (Y : wS) (y : Int), cRel S0 p HT cs ms os X mo A Y → cAim w s kd ec ba ((a_K A t).1.getD ba (0, 0, [])).1 nm es Y → rdC w kd ec ba ((a_K A t).1.getD ba (0, 0, [])).1 (Y (w + 3) (ba : Int)) es y e.1 (a_K A t) (a_T A) (a_L A) (a_G A) Y → cEc Y kd nms e y → wJ (pe_GA xs) wY0 (mS ml) (d + 91) t_XL_act ((pe_at t_XL_act.bl 0).getD (0, [])).2 [(0, (2, 158)), (1, (0, y))] [] Y (fun o V => o = .inl none ∧ V w 16 = 0 ∧ cTk w V K2 ∧ cFm w mk Y V ∧ cTrc V R2 ∧ cStc (p + 24) (p + 44) ms S2 V)) : cAct xs d S0 p HT cs ms os X mo w A s kd nms ec ba ((a_K A t).1.getD ba (0, 0, [])).1 nm es e 0 (u_B A t K2 R2 S2) := fun Y y hY ha he hy => wJ_mono (wJ_cl hY.1.1 hs (hc Y y hY ha (rdC_of h hY ha he hy) he)) (fun o V hz => by
  obtain ⟨⟨z1, z2, z3, z4, z5, z6⟩, z9⟩ := hz
  exact ⟨z1, z2, cRel_B hY h.1.1 h.1.2.1 z4 hmk z3 z5 z6⟩)
theorem rQ_B (h : hyA S0 p HT cs ms os X fa n B2 w t A s kd nms ne ec bh ba ar) {rk : Nat → Int → Prop} (hrk : ∀ (j : Nat) (x : Int), rk j x → rB9 j x) (hY : rRun S0 Sb HT cs ms os X mo t A Y) (hM : w_ML Z) (hz : o = .inl none ∧ rTk t Z K2 ∧ rTm t rk Y Z ∧ rTrc Z R2 ∧ rStc ms S2 Z) : rOc S0 Sb HT cs ms os X mo t 0 (u_B A t K2 R2 S2) o Z := Or.inl ⟨hz.1, rfl, rRel_B hY (wt_t h.1.2.1) (hl_A h) hz.2.2.1 hrk hM hz.2.1 hz.2.2.2.1 hz.2.2.2.2⟩
theorem aO_B (h : hyA S0 p HT cs ms os X fa n B2 w t A s kd nms ne ec bh ba ar) (hw2 : wfA S0 fa ms n (WEs S0 HT cs ms os) B2 (u_B A t K2 R2 S2)) (hc : cAct xs d S0 p HT cs ms os X mo w A s kd nms ec ba ((a_K A t).1.getD ba (0, 0, [])).1 nm es e 0 (u_B A t K2 R2 S2)) (hr : rAct xs d S0 HT cs ms os X mo t A (a_K A t) s ba bh en e 0 (u_B A t K2 R2 S2)) : aOut xs d S0 p HT cs ms os X mo fa n B2 w t A s kd nms ec bh ba nm en es e := ⟨0, _, hw2, fun t2 h2 => fUp_n h2, fun z => absurd rfl z, hc, hr⟩
/-- a method that changes nothing but static fields and the trace -/
theorem ao_m (h : hyA S0 p HT cs ms os X fa n B2 w t A s kd nms ne ec bh ba ar) (e12 : e.1 = 1 ∨ e.1 = 2) (hs : ∀ k ∈ ml, k ∈ sML) {mk rk : Nat → Int → Prop} (hmk : ∀ (j : Nat) (x : Int), mk j x → mB9 p j x) (hrk : ∀ (j : Nat) (x : Int), rk j x → rB9 j x) (hu : vG (a_T A) n u) (hS2 : ∀ m : Int, isSf ms m → vG (a_T A) n (S2 m)) (hc : ∀ (Y : wS) (y : Int), cRel S0 p HT cs ms os X mo A Y → cAim w s kd ec ba ((a_K A t).1.getD ba (0, 0, [])).1 nm es Y → rdC w kd ec ba ((a_K A t).1.getD ba (0, 0, [])).1 (Y (w + 3) (ba : Int)) es y e.1 (a_K A t) (a_T A) (a_L A) (a_G A) Y → cEc Y kd nms e y → wJ (pe_GA xs) wY0 (mS ml) (d + 91) t_XL_act ((pe_at t_XL_act.bl 0).getD (0, [])).2 [(0, (2, 158)), (1, (0, y))] [] Y (fun o V => o = .inl none ∧ ((100000 < ((a_R A).length : Int) + 2 ∧ w_up Y w 16 99 = V) ∨ (((a_R A).length : Int) + 2 ≤ 100000 ∧ cmPt w (a_K A t) ba kd u wh en9 (a_R A) mk Y V ∧ cStc (p + 24) (p + 44) ms S2 V)))) (hr : ∀ {Sb : wS} (Y : wS) (sl : Nat → List Int), rRun S0 Sb HT cs ms os X mo t A Y → rAim t (a_K A t) ba bh en Y → rWd Y sl (a_T A) (a_L A) (a_G A) → rdR t kd ba ((a_K A t).1.getD ba (0, 0, [])).1 (Y 364 (2100 * t + (ba : Int))) bh e.1 e.2.2.2.1 e.2.2.2.2.1 e.2.2.2.2.2.1 (a_K A t) (a_T A) sl (a_L A) (a_G A) Y → wJ (pe_GA xs) wY0 (fun _ => False) (d + 89) t_M_actsOnHost ((pe_at t_M_actsOnHost.bl 0).getD (0, [])).2 [(0, (2, 237)), (1, (0, kd))] [] Y (fun o V => (100000 < ((a_R A).length : Int) + 2 ∧ o = .inr 238 ∧ hZ 99 Y = V) ∨ (((a_R A).length : Int) + 2 ≤ 100000 ∧ o = .inl none ∧ rmO t (a_K A t) ba kd u (a_T A) (a_L A) (a_G A) wh en9 (a_R A) rk Y V ∧ rStc ms S2 V))) : aOut xs d S0 p HT cs ms os X mo fa n B2 w t A s kd nms ec bh ba nm en es e := by
  obtain ⟨⟨hp, hw, hx⟩, hA, hB, ⟨hru, ho⟩, hsi, hme⟩ := id h
  by_cases hl : 100000 < ((a_R A).length : Int) + 2
  · refine aO_X (c := 99) h (cA_X h hs (fun Y y hY ha hd9 he => wJ_mono (hc Y y hY ha hd9 he) (fun o V hz => ⟨hz.1, ?_⟩))) (rA_1 h e12 (fun Y sl hY ha hW hd9 => wJ_mono (hr Y sl hY ha hW hd9) (fun o Z hz hM => ?_)))
    · rcases hz.2 with z | z
      · exact z.2
      · omega
    · rcases hz with z | z
      · exact rQ_X h hY (by first | decide | omega) z.2
      · omega
  · have hv : vG (a_T A) n (if kd = 1 then ((a_K A t).1.getD ((a_K A t).1.length - 1) (0, 0, [])) else u) := by
      by_cases k1 : kd = 1
      · rw [if_pos k1]
        exact gD_G (fun x hx => (wV_of hA hw).1 x hx) _
      · rw [if_neg k1]
        exact hu
    refine aO_B (K2 := (kP (a_K A t) ((a_K A t).1.length - ba) (if kd = 1 then ((a_K A t).1.getD ((a_K A t).1.length - 1) (0, 0, [])) else u))) (R2 := a_R A ++ [wh, en9]) (S2 := S2) h (wf_Bt hA hw (tyv_A h) (kv_P (wV_of hA hw) hv) fLe_P hS2) (cA_B (mk := fun j x => cMh j x ∨ mk j x) h hs (fun j x hm => ?_) (fun Y y hY ha hd9 he => wJ_mono (hc Y y hY ha hd9 he) (fun o V hz => ⟨hz.1, ?_⟩))) (rA_1 h e12 (fun Y sl hY ha hW hd9 => wJ_mono (hr Y sl hY ha hW hd9) (fun o Z hz hM => ?_)))
    · rcases hm with z | z
      · unfold cMh at z
        unfold mB9
        omega
      · exact hmk j x z
    · rcases hz.2 with z | z
      · omega
      · obtain ⟨z0, ⟨z1, z2, z3, z4⟩, z5⟩ := z
        exact ⟨z1, z2, z4, z3, z5⟩
    · rcases hz with z | z
      · omega
      · obtain ⟨z0, z1, ⟨z2, z3, z4, z5⟩, z6⟩ := z
        refine rQ_B (rk := fun j x => rMh j x ∨ rk j x) h (fun j x hm => ?_) hY hM ⟨z1, z2, z5, z4, z6⟩
        rcases hm with q | q
        · unfold rMh at q
          unfold rB9
          omega
        · exact hrk j x q
end Wmf
