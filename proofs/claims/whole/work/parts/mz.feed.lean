/-! PART mz: feed. -/
section Wmz
variable {xs : List (Nat × List Int32)} {d : Nat} {S0 S Z : wS} {p w m : Nat} {HT : Int → Int} {cs : List hCR} {ms : List hMR} {os : Int → List Int} {X : List (List Int)} {mo t n B B2 oq : Int} {fa : Int → Int} {WE : aA → Prop} {A A2 : aA} {K2 : aK} {ml : List Nat} {k c s kd nms ne ec bh nm en : Int} {b ba : Nat} {ar : List aV} {e : aE} {V Z2 Y : wS} {o : wO} {dn : Int} {H2 : List aH} {N2 : List (List Int)} {E2 : Int → List aE} {C2 : List aQ} {W2 : Int} {c2 : Int → Int} {k2 : Int → Int → Int} {mk rk : Nat → Int → Prop} {K : aK} {T : List aO} {H : List aH} {E : Int → List aE} {gk gb es lo hi a : Int} {r : List aE × Int × Option aE} {A1 : aA} {tl cl : List Int} {sl : Nat → List Int} {L : List aC} {G : Int → aV} {u : aV} {x : List Int} {T2 : List aO} {L2 : List aC} {G2 : Int → aV} {H2 : List aH} {c2 : Int → Int} {y : Int} {Q : wO → wS → Prop} {ps : List (Int × aV)} {k hd wh : Int} {f a9 pn fn md : Int} {vn m9 : Nat} {th : aV} {g : Int} {lp : List aV} {l ds fo g : Int} {mk : Nat → Int → Prop} {C2 : List aQ} {W2 : Int} {RZ : wS → Prop} {N3 : Nat} {SB : wS} {r r0 : Int} {sh : Int} {K9 : aK} {nt : Int} {R2 : List Int} {S2 : Int → aV} {wh en9 : Int} {q b2 pm m9 : Nat} {N : List (List Int)}
theorem xf_rm {g : Nat → Int} (h : xfed g S Z) (h1 : 256 ≤ S 1 (-1)) (h2 : S 1 (-1) ≤ 131072) : rmR S Z := by
  obtain ⟨-, -, -, -, -, f, hz⟩ := h
  have e := gl_one (S := S) (Z := Z) (a := 1) (fun k hk hl => f k (-1) (by omega) (by unfold wG; omega) hk (Or.inr (by first | decide | omega)) (Or.inr (by first | decide | omega))) gl_l gl_lt gl_nd (gl_in (by decide +kernel))
  replace e : gl Z = gl S + (Z 1 (-1) - S 1 (-1)) := e
  have e2 : ∀ k : Nat, k < 237 → k ≠ 1 → Z k (-1) = S k (-1) := fun k hl hk => f k (-1) (by omega) (by unfold wG; omega) hk (Or.inr (by first | decide | omega)) (Or.inr (by first | decide | omega))
  rcases hz with ⟨a, b⟩ | ⟨a, b, c⟩
  · exact rmR_ag (rmR_rfl S) (fun k hk => by by_cases h : k = 1; (rw [h]; exact a); exact e2 k hk h) (congrFun b 0) (congrFun b 1)
  · exact ⟨⟨by omega, by omega⟩, rX_gr (rX_rfl S) rfl e2 rfl ⟨fun _ => by omega, by show _ ≤ (100000000 : Int); omega⟩⟩
theorem kc0 {a e : Int} (h : RM xs m9 S) (hm : m9 < 512) : wJ (pe_GA xs) wY0 (mS [1]) (d + 3) t_X_feed ((pe_at t_X_feed.bl 0).getD (0, [])).2 [(0, (2, 0)), (1, (1, a)), (3, (1, e))] [] S (fun o1 Z => ∀ (M2 : Nat → Prop) (d2 : Nat), w_rg 1 a → w_rg 1 e → wJ (pe_GA xs) wY0 M2 (d2 + 2) t_M_feed ((pe_at t_M_feed.bl 0).getD (0, [])).2 [(0, (2, 237)), (1, (1, a)), (3, (1, e))] [] Z (fun o2 S2 => (∃ v : Int, o1 = .inl (some (0, v)) ∧ o2 = .inl (some (0, v))) ∧ RM xs (m9 + 1) S2)) := by
  obtain ⟨p, q, b, b2, pm, X, HT, nt, cs, ms, os, mo, fa, A, hp, hA, ⟨⟨k1, ⟨k2, k3, k4, k5⟩, k6⟩, k7⟩, ⟨hC, hr⟩, hw, hT, ⟨hX, hX2⟩, hv, -⟩ := id h
  have hpp := RMp_p hp
  have hw9 := hA.1.2.2.2.2.2.2.2.1
  refine wJ_mono (feed_c hA.1.2.1 ⟨hw9.1, hw9.2.1, hw9.2.2.1, hw9.2.2.2⟩) (fun o1 Z hz M2 d2 ha he => ?_)
  have hG : ∀ j : Nat, j < 400 → j ≠ wG := fun j hj => by unfold wG; omega
  have zl : ∀ (j : Nat) (i : Int), (2 ≤ j ∧ j < 4000000) → j ≠ wG → (j ≠ 14 ∨ i ≠ 5) → Z j i = S j i := fun j i j0 j1 j2 => by
    rcases hz with ⟨-, rfl, -⟩ | ⟨-, x, -⟩
    · rfl
    · exact x.2.2.2.2.2.1 j i (by omega) j1 (by omega) (by omega) j2
  have z3 : Z 237 3 = S 237 3 := zl 237 3 (by first | decide | omega) (hG _ (by first | decide | omega)) (by first | decide | omega)
  have h03 : 0 ≤ Z 237 3 ∧ Z 237 3 ≤ 65536 := by rw [z3, ← hA.2.2.2.2.1]; exact ⟨hw9.1, hw9.2.1⟩
  have hzr : Z 0 1 ≤ S 0 1 + 16 ∧ gI Z ∧ rmR S Z := by
    rcases hz with ⟨-, rfl, -⟩ | ⟨-, x, -⟩
    · exact ⟨by omega, hA.1.2.1, rmR_rfl _⟩
    · exact ⟨by have := x.1; have := fd_n_le (fb a e) 16; omega, x.2.2.2.2.1, xf_rm x (by have := hw9.2.2.2; omega) (by have := hw9.2.2.2; omega)⟩
  refine wJ_mono (mf_feed (fun y hy => (zl y.1 (-1) (by have := wy_lt y hy; omega) (hG _ (by have := wy_lt y hy; omega)) (Or.inr (by first | decide | omega))).trans (hA.2.2.1 y hy)) h03 ha he) (fun o2 S2 h2 => ?_)
  have hb := bf (by omega) (by omega) hA hz h2
  have s2 : ∀ (j : Nat) (x : Int), j ≠ 239 → (j ≠ 237 ∨ (x ≠ 0 ∧ x ≠ 3)) → S2 j x = Z j x := fun j x j0 j1 => by
    rcases h2 with ⟨-, rfl, -⟩ | ⟨-, rfl, -⟩
    · exact w_up_no (by omega)
    · exact (mfS_p h03.1).2.2.2 j x j0 j1
  refine ⟨hb.1, RM_f h hm (fun t0 m0 ob p q b b2 q1 q2 q3 => (bf q1 q2 q3 hz h2).2) (fun j x j0 j1 j2 j3 j4 => (s2 j x j3 j4).trans (zl j x j0 j1 j2)) (by rw [s2 0 1 (by first | decide | omega) (Or.inl (by first | decide | omega))]; exact hzr.1) hb.2.1.2.1 (rmR_ag hzr.2.2 (fun k hk => s2 k (-1) (by omega) (by omega)) (s2 wG 0 (by unfold wG; decide) (Or.inl (by unfold wG; decide))) (s2 wG 1 (by unfold wG; decide) (Or.inl (by unfold wG; decide)))) (fun u1 u2 => by
    rw [s2 1 (-1) (by decide) (Or.inl (by decide))]
    have h9 := hzr.1
    rcases hz with ⟨-, rfl, -⟩ | ⟨-, x, -⟩
    · exact u2
    · rcases x.2.2.2.2.2.2 with ⟨a1, -⟩ | ⟨a1, -, -, a2⟩
      · rw [a1]; exact u2
      · omega)⟩
end Wmz
