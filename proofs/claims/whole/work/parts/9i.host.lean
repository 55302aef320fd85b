/-! PART 9i: the class's HostReader: where it stands, refuse, wordHere, take, next. -/
section W9i
variable {xs : List (Nat × List Int32)} {M : Nat → Prop} {d : Nat} {A B C S Z : wS} {Q : wO → wS → Prop} {T : Int → Int} {n : Int}
theorem wt_nX {c : Nat} (hc : 32 ≤ c ∧ c < 64) : wY0.ty (nN S c) = c + 68 := by
  have h1 : nN S c = 4000000 + 64 * (S wG 1).toNat + c := rfl
  have h2 : Nat.blt (nN S c) 388 = false := wn_ble (by omega)
  have h3 : Nat.ble 4000000 (nN S c) = true := Nat.ble_eq_true_of_le (by omega)
  have h4 : (nN S c - 4000000) % 64 = c := by omega
  have h5 : Nat.beq c 10 = false := wn_beq (by omega)
  have h6 : Nat.blt c 32 = false := wn_ble (by omega)
  show (bif Nat.blt (nN S c) 388 then _ else bif Nat.ble 4000000 (nN S c) then (bif Nat.beq ((nN S c - 4000000) % 64) 10 then 0 else bif Nat.blt ((nN S c - 4000000) % 64) 32 then (nN S c - 4000000) % 64 else (nN S c - 4000000) % 64 + 68) else wy_p (nN S c)) = c + 68
  rw [h2, h3, h4, h5, h6]
  rfl
theorem nx_d {d c : Nat} (h : 6 ≤ d) (hc : c ≤ 8) : (Nat.ble 6 d && Nat.ble (c + 82) (d * 60)) = true := by
  rw [Bool.and_eq_true]
  exact ⟨Nat.ble_eq_true_of_le h, Nat.ble_eq_true_of_le (by omega)⟩
/-- the reader of hosts has refused: v is the fault -/
def rz_ag (S Z : wS) (x : Nat) (v : Int) : Prop := Z 61 2 = v ∧ (∀ (j : Nat) (i : Int), j < 4000000 → j ≠ wG → (j ≠ 61 ∨ i ≠ 2) → Z j i = S j i) ∧ gI Z ∧ (Z wG 0 = S wG 0 + 6 ∧ Z wG 1 = S wG 1 + 1 ∧ 0 < v ∧ v ≤ 2000000) ∧ wY0.ty x = 117 ∧ w_pr wY0 Z x
theorem gI_nx {c : Nat} (hI : gI S) (hc : c < 64) (hc2 : c ≠ 38 ∧ c ≠ 43) {g : Int → Int} {m : Int} : gI (w_nw S (nN S c) g m) := by
  have h1 : nN S c = 4000000 + 64 * (S wG 1).toNat + c := rfl
  refine ⟨fun k q1 q2 => ?_, fun i hi => ?_, ?_⟩
  · by_cases hk : k = nN S c
    · rw [hk]; omega
    · refine hI.1 k q1 ?_
      have hG : k ≠ wG := by intro e; rw [e] at q1; exact absurd q1 (by decide)
      have : w_nw S (nN S c) g m k (-1) = S k (-1) := by unfold w_nw; rw [if_neg hk, if_neg hG]
      rw [this] at q2; exact q2
  · have : w_nw S (nN S c) g m 238 (i : Int) = S 238 (i : Int) := by unfold w_nw; rw [if_neg (by omega), if_neg (by decide)]
    rw [this]; exact hI.2.1 i hi
  · have : w_nw S (nN S c) g m 14 5 = S 14 5 := by unfold w_nw; rw [if_neg (by omega), if_neg (by decide)]
    rw [this]; exact hI.2.2
theorem w_nw_o {c : Nat} {g : Int → Int} {m : Int} {j : Nat} {i : Int} (hj : j < 4000000) (hG : j ≠ wG) : w_nw S (nN S c) g m j i = S j i := by
  have h1 : nN S c = 4000000 + 64 * (S wG 1).toNat + c := rfl
  unfold w_nw
  rw [if_neg (by omega), if_neg hG]
theorem w_nw_GX {c : Nat} {g : Int → Int} {m : Int} : w_nw S (nN S c) g m wG 0 = S wG 0 + m ∧ w_nw S (nN S c) g m wG 1 = S wG 1 + 1 := by
  have h1 : nN S c = 4000000 + 64 * (S wG 1).toNat + c := rfl
  have h2 : wG ≠ nN S c := by unfold wG; omega
  unfold w_nw
  rw [if_neg h2, if_neg h2]
  exact ⟨rfl, rfl⟩
theorem w_pr_nx {c : Nat} {m : Int} (hm : 0 ≤ m) : w_pr wY0 (w_nw S (nN S c) (w_z m) m) (nN S c) := by
  have h1 : nN S c = 4000000 + 64 * (S wG 1).toNat + c := rfl
  refine ⟨Or.inr ?_, by unfold wG; omega⟩
  show 0 ≤ (if nN S c = nN S c then w_z m (-1) else _)
  rw [if_pos rfl, show w_z m (-1) = m from if_pos rfl]
  exact hm
theorem rf_c {k p i : Int} (hI : gI S) (h4 : S 14 4 = i) (h16 : S 16 i = p) (hi : 0 ≤ i ∧ i < S 16 (-1)) (hk : 1 ≤ k ∧ k ≤ 16) (hp : 0 ≤ p ∧ p ≤ 65536) : wJ (pe_GA xs) wY0 M (d + 6) t_XT_refuse ((pe_at t_XT_refuse.bl 0).getD (0, [])).2 [(0, (2, 61)), (1, (0, k))] [] S (fun o Z => ∃ v : Nat, o = .inr v ∧ rz_ag S Z v (k + 16 * p)) := wJ_E (fun ⟨ad, hp0, hE⟩ => by
  have hG : 0 ≤ S wG 1 := wE_G hE
  refine wa_aload_n (n := 0) rfl ?_
  refine wa_iload_n (n := 1) rfl ?_
  refine wa_bipush (w_rg2 (by omega) (by omega)) ?_
  refine wa_aload_n (n := 0) rfl ?_
  refine wb_gf4 61 rfl (wy_pr rfl) wt_61 wf_4_0 (v := 14) wl_61_0 ?_
  refine wb_gf4 14 rfl (wy_pr rfl) wt_14 wf_6_1 (v := 16) wl_14_1 ?_
  refine wa_aload_n (n := 0) rfl ?_
  refine wb_gf4 61 rfl (wy_pr rfl) wt_61 wf_4_0 (v := 14) wl_61_0 ?_
  refine wb_gfi 14 rfl (wy_pr rfl) wt_14 wf_6_4 (v := i) (h4) (fun r1 => ?_)
  refine wb_iald 16 rfl (wy_pr rfl) wt_16 (n := (S 16 (-1))) rfl (by omega) (by omega) (v := p) (h16) (fun r2 => ?_)
  refine wa_imul ?_
  refine wa_iadd ?_
  refine wb_pfi 61 rfl (wy_pr rfl) wt_61 wf_4_2 (n := 2) rfl ⟨(by omega), (by omega)⟩ ?_
  have g0 : 0 ≤ (w_up S 61 2 (k + (16 * p))) wG 1 := hG
  refine wa_nx (nN (w_up S 61 2 (k + (16 * p))) 49) (nN_rg g0 (by decide)) (wt_nX ⟨by decide, by decide⟩) (by decide +kernel) ⟨(Or.inr ⟨wy_pr rfl, fun q => q⟩), trivial, trivial⟩ trivial (nx_d (by omega) (by decide)) ?_
  refine wa_th ?_
  refine ⟨_, rfl, (w_nw_o (by decide) (by decide)).trans (w_up_same _ _ _ _), fun j i j0 j1 j2 => (w_nw_o j0 j1).trans (w_up_no (by omega)), gI_nx (gI_up hI (by omega) (by omega) (by omega)) (by decide) ⟨by decide, by decide⟩, ⟨w_nw_GX.1, w_nw_GX.2, by omega, by omega⟩, wt_nX ⟨by decide, by decide⟩, w_pr_nx (by decide)⟩)
end W9i
