/-! PART ik: entry, of the class and of the reference. -/
section Wik
variable {xs : List (Nat × List Int32)} {M : Nat → Prop} {d : Nat} {S Z : wS} {H : List aH} {T : List aO} {L : List aC} {Gg : Int → aV} {sl : Nat → List Int} {E : Int → List aE} {ix : Int → List Int} {fl : List Int} {ow Y : Int → Int} {s k wh : Int}
theorem chL_g : ∀ (l : List Int) (h : Int), chL Y l h → (0 < l.length → l.getD 0 0 = h) ∧ ∀ i : Nat, i + 1 < l.length → Y (l.getD i 0) = l.getD (i + 1) 0
  | [], h, _ => ⟨fun z => absurd z (by first | decide | omega), fun i z => absurd z (by show ¬ i + 1 < 0; omega)⟩
  | x :: l, h, g => by
    have h1 := chL_g l (Y x) g.2.2
    refine ⟨fun _ => g.1.symm, fun i hi => ?_⟩
    have hi2 : i < l.length := by have : i + 1 < l.length + 1 := hi; omega
    cases i with
    | zero => exact (h1.1 hi2).symm
    | succ i => exact h1.2 i hi2
/-- what is told of an entry -/
def enV (T : List aO) (H : List aH) (kd : Int) (e : aE) (wh : Int) : Int := if wh = 0 then e.1 else if wh = 1 then e.2.1 else if wh = 2 then e.2.2.2.1 else if wh = 3 then e.2.2.2.2.1 else if wh = 4 then e.2.2.2.2.2.1 else if wh = 5 then eSt T H kd e else -1
def enW (T : List aO) (H : List aH) (E : Int → List aE) (kd : Int → Int) (n s k wh : Int) : Int := if 0 ≤ s ∧ s < n ∧ 0 ≤ k ∧ k < ((E s).length : Int) then enV T H (kd s) ((E s).getD k.toNat (0, 0, 0, 0, 0, 0, 0, 0, 0)) wh else -1
theorem xen4 (hC : w_CL S) (hW : cWd S T L Gg) (hS : cSw S T H) (hw : wSh T H) (hse : cSe S E ix fl ow) (hwe : ∀ s : Int, 0 ≤ s → s < S 19 9 → ∀ i : Nat, i < (E s).length → wEn H (S 35 s) (S 36 s) ((E s).getD i (0, 0, 0, 0, 0, 0, 0, 0, 0))) (hcg : ∀ k : Int, isO T k → aCg T k ≤ S 72 11) (her : ∀ s : Int, ∀ e ∈ E s, (-2147483648 ≤ e.2.1 ∧ e.2.1 ≤ 2147483647) ∧ (-2147483648 ≤ e.2.2.2.1 ∧ e.2.2.2.1 ≤ 2147483647) ∧ -2147483648 ≤ e.2.2.2.2.2.2.1 ∧ e.2.2.2.2.2.2.1 ≤ 2147483647) (hsr : 0 ≤ s ∧ s < S 19 9) (hk : 0 ≤ k ∧ k < ((E s).length : Int)) (hwh : -2147483648 ≤ wh ∧ wh ≤ 2147483647) : wJ (pe_GA xs) wY0 M (d + 2) t_X_entry ((pe_at t_X_entry.bl 4).getD (0, [])).2 [(0, (2, 0)), (1, (0, s)), (2, (0, k)), (3, (0, wh)), (4, (2, 47)), (5, (0, ((ix s).getD k.toNat 0))), (6, (0, k))] [] S (fun o Z => S = Z ∧ o = .inl (some (0, enV T H (S 35 s) ((E s).getD k.toNat (0, 0, 0, 0, 0, 0, 0, 0, 0)) wh))) := by
  obtain ⟨hTh, -, -, -, hLt, -⟩ := id hW
  obtain ⟨⟨hs1, hs2, hs3, hs4⟩, hsi, -⟩ := hse
  obtain ⟨uu1, uu2, uu3, uu4, uu5, uu6, uu7⟩ := hsi s hsr.1 hsr.2
  obtain ⟨⟨e48, e49, e50, e51, e52⟩, -, e54, -⟩ := uu7 k.toNat (by omega)
  have hmem : ((ix s).getD k.toNat 0) ∈ ix s := by rw [List.getD_eq_getElem?_getD, List.getElem?_eq_getElem (show k.toNat < (ix s).length by omega)]; exact List.getElem_mem _
  have hemem : ((E s).getD k.toNat (0, 0, 0, 0, 0, 0, 0, 0, 0)) ∈ E s := by rw [List.getD_eq_getElem?_getD, List.getElem?_eq_getElem (show k.toNat < (E s).length by omega)]; exact List.getElem_mem _
  have hx0 := chL_0 _ _ uu4 _ hmem
  have hx1 := (uu6 _ hmem).2
  obtain ⟨r1, r2, r3⟩ := her s _ hemem
  have hwn := hwe s hsr.1 hsr.2 k.toNat (by omega)
  have hsnr : -2147483648 ≤ eSn (S 35 s) ((E s).getD k.toNat (0, 0, 0, 0, 0, 0, 0, 0, 0)) ∧ eSn (S 35 s) ((E s).getD k.toNat (0, 0, 0, 0, 0, 0, 0, 0, 0)) ≤ 2147483647 := by
    unfold eSn; split <;> omega
  refine wa_iload_n (n := 3) rfl ?_
  refine wa_iconst ?_
  refine wa_icmpne (w_rg0 (by omega) (by omega)) (w_rg0 (by omega) (by omega)) ⟨_, rfl⟩ (fun c1 => ?_) (fun c1 => ?_)
  · skip
    refine wa_iload_n (n := 3) rfl ?_
    refine wa_iflt (w_rg0 (by omega) (by omega)) ⟨_, rfl⟩ (fun c2 => ?_) (fun c2 => ?_)
    · skip
      refine wa_iconst ?_
      refine wa_goto ⟨_, rfl⟩ ?_
      refine wa_ireturn rfl ?_
      refine ⟨rfl, congrArg (fun z => Sum.inl (some (0, z))) ?_⟩
      unfold enV
      repeat (first | rw [if_pos (by omega)] | rw [if_neg (by omega)])
      all_goals first | rfl | omega
    · skip
      refine wa_iload_n (n := 3) rfl ?_
      refine wa_iconst ?_
      refine wa_icmple (w_rg0 (by omega) (by omega)) (w_rg0 (by omega) (by omega)) ⟨_, rfl⟩ (fun c3 => ?_) (fun c3 => ?_)
      · skip
        rcases (show wh = 0 ∨ wh = 1 ∨ wh = 2 ∨ wh = 3 ∨ wh = 4 by omega) with e | e | e | e | e
        · subst e
          refine wa_aload (n := 4) rfl ?_
          refine wa_iload_n (n := 3) rfl ?_
          refine wb_aald5 47 0 rfl rfl (wy_pr rfl) wt_47 (by rw [show _ = _ from ((cl_47 hC))]; omega) wl_47_0 ?_
          refine wa_iload (n := 5) rfl ?_
          refine wb_iald 48 rfl (wy_pr rfl) wt_48 (n := (S 48 (-1))) (rfl) (by omega) (by omega) (v := ((E s).getD k.toNat (0, 0, 0, 0, 0, 0, 0, 0, 0)).1) (e48) (fun r4 => ?_)
          refine wa_fall ⟨_, rfl⟩ ?_
          refine wa_ireturn rfl ?_
          refine ⟨rfl, congrArg (fun z => Sum.inl (some (0, z))) ?_⟩
          unfold enV
          repeat (first | rw [if_pos (by omega)] | rw [if_neg (by omega)])
          all_goals first | rfl | omega
        · subst e
          refine wa_aload (n := 4) rfl ?_
          refine wa_iload_n (n := 3) rfl ?_
          refine wb_aald5 47 1 rfl rfl (wy_pr rfl) wt_47 (by rw [show _ = _ from ((cl_47 hC))]; omega) wl_47_1 ?_
          refine wa_iload (n := 5) rfl ?_
          refine wb_iald 49 rfl (wy_pr rfl) wt_49 (n := (S 48 (-1))) ((hs3 1 (by decide))) (by omega) (by omega) (v := ((E s).getD k.toNat (0, 0, 0, 0, 0, 0, 0, 0, 0)).2.1) (e49) (fun r5 => ?_)
          refine wa_fall ⟨_, rfl⟩ ?_
          refine wa_ireturn rfl ?_
          refine ⟨rfl, congrArg (fun z => Sum.inl (some (0, z))) ?_⟩
          unfold enV
          repeat (first | rw [if_pos (by omega)] | rw [if_neg (by omega)])
          all_goals first | rfl | omega
        · subst e
          refine wa_aload (n := 4) rfl ?_
          refine wa_iload_n (n := 3) rfl ?_
          refine wb_aald5 47 2 rfl rfl (wy_pr rfl) wt_47 (by rw [show _ = _ from ((cl_47 hC))]; omega) wl_47_2 ?_
          refine wa_iload (n := 5) rfl ?_
          refine wb_iald 50 rfl (wy_pr rfl) wt_50 (n := (S 48 (-1))) ((hs3 2 (by decide))) (by omega) (by omega) (v := ((E s).getD k.toNat (0, 0, 0, 0, 0, 0, 0, 0, 0)).2.2.2.1) (e50) (fun r6 => ?_)
          refine wa_fall ⟨_, rfl⟩ ?_
          refine wa_ireturn rfl ?_
          refine ⟨rfl, congrArg (fun z => Sum.inl (some (0, z))) ?_⟩
          unfold enV
          repeat (first | rw [if_pos (by omega)] | rw [if_neg (by omega)])
          all_goals first | rfl | omega
        · subst e
          refine wa_aload (n := 4) rfl ?_
          refine wa_iload_n (n := 3) rfl ?_
          refine wb_aald5 47 3 rfl rfl (wy_pr rfl) wt_47 (by rw [show _ = _ from ((cl_47 hC))]; omega) wl_47_3 ?_
          refine wa_iload (n := 5) rfl ?_
          refine wb_iald 51 rfl (wy_pr rfl) wt_51 (n := (S 48 (-1))) ((hs3 3 (by decide))) (by omega) (by omega) (v := ((E s).getD k.toNat (0, 0, 0, 0, 0, 0, 0, 0, 0)).2.2.2.2.1) (e51) (fun r7 => ?_)
          refine wa_fall ⟨_, rfl⟩ ?_
          refine wa_ireturn rfl ?_
          refine ⟨rfl, congrArg (fun z => Sum.inl (some (0, z))) ?_⟩
          unfold enV
          repeat (first | rw [if_pos (by omega)] | rw [if_neg (by omega)])
          all_goals first | rfl | omega
        · subst e
          refine wa_aload (n := 4) rfl ?_
          refine wa_iload_n (n := 3) rfl ?_
          refine wb_aald5 47 4 rfl rfl (wy_pr rfl) wt_47 (by rw [show _ = _ from ((cl_47 hC))]; omega) wl_47_4 ?_
          refine wa_iload (n := 5) rfl ?_
          refine wb_iald 52 rfl (wy_pr rfl) wt_52 (n := (S 48 (-1))) ((hs3 4 (by decide))) (by omega) (by omega) (v := ((E s).getD k.toNat (0, 0, 0, 0, 0, 0, 0, 0, 0)).2.2.2.2.2.1) (e52) (fun r8 => ?_)
          refine wa_fall ⟨_, rfl⟩ ?_
          refine wa_ireturn rfl ?_
          refine ⟨rfl, congrArg (fun z => Sum.inl (some (0, z))) ?_⟩
          unfold enV
          repeat (first | rw [if_pos (by omega)] | rw [if_neg (by omega)])
          all_goals first | rfl | omega
      · skip
        refine wa_fall ⟨_, rfl⟩ ?_
        refine wa_iconst ?_
        refine wa_goto ⟨_, rfl⟩ ?_
        refine wa_ireturn rfl ?_
        refine ⟨rfl, congrArg (fun z => Sum.inl (some (0, z))) ?_⟩
        unfold enV
        repeat (first | rw [if_pos (by omega)] | rw [if_neg (by omega)])
        all_goals first | rfl | omega
  · skip
    refine wa_aload_n (n := 0) rfl ?_
    refine wb_gf4 0 rfl (wy_pr rfl) wt_0 wf_10_7 (v := 72) wl_0_7 ?_
    refine wa_aload (n := 4) rfl ?_
    refine wa_iconst ?_
    refine wb_aald5 47 1 rfl rfl (wy_pr rfl) wt_47 (by rw [show _ = _ from ((cl_47 hC))]; omega) wl_47_1 ?_
    refine wa_iload (n := 5) rfl ?_
    refine wb_iald 49 rfl (wy_pr rfl) wt_49 (n := (S 48 (-1))) ((hs3 1 (by decide))) (by omega) (by omega) (v := ((E s).getD k.toNat (0, 0, 0, 0, 0, 0, 0, 0, 0)).2.1) (e49) (fun r9 => ?_)
    refine wa_aload (n := 4) rfl ?_
    refine wa_iconst ?_
    refine wb_aald5 47 2 rfl rfl (wy_pr rfl) wt_47 (by rw [show _ = _ from ((cl_47 hC))]; omega) wl_47_2 ?_
    refine wa_iload (n := 5) rfl ?_
    refine wb_iald 50 rfl (wy_pr rfl) wt_50 (n := (S 48 (-1))) ((hs3 2 (by decide))) (by omega) (by omega) (v := ((E s).getD k.toNat (0, 0, 0, 0, 0, 0, 0, 0, 0)).2.2.2.1) (e50) (fun r10 => ?_)
    refine wa_aload (n := 4) rfl ?_
    refine wa_bipush (w_rg2 (by omega) (by omega)) ?_
    refine wb_aald5 47 6 rfl rfl (wy_pr rfl) wt_47 (by rw [show _ = _ from ((cl_47 hC))]; omega) wl_47_6 ?_
    refine wa_iload (n := 5) rfl ?_
    refine wb_iald 54 rfl (wy_pr rfl) wt_54 (n := (S 48 (-1))) ((hs3 6 (by decide))) (by omega) (by omega) (v := (eSn (S 35 s) ((E s).getD k.toNat (0, 0, 0, 0, 0, 0, 0, 0, 0)))) (e54) (fun r11 => ?_)
    refine wa_cv 72 rfl (wy_pr rfl) wt_72 (M2 := fun _ => False) rfl at_XH_isStale ⟨_, rfl⟩ rfl rfl ⟨(Or.inr ⟨wy_pr rfl, fun q => q⟩), trivial, trivial, trivial, (Or.inr ⟨wy_pr rfl, fun q => q⟩), trivial, trivial, trivial⟩ trivial (fun _ _ q => False.elim q) (show wJ _ _ _ _ _ _ _ _ _ (fun o Z => S = Z ∧ o = .inl (some (0, eSt T H (S 35 s) ((E s).getD k.toNat (0, 0, 0, 0, 0, 0, 0, 0, 0))))) from c_st (S := S) (sh := ((E s).getD k.toNat (0, 0, 0, 0, 0, 0, 0, 0, 0)).2.1) (ho := ((E s).getD k.toNat (0, 0, 0, 0, 0, 0, 0, 0, 0)).2.2.2.1) (si := eSn (S 35 s) ((E s).getD k.toNat (0, 0, 0, 0, 0, 0, 0, 0, 0))) hC hS hTh hLt hw hwn.2.1 (by omega) (by omega) hsnr hcg) (fun oq12 Sq12 hp13 q12 => ?_)
    rcases q12 with ⟨rfl, rfl⟩
    show wJ _ _ _ _ _ _ _ _ _ _
    have hstr : eSt T H (S 35 s) ((E s).getD k.toNat (0, 0, 0, 0, 0, 0, 0, 0, 0)) = 0 ∨ eSt T H (S 35 s) ((E s).getD k.toNat (0, 0, 0, 0, 0, 0, 0, 0, 0)) = 1 := eSt_rg
    refine wa_ifeq (w_rg0 (by omega) (by omega)) ⟨_, rfl⟩ (fun c14 => ?_) (fun c14 => ?_)
    · skip
      refine wa_iconst ?_
      refine wa_fall ⟨_, rfl⟩ ?_
      refine wa_ireturn rfl ?_
      refine ⟨rfl, congrArg (fun z => Sum.inl (some (0, z))) ?_⟩
      unfold enV
      repeat (first | rw [if_pos (by omega)] | rw [if_neg (by omega)])
      all_goals first | rfl | omega
    · skip
      refine wa_iconst ?_
      refine wa_goto ⟨_, rfl⟩ ?_
      refine wa_ireturn rfl ?_
      refine ⟨rfl, congrArg (fun z => Sum.inl (some (0, z))) ?_⟩
      unfold enV
      repeat (first | rw [if_pos (by omega)] | rw [if_neg (by omega)])
      all_goals first | rfl | omega
theorem xen3 (hC : w_CL S) (hW : cWd S T L Gg) (hS : cSw S T H) (hw : wSh T H) (hse : cSe S E ix fl ow) (hwe : ∀ s : Int, 0 ≤ s → s < S 19 9 → ∀ i : Nat, i < (E s).length → wEn H (S 35 s) (S 36 s) ((E s).getD i (0, 0, 0, 0, 0, 0, 0, 0, 0))) (hcg : ∀ k : Int, isO T k → aCg T k ≤ S 72 11) (her : ∀ s : Int, ∀ e ∈ E s, (-2147483648 ≤ e.2.1 ∧ e.2.1 ≤ 2147483647) ∧ (-2147483648 ≤ e.2.2.2.1 ∧ e.2.2.2.1 ≤ 2147483647) ∧ -2147483648 ≤ e.2.2.2.2.2.2.1 ∧ e.2.2.2.2.2.2.1 ≤ 2147483647) (hsr : 0 ≤ s ∧ s < S 19 9) (hk : 0 ≤ k ∧ k < ((E s).length : Int)) (hwh : -2147483648 ≤ wh ∧ wh ≤ 2147483647) : ∀ (f i : Nat), (i : Int) + (f : Int) = k → wJ (pe_GA xs) wY0 M (d + 2) t_X_entry ((pe_at t_X_entry.bl 3).getD (0, [])).2 [(0, (2, 0)), (1, (0, s)), (2, (0, k)), (3, (0, wh)), (4, (2, 47)), (5, (0, ((ix s).getD i 0))), (6, (0, (i : Int)))] [] S (fun o Z => S = Z ∧ o = .inl (some (0, enV T H (S 35 s) ((E s).getD k.toNat (0, 0, 0, 0, 0, 0, 0, 0, 0)) wh))) := by
  have hkl : (E s).length ≤ 4 := (hse.2.1 s hsr.1 hsr.2).2.1
  intro f
  induction f with
  | zero =>
    intro i hi
    refine wa_iload (n := 6) rfl ?_
    refine wa_iload_n (n := 2) rfl ?_
    refine wa_icmpge (w_rg0 (by omega) (by omega)) (w_rg0 (by omega) (by omega)) ⟨_, rfl⟩ (fun c1 => ?_) (fun c1 => ?_)
    · skip
      have hik : i = k.toNat := by omega
      rw [hik]; rw [show ((k.toNat : Nat) : Int) = k by omega]
      exact xen4 hC hW hS hw hse hwe hcg her hsr hk hwh
    · skip
      exfalso; omega
  | succ f ih =>
    intro i hi
    obtain ⟨⟨hs1, hs2, hs3, hs4⟩, hsi, -⟩ := id hse
    obtain ⟨uu1, uu2, uu3, uu4, uu5, uu6, uu7⟩ := hsi s hsr.1 hsr.2
    have hmem : ((ix s).getD i 0) ∈ ix s := by rw [List.getD_eq_getElem?_getD, List.getElem?_eq_getElem (show i < (ix s).length by omega)]; exact List.getElem_mem _
    have hx0 := chL_0 _ _ uu4 _ hmem
    have hx1 := (uu6 _ hmem).2
    have hnx := (chL_g _ _ uu4).2 i (by omega)
    refine wa_iload (n := 6) rfl ?_
    refine wa_iload_n (n := 2) rfl ?_
    refine wa_icmpge (w_rg0 (by omega) (by omega)) (w_rg0 (by omega) (by omega)) ⟨_, rfl⟩ (fun c1 => ?_) (fun c1 => ?_)
    · skip
      exfalso; omega
    · skip
      refine wa_aload (n := 4) rfl ?_
      refine wa_bipush (w_rg2 (by omega) (by omega)) ?_
      refine wb_aald5 47 9 rfl rfl (wy_pr rfl) wt_47 (by rw [show _ = _ from ((cl_47 hC))]; omega) wl_47_9 ?_
      refine wa_iload (n := 5) rfl ?_
      refine wb_iald 57 rfl (wy_pr rfl) wt_57 (n := (S 48 (-1))) ((hs3 9 (by decide))) (by omega) (by omega) (v := ((ix s).getD (i + 1) 0)) (hnx) (fun r2 => ?_)
      refine wa_istore (n := 5) rfl ?_
      refine wa_iinc rfl rfl ?_
      refine wa_goto ⟨_, rfl⟩ ?_
      exact wJ_S (ih (i + 1) (by omega)) ⟨rfl, rfl, rfl, rfl, rfl, rfl, rfl, trivial⟩
theorem xen (hC : w_CL S) (hW : cWd S T L Gg) (hS : cSw S T H) (hw : wSh T H) (hse : cSe S E ix fl ow) (hwe : ∀ s : Int, 0 ≤ s → s < S 19 9 → ∀ i : Nat, i < (E s).length → wEn H (S 35 s) (S 36 s) ((E s).getD i (0, 0, 0, 0, 0, 0, 0, 0, 0))) (hcg : ∀ k : Int, isO T k → aCg T k ≤ S 72 11) (her : ∀ s : Int, ∀ e ∈ E s, (-2147483648 ≤ e.2.1 ∧ e.2.1 ≤ 2147483647) ∧ (-2147483648 ≤ e.2.2.2.1 ∧ e.2.2.2.1 ≤ 2147483647) ∧ -2147483648 ≤ e.2.2.2.2.2.2.1 ∧ e.2.2.2.2.2.2.1 ≤ 2147483647) (hs : -2147483648 ≤ s ∧ s ≤ 2147483647) (hk : -2147483648 ≤ k ∧ k ≤ 2147483647) (hwh : -2147483648 ≤ wh ∧ wh ≤ 2147483647) : wJ (pe_GA xs) wY0 M (d + 2) t_X_entry ((pe_at t_X_entry.bl 0).getD (0, [])).2 [(0, (2, 0)), (1, (0, s)), (2, (0, k)), (3, (0, wh))] [] S (fun o Z => S = Z ∧ o = .inl (some (0, enW T H E (S 35) (S 19 9) s k wh))) := by
  obtain ⟨⟨hs1, hs2, hs3, hs4⟩, hsi, -⟩ := id hse
  refine wa_iload_n (n := 1) rfl ?_
  refine wa_iflt (w_rg0 (by omega) (by omega)) ⟨_, rfl⟩ (fun c1 => ?_) (fun c1 => ?_)
  · skip
    refine wa_iconst ?_
    refine wa_ireturn rfl ?_
    refine ⟨rfl, congrArg (fun z => Sum.inl (some (0, z))) ?_⟩
    unfold enW; rw [if_neg (by omega)]
  · skip
    refine wa_iload_n (n := 1) rfl ?_
    refine wa_aload_n (n := 0) rfl ?_
    refine wb_gf4 0 rfl (wy_pr rfl) wt_0 wf_10_4 (v := 19) wl_0_4 ?_
    refine wb_gfi 19 rfl (wy_pr rfl) wt_19 wf_0_9 (v := (S 19 9)) rfl (fun r2 => ?_)
    refine wa_icmpge (w_rg0 (by omega) (by omega)) (w_rg0 (by omega) (by omega)) ⟨_, rfl⟩ (fun c3 => ?_) (fun c3 => ?_)
    · skip
      refine wa_iconst ?_
      refine wa_ireturn rfl ?_
      refine ⟨rfl, congrArg (fun z => Sum.inl (some (0, z))) ?_⟩
      unfold enW; rw [if_neg (by omega)]
    · skip
      obtain ⟨uu1, uu2, uu3, uu4, uu5, uu6, uu7⟩ := hsi s (by omega) (by omega)
      refine wa_iload_n (n := 2) rfl ?_
      refine wa_iflt (w_rg0 (by omega) (by omega)) ⟨_, rfl⟩ (fun c4 => ?_) (fun c4 => ?_)
      · skip
        refine wa_iconst ?_
        refine wa_ireturn rfl ?_
        refine ⟨rfl, congrArg (fun z => Sum.inl (some (0, z))) ?_⟩
        unfold enW; rw [if_neg (by omega)]
      · skip
        refine wa_iload_n (n := 2) rfl ?_
        refine wa_aload_n (n := 0) rfl ?_
        refine wb_gf4 0 rfl (wy_pr rfl) wt_0 wf_10_4 (v := 19) wl_0_4 ?_
        refine wb_gf4 19 rfl (wy_pr rfl) wt_19 wf_0_8 (v := 34) wl_19_8 ?_
        refine wa_bipush (w_rg2 (by omega) (by omega)) ?_
        refine wb_aald5 34 9 rfl rfl (wy_pr rfl) wt_34 (by rw [show _ = _ from ((cl_34 hC))]; omega) wl_34_9 ?_
        refine wa_iload_n (n := 1) rfl ?_
        refine wb_iald 44 rfl (wy_pr rfl) wt_44 (n := (S 35 (-1))) ((hs1 9 (by decide))) (by omega) (by omega) (v := (S 44 s)) rfl (fun r5 => ?_)
        refine wa_icmplt (w_rg0 (by omega) (by omega)) (w_rg0 (by omega) (by omega)) ⟨_, rfl⟩ (fun c6 => ?_) (fun c6 => ?_)
        · skip
          refine wa_aload_n (n := 0) rfl ?_
          refine wb_gf4 0 rfl (wy_pr rfl) wt_0 wf_10_4 (v := 19) wl_0_4 ?_
          refine wb_gf4 19 rfl (wy_pr rfl) wt_19 wf_0_10 (v := 47) wl_19_10 ?_
          refine wa_astore (n := 4) rfl ?_
          refine wa_aload_n (n := 0) rfl ?_
          refine wb_gf4 0 rfl (wy_pr rfl) wt_0 wf_10_4 (v := 19) wl_0_4 ?_
          refine wb_gf4 19 rfl (wy_pr rfl) wt_19 wf_0_8 (v := 34) wl_19_8 ?_
          refine wa_bipush (w_rg2 (by omega) (by omega)) ?_
          refine wb_aald5 34 11 rfl rfl (wy_pr rfl) wt_34 (by rw [show _ = _ from ((cl_34 hC))]; omega) wl_34_11 ?_
          refine wa_iload_n (n := 1) rfl ?_
          refine wb_iald 46 rfl (wy_pr rfl) wt_46 (n := (S 35 (-1))) ((hs1 11 (by decide))) (by omega) (by omega) (v := (S 46 s)) rfl (fun r7 => ?_)
          refine wa_istore (n := 5) rfl ?_
          refine wa_iconst ?_
          refine wa_istore (n := 6) rfl ?_
          refine wa_fall ⟨_, rfl⟩ ?_
          have h46 := (chL_g _ _ uu4).1 (by omega)
          have heq : enW T H E (S 35) (S 19 9) s k wh = enV T H (S 35 s) ((E s).getD k.toNat (0, 0, 0, 0, 0, 0, 0, 0, 0)) wh := if_pos ⟨by omega, by omega, by omega, by omega⟩
          rw [heq, ← h46]
          exact wJ_S (xen3 (s := s) (k := k) hC hW hS hw hse hwe hcg her ⟨by omega, by omega⟩ ⟨by omega, by omega⟩ hwh k.toNat 0 (by omega)) ⟨rfl, rfl, rfl, rfl, rfl, rfl, rfl, trivial⟩
        · skip
          refine wa_fall ⟨_, rfl⟩ ?_
          refine wa_iconst ?_
          refine wa_ireturn rfl ?_
          refine ⟨rfl, congrArg (fun z => Sum.inl (some (0, z))) ?_⟩
          unfold enW; rw [if_neg (by omega)]
theorem men (hM : w_ML S) (hW : rWd S sl T L Gg) (hH : rHs S H) (hw : wSh T H) (hT : (T.length : Int) ≤ 8000) (h82 : S 237 82 ≤ 60000) (hse : rSe S E) (hkd : ∀ s : Int, 0 ≤ s → s < S 237 47 → 0 ≤ S 304 s ∧ S 304 s ≤ 6) (hwe : ∀ s : Int, 0 ≤ s → s < S 237 47 → ∀ i : Nat, i < (E s).length → (eSn (S 304 s) ((E s).getD i (0, 0, 0, 0, 0, 0, 0, 0, 0)) ≠ -1 → 0 ≤ ((E s).getD i (0, 0, 0, 0, 0, 0, 0, 0, 0)).2.1 ∧ ((E s).getD i (0, 0, 0, 0, 0, 0, 0, 0, 0)).2.1 < (H.length : Int)) ∧ -1 ≤ ((E s).getD i (0, 0, 0, 0, 0, 0, 0, 0, 0)).2.2.2.1 ∧ 0 ≤ ((E s).getD i (0, 0, 0, 0, 0, 0, 0, 0, 0)).2.2.2.2.2.2.1) (hs : -2147483648 ≤ s ∧ s ≤ 2147483647) (hk : -2147483648 ≤ k ∧ k ≤ 2147483647) (hwh : -2147483648 ≤ wh ∧ wh ≤ 2147483647) : wJ (pe_GA xs) wY0 M (d + 3) t_M_entry ((pe_at t_M_entry.bl 0).getD (0, [])).2 [(0, (2, 237)), (1, (0, s)), (2, (0, k)), (3, (0, wh))] [] S (fun o Z => (w_up S 237 0 0) = Z ∧ o = .inl (some (0, enW T H E (S 304) (S 237 47) s k wh))) := by
  obtain ⟨hs47, hsi⟩ := id hse
  refine wa_aload_n (n := 0) rfl ?_
  refine wa_iconst ?_
  refine wb_pfi 237 rfl (wy_pr rfl) wt_237 wf_15_0 (n := 0) rfl ⟨(by omega), (by omega)⟩ ?_
  refine wa_iload_n (n := 1) rfl ?_
  refine wa_i2l (w_rg0 (by omega) (by omega)) ?_
  refine wa_lconst ?_
  refine wa_aload_n (n := 0) rfl ?_
  refine wb_gfi 237 rfl (wy_pr rfl) wt_237 wf_15_47 (v := (S 237 47)) (w_up_at (by decide)) (fun r1 => ?_)
  refine wa_iconst ?_
  refine wa_isub ?_
  refine wa_i2l (w_rg0 (by omega) (by omega)) ?_
  refine wa_cs (M2 := fun _ => False) rfl at_M_in ⟨_, rfl⟩ rfl rfl ⟨(Or.inr ⟨wy_pr rfl, fun q => q⟩), trivial, trivial, trivial, trivial⟩ trivial (fun _ _ q => False.elim q) (in_ok (S := (w_up S 237 0 0)) (a := s) (lo := 0) (hi := ((S 237 47) - 1)) ⟨by omega, by omega⟩ ⟨by omega, by omega⟩ ⟨by omega, by omega⟩) (fun oq3 Sq3 hp4 q3 => ?_)
  rcases q3 with ⟨rfl, ⟨rfl, hin2⟩ | ⟨rfl, hin2⟩⟩
  · skip
    show wJ _ _ _ _ _ _ _ _ _ _
    refine wa_ifeq (w_rg0 (by omega) (by omega)) ⟨_, rfl⟩ (fun c5 => ?_) (fun c5 => ?_)
    · skip
      exact absurd c5 (by omega)
    · skip
      obtain ⟨uu1, uu2, uu3⟩ := hsi s (by omega) (by omega)
      refine wa_iload_n (n := 2) rfl ?_
      refine wa_i2l (w_rg0 (by omega) (by omega)) ?_
      refine wa_lconst ?_
      refine wa_aload_n (n := 0) rfl ?_
      refine wb_gf4 237 rfl (wy_pr rfl) wt_237 wf_15_156 (v := 376) wl_237_156 ?_
      refine wa_iload_n (n := 1) rfl ?_
      refine wb_iald 376 rfl (wy_pr rfl) wt_376 (n := 4000) ((w_up_slot (by decide)).trans ((ml_376 hM))) (by omega) (by omega) (v := (S 376 s)) (w_up_slot (by decide)) (fun r6 => ?_)
      refine wa_iconst ?_
      refine wa_isub ?_
      refine wa_i2l (w_rg0 (by omega) (by omega)) ?_
      refine wa_cs (M2 := fun _ => False) rfl at_M_in ⟨_, rfl⟩ rfl rfl ⟨(Or.inr ⟨wy_pr rfl, fun q => q⟩), trivial, trivial, trivial, trivial⟩ trivial (fun _ _ q => False.elim q) (in_ok (S := (w_up S 237 0 0)) (a := k) (lo := 0) (hi := ((S 376 s) - 1)) ⟨by omega, by omega⟩ ⟨by omega, by omega⟩ ⟨by omega, by omega⟩) (fun oq8 Sq8 hp9 q8 => ?_)
      rcases q8 with ⟨rfl, ⟨rfl, hin7⟩ | ⟨rfl, hin7⟩⟩
      · skip
        show wJ _ _ _ _ _ _ _ _ _ _
        refine wa_ifne (w_rg0 (by omega) (by omega)) ⟨_, rfl⟩ (fun c10 => ?_) (fun c10 => ?_)
        · skip
          have c3k := uu3 k.toNat (by omega)
          rw [show ((k.toNat : Nat) : Int) = k by omega] at c3k
          obtain ⟨⟨e77, e78, e79, e80, e81, e82⟩, e83, -⟩ := id c3k
          have hkd1 := hkd s (by omega) (by omega)
          have hwe1 := hwe s (by omega) (by omega) k.toNat (by omega)
          have heq : enW T H E (S 304) (S 237 47) s k wh = enV T H (S 304 s) ((E s).getD k.toNat (0, 0, 0, 0, 0, 0, 0, 0, 0)) wh := if_pos ⟨by omega, by omega, by omega, by omega⟩
          rw [heq]
          refine wa_iconst ?_
          refine wa_iload_n (n := 1) rfl ?_
          refine wa_imul ?_
          refine wa_iload_n (n := 2) rfl ?_
          refine wa_iadd ?_
          refine wa_istore (n := 4) rfl ?_
          refine wa_iload_n (n := 3) rfl ?_
          by_cases c11 : wh = 0
          · refine wb_sw (w_rg0 (by omega) (by omega)) (tb := 3) (by rw [c11]; rfl) ⟨_, rfl⟩ ?_
            refine wa_aload_n (n := 0) rfl ?_
            refine wb_gf4 237 rfl (wy_pr rfl) wt_237 wf_15_157 (v := 377) wl_237_157 ?_
            refine wa_iload (n := 4) rfl ?_
            refine wb_iald 377 rfl (wy_pr rfl) wt_377 (n := 20000) ((w_up_slot (by decide)).trans ((ml_377 hM))) (by omega) (by omega) (v := (S 377 ((5 * s) + k))) (w_up_slot (by decide)) (fun r12 => ?_)
            refine wa_ireturn rfl ?_
            refine ⟨rfl, congrArg (fun z => Sum.inl (some (0, z))) ?_⟩
            unfold enV
            repeat (first | rw [if_pos (by omega)] | rw [if_neg (by omega)])
            all_goals first | rfl | omega
          by_cases c13 : wh = 1
          · refine wb_sw (w_rg0 (by omega) (by omega)) (tb := 4) (by rw [c13]; rfl) ⟨_, rfl⟩ ?_
            refine wa_aload_n (n := 0) rfl ?_
            refine wb_gf4 237 rfl (wy_pr rfl) wt_237 wf_15_158 (v := 378) wl_237_158 ?_
            refine wa_iload (n := 4) rfl ?_
            refine wb_iald 378 rfl (wy_pr rfl) wt_378 (n := 20000) ((w_up_slot (by decide)).trans ((ml_378 hM))) (by omega) (by omega) (v := (S 378 ((5 * s) + k))) (w_up_slot (by decide)) (fun r14 => ?_)
            refine wa_ireturn rfl ?_
            refine ⟨rfl, congrArg (fun z => Sum.inl (some (0, z))) ?_⟩
            unfold enV
            repeat (first | rw [if_pos (by omega)] | rw [if_neg (by omega)])
            all_goals first | rfl | omega
          by_cases c15 : wh = 2
          · refine wb_sw (w_rg0 (by omega) (by omega)) (tb := 5) (by rw [c15]; rfl) ⟨_, rfl⟩ ?_
            refine wa_aload_n (n := 0) rfl ?_
            refine wb_gf4 237 rfl (wy_pr rfl) wt_237 wf_15_160 (v := 380) wl_237_160 ?_
            refine wa_iload (n := 4) rfl ?_
            refine wb_iald 380 rfl (wy_pr rfl) wt_380 (n := 20000) ((w_up_slot (by decide)).trans ((ml_380 hM))) (by omega) (by omega) (v := (S 380 ((5 * s) + k))) (w_up_slot (by decide)) (fun r16 => ?_)
            refine wa_ireturn rfl ?_
            refine ⟨rfl, congrArg (fun z => Sum.inl (some (0, z))) ?_⟩
            unfold enV
            repeat (first | rw [if_pos (by omega)] | rw [if_neg (by omega)])
            all_goals first | rfl | omega
          by_cases c17 : wh = 3
          · refine wb_sw (w_rg0 (by omega) (by omega)) (tb := 6) (by rw [c17]; rfl) ⟨_, rfl⟩ ?_
            refine wa_aload_n (n := 0) rfl ?_
            refine wb_gf4 237 rfl (wy_pr rfl) wt_237 wf_15_161 (v := 381) wl_237_161 ?_
            refine wa_iload (n := 4) rfl ?_
            refine wb_iald 381 rfl (wy_pr rfl) wt_381 (n := 20000) ((w_up_slot (by decide)).trans ((ml_381 hM))) (by omega) (by omega) (v := (S 381 ((5 * s) + k))) (w_up_slot (by decide)) (fun r18 => ?_)
            refine wa_ireturn rfl ?_
            refine ⟨rfl, congrArg (fun z => Sum.inl (some (0, z))) ?_⟩
            unfold enV
            repeat (first | rw [if_pos (by omega)] | rw [if_neg (by omega)])
            all_goals first | rfl | omega
          by_cases c19 : wh = 4
          · refine wb_sw (w_rg0 (by omega) (by omega)) (tb := 7) (by rw [c19]; rfl) ⟨_, rfl⟩ ?_
            refine wa_aload_n (n := 0) rfl ?_
            refine wb_gf4 237 rfl (wy_pr rfl) wt_237 wf_15_162 (v := 382) wl_237_162 ?_
            refine wa_iload (n := 4) rfl ?_
            refine wb_iald 382 rfl (wy_pr rfl) wt_382 (n := 20000) ((w_up_slot (by decide)).trans ((ml_382 hM))) (by omega) (by omega) (v := (S 382 ((5 * s) + k))) (w_up_slot (by decide)) (fun r20 => ?_)
            refine wa_ireturn rfl ?_
            refine ⟨rfl, congrArg (fun z => Sum.inl (some (0, z))) ?_⟩
            unfold enV
            repeat (first | rw [if_pos (by omega)] | rw [if_neg (by omega)])
            all_goals first | rfl | omega
          by_cases c21 : wh = 5
          · refine wb_sw (w_rg0 (by omega) (by omega)) (tb := 8) (by rw [c21]; rfl) ⟨_, rfl⟩ ?_
            refine wa_aload_n (n := 0) rfl ?_
            refine wa_iload (n := 4) rfl ?_
            refine wa_aload_n (n := 0) rfl ?_
            refine wb_gf4 237 rfl (wy_pr rfl) wt_237 wf_15_49 (v := 304) wl_237_49 ?_
            refine wa_iload_n (n := 1) rfl ?_
            refine wb_iald 304 rfl (wy_pr rfl) wt_304 (n := 4000) ((w_up_slot (by decide)).trans ((ml_304 hM))) (by omega) (by omega) (v := (S 304 s)) (w_up_slot (by decide)) (fun r22 => ?_)
            refine wa_cv 237 rfl (wy_pr rfl) wt_237 (M2 := fun _ => False) rfl at_M_isStale ⟨_, rfl⟩ rfl rfl ⟨trivial, (Or.inr ⟨wy_pr rfl, fun q => q⟩), trivial, trivial, trivial, trivial⟩ trivial (fun _ _ q => False.elim q) (rst_ok (S := (w_up S 237 0 0)) (r := (5 * s + k)) (kd := S 304 s) (e := ((E s).getD k.toNat (0, 0, 0, 0, 0, 0, 0, 0, 0))) (sl := sl) (H := H) (T := T) (w_ML_up hM (by decide)) hW.1 hH hw hT h82 (by omega) c3k hwe1.1 ⟨hwe1.2.1, hwe1.2.2, by omega, by omega⟩) (fun oq23 Sq23 hp24 q23 => ?_)
            rcases q23 with ⟨rfl, rfl⟩
            show wJ _ _ _ _ _ _ _ _ _ _
            have hstr : eSt T H (S 304 s) ((E s).getD k.toNat (0, 0, 0, 0, 0, 0, 0, 0, 0)) = 0 ∨ eSt T H (S 304 s) ((E s).getD k.toNat (0, 0, 0, 0, 0, 0, 0, 0, 0)) = 1 := eSt_rg
            refine wa_ifeq (w_rg0 (by omega) (by omega)) ⟨_, rfl⟩ (fun c25 => ?_) (fun c25 => ?_)
            · skip
              refine wa_iconst ?_
              refine wa_fall ⟨_, rfl⟩ ?_
              refine wa_ireturn rfl ?_
              refine ⟨rfl, congrArg (fun z => Sum.inl (some (0, z))) ?_⟩
              unfold enV
              repeat (first | rw [if_pos (by omega)] | rw [if_neg (by omega)])
              all_goals first | rfl | omega
            · skip
              refine wa_iconst ?_
              refine wa_goto ⟨_, rfl⟩ ?_
              refine wa_ireturn rfl ?_
              refine ⟨rfl, congrArg (fun z => Sum.inl (some (0, z))) ?_⟩
              unfold enV
              repeat (first | rw [if_pos (by omega)] | rw [if_neg (by omega)])
              all_goals first | rfl | omega
          refine wb_sw (w_rg0 (by omega) (by omega)) (tb := 11) (w_tb_df (by simp only [List.length_cons, List.length_nil]; omega)) ⟨_, rfl⟩ ?_
          refine wa_iconst ?_
          refine wa_ireturn rfl ?_
          refine ⟨rfl, congrArg (fun z => Sum.inl (some (0, z))) ?_⟩
          unfold enV
          repeat (first | rw [if_pos (by omega)] | rw [if_neg (by omega)])
          all_goals first | rfl | omega
        · skip
          exact absurd c10 (by omega)
      · skip
        show wJ _ _ _ _ _ _ _ _ _ _
        refine wa_ifne (w_rg0 (by omega) (by omega)) ⟨_, rfl⟩ (fun c26 => ?_) (fun c26 => ?_)
        · skip
          exact absurd c26 (by omega)
        · skip
          refine wa_fall ⟨_, rfl⟩ ?_
          refine wa_iconst ?_
          refine wa_ireturn rfl ?_
          refine ⟨rfl, congrArg (fun z => Sum.inl (some (0, z))) ?_⟩
          unfold enW; rw [if_neg (by omega)]
  · skip
    show wJ _ _ _ _ _ _ _ _ _ _
    refine wa_ifeq (w_rg0 (by omega) (by omega)) ⟨_, rfl⟩ (fun c27 => ?_) (fun c27 => ?_)
    · skip
      refine wa_iconst ?_
      refine wa_ireturn rfl ?_
      refine ⟨rfl, congrArg (fun z => Sum.inl (some (0, z))) ?_⟩
      unfold enW; rw [if_neg (by omega)]
    · skip
      exact absurd c27 (by omega)
end Wik
