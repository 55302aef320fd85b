/-! PART jo: acting at a site by tasks: methods of hosts: of the reference. -/
section Wjo0
variable {xs : List (Nat × List Int32)} {M : Nat → Prop} {d : Nat} {Y : wS} {K : aK} {T : List aO} {H : List aH} {L : List aC} {G : Int → aV} {sl : Nat → List Int} {t s kd gk gb es hd wh e50 l : Int} {ba : Nat} {HT : Int → Int} {cs : List hCR} {ms : List hMR} {os : Int → List Int} {SF : Int → aV} {tr : List Int} {nT : Int} {Z B C : wS} {m en k v : Int} {a : aV} {mk : Nat → Int → Prop} {ar : List aV} {T2 : List aO} {RI ER : wS → Prop}
/-- what nobody keeps behind a member; what its trace changes -/
def rmN (j : Nat) (x : Int) : Prop := (j = 237 ∧ (x = 110 ∨ x = 111 ∨ x = 113 ∨ x = 126 ∨ x = 130)) ∨ ((j = 345 ∨ j = 354 ∨ j = 356 ∨ j = 386) ∧ 0 ≤ x)
def rMh (j : Nat) (x : Int) : Prop := (j = 237 ∧ x = 106) ∨ (j = 343 ∧ 0 ≤ x)
/-- the state behind a member that has been done -/
def rmI (t : Int) (K : aK) (T2 : List aO) (L : List aC) (G : Int → aV) (a : aV) (m en : Int) (tr : List Int) (mk : Nat → Int → Prop) (Y Z : wS) : Prop := w_ML Z ∧ rTk t Z K ∧ (∃ sl2 : Nat → List Int, rWd Z sl2 T2 L G) ∧ rVl Z (Z 237 110) (Z 237 111) a ∧ rTrc Z (tr ++ [m, en]) ∧ rTx Y Z ∧ ∀ (j : Nat) (x : Int), ¬ rmN j x → ¬ rMh j x → ¬ mk j x → Z j x = Y j x
/-- the state behind the site -/
def rmO (t : Int) (K : aK) (ba : Nat) (kd : Int) (a : aV) (T2 : List aO) (L : List aC) (G : Int → aV) (m en : Int) (tr : List Int) (mk : Nat → Int → Prop) (Y V : wS) : Prop := rTk t V (kP K (K.1.length - ba) (if kd = 1 then (K.1.getD (K.1.length - 1) (0, 0, [])) else a)) ∧ (∃ sl2 : Nat → List Int, rWd V sl2 T2 L G) ∧ rTrc V (tr ++ [m, en]) ∧ rTm t (fun j x => rMh j x ∨ mk j x) Y V
theorem rTrc_ag {S : wS} (h : rTrc S tr) (f : ∀ x : Int, Z 343 x = S 343 x) (f2 : Z 237 106 = S 237 106) : rTrc Z tr := ⟨f2.trans h.1, fun k hk => (f _).trans (h.2.1 k hk), h.2.2⟩
theorem rTrc_t (h : rTrc Y tr) (hn : (tr.length : Int) + 2 ≤ 100000) (h1 : B 237 106 = (tr.length : Int) + 2) (h2 : B 343 (tr.length : Int) = m) (h3 : B 343 ((tr.length : Int) + 1) = en) (h4 : ∀ x : Int, 0 ≤ x → x < (tr.length : Int) → B 343 x = Y 343 x) : rTrc B (tr ++ [m, en]) := by
  have el : ((tr ++ [m, en]).length : Int) = (tr.length : Int) + 2 := by rw [List.length_append]; rfl
  refine ⟨by rw [el]; exact h1, fun k hk => ?_, by omega⟩
  rcases tr2_g hk with ⟨z1, z2⟩ | ⟨z1, z2⟩ | ⟨z1, z2⟩
  · rw [z2, h4 k (by omega) (by omega), h.2.1 k z1]
  · rw [z2, z1, h2]
  · rw [z2, z1, ← h3]
    congr 1
/-- masks that a member's own world may have -/
def mkO (mk : Nat → Int → Prop) : Prop := ∀ (j : Nat) (x : Int), mk j x → (j = 237 ∧ 0 ≤ x ∧ x < 105) ∨ (238 < j ∧ j < 343 ∧ 0 ≤ x)
theorem mkO_F : mkO (fun _ _ => False) := fun _ _ h => h.elim
theorem rmI_x (hK : rTk t Y K) (ht : 0 ≤ t ∧ t ≤ 1) (hM : w_ML Y) (htr : rTrc Y tr) (hn : (tr.length : Int) + 2 ≤ 100000) (hD : dtR (tr.length : Int) m en Y B) (hmk : mkO mk) (eT : rTx Y Z) (fZ : ∀ (j : Nat) (x : Int), ¬ rmN j x → ¬ mk j x → Z j x = B j x) (hW : ∃ sl2 : Nat → List Int, rWd Z sl2 T2 L G) (hv : rVl Z (Z 237 110) (Z 237 111) a) : rmI t K T2 L G a m en tr mk Y Z := by
  obtain ⟨⟨d1, d2, d3⟩, d4⟩ := hD
  have hn2 : ∀ (j : Nat) (x : Int), ((343 ≤ j) ∨ x < 0 ∨ (j = 237 ∧ 105 ≤ x)) → ¬ mk j x := fun j x hj z => by have := hmk j x z; omega
  have f1 : ∀ (j : Nat) (x : Int), ¬ rmN j x → ¬ rMh j x → ¬ mk j x → Z j x = Y j x := fun j x j0 j1 j2 => by
    refine (fZ j x j0 j2).trans (d4 j x ?_)
    unfold dtM wtM
    unfold rmN at j0
    unfold rMh at j1
    have : 0 ≤ (tr.length : Int) := by omega
    omega
  refine ⟨fun q hq => (f1 q.1 (-1) ?_ ?_ (hn2 _ _ (by omega))).trans (hM q hq), rTk_fr hK eT (fun j x j0 j1 => f1 j x (by unfold rmN; omega) (by unfold rMh; omega) (hn2 _ _ (by omega))), hW, hv, ?_, eT, f1⟩
  · unfold rmN; omega
  · unfold rMh; omega
  · have e3 : ∀ x : Int, Z 343 x = B 343 x := fun x => fZ 343 x (by unfold rmN; omega) (hn2 _ _ (by omega))
    refine rTrc_ag (rTrc_t htr hn d1 d2 d3 (fun x x0 x1 => d4 343 x (by unfold dtM wtM; omega))) e3 (fZ 237 106 (by unfold rmN; omega) (hn2 _ _ (by omega)))
theorem gvX (g : Nat) (y : Int) {S : wS} (h : g < 357) : (gvZ t (ba : Int) (200 * t + (K.2.1.length : Int) - 1) (K.2.1.getD (K.2.1.length - 1) (0, 0, 0, (0, 0, []), 0, 0, 0)).2.1 k v S) g y = S g y := (w_up_slot (by omega)).trans ((w_up_slot (by omega)).trans ((w_up_slot (by omega)).trans ((w_up_slot (by omega)).trans (w_up_slot (by omega)))))
theorem rmV {X : wS} (hK : rTk t X K) (ht : 0 ≤ t ∧ t ≤ 1) (hKl : 0 < K.2.1.length ∧ K.2.1.length ≤ 200 ∧ K.1.length ≤ 2001) (hba : ba < K.1.length) (hW : ∃ sl2 : Nat → List Int, rWd X sl2 T2 L G) (hv : rVl X k v a) (htr : rTrc X (tr ++ [m, en])) (hf : ∀ (j : Nat) (x : Int), ¬ rmN j x → ¬ rMh j x → ¬ mk j x → X j x = Y j x) : rTk t (gvZ t (ba : Int) (200 * t + (K.2.1.length : Int) - 1) (K.2.1.getD (K.2.1.length - 1) (0, 0, 0, (0, 0, []), 0, 0, 0)).2.1 k v X) (kP K (K.1.length - ba) a) ∧ (∃ sl2 : Nat → List Int, rWd (gvZ t (ba : Int) (200 * t + (K.2.1.length : Int) - 1) (K.2.1.getD (K.2.1.length - 1) (0, 0, 0, (0, 0, []), 0, 0, 0)).2.1 k v X) sl2 T2 L G) ∧ rTrc (gvZ t (ba : Int) (200 * t + (K.2.1.length : Int) - 1) (K.2.1.getD (K.2.1.length - 1) (0, 0, 0, (0, 0, []), 0, 0, 0)).2.1 k v X) (tr ++ [m, en]) ∧ rTm t (fun j x => rMh j x ∨ mk j x) Y (gvZ t (ba : Int) (200 * t + (K.2.1.length : Int) - 1) (K.2.1.getD (K.2.1.length - 1) (0, 0, 0, (0, 0, []), 0, 0, 0)).2.1 k v X) := by
  obtain ⟨sl2, hW⟩ := hW
  refine ⟨rTk_gv hK ht hKl.1 (by omega) hv, ⟨sl2, gvZ_w hW⟩, rTrc_ag htr (fun x => gvX 343 x (by first | decide | omega)) (gvX 237 106 (by first | decide | omega)), fun j x o n => ?_⟩
  refine (gvZ_f ht ⟨hKl.1, hKl.2.1⟩ (by omega) j x o).trans (hf j x ?_ (fun z => n (Or.inl z)) (fun z => n (Or.inr z)))
  unfold rmN
  unfold rOut at o
  omega
/-- the ES on the reference's pile -/
theorem ar_r (hK : rTk t Y K) (hg : arG K ba es ar) {i : Nat} (hi : i < ar.length) : rVl Y (Y 363 (2100 * t + (ba : Int) + 1 + (i : Int))) (Y 364 (2100 * t + (ba : Int) + 1 + (i : Int))) (ar.getD i (0, 0, [])) := by
  rw [← hg.2 i hi]
  have z := hK.1.2 (ba + 1 + i) (by have := hg.1.2.2; omega)
  rw [show 2100 * t + ((ba + 1 + i : Nat) : Int) = 2100 * t + (ba : Int) + 1 + (i : Int) by omega] at z
  exact z
theorem find_rEs {p : Int × Int → Bool} {q : aV → Bool} {S : wS} {jk jb : Nat} : ∀ (ar : List aV) (at0 : Int), (∀ i : Nat, i < ar.length → rVl S (S jk (at0 + (i : Int))) (S jb (at0 + (i : Int))) (ar.getD i (0, 0, [])) ∧ p (S jk (at0 + (i : Int)), S jb (at0 + (i : Int))) = q (ar.getD i (0, 0, []))) → rVl S (((pEs S jk jb at0 ar.length).find? p).getD (0, 0)).1 (((pEs S jk jb at0 ar.length).find? p).getD (0, 0)).2 ((ar.find? q).getD (0, 0, []))
  | [], at0, _ => by
    show rVl S 0 0 (0, 0, [])
    exact rV_e (by first | decide | omega) rfl
  | u :: l, at0, h => by
    have h0 := h 0 (by rw [List.length_cons]; omega)
    rw [show at0 + ((0 : Nat) : Int) = at0 by omega] at h0
    replace h0 : rVl S (S jk at0) (S jb at0) u ∧ p (S jk at0, S jb at0) = q u := h0
    have e : pEs S jk jb at0 (u :: l).length = (S jk at0, S jb at0) :: pEs S jk jb (at0 + 1) l.length := by
      unfold pEs
      rw [List.length_cons, List.range_succ_eq_map, List.map_cons, List.map_map]
      have z0 : at0 + ((0 : Nat) : Int) = at0 := by omega
      show (S jk (at0 + ((0 : Nat) : Int)), S jb (at0 + ((0 : Nat) : Int))) :: _ = _
      rw [z0]
      refine congrArg (List.cons _) (List.map_congr_left (fun i _ => ?_))
      show (S jk (at0 + ((i + 1 : Nat) : Int)), S jb (at0 + ((i + 1 : Nat) : Int))) = _
      rw [show at0 + ((i + 1 : Nat) : Int) = at0 + 1 + (i : Int) by omega]
    rw [e, List.find?_cons, List.find?_cons, ← h0.2]
    cases hp : p (S jk at0, S jb at0) with
    | true => exact h0.1
    | false =>
      refine find_rEs l (at0 + 1) (fun i hi => ?_)
      have z := h (i + 1) (by rw [List.length_cons]; omega)
      rw [show at0 + ((i + 1 : Nat) : Int) = at0 + 1 + (i : Int) by omega] at z
      exact z
end Wjo0
section Wjo
variable {xs : List (Nat × List Int32)} {M : Nat → Prop} {d : Nat} {Y : wS} {K : aK} {T : List aO} {H : List aH} {L : List aC} {G : Int → aV} {sl : Nat → List Int} {t s kd gk gb es hd wh e50 l : Int} {ba : Nat} {HT : Int → Int} {cs : List hCR} {ms : List hMR} {os : Int → List Int} {SF : Int → aV} {tr : List Int} {nT : Int} {m en : Int} {a : aV} {mk : Nat → Int → Prop} {ar : List aV} {T2 : List aO} {RI ER : wS → Prop}
theorem rmT_241 {ho sh : Int} (h : rdR t kd ba gk gb es l ho wh sh K T sl L G Y) (hKR : KR 241 HT nT cs ms Y) (hwH : wHo cs ms os) (hwh : 0 ≤ wh ∧ wh < (ms.length : Int)) (hso : (hmR ms wh).2.1 ≠ 0) (hkd : 0 ≤ kd ∧ kd ≤ 6) (hb1 : kd = 1 → ba + 2 = K.1.length) (hmk : mkO mk) (hdm : wJ (pe_GA xs) wY0 (fun _ => False) (d + 8) t_M_doesMember ((pe_at t_M_doesMember.bl 0).getD (0, [])).2 [(0, (2, 237)), (1, (0, wh))] [] Y (fun o Z => (o = .inr 238 ∧ ER Z) ∨ (o = .inl none ∧ RI Z))) (hRI : ∀ Z : wS, RI Z → rmI t K T2 L G a wh en tr mk Y Z) : wJ (pe_GA xs) wY0 M (d + 9) t_M_actsOnHost ((pe_at t_M_actsOnHost.bl 0).getD (0, [])).2 [(0, (2, 237)), (1, (0, kd))] [] Y (fun o V => (o = .inr 238 ∧ ER V) ∨ (o = .inl none ∧ rmO t K ba kd a T2 L G wh en tr mk Y V ∧ ∃ Z : wS, RI Z ∧ ∀ (j : Nat) (x : Int), j < 357 → (j ≠ 237 ∨ (x ≠ 110 ∧ x ≠ 111)) → V j x = Z j x)) := by
  obtain ⟨⟨hP, hK, hW, ht⟩, hKl, ⟨hT, h82, hll⟩, ⟨h73, hba, h74, h75, h76⟩, h66, h69, h70, h71⟩ := h
  obtain ⟨hTh, hCa, -, ⟨hL8, h94⟩, -⟩ := id hW
  have k0 := hKl.1
  have hbb : 0 ≤ (ba : Int) ∧ (ba : Int) < (K.1.length : Int) := ⟨by omega, by omega⟩
  refine rhm_241 (d := d) (R := RI) (ky := Y 363 (2100 * t + (ba : Int) + 1)) (vy := Y 364 (2100 * t + (ba : Int) + 1)) hP.1 hKR hwH hP h73 hbb h70 hwh hso hkd (wJ_mono hdm (fun o Z hz => ?_)) (fun Z hZ => ?_)
  · rcases hz with ⟨z1, z2⟩ | z
    · exact Or.inl ⟨z1, Or.inl ⟨rfl, z2⟩⟩
    · exact Or.inr z
  · obtain ⟨z1, z2, z3, z4, z5, z6, z7⟩ := hRI Z hZ
    have f2 : ∀ (j : Nat) (x : Int), ((357 ≤ j ∧ j ≠ 386) ∨ (j = 237 ∧ 140 ≤ x)) → Z j x = Y j x := fun j x hj => z7 j x (by unfold rmN; omega) (by unfold rMh; omega) (fun z => by have := hmk j x z; omega)
    refine ⟨mP_ag hP z1 (fun j x hj => f2 j x (by omega)), (f2 237 173 (by omega)).trans h73, fun hk => ?_, fun hk => ?_⟩
    · have hb := hb1 hk
      have hu : rVl Y (Y 363 (2100 * t + (ba : Int) + 1)) (Y 364 (2100 * t + (ba : Int) + 1)) (K.1.getD (K.1.length - 1) (0, 0, [])) := by
        have z := hK.1.2 (ba + 1) (by omega)
        rw [show 2100 * t + ((ba + 1 : Nat) : Int) = 2100 * t + (ba : Int) + 1 by omega, show ba + 1 = K.1.length - 1 by omega] at z
        exact z
      refine ⟨⟨f2 363 _ (by omega), f2 364 _ (by omega)⟩, by omega, Or.inr ⟨rfl, ?_, Z, hZ, fun j x j0 j1 => (gvX j x j0).trans ((w_up_no (by omega)).trans (w_up_no (by omega)))⟩⟩
      have eX : rTx Z (w_up (w_up Z 237 110 (Y 363 (2100 * t + (ba : Int) + 1))) 237 111 (Y 364 (2100 * t + (ba : Int) + 1))) := rTx_of rfl rfl (fun j x j0 j1 => (w_up_slot (by omega)).trans (w_up_slot (by omega)))
      unfold rmO
      rw [if_pos hk]
      refine rmV (rTk_fr z2 eX (fun j x j0 j1 => (w_up_slot (by omega)).trans (w_up_slot (by omega)))) ht hKl hba ?_ (rVl_mo hu (rTx_tr z6 eX)) (rTrc_ag z5 (fun x => (w_up_slot (by omega)).trans (w_up_slot (by omega))) ((w_up_at (by first | decide | omega)).trans (w_up_at (by first | decide | omega)))) (fun j x j0 j1 j2 => ((w_up_no (by unfold rmN at j0; omega)).trans (w_up_no (by unfold rmN at j0; omega))).trans (z7 j x j0 j1 j2))
      obtain ⟨sl2, hW2⟩ := z3
      exact ⟨sl2, rWd_up (rWd_up hW2 (by omega)) (by omega)⟩
    · refine Or.inr ⟨rfl, ?_, Z, hZ, fun j x j0 j1 => gvX j x j0⟩
      unfold rmO
      rw [if_neg hk]
      exact rmV z2 ht hKl hba z3 z4 z5 z7
theorem rnv_241 {ho sh : Int} (h : rdR t kd ba gk gb es l ho wh sh K T sl L G Y) (hKR : KR 241 HT nT cs ms Y) (hwH : wHo cs ms os) (hX : w_X xs) (hm : (0 ≤ wh ∧ wh < (ms.length : Int)) ∧ (hmR ms wh).2.1 = 1) (htr : rTrc Y tr) (hg : arG K ba es ar) (hkd : 0 ≤ kd ∧ kd ≤ 6) (hb1 : kd = 1 → ba + 2 = K.1.length) (hff : ffA HT cs ms wh = -1) (hav : ∀ u ∈ ar, vOk T u ∧ (u.1 = 7 → (tO T u.2.1).2.2.1 < (cs.length : Int))) (hty : (hmR ms wh).2.2.2.1 = 0) : wJ (pe_GA xs) wY0 M (d + 9) t_M_actsOnHost ((pe_at t_M_actsOnHost.bl 0).getD (0, [])).2 [(0, (2, 237)), (1, (0, kd))] [] Y (fun o V => (100000 < (tr.length : Int) + 2 ∧ o = .inr 238 ∧ hZ 99 Y = V) ∨ ((tr.length : Int) + 2 ≤ 100000 ∧ o = .inl none ∧ rmO t K ba kd (0, 0, []) T L G wh es tr (fun _ _ => False) Y V)) := wJ_E (fun hE => by
  have h00 := h
  obtain ⟨⟨hP, hK, hW, ht⟩, hKl, ⟨hT, h82, hll⟩, ⟨h73, hba, h74, h75, h76⟩, h66, h69, h70, h71⟩ := h
  obtain ⟨hTh, hCa, -, ⟨hL8, h94⟩, -⟩ := id hW
  have k0 := hKl.1
  have hbb : 0 ≤ (ba : Int) ∧ (ba : Int) < (K.1.length : Int) := ⟨by omega, by omega⟩
  refine wJ_mono (rmT_241 (d := d) (a := (0, 0, [])) (T2 := T) (mk := (fun _ _ => False)) (en := es) (tr := tr) (ER := fun Z => 100000 < (tr.length : Int) + 2 ∧ hZ 99 Y = Z) (RI := fun Z => (tr.length : Int) + 2 ≤ 100000 ∧ ∃ B : wS, dtR (tr.length : Int) wh es Y B ∧ isQ 0 0 B Z) h00 hKR hwH hm.1 (by have := hm.2; omega) hkd hb1 (mkO_F) (wJ_mono (rdv_241 (d := d) (tn := (tr.length : Int)) (en := es) (k := 0) (es := (pEs Y 363 364 (2100 * t + (ba : Int) + 1) ar.length)) hX hP.1 hKR hwH hm.1 hm.2 htr.1 ⟨by omega, htr.2.2⟩ h76 ⟨by have := hg.1.1; omega, by have := hg.1.2.1; omega⟩ hff rfl h73 (by rw [pEs_l]; exact hg.1.1.symm) ⟨by omega, by rw [pEs_l]; have := hg.1.2.2; omega⟩ (fun i hi => by rw [pEs_l] at hi; rw [pEs_g hi]; exact ⟨rfl, rfl⟩) (fun i hi => by rw [pEs_l] at hi; rw [pEs_g hi]; have z := ar_r hK hg hi; rw [show (Y 363 (2100 * t + (ba : Int) + 1 + (i : Int)), Y 364 (2100 * t + (ba : Int) + 1 + (i : Int))).1 = Y 363 (2100 * t + (ba : Int) + 1 + (i : Int)) from rfl, z.1]; exact (hav _ (show ar.getD i (0, 0, []) ∈ ar by rw [List.getD_eq_getElem?_getD, List.getElem?_eq_getElem hi]; exact List.getElem_mem _)).1.1) hty) (fun o Z hz => ?_)) (fun Z hZ => ?_)) (fun o V hq => ?_)
  · rcases hz with ⟨y1, y2, y3⟩ | ⟨y1, y2, y3⟩
    · exact Or.inl ⟨y2, y1, y3⟩
    · exact Or.inr ⟨y2, y1, y3⟩
  · obtain ⟨hn, B, hD, hZ1, hZ2, hZ3⟩ := hZ
    have fB : ∀ (j : Nat) (x : Int), ¬ rmN j x → ¬ False → Z j x = B j x := fun j x j0 _ => hZ3 j x (by unfold isM; unfold rmN at j0; omega)
    have fY : ∀ (j : Nat) (x : Int), ¬ rmN j x → ¬ rMh j x → Z j x = Y j x := fun j x j0 j1 => (fB j x j0 id).trans (hD.2 j x (by unfold dtM wtM; unfold rmN at j0; unfold rMh at j1; omega))
    have eT : rTx Y Z := rTx_of (fY 237 19 (by unfold rmN; omega) (by unfold rMh; omega)) (fY 237 102 (by unfold rmN; omega) (by unfold rMh; omega)) (fun j x j0 j1 => fY j x (by unfold rmN; omega) (by unfold rMh; omega))
    exact rmI_x hK ht hP.1 htr hn hD mkO_F eT fB ⟨sl, rWd_ag hW eT (fun j x hj => fY j x (by unfold rWo at hj; unfold rmN; omega) (by unfold rWo at hj; unfold rMh; omega))⟩ (by rw [hZ1, hZ2]; exact rVl_mo (rV_e (by first | decide | omega) rfl) eT)
  · rcases hq with ⟨y1, y2, y3⟩ | ⟨y1, y2, Z, hZ, y3⟩
    · exact Or.inl ⟨y2, y1, y3⟩
    · exact Or.inr ⟨hZ.1, y1, y2⟩)
theorem rnb_241 {ho sh : Int} (h : rdR t kd ba gk gb es l ho wh sh K T sl L G Y) (hKR : KR 241 HT nT cs ms Y) (hwH : wHo cs ms os) (hX : w_X xs) (hm : (0 ≤ wh ∧ wh < (ms.length : Int)) ∧ (hmR ms wh).2.1 = 1) (htr : rTrc Y tr) (hg : arG K ba es ar) (hkd : 0 ≤ kd ∧ kd ≤ 6) (hb1 : kd = 1 → ba + 2 = K.1.length) (hff : ffA HT cs ms wh = -1) (hav : ∀ u ∈ ar, vOk T u ∧ (u.1 = 7 → (tO T u.2.1).2.2.1 < (cs.length : Int))) (hty : 1 ≤ (hmR ms wh).2.2.2.1 ∧ (hmR ms wh).2.2.2.1 ≤ 6) : wJ (pe_GA xs) wY0 M (d + 9) t_M_actsOnHost ((pe_at t_M_actsOnHost.bl 0).getD (0, [])).2 [(0, (2, 237)), (1, (0, kd))] [] Y (fun o V => (100000 < (tr.length : Int) + 2 ∧ o = .inr 238 ∧ hZ 99 Y = V) ∨ ((tr.length : Int) + 2 ≤ 100000 ∧ o = .inl none ∧ rmO t K ba kd (anK (hmR ms wh).2.2.2.1, anB (hmR ms wh).2.2.2.1 (anS wh (aEs ar)), []) T L G wh es tr (fun _ _ => False) Y V)) := wJ_E (fun hE => by
  have h00 := h
  obtain ⟨⟨hP, hK, hW, ht⟩, hKl, ⟨hT, h82, hll⟩, ⟨h73, hba, h74, h75, h76⟩, h66, h69, h70, h71⟩ := h
  obtain ⟨hTh, hCa, -, ⟨hL8, h94⟩, -⟩ := id hW
  have k0 := hKl.1
  have hbb : 0 ≤ (ba : Int) ∧ (ba : Int) < (K.1.length : Int) := ⟨by omega, by omega⟩
  have eS : anS wh (pEs Y 363 364 (2100 * t + (ba : Int) + 1) ar.length) = anS wh (aEs ar) := anS_cg _ _ _ (by rw [pEs_l]; unfold aEs; rw [List.length_map]) (fun i hi => by
    rw [pEs_l] at hi
    have z := ar_r hK hg hi
    rw [pEs_g hi]
    have e : (aEs ar).getD i (0, 0) = ((ar.getD i (0, 0, [])).1, (ar.getD i (0, 0, [])).2.1) := by
      unfold aEs
      rw [List.getD_eq_getElem?_getD, List.getElem?_map, List.getD_eq_getElem?_getD, List.getElem?_eq_getElem hi]
      rfl
    rw [e]
    exact ⟨z.1, fun c => (z.2.1 (by have := z.1; replace c : Y 363 (2100 * t + (ba : Int) + 1 + (i : Int)) = 2 := c; omega)).1⟩)
  refine wJ_mono (rmT_241 (d := d) (a := (anK (hmR ms wh).2.2.2.1, anB (hmR ms wh).2.2.2.1 (anS wh (aEs ar)), [])) (T2 := T) (mk := (fun _ _ => False)) (en := es) (tr := tr) (ER := fun Z => 100000 < (tr.length : Int) + 2 ∧ hZ 99 Y = Z) (RI := fun Z => (tr.length : Int) + 2 ≤ 100000 ∧ ∃ B : wS, dtR (tr.length : Int) wh es Y B ∧ isQ (anK (hmR ms wh).2.2.2.1) (anB (hmR ms wh).2.2.2.1 (anS wh (pEs Y 363 364 (2100 * t + (ba : Int) + 1) ar.length))) B Z) h00 hKR hwH hm.1 (by have := hm.2; omega) hkd hb1 (mkO_F) (wJ_mono (rdn_241 (d := d) (tn := (tr.length : Int)) (en := es) (k := 0) (es := (pEs Y 363 364 (2100 * t + (ba : Int) + 1) ar.length)) hX hP.1 hKR hwH hm.1 hm.2 htr.1 ⟨by omega, htr.2.2⟩ h76 ⟨by have := hg.1.1; omega, by have := hg.1.2.1; omega⟩ hff rfl h73 (by rw [pEs_l]; exact hg.1.1.symm) ⟨by omega, by rw [pEs_l]; have := hg.1.2.2; omega⟩ (fun i hi => by rw [pEs_l] at hi; rw [pEs_g hi]; exact ⟨rfl, rfl⟩) (fun i hi => by rw [pEs_l] at hi; rw [pEs_g hi]; have z := ar_r hK hg hi; rw [show (Y 363 (2100 * t + (ba : Int) + 1 + (i : Int)), Y 364 (2100 * t + (ba : Int) + 1 + (i : Int))).1 = Y 363 (2100 * t + (ba : Int) + 1 + (i : Int)) from rfl, z.1]; exact (hav _ (show ar.getD i (0, 0, []) ∈ ar by rw [List.getD_eq_getElem?_getD, List.getElem?_eq_getElem hi]; exact List.getElem_mem _)).1.1) rfl hty) (fun o Z hz => ?_)) (fun Z hZ => ?_)) (fun o V hq => ?_)
  · rcases hz with ⟨y1, y2, y3⟩ | ⟨y1, y2, y3⟩
    · exact Or.inl ⟨y2, y1, y3⟩
    · exact Or.inr ⟨y2, y1, y3⟩
  · obtain ⟨hn, B, hD, hZ1, hZ2, hZ3⟩ := hZ
    have fB : ∀ (j : Nat) (x : Int), ¬ rmN j x → ¬ False → Z j x = B j x := fun j x j0 _ => hZ3 j x (by unfold isM; unfold rmN at j0; omega)
    have fY : ∀ (j : Nat) (x : Int), ¬ rmN j x → ¬ rMh j x → Z j x = Y j x := fun j x j0 j1 => (fB j x j0 id).trans (hD.2 j x (by unfold dtM wtM; unfold rmN at j0; unfold rMh at j1; omega))
    have eT : rTx Y Z := rTx_of (fY 237 19 (by unfold rmN; omega) (by unfold rMh; omega)) (fY 237 102 (by unfold rmN; omega) (by unfold rMh; omega)) (fun j x j0 j1 => fY j x (by unfold rmN; omega) (by unfold rMh; omega))
    exact rmI_x hK ht hP.1 htr hn hD mkO_F eT fB ⟨sl, rWd_ag hW eT (fun j x hj => fY j x (by unfold rWo at hj; unfold rmN; omega) (by unfold rWo at hj; unfold rMh; omega))⟩ (by rw [hZ1, hZ2]; exact rVl_mo (show rVl Y (anK (hmR ms wh).2.2.2.1) (anB (hmR ms wh).2.2.2.1 (anS wh (pEs Y 363 364 (2100 * t + (ba : Int) + 1) ar.length))) (anK (hmR ms wh).2.2.2.1, anB (hmR ms wh).2.2.2.1 (anS wh (aEs ar)), []) by rw [eS]; exact rV_e (by unfold anK; split <;> decide) rfl) eT)
  · rcases hq with ⟨y1, y2, y3⟩ | ⟨y1, y2, Z, hZ, y3⟩
    · exact Or.inl ⟨y2, y1, y3⟩
    · exact Or.inr ⟨hZ.1, y1, y2⟩)
theorem rnt_241 {ho sh : Int} (h : rdR t kd ba gk gb es l ho wh sh K T sl L G Y) (hKR : KR 241 HT nT cs ms Y) (hwH : wHo cs ms os) (hX : w_X xs) (hm : (0 ≤ wh ∧ wh < (ms.length : Int)) ∧ (hmR ms wh).2.1 = 1) (htr : rTrc Y tr) (hg : arG K ba es ar) (hkd : 0 ≤ kd ∧ kd ≤ 6) (hb1 : kd = 1 → ba + 2 = K.1.length) (hff : ffA HT cs ms wh = -1) (hav : ∀ u ∈ ar, vOk T u ∧ (u.1 = 7 → (tO T u.2.1).2.2.1 < (cs.length : Int))) (hty : 8 ≤ (hmR ms wh).2.2.2.1 ∧ (hmR ms wh).2.2.2.1 < 9 + (cs.length : Int)) (hsb : ((hmR ms wh).2.2.1 = 0 ∧ gk = 7) ∨ ((hmR ms wh).2.2.1 ≠ 0 ∧ gk ≠ 7)) (hgv : rVl Y gk gb (K.1.getD ba (0, 0, []))) (hgr : -9223372036854775808 ≤ gb ∧ gb ≤ 9223372036854775807) (hrv : vOk T (K.1.getD ba (0, 0, [])) ∧ ((K.1.getD ba (0, 0, [])).1 = 7 → (tO T (K.1.getD ba (0, 0, [])).2.1).2.2.1 < (cs.length : Int))) : wJ (pe_GA xs) wY0 M (d + 9) t_M_actsOnHost ((pe_at t_M_actsOnHost.bl 0).getD (0, [])).2 [(0, (2, 237)), (1, (0, kd))] [] Y (fun o V => (100000 < (tr.length : Int) + 2 ∧ o = .inr 238 ∧ hZ 99 Y = V) ∨ ((tr.length : Int) + 2 ≤ 100000 ∧ o = .inl none ∧ rmO t K ba kd (anV cs T (hmR ms wh).2.2.1 (hmR ms wh).2.2.2.1 (K.1.getD ba (0, 0, [])) ar) T L G wh es tr (fun _ _ => False) Y V)) := wJ_E (fun hE => by
  have h00 := h
  obtain ⟨⟨hP, hK, hW, ht⟩, hKl, ⟨hT, h82, hll⟩, ⟨h73, hba, h74, h75, h76⟩, h66, h69, h70, h71⟩ := h
  obtain ⟨hTh, hCa, -, ⟨hL8, h94⟩, -⟩ := id hW
  have k0 := hKl.1
  have hbb : 0 ≤ (ba : Int) ∧ (ba : Int) < (K.1.length : Int) := ⟨by omega, by omega⟩
  have th21 : ∀ u : aV, vOk T u → u.1 = 7 → Y 321 u.2.1 = (tO T u.2.1).2.2.1 := fun u o c7 => by
    obtain ⟨x1, x2⟩ := o.2.1 (by omega) (by omega)
    obtain ⟨⟨-, -, -, y3, -⟩, -⟩ := hTh.2 u.2.1.toNat (by omega)
    rw [show ((u.2.1.toNat : Nat) : Int) = u.2.1 by omega] at y3
    replace y3 : Y 321 u.2.1 = (if (tO T u.2.1).1 = 7 then (tO T u.2.1).2.2.1 else -1) := y3
    rw [if_pos (x2.trans c7)] at y3
    exact y3
  have suE : ∀ (k b : Int) (u : aV), rVl Y k b u → vOk T u → suB cs Y k b (hmR ms wh).2.2.2.1 = (decide (u.1 ≠ 0) && isA cs T (hmR ms wh).2.2.2.1 u) := fun k b u z o => by
    unfold suB isA
    rw [z.1]
    by_cases c8 : (hmR ms wh).2.2.2.1 = 8
    · rw [if_pos c8, decide_eq_true c8, Bool.true_or, Bool.and_true]
    · rw [if_neg c8, decide_eq_false c8, Bool.false_or]
      by_cases c7 : u.1 = 7
      · have eb := (z.2.1 (by omega)).1
        rw [eb, th21 u o c7, c7]
        rfl
      · rw [decide_eq_false c7, Bool.false_and, Bool.false_and, Bool.and_false]
  have hval : rVl Y (anR cs Y (hmR ms wh).2.2.2.1 gk gb (pEs Y 363 364 (2100 * t + (ba : Int) + 1) ar.length)).1 (anR cs Y (hmR ms wh).2.2.2.1 gk gb (pEs Y 363 364 (2100 * t + (ba : Int) + 1) ar.length)).2 (anV cs T (hmR ms wh).2.2.1 (hmR ms wh).2.2.2.1 (K.1.getD ba (0, 0, [])) ar) := by
    unfold anR anV
    have hfd : rVl Y (((pEs Y 363 364 (2100 * t + (ba : Int) + 1) ar.length).find? (fun e => suB cs Y e.1 e.2 (hmR ms wh).2.2.2.1)).getD (0, 0)).1 (((pEs Y 363 364 (2100 * t + (ba : Int) + 1) ar.length).find? (fun e => suB cs Y e.1 e.2 (hmR ms wh).2.2.2.1)).getD (0, 0)).2 ((ar.find? (fun u => decide (u.1 ≠ 0) && isA cs T (hmR ms wh).2.2.2.1 u)).getD (0, 0, [])) := by
      refine find_rEs ar (2100 * t + (ba : Int) + 1) (fun i hi => ?_)
      have z := ar_r hK hg hi
      exact ⟨z, suE _ _ _ z (hav _ (show ar.getD i (0, 0, []) ∈ ar by rw [List.getD_eq_getElem?_getD, List.getElem?_eq_getElem hi]; exact List.getElem_mem _)).1⟩
    rcases hsb with ⟨s1, s2⟩ | ⟨s1, s2⟩
    · have e7 : suB cs Y 7 gb (hmR ms wh).2.2.2.1 = isA cs T (hmR ms wh).2.2.2.1 (K.1.getD ba (0, 0, [])) := by
        have z := suE gk gb _ hgv hrv.1
        rw [s2] at z
        rw [z, decide_eq_true (show (K.1.getD ba (0, 0, [])).1 ≠ 0 by rw [← hgv.1, s2]; decide), Bool.true_and]
      rw [e7]
      by_cases c : isA cs T (hmR ms wh).2.2.2.1 (K.1.getD ba (0, 0, [])) = true
      · rw [if_pos ⟨s2, c⟩, if_pos ⟨s1, c⟩]
        exact hgv
      · rw [if_neg (fun z => c z.2), if_neg (fun z => c z.2)]
        exact hfd
    · rw [if_neg (fun z => by omega), if_neg (fun z => s1 z.1)]
      exact hfd
  refine wJ_mono (rmT_241 (d := d) (a := (anV cs T (hmR ms wh).2.2.1 (hmR ms wh).2.2.2.1 (K.1.getD ba (0, 0, [])) ar)) (T2 := T) (mk := (fun _ _ => False)) (en := es) (tr := tr) (ER := fun Z => 100000 < (tr.length : Int) + 2 ∧ hZ 99 Y = Z) (RI := fun Z => (tr.length : Int) + 2 ≤ 100000 ∧ ∃ B : wS, dtR (tr.length : Int) wh es Y B ∧ isQ (anR cs Y (hmR ms wh).2.2.2.1 gk gb (pEs Y 363 364 (2100 * t + (ba : Int) + 1) ar.length)).1 (anR cs Y (hmR ms wh).2.2.2.1 gk gb (pEs Y 363 364 (2100 * t + (ba : Int) + 1) ar.length)).2 B Z) h00 hKR hwH hm.1 (by have := hm.2; omega) hkd hb1 (mkO_F) (wJ_mono (rdt_241 (d := d) (tn := (tr.length : Int)) (en := es) (k := 0) (es := (pEs Y 363 364 (2100 * t + (ba : Int) + 1) ar.length)) (gk := gk) (gb := gb) hX hP.1 hKR hwH hm.1 hm.2 htr.1 ⟨by omega, htr.2.2⟩ h76 ⟨by have := hg.1.1; omega, by have := hg.1.2.1; omega⟩ hff rfl h73 (by rw [pEs_l]; exact hg.1.1.symm) ⟨by omega, by rw [pEs_l]; have := hg.1.2.2; omega⟩ (fun i hi => by rw [pEs_l] at hi; rw [pEs_g hi]; exact ⟨rfl, rfl⟩) (fun i hi => by rw [pEs_l] at hi; rw [pEs_g hi]; have z := ar_r hK hg hi; rw [show (Y 363 (2100 * t + (ba : Int) + 1 + (i : Int)), Y 364 (2100 * t + (ba : Int) + 1 + (i : Int))).1 = Y 363 (2100 * t + (ba : Int) + 1 + (i : Int)) from rfl, z.1]; exact (hav _ (show ar.getD i (0, 0, []) ∈ ar by rw [List.getD_eq_getElem?_getD, List.getElem?_eq_getElem hi]; exact List.getElem_mem _)).1.1) rfl h74 h75 (by rw [hgv.1]; exact hrv.1.1) hgr (fun c => by
        have c7 : (K.1.getD ba (0, 0, [])).1 = 7 := hgv.1.symm.trans c
        have eb := (hgv.2.1 (by omega)).1
        obtain ⟨x1, x2⟩ := hrv.1.2.1 (by omega) (by omega)
        rw [eb, th21 _ hrv.1 c7]
        exact ⟨x1.1, by omega, (hrv.1.2.2.2.1 c7).1, hrv.2 c7⟩) hty (fun i hi => by
        rw [pEs_l] at hi
        rw [pEs_g hi]
        have z := ar_r hK hg hi
        have hh := hg.1.2.2
        refine ⟨p_lr hE hP.1 (by omega) (by omega), fun c => ?_⟩
        replace c : Y 363 (2100 * t + (ba : Int) + 1 + (i : Int)) = 7 := c
        obtain ⟨o1, o2⟩ := hav _ (show ar.getD i (0, 0, []) ∈ ar by rw [List.getD_eq_getElem?_getD, List.getElem?_eq_getElem hi]; exact List.getElem_mem _)
        have c7 : (ar.getD i (0, 0, [])).1 = 7 := z.1.symm.trans c
        have eb := (z.2.1 (by omega)).1
        obtain ⟨x1, x2⟩ := o1.2.1 (by omega) (by omega)
        show 0 ≤ Y 364 _ ∧ Y 364 _ < _ ∧ 0 ≤ Y 321 (Y 364 _) ∧ Y 321 (Y 364 _) < _
        rw [eb, th21 _ o1 c7]
        exact ⟨x1.1, by omega, (o1.2.2.2.1 c7).1, o2 c7⟩)) (fun o Z hz => ?_)) (fun Z hZ => ?_)) (fun o V hq => ?_)
  · rcases hz with ⟨y1, y2, y3⟩ | ⟨y1, y2, y3⟩
    · exact Or.inl ⟨y2, y1, y3⟩
    · exact Or.inr ⟨y2, y1, y3⟩
  · obtain ⟨hn, B, hD, hZ1, hZ2, hZ3⟩ := hZ
    have fB : ∀ (j : Nat) (x : Int), ¬ rmN j x → ¬ False → Z j x = B j x := fun j x j0 _ => hZ3 j x (by unfold isM; unfold rmN at j0; omega)
    have fY : ∀ (j : Nat) (x : Int), ¬ rmN j x → ¬ rMh j x → Z j x = Y j x := fun j x j0 j1 => (fB j x j0 id).trans (hD.2 j x (by unfold dtM wtM; unfold rmN at j0; unfold rMh at j1; omega))
    have eT : rTx Y Z := rTx_of (fY 237 19 (by unfold rmN; omega) (by unfold rMh; omega)) (fY 237 102 (by unfold rmN; omega) (by unfold rMh; omega)) (fun j x j0 j1 => fY j x (by unfold rmN; omega) (by unfold rMh; omega))
    exact rmI_x hK ht hP.1 htr hn hD mkO_F eT fB ⟨sl, rWd_ag hW eT (fun j x hj => fY j x (by unfold rWo at hj; unfold rmN; omega) (by unfold rWo at hj; unfold rMh; omega))⟩ (by rw [hZ1, hZ2]; exact rVl_mo hval eT)
  · rcases hq with ⟨y1, y2, y3⟩ | ⟨y1, y2, Z, hZ, y3⟩
    · exact Or.inl ⟨y2, y1, y3⟩
    · exact Or.inr ⟨hZ.1, y1, y2⟩)
theorem rng_241 {fl : Int} {ho sh : Int} (h : rdR t kd ba gk gb es l ho wh sh K T sl L G Y) (hKR : KR 241 HT nT cs ms Y) (hwH : wHo cs ms os) (hX : w_X xs) (hm : (0 ≤ wh ∧ wh < (ms.length : Int)) ∧ (hmR ms wh).2.1 = 1) (htr : rTrc Y tr) (hg : arG K ba es ar) (hkd : 0 ≤ kd ∧ kd ≤ 6) (hb1 : kd = 1 → ba + 2 = K.1.length) (hff : ffA HT cs ms wh = fl) (hsf : isSf ms fl) (hst : rStc ms SF Y) (hty : (hmR ms wh).2.2.2.1 ≠ 0) : wJ (pe_GA xs) wY0 M (d + 9) t_M_actsOnHost ((pe_at t_M_actsOnHost.bl 0).getD (0, [])).2 [(0, (2, 237)), (1, (0, kd))] [] Y (fun o V => (100000 < (tr.length : Int) + 2 ∧ o = .inr 238 ∧ hZ 99 Y = V) ∨ ((tr.length : Int) + 2 ≤ 100000 ∧ o = .inl none ∧ rmO t K ba kd (SF fl) T L G wh es tr (fun _ _ => False) Y V)) := wJ_E (fun hE => by
  have h00 := h
  obtain ⟨⟨hP, hK, hW, ht⟩, hKl, ⟨hT, h82, hll⟩, ⟨h73, hba, h74, h75, h76⟩, h66, h69, h70, h71⟩ := h
  obtain ⟨hTh, hCa, -, ⟨hL8, h94⟩, -⟩ := id hW
  have k0 := hKl.1
  have hbb : 0 ≤ (ba : Int) ∧ (ba : Int) < (K.1.length : Int) := ⟨by omega, by omega⟩
  have hn4 := hKR.2.1.2.2.2
  have hf4 : fl < 400 := by have := hsf.1.2; omega
  have hf0 := hsf.1.1
  refine wJ_mono (rmT_241 (d := d) (a := (SF fl)) (T2 := T) (mk := (fun _ _ => False)) (en := es) (tr := tr) (ER := fun Z => 100000 < (tr.length : Int) + 2 ∧ hZ 99 Y = Z) (RI := fun Z => (tr.length : Int) + 2 ≤ 100000 ∧ ∃ B : wS, dtR (tr.length : Int) wh es Y B ∧ (Z 237 110 = Y 340 fl ∧ Z 237 111 = Y 341 fl) ∧ ∀ (j : Nat) (x : Int), ¬ fiM j x → Z j x = B j x) h00 hKR hwH hm.1 (by have := hm.2; omega) hkd hb1 (mkO_F) (wJ_mono (rdr1_241 (d := d) (tn := (tr.length : Int)) (en := es) (k := 0) (c := 0) (gb := 0) (es := []) (f := fl) (vk := Y 340 fl) (vb := Y 341 fl) hX hP.1 hKR hwH hm.1 hm.2 htr.1 ⟨by omega, htr.2.2⟩ h76 ⟨by have := hg.1.1; omega, by have := hg.1.2.1; omega⟩ hff hsf.1 hsf.2.2 (ir_E hE ⟨Or.inl (by first | decide | omega), by decide⟩ rfl hf0 (by rw [ml_340 hP.1]; omega)) (lr_E hE ⟨Or.inl (by first | decide | omega), by decide⟩ rfl hf0 (by rw [ml_341 hP.1]; omega)) rfl rfl hty) (fun o Z hz => ?_)) (fun Z hZ => ?_)) (fun o V hq => ?_)
  · rcases hz with ⟨y1, y2, y3⟩ | ⟨y1, y2, y3⟩
    · exact Or.inl ⟨y2, y1, y3⟩
    · exact Or.inr ⟨y2, y1, y3⟩
  · obtain ⟨hn, B, hD, ⟨hZ1, hZ2⟩, hZ3⟩ := hZ
    have fB : ∀ (j : Nat) (x : Int), ¬ rmN j x → ¬ False → Z j x = B j x := fun j x j0 _ => hZ3 j x (by unfold fiM flM; unfold rmN at j0; omega)
    have fY : ∀ (j : Nat) (x : Int), ¬ rmN j x → ¬ rMh j x → Z j x = Y j x := fun j x j0 j1 => (fB j x j0 id).trans (hD.2 j x (by unfold dtM wtM; unfold rmN at j0; unfold rMh at j1; omega))
    have eT : rTx Y Z := rTx_of (fY 237 19 (by unfold rmN; omega) (by unfold rMh; omega)) (fY 237 102 (by unfold rmN; omega) (by unfold rMh; omega)) (fun j x j0 j1 => fY j x (by unfold rmN; omega) (by unfold rMh; omega))
    exact rmI_x hK ht hP.1 htr hn hD mkO_F eT fB ⟨sl, rWd_ag hW eT (fun j x hj => fY j x (by unfold rWo at hj; unfold rmN; omega) (by unfold rWo at hj; unfold rMh; omega))⟩ (by rw [hZ1, hZ2]; exact rVl_mo (hst fl hsf) eT)
  · rcases hq with ⟨y1, y2, y3⟩ | ⟨y1, y2, Z, hZ, y3⟩
    · exact Or.inl ⟨y2, y1, y3⟩
    · exact Or.inr ⟨hZ.1, y1, y2⟩)
theorem rni_241 {c fi fl : Int} {ho sh : Int} (h : rdR t kd ba gk gb es l ho wh sh K T sl L G Y) (hKR : KR 241 HT nT cs ms Y) (hwH : wHo cs ms os) (hX : w_X xs) (hm : (0 ≤ wh ∧ wh < (ms.length : Int)) ∧ (hmR ms wh).2.1 = 1) (htr : rTrc Y tr) (hg : arG K ba es ar) (hkd : 0 ≤ kd ∧ kd ≤ 6) (hb1 : kd = 1 → ba + 2 = K.1.length) (hff : ffA HT cs ms wh = fl) (hsf : isIf ms fl) (hgb : 0 ≤ gb ∧ gb < (T.length : Int)) (hg7 : (tO T gb).1 = 7 ∧ (tO T gb).2.2.1 = c) (hpl : fPl cs ms c fl fi) (hfr : 0 ≤ fi ∧ fi < ((tO T gb).2.2.2.2.2.2.length : Int)) (hty : (hmR ms wh).2.2.2.1 ≠ 0) : wJ (pe_GA xs) wY0 M (d + 9) t_M_actsOnHost ((pe_at t_M_actsOnHost.bl 0).getD (0, [])).2 [(0, (2, 237)), (1, (0, kd))] [] Y (fun o V => (100000 < (tr.length : Int) + 2 ∧ o = .inr 238 ∧ hZ 99 Y = V) ∨ ((tr.length : Int) + 2 ≤ 100000 ∧ o = .inl none ∧ rmO t K ba kd (gvA T gb fi) T L G wh es tr (fun _ _ => False) Y V)) := wJ_E (fun hE => by
  have h00 := h
  obtain ⟨⟨hP, hK, hW, ht⟩, hKl, ⟨hT, h82, hll⟩, ⟨h73, hba, h74, h75, h76⟩, h66, h69, h70, h71⟩ := h
  obtain ⟨hTh, hCa, -, ⟨hL8, h94⟩, -⟩ := id hW
  have k0 := hKl.1
  have hbb : 0 ≤ (ba : Int) ∧ (ba : Int) < (K.1.length : Int) := ⟨by omega, by omega⟩
  obtain ⟨p1, p2, p3, p4, p5⟩ := hpl
  obtain ⟨⟨-, -, -, y21, -⟩, ⟨b1, b2⟩, b3, b4, -⟩ := hTh.2 gb.toNat (by omega)
  rw [show ((gb.toNat : Nat) : Int) = gb by omega] at y21 b1 b3
  replace y21 : Y 321 gb = (if (tO T gb).1 = 7 then (tO T gb).2.2.1 else -1) := y21
  rw [if_pos hg7.1, hg7.2] at y21
  replace b2 : (sl gb.toNat).length = (tO T gb).2.2.2.2.2.2.length := b2
  replace b1 : Y 317 gb = ((tO T gb).2.2.2.2.2.2.length : Int) := b1
  obtain ⟨⟨z1, z2⟩, z3, z4⟩ := slot_v (hd := gb) (wh := fi) hW hgb h82 hfr
  refine wJ_mono (rmT_241 (d := d) (a := (gvA T gb fi)) (T2 := T) (mk := (fun _ _ => False)) (en := es) (tr := tr) (ER := fun Z => 100000 < (tr.length : Int) + 2 ∧ hZ 99 Y = Z) (RI := fun Z => (tr.length : Int) + 2 ≤ 100000 ∧ ∃ B : wS, dtR (tr.length : Int) wh es Y B ∧ (Z 237 110 = Y 325 ((sl gb.toNat).getD fi.toNat 0) ∧ Z 237 111 = Y 326 ((sl gb.toNat).getD fi.toNat 0)) ∧ ∀ (j : Nat) (x : Int), ¬ fiM j x → Z j x = B j x) h00 hKR hwH hm.1 (by have := hm.2; omega) hkd hb1 (mkO_F) (wJ_mono (rdr0_241 (d := d) (tn := (tr.length : Int)) (en := es) (c := c) (k := fi.toNat) (l := sl gb.toNat) (gb := gb) (es := []) (f := fl) (vk := Y 325 ((sl gb.toNat).getD fi.toNat 0)) (vb := Y 326 ((sl gb.toNat).getD fi.toNat 0)) hX hP.1 hKR hwH hm.1 hm.2 htr.1 ⟨by omega, htr.2.2⟩ h76 ⟨by have := hg.1.1; omega, by have := hg.1.2.1; omega⟩ hff hsf.1 hsf.2.2 (ir_E hE ⟨Or.inl (by first | decide | omega), by decide⟩ rfl z3.1 (by rw [ml_325 hP.1]; exact z3.2)) (s_lr hE hP.1 z3.1 z3.2) p1 p2 (by omega) p4 p5 h75 ⟨hgb.1, by omega⟩ y21 z2 (by omega) (hll _ (by omega)) rfl rfl hty) (fun o Z hz => ?_)) (fun Z hZ => ?_)) (fun o V hq => ?_)
  · rcases hz with ⟨y1, y2, y3⟩ | ⟨y1, y2, y3⟩
    · exact Or.inl ⟨y2, y1, y3⟩
    · exact Or.inr ⟨y2, y1, y3⟩
  · obtain ⟨hn, B, hD, ⟨hZ1, hZ2⟩, hZ3⟩ := hZ
    have fB : ∀ (j : Nat) (x : Int), ¬ rmN j x → ¬ False → Z j x = B j x := fun j x j0 _ => hZ3 j x (by unfold fiM flM; unfold rmN at j0; omega)
    have fY : ∀ (j : Nat) (x : Int), ¬ rmN j x → ¬ rMh j x → Z j x = Y j x := fun j x j0 j1 => (fB j x j0 id).trans (hD.2 j x (by unfold dtM wtM; unfold rmN at j0; unfold rMh at j1; omega))
    have eT : rTx Y Z := rTx_of (fY 237 19 (by unfold rmN; omega) (by unfold rMh; omega)) (fY 237 102 (by unfold rmN; omega) (by unfold rMh; omega)) (fun j x j0 j1 => fY j x (by unfold rmN; omega) (by unfold rMh; omega))
    exact rmI_x hK ht hP.1 htr hn hD mkO_F eT fB ⟨sl, rWd_ag hW eT (fun j x hj => fY j x (by unfold rWo at hj; unfold rmN; omega) (by unfold rWo at hj; unfold rMh; omega))⟩ (by rw [hZ1, hZ2]; exact rVl_mo z4 eT)
  · rcases hq with ⟨y1, y2, y3⟩ | ⟨y1, y2, Z, hZ, y3⟩
    · exact Or.inl ⟨y2, y1, y3⟩
    · exact Or.inr ⟨hZ.1, y1, y2⟩)
theorem rns_241 {fl : Int} {ho sh : Int} (h : rdR t kd ba gk gb es l ho wh sh K T sl L G Y) (hKR : KR 241 HT nT cs ms Y) (hwH : wHo cs ms os) (hX : w_X xs) (hm : (0 ≤ wh ∧ wh < (ms.length : Int)) ∧ (hmR ms wh).2.1 = 1) (htr : rTrc Y tr) (hg : arG K ba es ar) (hkd : 0 ≤ kd ∧ kd ≤ 6) (hb1 : kd = 1 → ba + 2 = K.1.length) (hff : ffA HT cs ms wh = fl) (hsf : isSf ms fl) (hst : rStc ms SF Y) (hty : (hmR ms wh).2.2.2.1 = 0) (hec : es = 1) : wJ (pe_GA xs) wY0 M (d + 9) t_M_actsOnHost ((pe_at t_M_actsOnHost.bl 0).getD (0, [])).2 [(0, (2, 237)), (1, (0, kd))] [] Y (fun o V => (100000 < (tr.length : Int) + 2 ∧ o = .inr 238 ∧ hZ 99 Y = V) ∨ ((tr.length : Int) + 2 ≤ 100000 ∧ o = .inl none ∧ rmO t K ba kd (0, 0, []) T L G wh es tr (rMg fl) Y V ∧ rStc ms (sfU SF fl (K.1.getD (ba + 1) (0, 0, []))) V)) := wJ_E (fun hE => by
  have h00 := h
  obtain ⟨⟨hP, hK, hW, ht⟩, hKl, ⟨hT, h82, hll⟩, ⟨h73, hba, h74, h75, h76⟩, h66, h69, h70, h71⟩ := h
  obtain ⟨hTh, hCa, -, ⟨hL8, h94⟩, -⟩ := id hW
  have k0 := hKl.1
  have hbb : 0 ≤ (ba : Int) ∧ (ba : Int) < (K.1.length : Int) := ⟨by omega, by omega⟩
  have hn4 := hKR.2.1.2.2.2
  have hf4 : fl < 400 := by have := hsf.1.2; omega
  have hf0 := hsf.1.1
  have hu1 : rVl Y (Y 363 (2100 * t + (ba : Int) + 1)) (Y 364 (2100 * t + (ba : Int) + 1)) (K.1.getD (ba + 1) (0, 0, [])) := by
    have z := hK.1.2 (ba + 1) (by have := hg.1; omega)
    rw [show 2100 * t + ((ba + 1 : Nat) : Int) = 2100 * t + (ba : Int) + 1 by omega] at z
    exact z
  have hb2 : ba + 1 < K.1.length := by have := hg.1; omega
  have hur : -2147483648 ≤ Y 363 (2100 * t + (ba : Int) + 1) ∧ Y 363 (2100 * t + (ba : Int) + 1) ≤ 2147483647 := ir_E hE ⟨Or.inl (by first | decide | omega), by decide⟩ rfl (by omega) (by rw [ml_363 hP.1]; omega)
  refine wJ_mono (rmT_241 (d := d) (a := (0, 0, [])) (T2 := T) (mk := (rMg fl)) (en := es) (tr := tr) (ER := fun Z => 100000 < (tr.length : Int) + 2 ∧ hZ 99 Y = Z) (RI := fun Z => (tr.length : Int) + 2 ≤ 100000 ∧ ∃ B : wS, dtR (tr.length : Int) wh es Y B ∧ isQ 0 0 (w_up (w_up B 340 fl (Y 363 (2100 * t + (ba : Int) + 1))) 341 fl (Y 364 (2100 * t + (ba : Int) + 1))) Z) h00 hKR hwH hm.1 (by have := hm.2; omega) hkd hb1 (fun j x z => by unfold rMg at z; omega) (wJ_mono (rdw1_241 (d := d) (tn := (tr.length : Int)) (en := es) (k := 0) (c := 0) (gb := 0) (es := []) (f := fl) (k1 := Y 363 (2100 * t + (ba : Int) + 1)) (v1 := Y 364 (2100 * t + (ba : Int) + 1)) hX hP.1 hKR hwH hm.1 hm.2 htr.1 ⟨by omega, htr.2.2⟩ h76 ⟨by have := hg.1.1; omega, by have := hg.1.2.1; omega⟩ hff hsf.1 hsf.2.2 h73 ⟨by omega, by omega⟩ rfl rfl hur (p_lr hE hP.1 (by omega) (by omega)) hty) (fun o Z hz => ?_)) (fun Z hZ => ?_)) (fun o V hq => ?_)
  · rcases hz with ⟨y1, y2, y3⟩ | ⟨y1, y2, y3⟩
    · exact Or.inl ⟨y2, y1, y3⟩
    · exact Or.inr ⟨y2, y1, y3⟩
  · obtain ⟨hn, B, hD, hZ1, hZ2, hZ3⟩ := hZ
    have fB : ∀ (j : Nat) (x : Int), ¬ rmN j x → ¬ rMg fl j x → Z j x = B j x := fun j x j0 j1 => (hZ3 j x (by unfold isM; unfold rmN at j0; omega)).trans ((w_up_no (by unfold rMg at j1; omega)).trans (w_up_no (by unfold rMg at j1; omega)))
    have fY : ∀ (j : Nat) (x : Int), ¬ rmN j x → ¬ rMh j x → ¬ rMg fl j x → Z j x = Y j x := fun j x j0 j1 j2 => (fB j x j0 j2).trans (hD.2 j x (by unfold dtM wtM; unfold rmN at j0; unfold rMh at j1; omega))
    have eT : rTx Y Z := rTx_of (fY 237 19 (by unfold rmN; omega) (by unfold rMh; omega) (by unfold rMg; omega)) (fY 237 102 (by unfold rmN; omega) (by unfold rMh; omega) (by unfold rMg; omega)) (fun j x j0 j1 => fY j x (by unfold rmN; omega) (by unfold rMh; omega) (by unfold rMg; omega))
    exact rmI_x hK ht hP.1 htr hn hD (fun j x z => by unfold rMg at z; omega) eT fB ⟨sl, rWd_ag hW eT (fun j x hj => fY j x (by unfold rWo at hj; unfold rmN; omega) (by unfold rWo at hj; unfold rMh; omega) (by unfold rWo at hj; unfold rMg; omega))⟩ (by rw [hZ1, hZ2]; exact rV_e (by first | decide | omega) rfl)
  · rcases hq with ⟨y1, y2, y3⟩ | ⟨y1, y2, Z, hZ, y3⟩
    · exact Or.inl ⟨y2, y1, y3⟩
    · exact Or.inr ⟨hZ.1, y1, y2, by
      obtain ⟨hn, B, hD, hZ1, hZ2, hZ3⟩ := hZ
      have fD : ∀ (j : Nat) (x : Int), j < 343 → (j ≠ 237 ∨ x < 105) → B j x = Y j x := fun j x j0 j1 => hD.2 j x (by unfold dtM wtM; omega)
      have xB : rTx Y B := rTx_of (fD 237 19 (by first | decide | omega) (by first | decide | omega)) (fD 237 102 (by first | decide | omega) (by first | decide | omega)) (fun j x j0 j1 => fD j x (by omega) (by omega))
      have s1 := rStc_w (m := fl) (rStc_ag hst xB (fun j x hj => fD j x (by omega) (by omega))) (rVl_mo hu1 xB)
      have s2 := rStc_ag (Z := Z) s1 (rTx_of (hZ3 237 19 (by unfold isM; omega)) (hZ3 237 102 (by unfold isM; omega)) (fun j x j0 j1 => hZ3 j x (by unfold isM; omega))) (fun j x hj => hZ3 j x (by unfold isM; omega))
      exact rStc_ag s2 (rTx_of (y3 237 19 (by first | decide | omega) (by first | decide | omega)) (y3 237 102 (by first | decide | omega) (by first | decide | omega)) (fun j x j0 j1 => y3 j x (by omega) (by omega))) (fun j x hj => y3 j x (by omega) (by omega))⟩)
theorem rnj_241 {c fi fl : Int} {ho sh : Int} (h : rdR t kd ba gk gb es l ho wh sh K T sl L G Y) (hKR : KR 241 HT nT cs ms Y) (hwH : wHo cs ms os) (hX : w_X xs) (hm : (0 ≤ wh ∧ wh < (ms.length : Int)) ∧ (hmR ms wh).2.1 = 1) (htr : rTrc Y tr) (hg : arG K ba es ar) (hkd : 0 ≤ kd ∧ kd ≤ 6) (hb1 : kd = 1 → ba + 2 = K.1.length) (hff : ffA HT cs ms wh = fl) (hsf : isIf ms fl) (hgb : 0 ≤ gb ∧ gb < (T.length : Int)) (hg7 : (tO T gb).1 = 7 ∧ (tO T gb).2.2.1 = c) (hpl : fPl cs ms c fl fi) (hfr : 0 ≤ fi ∧ fi < ((tO T gb).2.2.2.2.2.2.length : Int)) (hty : (hmR ms wh).2.2.2.1 = 0) (hec : es = 1) : wJ (pe_GA xs) wY0 M (d + 9) t_M_actsOnHost ((pe_at t_M_actsOnHost.bl 0).getD (0, [])).2 [(0, (2, 237)), (1, (0, kd))] [] Y (fun o V => (100000 < (tr.length : Int) + 2 ∧ o = .inr 238 ∧ hZ 99 Y = V) ∨ ((tr.length : Int) + 2 ≤ 100000 ∧ o = .inl none ∧ rmO t K ba kd (0, 0, []) (tSp T gb fi.toNat (K.1.getD (ba + 1) (0, 0, []))) L G wh es tr rMv Y V)) := wJ_E (fun hE => by
  have h00 := h
  obtain ⟨⟨hP, hK, hW, ht⟩, hKl, ⟨hT, h82, hll⟩, ⟨h73, hba, h74, h75, h76⟩, h66, h69, h70, h71⟩ := h
  obtain ⟨hTh, hCa, -, ⟨hL8, h94⟩, -⟩ := id hW
  have k0 := hKl.1
  have hbb : 0 ≤ (ba : Int) ∧ (ba : Int) < (K.1.length : Int) := ⟨by omega, by omega⟩
  obtain ⟨p1, p2, p3, p4, p5⟩ := hpl
  obtain ⟨⟨-, -, -, y21, -⟩, ⟨b1, b2⟩, b3, b4, -⟩ := hTh.2 gb.toNat (by omega)
  rw [show ((gb.toNat : Nat) : Int) = gb by omega] at y21 b1 b3
  replace y21 : Y 321 gb = (if (tO T gb).1 = 7 then (tO T gb).2.2.1 else -1) := y21
  rw [if_pos hg7.1, hg7.2] at y21
  replace b2 : (sl gb.toNat).length = (tO T gb).2.2.2.2.2.2.length := b2
  replace b1 : Y 317 gb = ((tO T gb).2.2.2.2.2.2.length : Int) := b1
  obtain ⟨⟨z1, z2⟩, z3, z4⟩ := slot_v (hd := gb) (wh := fi) hW hgb h82 hfr
  have hu1 : rVl Y (Y 363 (2100 * t + (ba : Int) + 1)) (Y 364 (2100 * t + (ba : Int) + 1)) (K.1.getD (ba + 1) (0, 0, [])) := by
    have z := hK.1.2 (ba + 1) (by have := hg.1; omega)
    rw [show 2100 * t + ((ba + 1 : Nat) : Int) = 2100 * t + (ba : Int) + 1 by omega] at z
    exact z
  have hb2 : ba + 1 < K.1.length := by have := hg.1; omega
  have hur : -2147483648 ≤ Y 363 (2100 * t + (ba : Int) + 1) ∧ Y 363 (2100 * t + (ba : Int) + 1) ≤ 2147483647 := ir_E hE ⟨Or.inl (by first | decide | omega), by decide⟩ rfl (by omega) (by rw [ml_363 hP.1]; omega)
  refine wJ_mono (rmT_241 (d := d) (a := (0, 0, [])) (T2 := (tSp T gb fi.toNat (K.1.getD (ba + 1) (0, 0, [])))) (mk := rMv) (en := es) (tr := tr) (ER := fun Z => 100000 < (tr.length : Int) + 2 ∧ hZ 99 Y = Z) (RI := fun Z => (tr.length : Int) + 2 ≤ 100000 ∧ ∃ B : wS, dtR (tr.length : Int) wh es Y B ∧ ∃ C : wS, (C 325 ((sl gb.toNat).getD fi.toNat 0) = Y 363 (2100 * t + (ba : Int) + 1) ∧ C 326 ((sl gb.toNat).getD fi.toNat 0) = Y 364 (2100 * t + (ba : Int) + 1)) ∧ (∀ (j : Nat) (x : Int), ¬ (flM j x ∨ ((j = 325 ∨ j = 326) ∧ x = ((sl gb.toNat).getD fi.toNat 0))) → C j x = B j x) ∧ isQ 0 0 C Z) h00 hKR hwH hm.1 (by have := hm.2; omega) hkd hb1 (fun j x z => by unfold rMv at z; omega) (wJ_mono (rdw0_241 (d := d) (tn := (tr.length : Int)) (en := es) (c := c) (k := fi.toNat) (l := sl gb.toNat) (gb := gb) (es := []) (f := fl) (k1 := Y 363 (2100 * t + (ba : Int) + 1)) (v1 := Y 364 (2100 * t + (ba : Int) + 1)) hX hP.1 hKR hwH hm.1 hm.2 htr.1 ⟨by omega, htr.2.2⟩ h76 ⟨by have := hg.1.1; omega, by have := hg.1.2.1; omega⟩ hff hsf.1 hsf.2.2 h73 ⟨by omega, by omega⟩ rfl rfl hur (p_lr hE hP.1 (by omega) (by omega)) p1 p2 (by omega) p4 p5 h75 ⟨hgb.1, by omega⟩ y21 z2 (by omega) (hll _ (by omega)) hty) (fun o Z hz => ?_)) (fun Z hZ => ?_)) (fun o V hq => ?_)
  · rcases hz with ⟨y1, y2, y3⟩ | ⟨y1, y2, y3⟩
    · exact Or.inl ⟨y2, y1, y3⟩
    · exact Or.inr ⟨y2, y1, y3⟩
  · obtain ⟨hn, B, hD, C, ⟨q2, q3⟩, q4, hZ1, hZ2, hZ3⟩ := hZ
    have fB : ∀ (j : Nat) (x : Int), ¬ rmN j x → ¬ rMv j x → Z j x = B j x := fun j x j0 j1 => (hZ3 j x (by unfold isM; unfold rmN at j0; omega)).trans (q4 j x (by unfold flM; unfold rmN at j0; unfold rMv at j1; omega))
    have fY : ∀ (j : Nat) (x : Int), ¬ rmN j x → ¬ rMh j x → ¬ rMv j x → Z j x = Y j x := fun j x j0 j1 j2 => (fB j x j0 j2).trans (hD.2 j x (by unfold dtM wtM; unfold rmN at j0; unfold rMh at j1; omega))
    have eT : rTx Y Z := rTx_of (fY 237 19 (by unfold rmN; omega) (by unfold rMh; omega) (by unfold rMv; omega)) (fY 237 102 (by unfold rmN; omega) (by unfold rMh; omega) (by unfold rMv; omega)) (fun j x j0 j1 => fY j x (by unfold rmN; omega) (by unfold rMh; omega) (by unfold rMv; omega))
    have fD : ∀ (j : Nat) (x : Int), j < 343 → (j ≠ 237 ∨ x < 105) → B j x = Y j x := fun j x j0 j1 => hD.2 j x (by unfold dtM wtM; omega)
    have hWA := rWd_sp (k := gb) (i := fi.toNat) hW hgb.1 hgb.2 (by omega) hu1
    have fW : ∀ (j : Nat) (x : Int), j < 343 → (j ≠ 237 ∨ x < 105) → Z j x = (w_up (w_up Y 325 ((sl gb.toNat).getD fi.toNat 0) (Y 363 (2100 * t + (ba : Int) + 1))) 326 ((sl gb.toNat).getD fi.toNat 0) (Y 364 (2100 * t + (ba : Int) + 1))) j x := fun j x j0 j1 => by
      refine (hZ3 j x (by unfold isM; omega)).trans ?_
      by_cases c5 : j = 325 ∧ x = ((sl gb.toNat).getD fi.toNat 0)
      · rw [c5.1, c5.2, q2]
        exact ((w_up_slot (by first | decide | omega)).trans (w_up_same _ _ _ _)).symm
      · by_cases c6 : j = 326 ∧ x = ((sl gb.toNat).getD fi.toNat 0)
        · rw [c6.1, c6.2, q3]
          exact (w_up_same _ _ _ _).symm
        · rw [w_up_no c6, w_up_no c5]
          exact (q4 j x (by unfold flM; omega)).trans (fD j x j0 j1)
    exact rmI_x hK ht hP.1 htr hn hD (fun j x z => by unfold rMv at z; omega) eT fB ⟨sl, rWd_ag hWA (rTx_of (fW 237 19 (by first | decide | omega) (by first | decide | omega)) (fW 237 102 (by first | decide | omega) (by first | decide | omega)) (fun j x j0 j1 => fW j x (by omega) (by omega))) (fun j x hj => fW j x (by unfold rWo at hj; omega) (by unfold rWo at hj; omega))⟩ (by rw [hZ1, hZ2]; exact rV_e (by first | decide | omega) rfl)
  · rcases hq with ⟨y1, y2, y3⟩ | ⟨y1, y2, Z, hZ, y3⟩
    · exact Or.inl ⟨y2, y1, y3⟩
    · exact Or.inr ⟨hZ.1, y1, y2⟩)
theorem rmT_261 {ho sh : Int} (h : rdR t kd ba gk gb es l ho wh sh K T sl L G Y) (hKR : KR 261 HT nT cs ms Y) (hwH : wHo cs ms os) (hwh : 0 ≤ wh ∧ wh < (ms.length : Int)) (hso : (hmR ms wh).2.1 ≠ 0) (hkd : 0 ≤ kd ∧ kd ≤ 6) (hb1 : kd = 1 → ba + 2 = K.1.length) (hmk : mkO mk) (hdm : wJ (pe_GA xs) wY0 (fun _ => False) (d + 8) t_M_doesMember ((pe_at t_M_doesMember.bl 0).getD (0, [])).2 [(0, (2, 237)), (1, (0, wh))] [] Y (fun o Z => (o = .inr 238 ∧ ER Z) ∨ (o = .inl none ∧ RI Z))) (hRI : ∀ Z : wS, RI Z → rmI t K T2 L G a wh en tr mk Y Z) : wJ (pe_GA xs) wY0 M (d + 9) t_M_actsOnHost ((pe_at t_M_actsOnHost.bl 0).getD (0, [])).2 [(0, (2, 237)), (1, (0, kd))] [] Y (fun o V => (o = .inr 238 ∧ ER V) ∨ (o = .inl none ∧ rmO t K ba kd a T2 L G wh en tr mk Y V ∧ ∃ Z : wS, RI Z ∧ ∀ (j : Nat) (x : Int), j < 357 → (j ≠ 237 ∨ (x ≠ 110 ∧ x ≠ 111)) → V j x = Z j x)) := by
  obtain ⟨⟨hP, hK, hW, ht⟩, hKl, ⟨hT, h82, hll⟩, ⟨h73, hba, h74, h75, h76⟩, h66, h69, h70, h71⟩ := h
  obtain ⟨hTh, hCa, -, ⟨hL8, h94⟩, -⟩ := id hW
  have k0 := hKl.1
  have hbb : 0 ≤ (ba : Int) ∧ (ba : Int) < (K.1.length : Int) := ⟨by omega, by omega⟩
  refine rhm_261 (d := d) (R := RI) (ky := Y 363 (2100 * t + (ba : Int) + 1)) (vy := Y 364 (2100 * t + (ba : Int) + 1)) hP.1 hKR hwH hP h73 hbb h70 hwh hso hkd (wJ_mono hdm (fun o Z hz => ?_)) (fun Z hZ => ?_)
  · rcases hz with ⟨z1, z2⟩ | z
    · exact Or.inl ⟨z1, Or.inl ⟨rfl, z2⟩⟩
    · exact Or.inr z
  · obtain ⟨z1, z2, z3, z4, z5, z6, z7⟩ := hRI Z hZ
    have f2 : ∀ (j : Nat) (x : Int), ((357 ≤ j ∧ j ≠ 386) ∨ (j = 237 ∧ 140 ≤ x)) → Z j x = Y j x := fun j x hj => z7 j x (by unfold rmN; omega) (by unfold rMh; omega) (fun z => by have := hmk j x z; omega)
    refine ⟨mP_ag hP z1 (fun j x hj => f2 j x (by omega)), (f2 237 173 (by omega)).trans h73, fun hk => ?_, fun hk => ?_⟩
    · have hb := hb1 hk
      have hu : rVl Y (Y 363 (2100 * t + (ba : Int) + 1)) (Y 364 (2100 * t + (ba : Int) + 1)) (K.1.getD (K.1.length - 1) (0, 0, [])) := by
        have z := hK.1.2 (ba + 1) (by omega)
        rw [show 2100 * t + ((ba + 1 : Nat) : Int) = 2100 * t + (ba : Int) + 1 by omega, show ba + 1 = K.1.length - 1 by omega] at z
        exact z
      refine ⟨⟨f2 363 _ (by omega), f2 364 _ (by omega)⟩, by omega, Or.inr ⟨rfl, ?_, Z, hZ, fun j x j0 j1 => (gvX j x j0).trans ((w_up_no (by omega)).trans (w_up_no (by omega)))⟩⟩
      have eX : rTx Z (w_up (w_up Z 237 110 (Y 363 (2100 * t + (ba : Int) + 1))) 237 111 (Y 364 (2100 * t + (ba : Int) + 1))) := rTx_of rfl rfl (fun j x j0 j1 => (w_up_slot (by omega)).trans (w_up_slot (by omega)))
      unfold rmO
      rw [if_pos hk]
      refine rmV (rTk_fr z2 eX (fun j x j0 j1 => (w_up_slot (by omega)).trans (w_up_slot (by omega)))) ht hKl hba ?_ (rVl_mo hu (rTx_tr z6 eX)) (rTrc_ag z5 (fun x => (w_up_slot (by omega)).trans (w_up_slot (by omega))) ((w_up_at (by first | decide | omega)).trans (w_up_at (by first | decide | omega)))) (fun j x j0 j1 j2 => ((w_up_no (by unfold rmN at j0; omega)).trans (w_up_no (by unfold rmN at j0; omega))).trans (z7 j x j0 j1 j2))
      obtain ⟨sl2, hW2⟩ := z3
      exact ⟨sl2, rWd_up (rWd_up hW2 (by omega)) (by omega)⟩
    · refine Or.inr ⟨rfl, ?_, Z, hZ, fun j x j0 j1 => gvX j x j0⟩
      unfold rmO
      rw [if_neg hk]
      exact rmV z2 ht hKl hba z3 z4 z5 z7
theorem rnv_261 {ho sh : Int} (h : rdR t kd ba gk gb es l ho wh sh K T sl L G Y) (hKR : KR 261 HT nT cs ms Y) (hwH : wHo cs ms os) (hX : w_X xs) (hm : (0 ≤ wh ∧ wh < (ms.length : Int)) ∧ (hmR ms wh).2.1 = 1) (htr : rTrc Y tr) (hg : arG K ba es ar) (hkd : 0 ≤ kd ∧ kd ≤ 6) (hb1 : kd = 1 → ba + 2 = K.1.length) (hff : ffA HT cs ms wh = -1) (hav : ∀ u ∈ ar, vOk T u ∧ (u.1 = 7 → (tO T u.2.1).2.2.1 < (cs.length : Int))) (hty : (hmR ms wh).2.2.2.1 = 0) : wJ (pe_GA xs) wY0 M (d + 9) t_M_actsOnHost ((pe_at t_M_actsOnHost.bl 0).getD (0, [])).2 [(0, (2, 237)), (1, (0, kd))] [] Y (fun o V => (100000 < (tr.length : Int) + 2 ∧ o = .inr 238 ∧ hZ 99 Y = V) ∨ ((tr.length : Int) + 2 ≤ 100000 ∧ o = .inl none ∧ rmO t K ba kd (0, 0, []) T L G wh es tr (fun _ _ => False) Y V)) := wJ_E (fun hE => by
  have h00 := h
  obtain ⟨⟨hP, hK, hW, ht⟩, hKl, ⟨hT, h82, hll⟩, ⟨h73, hba, h74, h75, h76⟩, h66, h69, h70, h71⟩ := h
  obtain ⟨hTh, hCa, -, ⟨hL8, h94⟩, -⟩ := id hW
  have k0 := hKl.1
  have hbb : 0 ≤ (ba : Int) ∧ (ba : Int) < (K.1.length : Int) := ⟨by omega, by omega⟩
  refine wJ_mono (rmT_261 (d := d) (a := (0, 0, [])) (T2 := T) (mk := (fun _ _ => False)) (en := es) (tr := tr) (ER := fun Z => 100000 < (tr.length : Int) + 2 ∧ hZ 99 Y = Z) (RI := fun Z => (tr.length : Int) + 2 ≤ 100000 ∧ ∃ B : wS, dtR (tr.length : Int) wh es Y B ∧ isQ 0 0 B Z) h00 hKR hwH hm.1 (by have := hm.2; omega) hkd hb1 (mkO_F) (wJ_mono (rdv_261 (d := d) (tn := (tr.length : Int)) (en := es) (k := 0) (es := (pEs Y 363 364 (2100 * t + (ba : Int) + 1) ar.length)) hX hP.1 hKR hwH hm.1 hm.2 htr.1 ⟨by omega, htr.2.2⟩ h76 ⟨by have := hg.1.1; omega, by have := hg.1.2.1; omega⟩ hff rfl h73 (by rw [pEs_l]; exact hg.1.1.symm) ⟨by omega, by rw [pEs_l]; have := hg.1.2.2; omega⟩ (fun i hi => by rw [pEs_l] at hi; rw [pEs_g hi]; exact ⟨rfl, rfl⟩) (fun i hi => by rw [pEs_l] at hi; rw [pEs_g hi]; have z := ar_r hK hg hi; rw [show (Y 363 (2100 * t + (ba : Int) + 1 + (i : Int)), Y 364 (2100 * t + (ba : Int) + 1 + (i : Int))).1 = Y 363 (2100 * t + (ba : Int) + 1 + (i : Int)) from rfl, z.1]; exact (hav _ (show ar.getD i (0, 0, []) ∈ ar by rw [List.getD_eq_getElem?_getD, List.getElem?_eq_getElem hi]; exact List.getElem_mem _)).1.1) hty) (fun o Z hz => ?_)) (fun Z hZ => ?_)) (fun o V hq => ?_)
  · rcases hz with ⟨y1, y2, y3⟩ | ⟨y1, y2, y3⟩
    · exact Or.inl ⟨y2, y1, y3⟩
    · exact Or.inr ⟨y2, y1, y3⟩
  · obtain ⟨hn, B, hD, hZ1, hZ2, hZ3⟩ := hZ
    have fB : ∀ (j : Nat) (x : Int), ¬ rmN j x → ¬ False → Z j x = B j x := fun j x j0 _ => hZ3 j x (by unfold isM; unfold rmN at j0; omega)
    have fY : ∀ (j : Nat) (x : Int), ¬ rmN j x → ¬ rMh j x → Z j x = Y j x := fun j x j0 j1 => (fB j x j0 id).trans (hD.2 j x (by unfold dtM wtM; unfold rmN at j0; unfold rMh at j1; omega))
    have eT : rTx Y Z := rTx_of (fY 237 19 (by unfold rmN; omega) (by unfold rMh; omega)) (fY 237 102 (by unfold rmN; omega) (by unfold rMh; omega)) (fun j x j0 j1 => fY j x (by unfold rmN; omega) (by unfold rMh; omega))
    exact rmI_x hK ht hP.1 htr hn hD mkO_F eT fB ⟨sl, rWd_ag hW eT (fun j x hj => fY j x (by unfold rWo at hj; unfold rmN; omega) (by unfold rWo at hj; unfold rMh; omega))⟩ (by rw [hZ1, hZ2]; exact rVl_mo (rV_e (by first | decide | omega) rfl) eT)
  · rcases hq with ⟨y1, y2, y3⟩ | ⟨y1, y2, Z, hZ, y3⟩
    · exact Or.inl ⟨y2, y1, y3⟩
    · exact Or.inr ⟨hZ.1, y1, y2⟩)
theorem rnb_261 {ho sh : Int} (h : rdR t kd ba gk gb es l ho wh sh K T sl L G Y) (hKR : KR 261 HT nT cs ms Y) (hwH : wHo cs ms os) (hX : w_X xs) (hm : (0 ≤ wh ∧ wh < (ms.length : Int)) ∧ (hmR ms wh).2.1 = 1) (htr : rTrc Y tr) (hg : arG K ba es ar) (hkd : 0 ≤ kd ∧ kd ≤ 6) (hb1 : kd = 1 → ba + 2 = K.1.length) (hff : ffA HT cs ms wh = -1) (hav : ∀ u ∈ ar, vOk T u ∧ (u.1 = 7 → (tO T u.2.1).2.2.1 < (cs.length : Int))) (hty : 1 ≤ (hmR ms wh).2.2.2.1 ∧ (hmR ms wh).2.2.2.1 ≤ 6) : wJ (pe_GA xs) wY0 M (d + 9) t_M_actsOnHost ((pe_at t_M_actsOnHost.bl 0).getD (0, [])).2 [(0, (2, 237)), (1, (0, kd))] [] Y (fun o V => (100000 < (tr.length : Int) + 2 ∧ o = .inr 238 ∧ hZ 99 Y = V) ∨ ((tr.length : Int) + 2 ≤ 100000 ∧ o = .inl none ∧ rmO t K ba kd (anK (hmR ms wh).2.2.2.1, anB (hmR ms wh).2.2.2.1 (anS wh (aEs ar)), []) T L G wh es tr (fun _ _ => False) Y V)) := wJ_E (fun hE => by
  have h00 := h
  obtain ⟨⟨hP, hK, hW, ht⟩, hKl, ⟨hT, h82, hll⟩, ⟨h73, hba, h74, h75, h76⟩, h66, h69, h70, h71⟩ := h
  obtain ⟨hTh, hCa, -, ⟨hL8, h94⟩, -⟩ := id hW
  have k0 := hKl.1
  have hbb : 0 ≤ (ba : Int) ∧ (ba : Int) < (K.1.length : Int) := ⟨by omega, by omega⟩
  have eS : anS wh (pEs Y 363 364 (2100 * t + (ba : Int) + 1) ar.length) = anS wh (aEs ar) := anS_cg _ _ _ (by rw [pEs_l]; unfold aEs; rw [List.length_map]) (fun i hi => by
    rw [pEs_l] at hi
    have z := ar_r hK hg hi
    rw [pEs_g hi]
    have e : (aEs ar).getD i (0, 0) = ((ar.getD i (0, 0, [])).1, (ar.getD i (0, 0, [])).2.1) := by
      unfold aEs
      rw [List.getD_eq_getElem?_getD, List.getElem?_map, List.getD_eq_getElem?_getD, List.getElem?_eq_getElem hi]
      rfl
    rw [e]
    exact ⟨z.1, fun c => (z.2.1 (by have := z.1; replace c : Y 363 (2100 * t + (ba : Int) + 1 + (i : Int)) = 2 := c; omega)).1⟩)
  refine wJ_mono (rmT_261 (d := d) (a := (anK (hmR ms wh).2.2.2.1, anB (hmR ms wh).2.2.2.1 (anS wh (aEs ar)), [])) (T2 := T) (mk := (fun _ _ => False)) (en := es) (tr := tr) (ER := fun Z => 100000 < (tr.length : Int) + 2 ∧ hZ 99 Y = Z) (RI := fun Z => (tr.length : Int) + 2 ≤ 100000 ∧ ∃ B : wS, dtR (tr.length : Int) wh es Y B ∧ isQ (anK (hmR ms wh).2.2.2.1) (anB (hmR ms wh).2.2.2.1 (anS wh (pEs Y 363 364 (2100 * t + (ba : Int) + 1) ar.length))) B Z) h00 hKR hwH hm.1 (by have := hm.2; omega) hkd hb1 (mkO_F) (wJ_mono (rdn_261 (d := d) (tn := (tr.length : Int)) (en := es) (k := 0) (es := (pEs Y 363 364 (2100 * t + (ba : Int) + 1) ar.length)) hX hP.1 hKR hwH hm.1 hm.2 htr.1 ⟨by omega, htr.2.2⟩ h76 ⟨by have := hg.1.1; omega, by have := hg.1.2.1; omega⟩ hff rfl h73 (by rw [pEs_l]; exact hg.1.1.symm) ⟨by omega, by rw [pEs_l]; have := hg.1.2.2; omega⟩ (fun i hi => by rw [pEs_l] at hi; rw [pEs_g hi]; exact ⟨rfl, rfl⟩) (fun i hi => by rw [pEs_l] at hi; rw [pEs_g hi]; have z := ar_r hK hg hi; rw [show (Y 363 (2100 * t + (ba : Int) + 1 + (i : Int)), Y 364 (2100 * t + (ba : Int) + 1 + (i : Int))).1 = Y 363 (2100 * t + (ba : Int) + 1 + (i : Int)) from rfl, z.1]; exact (hav _ (show ar.getD i (0, 0, []) ∈ ar by rw [List.getD_eq_getElem?_getD, List.getElem?_eq_getElem hi]; exact List.getElem_mem _)).1.1) rfl hty) (fun o Z hz => ?_)) (fun Z hZ => ?_)) (fun o V hq => ?_)
  · rcases hz with ⟨y1, y2, y3⟩ | ⟨y1, y2, y3⟩
    · exact Or.inl ⟨y2, y1, y3⟩
    · exact Or.inr ⟨y2, y1, y3⟩
  · obtain ⟨hn, B, hD, hZ1, hZ2, hZ3⟩ := hZ
    have fB : ∀ (j : Nat) (x : Int), ¬ rmN j x → ¬ False → Z j x = B j x := fun j x j0 _ => hZ3 j x (by unfold isM; unfold rmN at j0; omega)
    have fY : ∀ (j : Nat) (x : Int), ¬ rmN j x → ¬ rMh j x → Z j x = Y j x := fun j x j0 j1 => (fB j x j0 id).trans (hD.2 j x (by unfold dtM wtM; unfold rmN at j0; unfold rMh at j1; omega))
    have eT : rTx Y Z := rTx_of (fY 237 19 (by unfold rmN; omega) (by unfold rMh; omega)) (fY 237 102 (by unfold rmN; omega) (by unfold rMh; omega)) (fun j x j0 j1 => fY j x (by unfold rmN; omega) (by unfold rMh; omega))
    exact rmI_x hK ht hP.1 htr hn hD mkO_F eT fB ⟨sl, rWd_ag hW eT (fun j x hj => fY j x (by unfold rWo at hj; unfold rmN; omega) (by unfold rWo at hj; unfold rMh; omega))⟩ (by rw [hZ1, hZ2]; exact rVl_mo (show rVl Y (anK (hmR ms wh).2.2.2.1) (anB (hmR ms wh).2.2.2.1 (anS wh (pEs Y 363 364 (2100 * t + (ba : Int) + 1) ar.length))) (anK (hmR ms wh).2.2.2.1, anB (hmR ms wh).2.2.2.1 (anS wh (aEs ar)), []) by rw [eS]; exact rV_e (by unfold anK; split <;> decide) rfl) eT)
  · rcases hq with ⟨y1, y2, y3⟩ | ⟨y1, y2, Z, hZ, y3⟩
    · exact Or.inl ⟨y2, y1, y3⟩
    · exact Or.inr ⟨hZ.1, y1, y2⟩)
theorem rnt_261 {ho sh : Int} (h : rdR t kd ba gk gb es l ho wh sh K T sl L G Y) (hKR : KR 261 HT nT cs ms Y) (hwH : wHo cs ms os) (hX : w_X xs) (hm : (0 ≤ wh ∧ wh < (ms.length : Int)) ∧ (hmR ms wh).2.1 = 1) (htr : rTrc Y tr) (hg : arG K ba es ar) (hkd : 0 ≤ kd ∧ kd ≤ 6) (hb1 : kd = 1 → ba + 2 = K.1.length) (hff : ffA HT cs ms wh = -1) (hav : ∀ u ∈ ar, vOk T u ∧ (u.1 = 7 → (tO T u.2.1).2.2.1 < (cs.length : Int))) (hty : 8 ≤ (hmR ms wh).2.2.2.1 ∧ (hmR ms wh).2.2.2.1 < 9 + (cs.length : Int)) (hsb : ((hmR ms wh).2.2.1 = 0 ∧ gk = 7) ∨ ((hmR ms wh).2.2.1 ≠ 0 ∧ gk ≠ 7)) (hgv : rVl Y gk gb (K.1.getD ba (0, 0, []))) (hgr : -9223372036854775808 ≤ gb ∧ gb ≤ 9223372036854775807) (hrv : vOk T (K.1.getD ba (0, 0, [])) ∧ ((K.1.getD ba (0, 0, [])).1 = 7 → (tO T (K.1.getD ba (0, 0, [])).2.1).2.2.1 < (cs.length : Int))) : wJ (pe_GA xs) wY0 M (d + 9) t_M_actsOnHost ((pe_at t_M_actsOnHost.bl 0).getD (0, [])).2 [(0, (2, 237)), (1, (0, kd))] [] Y (fun o V => (100000 < (tr.length : Int) + 2 ∧ o = .inr 238 ∧ hZ 99 Y = V) ∨ ((tr.length : Int) + 2 ≤ 100000 ∧ o = .inl none ∧ rmO t K ba kd (anV cs T (hmR ms wh).2.2.1 (hmR ms wh).2.2.2.1 (K.1.getD ba (0, 0, [])) ar) T L G wh es tr (fun _ _ => False) Y V)) := wJ_E (fun hE => by
  have h00 := h
  obtain ⟨⟨hP, hK, hW, ht⟩, hKl, ⟨hT, h82, hll⟩, ⟨h73, hba, h74, h75, h76⟩, h66, h69, h70, h71⟩ := h
  obtain ⟨hTh, hCa, -, ⟨hL8, h94⟩, -⟩ := id hW
  have k0 := hKl.1
  have hbb : 0 ≤ (ba : Int) ∧ (ba : Int) < (K.1.length : Int) := ⟨by omega, by omega⟩
  have th21 : ∀ u : aV, vOk T u → u.1 = 7 → Y 321 u.2.1 = (tO T u.2.1).2.2.1 := fun u o c7 => by
    obtain ⟨x1, x2⟩ := o.2.1 (by omega) (by omega)
    obtain ⟨⟨-, -, -, y3, -⟩, -⟩ := hTh.2 u.2.1.toNat (by omega)
    rw [show ((u.2.1.toNat : Nat) : Int) = u.2.1 by omega] at y3
    replace y3 : Y 321 u.2.1 = (if (tO T u.2.1).1 = 7 then (tO T u.2.1).2.2.1 else -1) := y3
    rw [if_pos (x2.trans c7)] at y3
    exact y3
  have suE : ∀ (k b : Int) (u : aV), rVl Y k b u → vOk T u → suB cs Y k b (hmR ms wh).2.2.2.1 = (decide (u.1 ≠ 0) && isA cs T (hmR ms wh).2.2.2.1 u) := fun k b u z o => by
    unfold suB isA
    rw [z.1]
    by_cases c8 : (hmR ms wh).2.2.2.1 = 8
    · rw [if_pos c8, decide_eq_true c8, Bool.true_or, Bool.and_true]
    · rw [if_neg c8, decide_eq_false c8, Bool.false_or]
      by_cases c7 : u.1 = 7
      · have eb := (z.2.1 (by omega)).1
        rw [eb, th21 u o c7, c7]
        rfl
      · rw [decide_eq_false c7, Bool.false_and, Bool.false_and, Bool.and_false]
  have hval : rVl Y (anR cs Y (hmR ms wh).2.2.2.1 gk gb (pEs Y 363 364 (2100 * t + (ba : Int) + 1) ar.length)).1 (anR cs Y (hmR ms wh).2.2.2.1 gk gb (pEs Y 363 364 (2100 * t + (ba : Int) + 1) ar.length)).2 (anV cs T (hmR ms wh).2.2.1 (hmR ms wh).2.2.2.1 (K.1.getD ba (0, 0, [])) ar) := by
    unfold anR anV
    have hfd : rVl Y (((pEs Y 363 364 (2100 * t + (ba : Int) + 1) ar.length).find? (fun e => suB cs Y e.1 e.2 (hmR ms wh).2.2.2.1)).getD (0, 0)).1 (((pEs Y 363 364 (2100 * t + (ba : Int) + 1) ar.length).find? (fun e => suB cs Y e.1 e.2 (hmR ms wh).2.2.2.1)).getD (0, 0)).2 ((ar.find? (fun u => decide (u.1 ≠ 0) && isA cs T (hmR ms wh).2.2.2.1 u)).getD (0, 0, [])) := by
      refine find_rEs ar (2100 * t + (ba : Int) + 1) (fun i hi => ?_)
      have z := ar_r hK hg hi
      exact ⟨z, suE _ _ _ z (hav _ (show ar.getD i (0, 0, []) ∈ ar by rw [List.getD_eq_getElem?_getD, List.getElem?_eq_getElem hi]; exact List.getElem_mem _)).1⟩
    rcases hsb with ⟨s1, s2⟩ | ⟨s1, s2⟩
    · have e7 : suB cs Y 7 gb (hmR ms wh).2.2.2.1 = isA cs T (hmR ms wh).2.2.2.1 (K.1.getD ba (0, 0, [])) := by
        have z := suE gk gb _ hgv hrv.1
        rw [s2] at z
        rw [z, decide_eq_true (show (K.1.getD ba (0, 0, [])).1 ≠ 0 by rw [← hgv.1, s2]; decide), Bool.true_and]
      rw [e7]
      by_cases c : isA cs T (hmR ms wh).2.2.2.1 (K.1.getD ba (0, 0, [])) = true
      · rw [if_pos ⟨s2, c⟩, if_pos ⟨s1, c⟩]
        exact hgv
      · rw [if_neg (fun z => c z.2), if_neg (fun z => c z.2)]
        exact hfd
    · rw [if_neg (fun z => by omega), if_neg (fun z => s1 z.1)]
      exact hfd
  refine wJ_mono (rmT_261 (d := d) (a := (anV cs T (hmR ms wh).2.2.1 (hmR ms wh).2.2.2.1 (K.1.getD ba (0, 0, [])) ar)) (T2 := T) (mk := (fun _ _ => False)) (en := es) (tr := tr) (ER := fun Z => 100000 < (tr.length : Int) + 2 ∧ hZ 99 Y = Z) (RI := fun Z => (tr.length : Int) + 2 ≤ 100000 ∧ ∃ B : wS, dtR (tr.length : Int) wh es Y B ∧ isQ (anR cs Y (hmR ms wh).2.2.2.1 gk gb (pEs Y 363 364 (2100 * t + (ba : Int) + 1) ar.length)).1 (anR cs Y (hmR ms wh).2.2.2.1 gk gb (pEs Y 363 364 (2100 * t + (ba : Int) + 1) ar.length)).2 B Z) h00 hKR hwH hm.1 (by have := hm.2; omega) hkd hb1 (mkO_F) (wJ_mono (rdt_261 (d := d) (tn := (tr.length : Int)) (en := es) (k := 0) (es := (pEs Y 363 364 (2100 * t + (ba : Int) + 1) ar.length)) (gk := gk) (gb := gb) hX hP.1 hKR hwH hm.1 hm.2 htr.1 ⟨by omega, htr.2.2⟩ h76 ⟨by have := hg.1.1; omega, by have := hg.1.2.1; omega⟩ hff rfl h73 (by rw [pEs_l]; exact hg.1.1.symm) ⟨by omega, by rw [pEs_l]; have := hg.1.2.2; omega⟩ (fun i hi => by rw [pEs_l] at hi; rw [pEs_g hi]; exact ⟨rfl, rfl⟩) (fun i hi => by rw [pEs_l] at hi; rw [pEs_g hi]; have z := ar_r hK hg hi; rw [show (Y 363 (2100 * t + (ba : Int) + 1 + (i : Int)), Y 364 (2100 * t + (ba : Int) + 1 + (i : Int))).1 = Y 363 (2100 * t + (ba : Int) + 1 + (i : Int)) from rfl, z.1]; exact (hav _ (show ar.getD i (0, 0, []) ∈ ar by rw [List.getD_eq_getElem?_getD, List.getElem?_eq_getElem hi]; exact List.getElem_mem _)).1.1) rfl h74 h75 (by rw [hgv.1]; exact hrv.1.1) hgr (fun c => by
        have c7 : (K.1.getD ba (0, 0, [])).1 = 7 := hgv.1.symm.trans c
        have eb := (hgv.2.1 (by omega)).1
        obtain ⟨x1, x2⟩ := hrv.1.2.1 (by omega) (by omega)
        rw [eb, th21 _ hrv.1 c7]
        exact ⟨x1.1, by omega, (hrv.1.2.2.2.1 c7).1, hrv.2 c7⟩) hty (fun i hi => by
        rw [pEs_l] at hi
        rw [pEs_g hi]
        have z := ar_r hK hg hi
        have hh := hg.1.2.2
        refine ⟨p_lr hE hP.1 (by omega) (by omega), fun c => ?_⟩
        replace c : Y 363 (2100 * t + (ba : Int) + 1 + (i : Int)) = 7 := c
        obtain ⟨o1, o2⟩ := hav _ (show ar.getD i (0, 0, []) ∈ ar by rw [List.getD_eq_getElem?_getD, List.getElem?_eq_getElem hi]; exact List.getElem_mem _)
        have c7 : (ar.getD i (0, 0, [])).1 = 7 := z.1.symm.trans c
        have eb := (z.2.1 (by omega)).1
        obtain ⟨x1, x2⟩ := o1.2.1 (by omega) (by omega)
        show 0 ≤ Y 364 _ ∧ Y 364 _ < _ ∧ 0 ≤ Y 321 (Y 364 _) ∧ Y 321 (Y 364 _) < _
        rw [eb, th21 _ o1 c7]
        exact ⟨x1.1, by omega, (o1.2.2.2.1 c7).1, o2 c7⟩)) (fun o Z hz => ?_)) (fun Z hZ => ?_)) (fun o V hq => ?_)
  · rcases hz with ⟨y1, y2, y3⟩ | ⟨y1, y2, y3⟩
    · exact Or.inl ⟨y2, y1, y3⟩
    · exact Or.inr ⟨y2, y1, y3⟩
  · obtain ⟨hn, B, hD, hZ1, hZ2, hZ3⟩ := hZ
    have fB : ∀ (j : Nat) (x : Int), ¬ rmN j x → ¬ False → Z j x = B j x := fun j x j0 _ => hZ3 j x (by unfold isM; unfold rmN at j0; omega)
    have fY : ∀ (j : Nat) (x : Int), ¬ rmN j x → ¬ rMh j x → Z j x = Y j x := fun j x j0 j1 => (fB j x j0 id).trans (hD.2 j x (by unfold dtM wtM; unfold rmN at j0; unfold rMh at j1; omega))
    have eT : rTx Y Z := rTx_of (fY 237 19 (by unfold rmN; omega) (by unfold rMh; omega)) (fY 237 102 (by unfold rmN; omega) (by unfold rMh; omega)) (fun j x j0 j1 => fY j x (by unfold rmN; omega) (by unfold rMh; omega))
    exact rmI_x hK ht hP.1 htr hn hD mkO_F eT fB ⟨sl, rWd_ag hW eT (fun j x hj => fY j x (by unfold rWo at hj; unfold rmN; omega) (by unfold rWo at hj; unfold rMh; omega))⟩ (by rw [hZ1, hZ2]; exact rVl_mo hval eT)
  · rcases hq with ⟨y1, y2, y3⟩ | ⟨y1, y2, Z, hZ, y3⟩
    · exact Or.inl ⟨y2, y1, y3⟩
    · exact Or.inr ⟨hZ.1, y1, y2⟩)
theorem rng_261 {fl : Int} {ho sh : Int} (h : rdR t kd ba gk gb es l ho wh sh K T sl L G Y) (hKR : KR 261 HT nT cs ms Y) (hwH : wHo cs ms os) (hX : w_X xs) (hm : (0 ≤ wh ∧ wh < (ms.length : Int)) ∧ (hmR ms wh).2.1 = 1) (htr : rTrc Y tr) (hg : arG K ba es ar) (hkd : 0 ≤ kd ∧ kd ≤ 6) (hb1 : kd = 1 → ba + 2 = K.1.length) (hff : ffA HT cs ms wh = fl) (hsf : isSf ms fl) (hst : rStc ms SF Y) (hty : (hmR ms wh).2.2.2.1 ≠ 0) : wJ (pe_GA xs) wY0 M (d + 9) t_M_actsOnHost ((pe_at t_M_actsOnHost.bl 0).getD (0, [])).2 [(0, (2, 237)), (1, (0, kd))] [] Y (fun o V => (100000 < (tr.length : Int) + 2 ∧ o = .inr 238 ∧ hZ 99 Y = V) ∨ ((tr.length : Int) + 2 ≤ 100000 ∧ o = .inl none ∧ rmO t K ba kd (SF fl) T L G wh es tr (fun _ _ => False) Y V)) := wJ_E (fun hE => by
  have h00 := h
  obtain ⟨⟨hP, hK, hW, ht⟩, hKl, ⟨hT, h82, hll⟩, ⟨h73, hba, h74, h75, h76⟩, h66, h69, h70, h71⟩ := h
  obtain ⟨hTh, hCa, -, ⟨hL8, h94⟩, -⟩ := id hW
  have k0 := hKl.1
  have hbb : 0 ≤ (ba : Int) ∧ (ba : Int) < (K.1.length : Int) := ⟨by omega, by omega⟩
  have hn4 := hKR.2.1.2.2.2
  have hf4 : fl < 400 := by have := hsf.1.2; omega
  have hf0 := hsf.1.1
  refine wJ_mono (rmT_261 (d := d) (a := (SF fl)) (T2 := T) (mk := (fun _ _ => False)) (en := es) (tr := tr) (ER := fun Z => 100000 < (tr.length : Int) + 2 ∧ hZ 99 Y = Z) (RI := fun Z => (tr.length : Int) + 2 ≤ 100000 ∧ ∃ B : wS, dtR (tr.length : Int) wh es Y B ∧ (Z 237 110 = Y 340 fl ∧ Z 237 111 = Y 341 fl) ∧ ∀ (j : Nat) (x : Int), ¬ fiM j x → Z j x = B j x) h00 hKR hwH hm.1 (by have := hm.2; omega) hkd hb1 (mkO_F) (wJ_mono (rdr1_261 (d := d) (tn := (tr.length : Int)) (en := es) (k := 0) (c := 0) (gb := 0) (es := []) (f := fl) (vk := Y 340 fl) (vb := Y 341 fl) hX hP.1 hKR hwH hm.1 hm.2 htr.1 ⟨by omega, htr.2.2⟩ h76 ⟨by have := hg.1.1; omega, by have := hg.1.2.1; omega⟩ hff hsf.1 hsf.2.2 (ir_E hE ⟨Or.inl (by first | decide | omega), by decide⟩ rfl hf0 (by rw [ml_340 hP.1]; omega)) (lr_E hE ⟨Or.inl (by first | decide | omega), by decide⟩ rfl hf0 (by rw [ml_341 hP.1]; omega)) rfl rfl hty) (fun o Z hz => ?_)) (fun Z hZ => ?_)) (fun o V hq => ?_)
  · rcases hz with ⟨y1, y2, y3⟩ | ⟨y1, y2, y3⟩
    · exact Or.inl ⟨y2, y1, y3⟩
    · exact Or.inr ⟨y2, y1, y3⟩
  · obtain ⟨hn, B, hD, ⟨hZ1, hZ2⟩, hZ3⟩ := hZ
    have fB : ∀ (j : Nat) (x : Int), ¬ rmN j x → ¬ False → Z j x = B j x := fun j x j0 _ => hZ3 j x (by unfold fiM flM; unfold rmN at j0; omega)
    have fY : ∀ (j : Nat) (x : Int), ¬ rmN j x → ¬ rMh j x → Z j x = Y j x := fun j x j0 j1 => (fB j x j0 id).trans (hD.2 j x (by unfold dtM wtM; unfold rmN at j0; unfold rMh at j1; omega))
    have eT : rTx Y Z := rTx_of (fY 237 19 (by unfold rmN; omega) (by unfold rMh; omega)) (fY 237 102 (by unfold rmN; omega) (by unfold rMh; omega)) (fun j x j0 j1 => fY j x (by unfold rmN; omega) (by unfold rMh; omega))
    exact rmI_x hK ht hP.1 htr hn hD mkO_F eT fB ⟨sl, rWd_ag hW eT (fun j x hj => fY j x (by unfold rWo at hj; unfold rmN; omega) (by unfold rWo at hj; unfold rMh; omega))⟩ (by rw [hZ1, hZ2]; exact rVl_mo (hst fl hsf) eT)
  · rcases hq with ⟨y1, y2, y3⟩ | ⟨y1, y2, Z, hZ, y3⟩
    · exact Or.inl ⟨y2, y1, y3⟩
    · exact Or.inr ⟨hZ.1, y1, y2⟩)
theorem rni_261 {c fi fl : Int} {ho sh : Int} (h : rdR t kd ba gk gb es l ho wh sh K T sl L G Y) (hKR : KR 261 HT nT cs ms Y) (hwH : wHo cs ms os) (hX : w_X xs) (hm : (0 ≤ wh ∧ wh < (ms.length : Int)) ∧ (hmR ms wh).2.1 = 1) (htr : rTrc Y tr) (hg : arG K ba es ar) (hkd : 0 ≤ kd ∧ kd ≤ 6) (hb1 : kd = 1 → ba + 2 = K.1.length) (hff : ffA HT cs ms wh = fl) (hsf : isIf ms fl) (hgb : 0 ≤ gb ∧ gb < (T.length : Int)) (hg7 : (tO T gb).1 = 7 ∧ (tO T gb).2.2.1 = c) (hpl : fPl cs ms c fl fi) (hfr : 0 ≤ fi ∧ fi < ((tO T gb).2.2.2.2.2.2.length : Int)) (hty : (hmR ms wh).2.2.2.1 ≠ 0) : wJ (pe_GA xs) wY0 M (d + 9) t_M_actsOnHost ((pe_at t_M_actsOnHost.bl 0).getD (0, [])).2 [(0, (2, 237)), (1, (0, kd))] [] Y (fun o V => (100000 < (tr.length : Int) + 2 ∧ o = .inr 238 ∧ hZ 99 Y = V) ∨ ((tr.length : Int) + 2 ≤ 100000 ∧ o = .inl none ∧ rmO t K ba kd (gvA T gb fi) T L G wh es tr (fun _ _ => False) Y V)) := wJ_E (fun hE => by
  have h00 := h
  obtain ⟨⟨hP, hK, hW, ht⟩, hKl, ⟨hT, h82, hll⟩, ⟨h73, hba, h74, h75, h76⟩, h66, h69, h70, h71⟩ := h
  obtain ⟨hTh, hCa, -, ⟨hL8, h94⟩, -⟩ := id hW
  have k0 := hKl.1
  have hbb : 0 ≤ (ba : Int) ∧ (ba : Int) < (K.1.length : Int) := ⟨by omega, by omega⟩
  obtain ⟨p1, p2, p3, p4, p5⟩ := hpl
  obtain ⟨⟨-, -, -, y21, -⟩, ⟨b1, b2⟩, b3, b4, -⟩ := hTh.2 gb.toNat (by omega)
  rw [show ((gb.toNat : Nat) : Int) = gb by omega] at y21 b1 b3
  replace y21 : Y 321 gb = (if (tO T gb).1 = 7 then (tO T gb).2.2.1 else -1) := y21
  rw [if_pos hg7.1, hg7.2] at y21
  replace b2 : (sl gb.toNat).length = (tO T gb).2.2.2.2.2.2.length := b2
  replace b1 : Y 317 gb = ((tO T gb).2.2.2.2.2.2.length : Int) := b1
  obtain ⟨⟨z1, z2⟩, z3, z4⟩ := slot_v (hd := gb) (wh := fi) hW hgb h82 hfr
  refine wJ_mono (rmT_261 (d := d) (a := (gvA T gb fi)) (T2 := T) (mk := (fun _ _ => False)) (en := es) (tr := tr) (ER := fun Z => 100000 < (tr.length : Int) + 2 ∧ hZ 99 Y = Z) (RI := fun Z => (tr.length : Int) + 2 ≤ 100000 ∧ ∃ B : wS, dtR (tr.length : Int) wh es Y B ∧ (Z 237 110 = Y 325 ((sl gb.toNat).getD fi.toNat 0) ∧ Z 237 111 = Y 326 ((sl gb.toNat).getD fi.toNat 0)) ∧ ∀ (j : Nat) (x : Int), ¬ fiM j x → Z j x = B j x) h00 hKR hwH hm.1 (by have := hm.2; omega) hkd hb1 (mkO_F) (wJ_mono (rdr0_261 (d := d) (tn := (tr.length : Int)) (en := es) (c := c) (k := fi.toNat) (l := sl gb.toNat) (gb := gb) (es := []) (f := fl) (vk := Y 325 ((sl gb.toNat).getD fi.toNat 0)) (vb := Y 326 ((sl gb.toNat).getD fi.toNat 0)) hX hP.1 hKR hwH hm.1 hm.2 htr.1 ⟨by omega, htr.2.2⟩ h76 ⟨by have := hg.1.1; omega, by have := hg.1.2.1; omega⟩ hff hsf.1 hsf.2.2 (ir_E hE ⟨Or.inl (by first | decide | omega), by decide⟩ rfl z3.1 (by rw [ml_325 hP.1]; exact z3.2)) (s_lr hE hP.1 z3.1 z3.2) p1 p2 (by omega) p4 p5 h75 ⟨hgb.1, by omega⟩ y21 z2 (by omega) (hll _ (by omega)) rfl rfl hty) (fun o Z hz => ?_)) (fun Z hZ => ?_)) (fun o V hq => ?_)
  · rcases hz with ⟨y1, y2, y3⟩ | ⟨y1, y2, y3⟩
    · exact Or.inl ⟨y2, y1, y3⟩
    · exact Or.inr ⟨y2, y1, y3⟩
  · obtain ⟨hn, B, hD, ⟨hZ1, hZ2⟩, hZ3⟩ := hZ
    have fB : ∀ (j : Nat) (x : Int), ¬ rmN j x → ¬ False → Z j x = B j x := fun j x j0 _ => hZ3 j x (by unfold fiM flM; unfold rmN at j0; omega)
    have fY : ∀ (j : Nat) (x : Int), ¬ rmN j x → ¬ rMh j x → Z j x = Y j x := fun j x j0 j1 => (fB j x j0 id).trans (hD.2 j x (by unfold dtM wtM; unfold rmN at j0; unfold rMh at j1; omega))
    have eT : rTx Y Z := rTx_of (fY 237 19 (by unfold rmN; omega) (by unfold rMh; omega)) (fY 237 102 (by unfold rmN; omega) (by unfold rMh; omega)) (fun j x j0 j1 => fY j x (by unfold rmN; omega) (by unfold rMh; omega))
    exact rmI_x hK ht hP.1 htr hn hD mkO_F eT fB ⟨sl, rWd_ag hW eT (fun j x hj => fY j x (by unfold rWo at hj; unfold rmN; omega) (by unfold rWo at hj; unfold rMh; omega))⟩ (by rw [hZ1, hZ2]; exact rVl_mo z4 eT)
  · rcases hq with ⟨y1, y2, y3⟩ | ⟨y1, y2, Z, hZ, y3⟩
    · exact Or.inl ⟨y2, y1, y3⟩
    · exact Or.inr ⟨hZ.1, y1, y2⟩)
theorem rns_261 {fl : Int} {ho sh : Int} (h : rdR t kd ba gk gb es l ho wh sh K T sl L G Y) (hKR : KR 261 HT nT cs ms Y) (hwH : wHo cs ms os) (hX : w_X xs) (hm : (0 ≤ wh ∧ wh < (ms.length : Int)) ∧ (hmR ms wh).2.1 = 1) (htr : rTrc Y tr) (hg : arG K ba es ar) (hkd : 0 ≤ kd ∧ kd ≤ 6) (hb1 : kd = 1 → ba + 2 = K.1.length) (hff : ffA HT cs ms wh = fl) (hsf : isSf ms fl) (hst : rStc ms SF Y) (hty : (hmR ms wh).2.2.2.1 = 0) (hec : es = 1) : wJ (pe_GA xs) wY0 M (d + 9) t_M_actsOnHost ((pe_at t_M_actsOnHost.bl 0).getD (0, [])).2 [(0, (2, 237)), (1, (0, kd))] [] Y (fun o V => (100000 < (tr.length : Int) + 2 ∧ o = .inr 238 ∧ hZ 99 Y = V) ∨ ((tr.length : Int) + 2 ≤ 100000 ∧ o = .inl none ∧ rmO t K ba kd (0, 0, []) T L G wh es tr (rMg fl) Y V ∧ rStc ms (sfU SF fl (K.1.getD (ba + 1) (0, 0, []))) V)) := wJ_E (fun hE => by
  have h00 := h
  obtain ⟨⟨hP, hK, hW, ht⟩, hKl, ⟨hT, h82, hll⟩, ⟨h73, hba, h74, h75, h76⟩, h66, h69, h70, h71⟩ := h
  obtain ⟨hTh, hCa, -, ⟨hL8, h94⟩, -⟩ := id hW
  have k0 := hKl.1
  have hbb : 0 ≤ (ba : Int) ∧ (ba : Int) < (K.1.length : Int) := ⟨by omega, by omega⟩
  have hn4 := hKR.2.1.2.2.2
  have hf4 : fl < 400 := by have := hsf.1.2; omega
  have hf0 := hsf.1.1
  have hu1 : rVl Y (Y 363 (2100 * t + (ba : Int) + 1)) (Y 364 (2100 * t + (ba : Int) + 1)) (K.1.getD (ba + 1) (0, 0, [])) := by
    have z := hK.1.2 (ba + 1) (by have := hg.1; omega)
    rw [show 2100 * t + ((ba + 1 : Nat) : Int) = 2100 * t + (ba : Int) + 1 by omega] at z
    exact z
  have hb2 : ba + 1 < K.1.length := by have := hg.1; omega
  have hur : -2147483648 ≤ Y 363 (2100 * t + (ba : Int) + 1) ∧ Y 363 (2100 * t + (ba : Int) + 1) ≤ 2147483647 := ir_E hE ⟨Or.inl (by first | decide | omega), by decide⟩ rfl (by omega) (by rw [ml_363 hP.1]; omega)
  refine wJ_mono (rmT_261 (d := d) (a := (0, 0, [])) (T2 := T) (mk := (rMg fl)) (en := es) (tr := tr) (ER := fun Z => 100000 < (tr.length : Int) + 2 ∧ hZ 99 Y = Z) (RI := fun Z => (tr.length : Int) + 2 ≤ 100000 ∧ ∃ B : wS, dtR (tr.length : Int) wh es Y B ∧ isQ 0 0 (w_up (w_up B 340 fl (Y 363 (2100 * t + (ba : Int) + 1))) 341 fl (Y 364 (2100 * t + (ba : Int) + 1))) Z) h00 hKR hwH hm.1 (by have := hm.2; omega) hkd hb1 (fun j x z => by unfold rMg at z; omega) (wJ_mono (rdw1_261 (d := d) (tn := (tr.length : Int)) (en := es) (k := 0) (c := 0) (gb := 0) (es := []) (f := fl) (k1 := Y 363 (2100 * t + (ba : Int) + 1)) (v1 := Y 364 (2100 * t + (ba : Int) + 1)) hX hP.1 hKR hwH hm.1 hm.2 htr.1 ⟨by omega, htr.2.2⟩ h76 ⟨by have := hg.1.1; omega, by have := hg.1.2.1; omega⟩ hff hsf.1 hsf.2.2 h73 ⟨by omega, by omega⟩ rfl rfl hur (p_lr hE hP.1 (by omega) (by omega)) hty) (fun o Z hz => ?_)) (fun Z hZ => ?_)) (fun o V hq => ?_)
  · rcases hz with ⟨y1, y2, y3⟩ | ⟨y1, y2, y3⟩
    · exact Or.inl ⟨y2, y1, y3⟩
    · exact Or.inr ⟨y2, y1, y3⟩
  · obtain ⟨hn, B, hD, hZ1, hZ2, hZ3⟩ := hZ
    have fB : ∀ (j : Nat) (x : Int), ¬ rmN j x → ¬ rMg fl j x → Z j x = B j x := fun j x j0 j1 => (hZ3 j x (by unfold isM; unfold rmN at j0; omega)).trans ((w_up_no (by unfold rMg at j1; omega)).trans (w_up_no (by unfold rMg at j1; omega)))
    have fY : ∀ (j : Nat) (x : Int), ¬ rmN j x → ¬ rMh j x → ¬ rMg fl j x → Z j x = Y j x := fun j x j0 j1 j2 => (fB j x j0 j2).trans (hD.2 j x (by unfold dtM wtM; unfold rmN at j0; unfold rMh at j1; omega))
    have eT : rTx Y Z := rTx_of (fY 237 19 (by unfold rmN; omega) (by unfold rMh; omega) (by unfold rMg; omega)) (fY 237 102 (by unfold rmN; omega) (by unfold rMh; omega) (by unfold rMg; omega)) (fun j x j0 j1 => fY j x (by unfold rmN; omega) (by unfold rMh; omega) (by unfold rMg; omega))
    exact rmI_x hK ht hP.1 htr hn hD (fun j x z => by unfold rMg at z; omega) eT fB ⟨sl, rWd_ag hW eT (fun j x hj => fY j x (by unfold rWo at hj; unfold rmN; omega) (by unfold rWo at hj; unfold rMh; omega) (by unfold rWo at hj; unfold rMg; omega))⟩ (by rw [hZ1, hZ2]; exact rV_e (by first | decide | omega) rfl)
  · rcases hq with ⟨y1, y2, y3⟩ | ⟨y1, y2, Z, hZ, y3⟩
    · exact Or.inl ⟨y2, y1, y3⟩
    · exact Or.inr ⟨hZ.1, y1, y2, by
      obtain ⟨hn, B, hD, hZ1, hZ2, hZ3⟩ := hZ
      have fD : ∀ (j : Nat) (x : Int), j < 343 → (j ≠ 237 ∨ x < 105) → B j x = Y j x := fun j x j0 j1 => hD.2 j x (by unfold dtM wtM; omega)
      have xB : rTx Y B := rTx_of (fD 237 19 (by first | decide | omega) (by first | decide | omega)) (fD 237 102 (by first | decide | omega) (by first | decide | omega)) (fun j x j0 j1 => fD j x (by omega) (by omega))
      have s1 := rStc_w (m := fl) (rStc_ag hst xB (fun j x hj => fD j x (by omega) (by omega))) (rVl_mo hu1 xB)
      have s2 := rStc_ag (Z := Z) s1 (rTx_of (hZ3 237 19 (by unfold isM; omega)) (hZ3 237 102 (by unfold isM; omega)) (fun j x j0 j1 => hZ3 j x (by unfold isM; omega))) (fun j x hj => hZ3 j x (by unfold isM; omega))
      exact rStc_ag s2 (rTx_of (y3 237 19 (by first | decide | omega) (by first | decide | omega)) (y3 237 102 (by first | decide | omega) (by first | decide | omega)) (fun j x j0 j1 => y3 j x (by omega) (by omega))) (fun j x hj => y3 j x (by omega) (by omega))⟩)
theorem rnj_261 {c fi fl : Int} {ho sh : Int} (h : rdR t kd ba gk gb es l ho wh sh K T sl L G Y) (hKR : KR 261 HT nT cs ms Y) (hwH : wHo cs ms os) (hX : w_X xs) (hm : (0 ≤ wh ∧ wh < (ms.length : Int)) ∧ (hmR ms wh).2.1 = 1) (htr : rTrc Y tr) (hg : arG K ba es ar) (hkd : 0 ≤ kd ∧ kd ≤ 6) (hb1 : kd = 1 → ba + 2 = K.1.length) (hff : ffA HT cs ms wh = fl) (hsf : isIf ms fl) (hgb : 0 ≤ gb ∧ gb < (T.length : Int)) (hg7 : (tO T gb).1 = 7 ∧ (tO T gb).2.2.1 = c) (hpl : fPl cs ms c fl fi) (hfr : 0 ≤ fi ∧ fi < ((tO T gb).2.2.2.2.2.2.length : Int)) (hty : (hmR ms wh).2.2.2.1 = 0) (hec : es = 1) : wJ (pe_GA xs) wY0 M (d + 9) t_M_actsOnHost ((pe_at t_M_actsOnHost.bl 0).getD (0, [])).2 [(0, (2, 237)), (1, (0, kd))] [] Y (fun o V => (100000 < (tr.length : Int) + 2 ∧ o = .inr 238 ∧ hZ 99 Y = V) ∨ ((tr.length : Int) + 2 ≤ 100000 ∧ o = .inl none ∧ rmO t K ba kd (0, 0, []) (tSp T gb fi.toNat (K.1.getD (ba + 1) (0, 0, []))) L G wh es tr rMv Y V)) := wJ_E (fun hE => by
  have h00 := h
  obtain ⟨⟨hP, hK, hW, ht⟩, hKl, ⟨hT, h82, hll⟩, ⟨h73, hba, h74, h75, h76⟩, h66, h69, h70, h71⟩ := h
  obtain ⟨hTh, hCa, -, ⟨hL8, h94⟩, -⟩ := id hW
  have k0 := hKl.1
  have hbb : 0 ≤ (ba : Int) ∧ (ba : Int) < (K.1.length : Int) := ⟨by omega, by omega⟩
  obtain ⟨p1, p2, p3, p4, p5⟩ := hpl
  obtain ⟨⟨-, -, -, y21, -⟩, ⟨b1, b2⟩, b3, b4, -⟩ := hTh.2 gb.toNat (by omega)
  rw [show ((gb.toNat : Nat) : Int) = gb by omega] at y21 b1 b3
  replace y21 : Y 321 gb = (if (tO T gb).1 = 7 then (tO T gb).2.2.1 else -1) := y21
  rw [if_pos hg7.1, hg7.2] at y21
  replace b2 : (sl gb.toNat).length = (tO T gb).2.2.2.2.2.2.length := b2
  replace b1 : Y 317 gb = ((tO T gb).2.2.2.2.2.2.length : Int) := b1
  obtain ⟨⟨z1, z2⟩, z3, z4⟩ := slot_v (hd := gb) (wh := fi) hW hgb h82 hfr
  have hu1 : rVl Y (Y 363 (2100 * t + (ba : Int) + 1)) (Y 364 (2100 * t + (ba : Int) + 1)) (K.1.getD (ba + 1) (0, 0, [])) := by
    have z := hK.1.2 (ba + 1) (by have := hg.1; omega)
    rw [show 2100 * t + ((ba + 1 : Nat) : Int) = 2100 * t + (ba : Int) + 1 by omega] at z
    exact z
  have hb2 : ba + 1 < K.1.length := by have := hg.1; omega
  have hur : -2147483648 ≤ Y 363 (2100 * t + (ba : Int) + 1) ∧ Y 363 (2100 * t + (ba : Int) + 1) ≤ 2147483647 := ir_E hE ⟨Or.inl (by first | decide | omega), by decide⟩ rfl (by omega) (by rw [ml_363 hP.1]; omega)
  refine wJ_mono (rmT_261 (d := d) (a := (0, 0, [])) (T2 := (tSp T gb fi.toNat (K.1.getD (ba + 1) (0, 0, [])))) (mk := rMv) (en := es) (tr := tr) (ER := fun Z => 100000 < (tr.length : Int) + 2 ∧ hZ 99 Y = Z) (RI := fun Z => (tr.length : Int) + 2 ≤ 100000 ∧ ∃ B : wS, dtR (tr.length : Int) wh es Y B ∧ ∃ C : wS, (C 325 ((sl gb.toNat).getD fi.toNat 0) = Y 363 (2100 * t + (ba : Int) + 1) ∧ C 326 ((sl gb.toNat).getD fi.toNat 0) = Y 364 (2100 * t + (ba : Int) + 1)) ∧ (∀ (j : Nat) (x : Int), ¬ (flM j x ∨ ((j = 325 ∨ j = 326) ∧ x = ((sl gb.toNat).getD fi.toNat 0))) → C j x = B j x) ∧ isQ 0 0 C Z) h00 hKR hwH hm.1 (by have := hm.2; omega) hkd hb1 (fun j x z => by unfold rMv at z; omega) (wJ_mono (rdw0_261 (d := d) (tn := (tr.length : Int)) (en := es) (c := c) (k := fi.toNat) (l := sl gb.toNat) (gb := gb) (es := []) (f := fl) (k1 := Y 363 (2100 * t + (ba : Int) + 1)) (v1 := Y 364 (2100 * t + (ba : Int) + 1)) hX hP.1 hKR hwH hm.1 hm.2 htr.1 ⟨by omega, htr.2.2⟩ h76 ⟨by have := hg.1.1; omega, by have := hg.1.2.1; omega⟩ hff hsf.1 hsf.2.2 h73 ⟨by omega, by omega⟩ rfl rfl hur (p_lr hE hP.1 (by omega) (by omega)) p1 p2 (by omega) p4 p5 h75 ⟨hgb.1, by omega⟩ y21 z2 (by omega) (hll _ (by omega)) hty) (fun o Z hz => ?_)) (fun Z hZ => ?_)) (fun o V hq => ?_)
  · rcases hz with ⟨y1, y2, y3⟩ | ⟨y1, y2, y3⟩
    · exact Or.inl ⟨y2, y1, y3⟩
    · exact Or.inr ⟨y2, y1, y3⟩
  · obtain ⟨hn, B, hD, C, ⟨q2, q3⟩, q4, hZ1, hZ2, hZ3⟩ := hZ
    have fB : ∀ (j : Nat) (x : Int), ¬ rmN j x → ¬ rMv j x → Z j x = B j x := fun j x j0 j1 => (hZ3 j x (by unfold isM; unfold rmN at j0; omega)).trans (q4 j x (by unfold flM; unfold rmN at j0; unfold rMv at j1; omega))
    have fY : ∀ (j : Nat) (x : Int), ¬ rmN j x → ¬ rMh j x → ¬ rMv j x → Z j x = Y j x := fun j x j0 j1 j2 => (fB j x j0 j2).trans (hD.2 j x (by unfold dtM wtM; unfold rmN at j0; unfold rMh at j1; omega))
    have eT : rTx Y Z := rTx_of (fY 237 19 (by unfold rmN; omega) (by unfold rMh; omega) (by unfold rMv; omega)) (fY 237 102 (by unfold rmN; omega) (by unfold rMh; omega) (by unfold rMv; omega)) (fun j x j0 j1 => fY j x (by unfold rmN; omega) (by unfold rMh; omega) (by unfold rMv; omega))
    have fD : ∀ (j : Nat) (x : Int), j < 343 → (j ≠ 237 ∨ x < 105) → B j x = Y j x := fun j x j0 j1 => hD.2 j x (by unfold dtM wtM; omega)
    have hWA := rWd_sp (k := gb) (i := fi.toNat) hW hgb.1 hgb.2 (by omega) hu1
    have fW : ∀ (j : Nat) (x : Int), j < 343 → (j ≠ 237 ∨ x < 105) → Z j x = (w_up (w_up Y 325 ((sl gb.toNat).getD fi.toNat 0) (Y 363 (2100 * t + (ba : Int) + 1))) 326 ((sl gb.toNat).getD fi.toNat 0) (Y 364 (2100 * t + (ba : Int) + 1))) j x := fun j x j0 j1 => by
      refine (hZ3 j x (by unfold isM; omega)).trans ?_
      by_cases c5 : j = 325 ∧ x = ((sl gb.toNat).getD fi.toNat 0)
      · rw [c5.1, c5.2, q2]
        exact ((w_up_slot (by first | decide | omega)).trans (w_up_same _ _ _ _)).symm
      · by_cases c6 : j = 326 ∧ x = ((sl gb.toNat).getD fi.toNat 0)
        · rw [c6.1, c6.2, q3]
          exact (w_up_same _ _ _ _).symm
        · rw [w_up_no c6, w_up_no c5]
          exact (q4 j x (by unfold flM; omega)).trans (fD j x j0 j1)
    exact rmI_x hK ht hP.1 htr hn hD (fun j x z => by unfold rMv at z; omega) eT fB ⟨sl, rWd_ag hWA (rTx_of (fW 237 19 (by first | decide | omega) (by first | decide | omega)) (fW 237 102 (by first | decide | omega) (by first | decide | omega)) (fun j x j0 j1 => fW j x (by omega) (by omega))) (fun j x hj => fW j x (by unfold rWo at hj; omega) (by unfold rWo at hj; omega))⟩ (by rw [hZ1, hZ2]; exact rV_e (by first | decide | omega) rfl)
  · rcases hq with ⟨y1, y2, y3⟩ | ⟨y1, y2, Z, hZ, y3⟩
    · exact Or.inl ⟨y2, y1, y3⟩
    · exact Or.inr ⟨hZ.1, y1, y2⟩)
end Wjo
