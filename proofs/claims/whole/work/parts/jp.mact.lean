/-! PART jp: acting at a site by tasks: texts and instances that hosts make: of the reference. -/
section Wjp0
variable {xs : List (Nat × List Int32)} {M : Nat → Prop} {d : Nat} {Y : wS} {K : aK} {T : List aO} {H : List aH} {L : List aC} {G : Int → aV} {sl : Nat → List Int} {t s kd gk gb es hd wh e50 l : Int} {ba : Nat} {HT : Int → Int} {cs : List hCR} {ms : List hMR} {os : Int → List Int} {SF : Int → aV} {tr : List Int} {nT : Int} {Z B C D : wS} {m en k v : Int} {a : aV} {mk : Nat → Int → Prop} {ar : List aV}
def rMu (j : Nat) (x : Int) : Prop := ((j = 283 ∨ j = 284 ∨ j = 285) ∧ 0 ≤ x) ∨ (j = 237 ∧ (x = 102 ∨ x = 103 ∨ x = 64 ∨ x = 65))
theorem tx_K (hK : rTk t Y K) (f : ∀ (j : Nat) (x : Int), ¬ txM j x → B j x = Y j x) : rTx Y B ∧ rTk t B K := by
  have f2 : ∀ (j : Nat) (x : Int), j ≠ 354 → j ≠ 345 → (j ≠ 237 ∨ (x ≠ 113 ∧ x ≠ 126)) → B j x = Y j x := fun j x j0 j1 j2 => f j x (by unfold txM wtM; omega)
  have eT : rTx Y B := rTx_of (f2 237 19 (by first | decide | omega) (by first | decide | omega) (by first | decide | omega)) (f2 237 102 (by first | decide | omega) (by first | decide | omega) (by first | decide | omega)) (fun j x j0 j1 => f2 j x (by omega) (by omega) (by omega))
  exact ⟨eT, rTk_fr hK eT (fun j x j0 j1 => f2 j x (by omega) (by omega) (by omega))⟩
theorem rmI_t {NN : List Int} (hK : rTk t Y K) (hM : w_ML Y) (hW : rWd Y sl T L G) (htt : rTt Y) (htb : rTb Y) (htr : rTrc Y tr) (hn : (tr.length : Int) + 2 ≤ 100000) (hB : spR NN Y B) (hr : Y 237 64 < 12000 ∧ Y 237 65 + (NN.length : Int) ≤ 200000) (hC : mtA (NN.length : Int) (Y 237 102) (Y 237 103) (Y 237 64) (Y 237 65) B C) (hZ : trZ 3 (4000 + Y 237 102) (tr.length : Int) m en C = Z) : rmI t K T L G (3, 0, NN) m en tr rMu Y Z ∧ (rTt Z ∧ rTb Z) ∧ (Z 237 102 = Y 237 102 + 1 ∧ Z 237 103 = Y 237 103 + (NN.length : Int) ∧ Z 237 64 = Y 237 64 + 1 ∧ Z 237 65 = Y 237 65 + (NN.length : Int)) := by
  obtain ⟨b1, b2, fb⟩ := hB
  have fB : ∀ (j : Nat) (x : Int), j ≠ 354 → j ≠ 345 → (j ≠ 237 ∨ (x ≠ 113 ∧ x ≠ 126)) → B j x = Y j x := fun j x j0 j1 j2 => fb j x (by unfold txM wtM; omega)
  have e102 := fB 237 102 (by first | decide | omega) (by first | decide | omega) (by first | decide | omega)
  have e103 := fB 237 103 (by first | decide | omega) (by first | decide | omega) (by first | decide | omega)
  have e64 := fB 237 64 (by first | decide | omega) (by first | decide | omega) (by first | decide | omega)
  have e65 := fB 237 65 (by first | decide | omega) (by first | decide | omega) (by first | decide | omega)
  obtain ⟨xB, kB⟩ := tx_K hK fb
  have tB : rTt B := rTt_ag htt (fB 237 19 (by first | decide | omega) (by first | decide | omega) (by first | decide | omega)) e102 (fun x => ⟨fB 284 x (by first | decide | omega) (by first | decide | omega) (by omega), fB 285 x (by first | decide | omega) (by first | decide | omega) (by omega)⟩)
  have bB : rTb B := rTb_ag htb (fB 237 19 (by first | decide | omega) (by first | decide | omega) (by first | decide | omega)) e102 e103 e64 e65 (fun x => ⟨fB 284 x (by first | decide | omega) (by first | decide | omega) (by omega), fB 285 x (by first | decide | omega) (by first | decide | omega) (by omega)⟩)
  have xC := mtA_x hC (by omega) tB bB e102 e103
  have tC := mtA_t hC (by omega) tB bB e102 e103 e64 e65 hr
  have vC := mtA_v hC (by have := htt.2.1; omega) rfl b2
  obtain ⟨-, -, ⟨m4, m5, m6, m7⟩, fc, mC⟩ := id hC
  have zf : ∀ (j : Nat) (x : Int), j ≠ 343 → (j ≠ 237 ∨ (x ≠ 110 ∧ x ≠ 111 ∧ x ≠ 106)) → Z j x = C j x := fun j x j0 j1 => by
    rw [← hZ]
    exact (w_up_no (by omega)).trans ((w_up_no (by omega)).trans ((w_up_no (by omega)).trans ((w_up_no (by omega)).trans (w_up_no (by omega)))))
  have xZ : rTx C Z := rTx_of (zf 237 19 (by first | decide | omega) (by first | decide | omega)) (zf 237 102 (by first | decide | omega) (by first | decide | omega)) (fun j x j0 j1 => zf j x (by omega) (by omega))
  have eT := rTx_tr xB (rTx_tr xC xZ)
  have fCB : ∀ (j : Nat) (x : Int), ¬ rMu j x → j ≠ 283 ∧ j ≠ 284 ∧ j ≠ 285 ∨ x < 0 → C j x = B j x := fun j x j0 j1 => fc j x (by have := htb.1; omega) (by have := htt.2.1; omega) (by unfold rMu at j0; omega)
  have fY : ∀ (j : Nat) (x : Int), ¬ rmN j x → ¬ rMh j x → ¬ rMu j x → Z j x = Y j x := fun j x j0 j1 j2 => by
    have q2 := j2
    unfold rmN at j0
    unfold rMh at j1
    unfold rMu at j2
    by_cases c : j = 343
    · rw [← hZ, c]
      exact (w_up_slot (by first | decide | omega)).trans ((w_up_at (by omega)).trans ((w_up_at (by omega)).trans ((w_up_slot (by first | decide | omega)).trans ((w_up_slot (by first | decide | omega)).trans ((fCB 343 x (by unfold rMu; omega) (by omega)).trans (fB 343 x (by first | decide | omega) (by first | decide | omega) (by omega)))))))
    · refine (zf j x c (by omega)).trans ((fCB j x q2 (by omega)).trans (fb j x (by unfold txM wtM; omega)))
  have a110 : Z 237 110 = 3 := by rw [← hZ]; exact (w_up_at (by first | decide | omega)).trans ((w_up_slot (by first | decide | omega)).trans ((w_up_slot (by first | decide | omega)).trans ((w_up_at (by first | decide | omega)).trans (w_up_same _ _ _ _))))
  have a111 : Z 237 111 = 4000 + Y 237 102 := by rw [← hZ]; exact (w_up_at (by first | decide | omega)).trans ((w_up_slot (by first | decide | omega)).trans ((w_up_slot (by first | decide | omega)).trans (w_up_same _ _ _ _)))
  refine ⟨⟨fun q hq => ?_, rTk_fr hK eT (fun j x j0 j1 => fY j x (by unfold rmN; omega) (by unfold rMh; omega) (by unfold rMu; omega)), ⟨sl, rWd_ag hW eT (fun j x hj => fY j x (by unfold rWo at hj; unfold rmN; omega) (by unfold rWo at hj; unfold rMh; omega) (by unfold rWo at hj; unfold rMu; omega))⟩, by rw [a110, a111]; exact rVl_mo vC xZ, rTrc_t htr hn ?_ ?_ ?_ (fun x x0 x1 => ?_), eT, fY⟩, ⟨rTt_ag tC.1 (zf 237 19 (by first | decide | omega) (by first | decide | omega)) (zf 237 102 (by first | decide | omega) (by first | decide | omega)) (fun x => ⟨zf 284 x (by first | decide | omega) (by omega), zf 285 x (by first | decide | omega) (by omega)⟩), rTb_ag tC.2 (zf 237 19 (by first | decide | omega) (by first | decide | omega)) (zf 237 102 (by first | decide | omega) (by first | decide | omega)) (zf 237 103 (by first | decide | omega) (by first | decide | omega)) (zf 237 64 (by first | decide | omega) (by first | decide | omega)) (zf 237 65 (by first | decide | omega) (by first | decide | omega)) (fun x => ⟨zf 284 x (by first | decide | omega) (by omega), zf 285 x (by first | decide | omega) (by omega)⟩)⟩, (zf 237 102 (by first | decide | omega) (by first | decide | omega)).trans m4, (zf 237 103 (by first | decide | omega) (by first | decide | omega)).trans m5, (zf 237 64 (by first | decide | omega) (by first | decide | omega)).trans m6, (zf 237 65 (by first | decide | omega) (by first | decide | omega)).trans m7⟩
  · exact (fY q.1 (-1) (by unfold rmN; omega) (by unfold rMh; omega) (by unfold rMu; omega)).trans (hM q hq)
  · rw [← hZ]; exact w_up_same _ _ _ _
  · rw [← hZ]; exact (w_up_slot (by first | decide | omega)).trans ((w_up_at (by omega)).trans (w_up_same _ _ _ _))
  · rw [← hZ]; exact (w_up_slot (by first | decide | omega)).trans (w_up_same _ _ _ _)
  · rw [← hZ]
    exact (w_up_slot (by first | decide | omega)).trans ((w_up_at (by omega)).trans ((w_up_at (by omega)).trans ((w_up_slot (by first | decide | omega)).trans ((w_up_slot (by first | decide | omega)).trans ((fCB 343 x (by unfold rMu; omega) (by omega)).trans (fB 343 x (by first | decide | omega) (by first | decide | omega) (by omega)))))))
/-- an instance is made -/
def rMi (j : Nat) (x : Int) : Prop := (314 ≤ j ∧ j ≤ 328 ∧ 0 ≤ x) ∨ (j = 237 ∧ (x = 62 ∨ x = 63 ∨ x = 68 ∨ x = 82))
theorem ma_fr {g s0 v0 u0 c tn : Int} {nf : Nat} {ty pt : Nat → Int} {es : List (Int × Int)} (h : maR g s0 v0 u0 c tn m en nf ty pt es B Z) (hg : 0 ≤ g) (hs : 0 ≤ s0) (ht : 0 ≤ tn) : (∀ (j : Nat) (x : Int), ¬ rmN j x → ¬ rMh j x → ¬ rMi j x → Z j x = B j x) ∧ (Z 237 106 = tn + 2 ∧ Z 343 tn = m ∧ Z 343 (tn + 1) = en ∧ ∀ x : Int, x < tn → Z 343 x = B 343 x) ∧ (Z 237 62 = u0 + 1 ∧ Z 237 63 = v0 + (nf : Int) ∧ Z 237 82 = s0 + (nf : Int)) ∧ Z 237 110 = 7 ∧ Z 237 111 = g := by
  obtain ⟨D, E, ⟨⟨d1, d2, -, -⟩, -, fD⟩, -, ⟨-, fE⟩, z1, z2, fZ⟩ := h
  have fZD : ∀ (j : Nat) (x : Int), ¬ isM j x → ¬ muM s0 nf j x → Z j x = D j x := fun j x j0 j1 => (fZ j x j0).trans (fE j x j1)
  have fZA : ∀ (j : Nat) (x : Int), ¬ isM j x → ¬ muM s0 nf j x → ¬ mvM g s0 nf j x → Z j x = (w_up (ntZ 7 g u0 (w_up (w_up (w_up B 343 tn m) 343 (tn + 1) en) 237 106 (tn + 2))) 321 g c) j x := fun j x j0 j1 j2 => (fZD j x j0 j1).trans (fD j x j2)
  have n6 : ∀ (j : Nat) (x : Int), ((j = 237 ∧ (x = 106 ∨ x = 62)) ∨ j = 343) → Z j x = (w_up (ntZ 7 g u0 (w_up (w_up (w_up B 343 tn m) 343 (tn + 1) en) 237 106 (tn + 2))) 321 g c) j x := fun j x hj => fZA j x (by unfold isM; omega) (by unfold muM; omega) (by unfold mvM; omega)
  have nt : ∀ (j : Nat) (x : Int) (A : wS), (j ≠ 237 ∨ (x ≠ 68 ∧ x ≠ 62)) → (j < 314 ∨ 324 < j) → (w_up (ntZ 7 g u0 A) 321 g c) j x = A j x := fun j x A h1 h2 => by
    unfold ntZ
    exact (w_up_slot (by omega)).trans ((w_up_no (by omega)).trans ((w_up_no (by omega)).trans ((w_up_slot (by omega)).trans ((w_up_slot (by omega)).trans ((w_up_slot (by omega)).trans ((w_up_slot (by omega)).trans ((w_up_slot (by omega)).trans ((w_up_slot (by omega)).trans ((w_up_slot (by omega)).trans ((w_up_slot (by omega)).trans ((w_up_slot (by omega)).trans (w_up_slot (by omega)))))))))))))
  refine ⟨fun j x j0 j1 j2 => ?_, ⟨?_, ?_, ?_, fun x hx => ?_⟩, ⟨?_, ?_, ?_⟩, z1, z2⟩
  · unfold rmN at j0
    unfold rMh at j1
    unfold rMi at j2
    refine (fZA j x (by unfold isM; omega) (by unfold muM; omega) (by unfold mvM; omega)).trans (mk_fr j x ?_)
    unfold mkM trM
    omega
  · exact (n6 237 106 (by omega)).trans ((nt 237 106 _ (by first | decide | omega) (by first | decide | omega)).trans (w_up_same _ _ _ _))
  · exact (n6 343 tn (by omega)).trans ((nt 343 tn _ (by omega) (by first | decide | omega)).trans ((w_up_slot (by first | decide | omega)).trans ((w_up_at (by omega)).trans (w_up_same _ _ _ _))))
  · exact (n6 343 (tn + 1) (by omega)).trans ((nt 343 (tn + 1) _ (by omega) (by first | decide | omega)).trans ((w_up_slot (by first | decide | omega)).trans (w_up_same _ _ _ _)))
  · exact (n6 343 x (by omega)).trans ((nt 343 x _ (by omega) (by first | decide | omega)).trans ((w_up_slot (by first | decide | omega)).trans ((w_up_at (by omega)).trans (w_up_at (by omega)))))
  · refine (n6 237 62 (by omega)).trans ?_
    unfold ntZ
    exact (w_up_slot (by first | decide | omega)).trans (w_up_same _ _ _ _)
  · exact (fZD 237 63 (by unfold isM; omega) (by unfold muM; omega)).trans d2
  · exact (fZD 237 82 (by unfold isM; omega) (by unfold muM; omega)).trans d1
theorem rmI_m {c : Int} {nf : Nat} {ty pt : Nat → Int} {qs : List (Int × Int)} (hK : rTk t Y K) (hM : w_ML Y) (hW : rWd Y sl T L G) (htr : rTrc Y tr) (hn : (tr.length : Int) + 2 ≤ 100000) (h82 : 0 ≤ Y 237 82) (hB : ∀ (j : Nat) (x : Int), ¬ flM j x → B j x = Y j x) (hel : qs.length = ar.length) (hes : ∀ q : Nat, q < qs.length → rVl Y (qs.getD q (0, 0)).1 (qs.getD q (0, 0)).2 (ar.getD q (0, 0, []))) (h : maR (T.length : Int) (Y 237 82) (Y 237 63) (Y 237 62) c (tr.length : Int) m en nf ty pt qs B Z) : rmI t K (T ++ [(7, -1, c, -1, -1, 0, inP nf ty pt ar)]) L G (7, (T.length : Int), []) m en tr rMi Y Z ∧ (Z 237 62 = Y 237 62 + 1 ∧ Z 237 63 = Y 237 63 + (nf : Int) ∧ Z 237 82 = Y 237 82 + (nf : Int)) := by
  have f2 : ∀ (j : Nat) (x : Int), j ≠ 356 → (j ≠ 237 ∨ x ≠ 130) → B j x = Y j x := fun j x j0 j1 => hB j x (by unfold flM; omega)
  have xB : rTx Y B := rTx_of (f2 237 19 (by first | decide | omega) (by first | decide | omega)) (f2 237 102 (by first | decide | omega) (by first | decide | omega)) (fun j x j0 j1 => f2 j x (by omega) (by omega))
  have hWB : rWd B sl T L G := rWd_ag hW xB (fun j x hj => f2 j x (by unfold rWo at hj; omega) (by unfold rWo at hj; omega))
  obtain ⟨⟨sl2, w1⟩, w2⟩ := rWd_in (us := ar) hWB h rfl (f2 237 62 (by first | decide | omega) (by first | decide | omega)) (f2 237 82 (by first | decide | omega) (by first | decide | omega)) h82 hel (fun q hq => rVl_mo (hes q hq) xB)
  obtain ⟨m1, ⟨m2, m3, m4, m5⟩, m6, m7, m8⟩ := ma_fr h (by omega) h82 (by omega)
  have eT := rTx_tr xB w2
  have fY : ∀ (j : Nat) (x : Int), ¬ rmN j x → ¬ rMh j x → ¬ rMi j x → Z j x = Y j x := fun j x j0 j1 j2 => (m1 j x j0 j1 j2).trans (hB j x (by unfold flM; unfold rmN at j0; omega))
  refine ⟨⟨fun q hq => (fY q.1 (-1) (by unfold rmN; omega) (by unfold rMh; omega) (by unfold rMi; omega)).trans (hM q hq), rTk_fr hK eT (fun j x j0 j1 => fY j x ?_ (by unfold rMh; omega) (by unfold rMi; omega)), ⟨sl2, w1⟩, by rw [m7, m8]; exact rV_e (by first | decide | omega) rfl, rTrc_t htr hn m2 m3 m4 (fun x x0 x1 => (m5 x x1).trans (f2 343 x (by first | decide | omega) (by omega))), eT, fY⟩, m6⟩
  unfold rmN
  omega
end Wjp0
section Wjp
variable {xs : List (Nat × List Int32)} {M : Nat → Prop} {d : Nat} {Y : wS} {K : aK} {T : List aO} {H : List aH} {L : List aC} {G : Int → aV} {sl : Nat → List Int} {t s kd gk gb es hd wh e50 l : Int} {ba : Nat} {HT : Int → Int} {cs : List hCR} {ms : List hMR} {os : Int → List Int} {SF : Int → aV} {tr : List Int} {nT : Int} {ar : List aV}
theorem rnx_241 {ho sh : Int} (h : rdR t kd ba gk gb es l ho wh sh K T sl L G Y) (hKR : KR 241 HT nT cs ms Y) (hwH : wHo cs ms os) (hX : w_X xs) (hm : (0 ≤ wh ∧ wh < (ms.length : Int)) ∧ (hmR ms wh).2.1 = 1) (htr : rTrc Y tr) (hg : arG K ba es ar) (hkd : 0 ≤ kd ∧ kd ≤ 6) (hb1 : kd = 1 → ba + 2 = K.1.length) (hff : ffA HT cs ms wh = -1) (hty : (hmR ms wh).2.2.2.1 = 7) (htt : rTt Y) (htb : rTb Y) (hu2 : Y 237 64 ≤ 12000) (hu3 : Y 237 65 ≤ 200000) : wJ (pe_GA xs) wY0 M (d + 9) t_M_actsOnHost ((pe_at t_M_actsOnHost.bl 0).getD (0, [])).2 [(0, (2, 237)), (1, (0, kd))] [] Y (fun o V => ((100000 < (tr.length : Int) + 2 ∨ 12000 ≤ Y 237 64 ∨ 200000 < Y 237 65 + ((nmR HT (hmR ms wh)).length : Int)) ∧ o = .inr 238 ∧ ∃ B : wS, (∀ (j : Nat) (x : Int), ¬ txM j x → B j x = Y j x) ∧ hZ 99 B = V) ∨ (¬ (100000 < (tr.length : Int) + 2 ∨ 12000 ≤ Y 237 64 ∨ 200000 < Y 237 65 + ((nmR HT (hmR ms wh)).length : Int)) ∧ o = .inl none ∧ rmO t K ba kd (3, 0, (nmR HT (hmR ms wh))) T L G wh es tr rMu Y V ∧ (rTt V ∧ rTb V) ∧ (V 237 102 = Y 237 102 + 1 ∧ V 237 103 = Y 237 103 + ((nmR HT (hmR ms wh)).length : Int) ∧ V 237 64 = Y 237 64 + 1 ∧ V 237 65 = Y 237 65 + ((nmR HT (hmR ms wh)).length : Int)) ∧ rTx Y V)) := by
  have h00 := h
  obtain ⟨⟨hP, hK, hW, ht⟩, hKl, ⟨hT, h82, hll⟩, ⟨h73, hba, h74, h75, h76⟩, h66, h69, h70, h71⟩ := h
  obtain ⟨hTh, hCa, -, ⟨hL8, h94⟩, -⟩ := id hW
  have k0 := hKl.1
  have hbb : 0 ≤ (ba : Int) ∧ (ba : Int) < (K.1.length : Int) := ⟨by omega, by omega⟩
  have y5 := htt.2.1
  have y7 := htb.1
  have y8 := htb.2.1.1
  refine wJ_mono (rmT_241 (d := d) (a := (3, 0, (nmR HT (hmR ms wh)))) (T2 := T) (mk := rMu) (en := es) (tr := tr) (ER := fun Z => (100000 < (tr.length : Int) + 2 ∨ 12000 ≤ Y 237 64 ∨ 200000 < Y 237 65 + ((nmR HT (hmR ms wh)).length : Int)) ∧ ∃ B : wS, (∀ (j : Nat) (x : Int), ¬ txM j x → B j x = Y j x) ∧ hZ 99 B = Z) (RI := fun Z => ¬ (100000 < (tr.length : Int) + 2 ∨ 12000 ≤ Y 237 64 ∨ 200000 < Y 237 65 + ((nmR HT (hmR ms wh)).length : Int)) ∧ rmI t K T L G (3, 0, (nmR HT (hmR ms wh))) wh es tr rMu Y Z ∧ (rTt Z ∧ rTb Z) ∧ (Z 237 102 = Y 237 102 + 1 ∧ Z 237 103 = Y 237 103 + ((nmR HT (hmR ms wh)).length : Int) ∧ Z 237 64 = Y 237 64 + 1 ∧ Z 237 65 = Y 237 65 + ((nmR HT (hmR ms wh)).length : Int))) h00 hKR hwH hm.1 (by have := hm.2; omega) hkd hb1 (fun j x z => by unfold rMu at z; omega) (wJ_mono (rdx_241 (d := d) (tn := (tr.length : Int)) (en := es) (m2 := Y 237 102) (bt := Y 237 103) (u2 := Y 237 64) (u3 := Y 237 65) hX hP.1 hKR hwH hm.1 hm.2 htr.1 ⟨by omega, htr.2.2⟩ h76 ⟨by have := hg.1.1; omega, by have := hg.1.2.1; omega⟩ hff hty rfl rfl rfl rfl rfl ⟨y5.1, y8⟩ ⟨y7.1, y7.2⟩ hu2 hu3) (fun o Z hz => ?_)) (fun Z hZ => hZ.2.1)) (fun o V hq => ?_)
  · rcases hz with ⟨z1, z2, z3⟩ | ⟨z1, B, hB, ⟨z2, z3, z4⟩ | ⟨z2, z3, z4, C, hC, hZ⟩⟩
    · exact Or.inl ⟨z2, Or.inl z1, Y, fun _ _ _ => rfl, z3⟩
    · exact Or.inl ⟨z3, Or.inr z2, B, hB.2.2, z4⟩
    · exact Or.inr ⟨z4, by omega, rmI_t hK hP.1 hW htt htb htr z1 hB ⟨z2, z3⟩ hC hZ⟩
  · rcases hq with ⟨z1, z2, z3⟩ | ⟨z1, z2, Z, hZ, z3⟩
    · exact Or.inl ⟨z2, z1, z3⟩
    · obtain ⟨n1, n2, ⟨n3, n4⟩, n5, n6, n7, n8⟩ := hZ
      have g := fun (j : Nat) (x : Int) (h1 : j < 357) (h2 : j ≠ 237 ∨ (x ≠ 110 ∧ x ≠ 111)) => z3 j x h1 h2
      exact Or.inr ⟨n1, z1, z2, ⟨rTt_ag n3 (g 237 19 (by first | decide | omega) (by first | decide | omega)) (g 237 102 (by first | decide | omega) (by first | decide | omega)) (fun x => ⟨g 284 x (by first | decide | omega) (by omega), g 285 x (by first | decide | omega) (by omega)⟩), rTb_ag n4 (g 237 19 (by first | decide | omega) (by first | decide | omega)) (g 237 102 (by first | decide | omega) (by first | decide | omega)) (g 237 103 (by first | decide | omega) (by first | decide | omega)) (g 237 64 (by first | decide | omega) (by first | decide | omega)) (g 237 65 (by first | decide | omega) (by first | decide | omega)) (fun x => ⟨g 284 x (by first | decide | omega) (by omega), g 285 x (by first | decide | omega) (by omega)⟩)⟩, ⟨(g 237 102 (by first | decide | omega) (by first | decide | omega)).trans n5, (g 237 103 (by first | decide | omega) (by first | decide | omega)).trans n6, (g 237 64 (by first | decide | omega) (by first | decide | omega)).trans n7, (g 237 65 (by first | decide | omega) (by first | decide | omega)).trans n8⟩, rTx_tr n2.2.2.2.2.2.1 (rTx_of (g 237 19 (by first | decide | omega) (by first | decide | omega)) (g 237 102 (by first | decide | omega) (by first | decide | omega)) (fun j x j0 j1 => g j x (by omega) (by omega)))⟩
theorem rnk_241 {ho sh : Int} (h : rdR t kd ba gk gb es l ho wh sh K T sl L G Y) (hKR : KR 241 HT nT cs ms Y) (hwH : wHo cs ms os) (hX : w_X xs) (hm : (0 ≤ wh ∧ wh < (ms.length : Int)) ∧ (hmR ms wh).2.1 = 2) (htr : rTrc Y tr) (hg : arG K ba es ar) (hkd : 0 ≤ kd ∧ kd ≤ 6) (hb1 : kd = 1 → ba + 2 = K.1.length) (hF : (flA cs ms (hmR ms wh).1).length ≤ 400) (hpn : 0 < ar.length → 1 ≤ (hmR ms wh).2.2.2.2.1.length) (hav : ∀ u ∈ ar, vOk T u) (hmd : (T.length : Int) ≤ Y 237 62 ∧ Y 237 62 ≤ 8000) (h8b : 0 ≤ Y 237 82 ∧ Y 237 82 ≤ Y 237 63 ∧ Y 237 63 ≤ 60000) : wJ (pe_GA xs) wY0 M (d + 9) t_M_actsOnHost ((pe_at t_M_actsOnHost.bl 0).getD (0, [])).2 [(0, (2, 237)), (1, (0, kd))] [] Y (fun o V => ((100000 < (tr.length : Int) + 2 ∨ 8000 < Y 237 62 + 1 ∨ 60000 < Y 237 63 + ((flA cs ms (hmR ms wh).1).length : Int)) ∧ o = .inr 238 ∧ ∃ B : wS, (∀ (j : Nat) (x : Int), ¬ flM j x → B j x = Y j x) ∧ hZ 99 B = V) ∨ (¬ (100000 < (tr.length : Int) + 2 ∨ 8000 < Y 237 62 + 1 ∨ 60000 < Y 237 63 + ((flA cs ms (hmR ms wh).1).length : Int)) ∧ o = .inl none ∧ rmO t K ba kd (7, (T.length : Int), []) (T ++ [(7, -1, (hmR ms wh).1, -1, -1, 0, inP (flA cs ms (hmR ms wh).1).length (ftO cs ms (hmR ms wh).1) (fun i => prT (hmR ms wh) i) ar)]) L G wh es tr rMi Y V ∧ (V 237 62 = Y 237 62 + 1 ∧ V 237 63 = Y 237 63 + ((flA cs ms (hmR ms wh).1).length : Int) ∧ V 237 82 = Y 237 82 + ((flA cs ms (hmR ms wh).1).length : Int)))) := wJ_E (fun hE => by
  have h00 := h
  obtain ⟨⟨hP, hK, hW, ht⟩, hKl, ⟨hT, h82, hll⟩, ⟨h73, hba, h74, h75, h76⟩, h66, h69, h70, h71⟩ := h
  obtain ⟨hTh, hCa, -, ⟨hL8, h94⟩, -⟩ := id hW
  have k0 := hKl.1
  have hbb : 0 ≤ (ba : Int) ∧ (ba : Int) < (K.1.length : Int) := ⟨by omega, by omega⟩
  have hg1 := hg.1
  refine wJ_mono (rmT_241 (d := d) (a := (7, (T.length : Int), [])) (T2 := (T ++ [(7, -1, (hmR ms wh).1, -1, -1, 0, inP (flA cs ms (hmR ms wh).1).length (ftO cs ms (hmR ms wh).1) (fun i => prT (hmR ms wh) i) ar)])) (mk := rMi) (en := es) (tr := tr) (ER := fun Z => (100000 < (tr.length : Int) + 2 ∨ 8000 < Y 237 62 + 1 ∨ 60000 < Y 237 63 + ((flA cs ms (hmR ms wh).1).length : Int)) ∧ ∃ B : wS, (∀ (j : Nat) (x : Int), ¬ flM j x → B j x = Y j x) ∧ hZ 99 B = Z) (RI := fun Z => ¬ (100000 < (tr.length : Int) + 2 ∨ 8000 < Y 237 62 + 1 ∨ 60000 < Y 237 63 + ((flA cs ms (hmR ms wh).1).length : Int)) ∧ rmI t K (T ++ [(7, -1, (hmR ms wh).1, -1, -1, 0, inP (flA cs ms (hmR ms wh).1).length (ftO cs ms (hmR ms wh).1) (fun i => prT (hmR ms wh) i) ar)]) L G (7, (T.length : Int), []) wh es tr rMi Y Z ∧ (Z 237 62 = Y 237 62 + 1 ∧ Z 237 63 = Y 237 63 + ((flA cs ms (hmR ms wh).1).length : Int) ∧ Z 237 82 = Y 237 82 + ((flA cs ms (hmR ms wh).1).length : Int))) h00 hKR hwH hm.1 (by have := hm.2; omega) hkd hb1 (fun j x z => by unfold rMi at z; omega) (wJ_mono (rdk_241 (d := d) (c := (hmR ms wh).1) (tn := (tr.length : Int)) (g := (T.length : Int)) (u0 := Y 237 62) (v0 := Y 237 63) (s0 := Y 237 82) (r := 2100 * t + (ba : Int)) (es := (pEs Y 363 364 (2100 * t + (ba : Int) + 1) ar.length)) hP.1 hKR hwH hm.1 rfl hF htr.1 ⟨by omega, htr.2.2⟩ hTh.1 ⟨by omega, hmd.1⟩ rfl hmd.2 rfl rfl h8b (by rw [pEs_l]; exact hpn) (by rw [pEs_l]; omega) h73 (by rw [pEs_l]; exact h76.trans hg1.1.symm) ⟨by omega, by rw [pEs_l]; omega⟩ (fun i hi => by rw [pEs_l] at hi; rw [pEs_g hi]; exact ⟨rfl, rfl⟩) (fun i hi => ?_) hm.2) (fun o Z hz => ?_)) (fun Z hZ => hZ.2.1)) (fun o V hq => ?_)
  · rw [pEs_l] at hi
    rw [pEs_g hi]
    have z := ar_r hK hg hi
    exact ⟨by show 0 ≤ Y 363 _ ∧ Y 363 _ ≤ 8; rw [z.1]; exact (hav _ (show ar.getD i (0, 0, []) ∈ ar by rw [List.getD_eq_getElem?_getD, List.getElem?_eq_getElem hi]; exact List.getElem_mem _)).1, p_lr hE hP.1 (by omega) (by omega)⟩
  · rcases hz with ⟨z1, z2, z3⟩ | ⟨z1, B, hB, ⟨z2, z3, z4⟩ | ⟨z2, z3, z4, hma⟩⟩
    · exact Or.inl ⟨z2, Or.inl z1, Y, fun _ _ _ => rfl, z3⟩
    · exact Or.inl ⟨z3, Or.inr z2, B, hB, z4⟩
    · rw [pEs_l, hg1.1] at hma
      exact Or.inr ⟨z4, by omega, rmI_m (ar := ar) hK hP.1 hW htr z1 h8b.1 hB pEs_l (fun q hq => by rw [pEs_l] at hq; rw [pEs_g hq]; exact ar_r hK hg hq) hma⟩
  · rcases hq with ⟨z1, z2, z3⟩ | ⟨z1, z2, Z, hZ, z3⟩
    · exact Or.inl ⟨z2, z1, z3⟩
    · obtain ⟨n1, n2, n3, n4, n5⟩ := hZ
      exact Or.inr ⟨n1, z1, z2, (z3 237 62 (by first | decide | omega) (by first | decide | omega)).trans n3, (z3 237 63 (by first | decide | omega) (by first | decide | omega)).trans n4, (z3 237 82 (by first | decide | omega) (by first | decide | omega)).trans n5⟩)
theorem rnx_261 {ho sh : Int} (h : rdR t kd ba gk gb es l ho wh sh K T sl L G Y) (hKR : KR 261 HT nT cs ms Y) (hwH : wHo cs ms os) (hX : w_X xs) (hm : (0 ≤ wh ∧ wh < (ms.length : Int)) ∧ (hmR ms wh).2.1 = 1) (htr : rTrc Y tr) (hg : arG K ba es ar) (hkd : 0 ≤ kd ∧ kd ≤ 6) (hb1 : kd = 1 → ba + 2 = K.1.length) (hff : ffA HT cs ms wh = -1) (hty : (hmR ms wh).2.2.2.1 = 7) (htt : rTt Y) (htb : rTb Y) (hu2 : Y 237 64 ≤ 12000) (hu3 : Y 237 65 ≤ 200000) : wJ (pe_GA xs) wY0 M (d + 9) t_M_actsOnHost ((pe_at t_M_actsOnHost.bl 0).getD (0, [])).2 [(0, (2, 237)), (1, (0, kd))] [] Y (fun o V => ((100000 < (tr.length : Int) + 2 ∨ 12000 ≤ Y 237 64 ∨ 200000 < Y 237 65 + ((nmR HT (hmR ms wh)).length : Int)) ∧ o = .inr 238 ∧ ∃ B : wS, (∀ (j : Nat) (x : Int), ¬ txM j x → B j x = Y j x) ∧ hZ 99 B = V) ∨ (¬ (100000 < (tr.length : Int) + 2 ∨ 12000 ≤ Y 237 64 ∨ 200000 < Y 237 65 + ((nmR HT (hmR ms wh)).length : Int)) ∧ o = .inl none ∧ rmO t K ba kd (3, 0, (nmR HT (hmR ms wh))) T L G wh es tr rMu Y V ∧ (rTt V ∧ rTb V) ∧ (V 237 102 = Y 237 102 + 1 ∧ V 237 103 = Y 237 103 + ((nmR HT (hmR ms wh)).length : Int) ∧ V 237 64 = Y 237 64 + 1 ∧ V 237 65 = Y 237 65 + ((nmR HT (hmR ms wh)).length : Int)) ∧ rTx Y V)) := by
  have h00 := h
  obtain ⟨⟨hP, hK, hW, ht⟩, hKl, ⟨hT, h82, hll⟩, ⟨h73, hba, h74, h75, h76⟩, h66, h69, h70, h71⟩ := h
  obtain ⟨hTh, hCa, -, ⟨hL8, h94⟩, -⟩ := id hW
  have k0 := hKl.1
  have hbb : 0 ≤ (ba : Int) ∧ (ba : Int) < (K.1.length : Int) := ⟨by omega, by omega⟩
  have y5 := htt.2.1
  have y7 := htb.1
  have y8 := htb.2.1.1
  refine wJ_mono (rmT_261 (d := d) (a := (3, 0, (nmR HT (hmR ms wh)))) (T2 := T) (mk := rMu) (en := es) (tr := tr) (ER := fun Z => (100000 < (tr.length : Int) + 2 ∨ 12000 ≤ Y 237 64 ∨ 200000 < Y 237 65 + ((nmR HT (hmR ms wh)).length : Int)) ∧ ∃ B : wS, (∀ (j : Nat) (x : Int), ¬ txM j x → B j x = Y j x) ∧ hZ 99 B = Z) (RI := fun Z => ¬ (100000 < (tr.length : Int) + 2 ∨ 12000 ≤ Y 237 64 ∨ 200000 < Y 237 65 + ((nmR HT (hmR ms wh)).length : Int)) ∧ rmI t K T L G (3, 0, (nmR HT (hmR ms wh))) wh es tr rMu Y Z ∧ (rTt Z ∧ rTb Z) ∧ (Z 237 102 = Y 237 102 + 1 ∧ Z 237 103 = Y 237 103 + ((nmR HT (hmR ms wh)).length : Int) ∧ Z 237 64 = Y 237 64 + 1 ∧ Z 237 65 = Y 237 65 + ((nmR HT (hmR ms wh)).length : Int))) h00 hKR hwH hm.1 (by have := hm.2; omega) hkd hb1 (fun j x z => by unfold rMu at z; omega) (wJ_mono (rdx_261 (d := d) (tn := (tr.length : Int)) (en := es) (m2 := Y 237 102) (bt := Y 237 103) (u2 := Y 237 64) (u3 := Y 237 65) hX hP.1 hKR hwH hm.1 hm.2 htr.1 ⟨by omega, htr.2.2⟩ h76 ⟨by have := hg.1.1; omega, by have := hg.1.2.1; omega⟩ hff hty rfl rfl rfl rfl rfl ⟨y5.1, y8⟩ ⟨y7.1, y7.2⟩ hu2 hu3) (fun o Z hz => ?_)) (fun Z hZ => hZ.2.1)) (fun o V hq => ?_)
  · rcases hz with ⟨z1, z2, z3⟩ | ⟨z1, B, hB, ⟨z2, z3, z4⟩ | ⟨z2, z3, z4, C, hC, hZ⟩⟩
    · exact Or.inl ⟨z2, Or.inl z1, Y, fun _ _ _ => rfl, z3⟩
    · exact Or.inl ⟨z3, Or.inr z2, B, hB.2.2, z4⟩
    · exact Or.inr ⟨z4, by omega, rmI_t hK hP.1 hW htt htb htr z1 hB ⟨z2, z3⟩ hC hZ⟩
  · rcases hq with ⟨z1, z2, z3⟩ | ⟨z1, z2, Z, hZ, z3⟩
    · exact Or.inl ⟨z2, z1, z3⟩
    · obtain ⟨n1, n2, ⟨n3, n4⟩, n5, n6, n7, n8⟩ := hZ
      have g := fun (j : Nat) (x : Int) (h1 : j < 357) (h2 : j ≠ 237 ∨ (x ≠ 110 ∧ x ≠ 111)) => z3 j x h1 h2
      exact Or.inr ⟨n1, z1, z2, ⟨rTt_ag n3 (g 237 19 (by first | decide | omega) (by first | decide | omega)) (g 237 102 (by first | decide | omega) (by first | decide | omega)) (fun x => ⟨g 284 x (by first | decide | omega) (by omega), g 285 x (by first | decide | omega) (by omega)⟩), rTb_ag n4 (g 237 19 (by first | decide | omega) (by first | decide | omega)) (g 237 102 (by first | decide | omega) (by first | decide | omega)) (g 237 103 (by first | decide | omega) (by first | decide | omega)) (g 237 64 (by first | decide | omega) (by first | decide | omega)) (g 237 65 (by first | decide | omega) (by first | decide | omega)) (fun x => ⟨g 284 x (by first | decide | omega) (by omega), g 285 x (by first | decide | omega) (by omega)⟩)⟩, ⟨(g 237 102 (by first | decide | omega) (by first | decide | omega)).trans n5, (g 237 103 (by first | decide | omega) (by first | decide | omega)).trans n6, (g 237 64 (by first | decide | omega) (by first | decide | omega)).trans n7, (g 237 65 (by first | decide | omega) (by first | decide | omega)).trans n8⟩, rTx_tr n2.2.2.2.2.2.1 (rTx_of (g 237 19 (by first | decide | omega) (by first | decide | omega)) (g 237 102 (by first | decide | omega) (by first | decide | omega)) (fun j x j0 j1 => g j x (by omega) (by omega)))⟩
theorem rnk_261 {ho sh : Int} (h : rdR t kd ba gk gb es l ho wh sh K T sl L G Y) (hKR : KR 261 HT nT cs ms Y) (hwH : wHo cs ms os) (hX : w_X xs) (hm : (0 ≤ wh ∧ wh < (ms.length : Int)) ∧ (hmR ms wh).2.1 = 2) (htr : rTrc Y tr) (hg : arG K ba es ar) (hkd : 0 ≤ kd ∧ kd ≤ 6) (hb1 : kd = 1 → ba + 2 = K.1.length) (hF : (flA cs ms (hmR ms wh).1).length ≤ 400) (hpn : 0 < ar.length → 1 ≤ (hmR ms wh).2.2.2.2.1.length) (hav : ∀ u ∈ ar, vOk T u) (hmd : (T.length : Int) ≤ Y 237 62 ∧ Y 237 62 ≤ 8000) (h8b : 0 ≤ Y 237 82 ∧ Y 237 82 ≤ Y 237 63 ∧ Y 237 63 ≤ 60000) : wJ (pe_GA xs) wY0 M (d + 9) t_M_actsOnHost ((pe_at t_M_actsOnHost.bl 0).getD (0, [])).2 [(0, (2, 237)), (1, (0, kd))] [] Y (fun o V => ((100000 < (tr.length : Int) + 2 ∨ 8000 < Y 237 62 + 1 ∨ 60000 < Y 237 63 + ((flA cs ms (hmR ms wh).1).length : Int)) ∧ o = .inr 238 ∧ ∃ B : wS, (∀ (j : Nat) (x : Int), ¬ flM j x → B j x = Y j x) ∧ hZ 99 B = V) ∨ (¬ (100000 < (tr.length : Int) + 2 ∨ 8000 < Y 237 62 + 1 ∨ 60000 < Y 237 63 + ((flA cs ms (hmR ms wh).1).length : Int)) ∧ o = .inl none ∧ rmO t K ba kd (7, (T.length : Int), []) (T ++ [(7, -1, (hmR ms wh).1, -1, -1, 0, inP (flA cs ms (hmR ms wh).1).length (ftO cs ms (hmR ms wh).1) (fun i => prT (hmR ms wh) i) ar)]) L G wh es tr rMi Y V ∧ (V 237 62 = Y 237 62 + 1 ∧ V 237 63 = Y 237 63 + ((flA cs ms (hmR ms wh).1).length : Int) ∧ V 237 82 = Y 237 82 + ((flA cs ms (hmR ms wh).1).length : Int)))) := wJ_E (fun hE => by
  have h00 := h
  obtain ⟨⟨hP, hK, hW, ht⟩, hKl, ⟨hT, h82, hll⟩, ⟨h73, hba, h74, h75, h76⟩, h66, h69, h70, h71⟩ := h
  obtain ⟨hTh, hCa, -, ⟨hL8, h94⟩, -⟩ := id hW
  have k0 := hKl.1
  have hbb : 0 ≤ (ba : Int) ∧ (ba : Int) < (K.1.length : Int) := ⟨by omega, by omega⟩
  have hg1 := hg.1
  refine wJ_mono (rmT_261 (d := d) (a := (7, (T.length : Int), [])) (T2 := (T ++ [(7, -1, (hmR ms wh).1, -1, -1, 0, inP (flA cs ms (hmR ms wh).1).length (ftO cs ms (hmR ms wh).1) (fun i => prT (hmR ms wh) i) ar)])) (mk := rMi) (en := es) (tr := tr) (ER := fun Z => (100000 < (tr.length : Int) + 2 ∨ 8000 < Y 237 62 + 1 ∨ 60000 < Y 237 63 + ((flA cs ms (hmR ms wh).1).length : Int)) ∧ ∃ B : wS, (∀ (j : Nat) (x : Int), ¬ flM j x → B j x = Y j x) ∧ hZ 99 B = Z) (RI := fun Z => ¬ (100000 < (tr.length : Int) + 2 ∨ 8000 < Y 237 62 + 1 ∨ 60000 < Y 237 63 + ((flA cs ms (hmR ms wh).1).length : Int)) ∧ rmI t K (T ++ [(7, -1, (hmR ms wh).1, -1, -1, 0, inP (flA cs ms (hmR ms wh).1).length (ftO cs ms (hmR ms wh).1) (fun i => prT (hmR ms wh) i) ar)]) L G (7, (T.length : Int), []) wh es tr rMi Y Z ∧ (Z 237 62 = Y 237 62 + 1 ∧ Z 237 63 = Y 237 63 + ((flA cs ms (hmR ms wh).1).length : Int) ∧ Z 237 82 = Y 237 82 + ((flA cs ms (hmR ms wh).1).length : Int))) h00 hKR hwH hm.1 (by have := hm.2; omega) hkd hb1 (fun j x z => by unfold rMi at z; omega) (wJ_mono (rdk_261 (d := d) (c := (hmR ms wh).1) (tn := (tr.length : Int)) (g := (T.length : Int)) (u0 := Y 237 62) (v0 := Y 237 63) (s0 := Y 237 82) (r := 2100 * t + (ba : Int)) (es := (pEs Y 363 364 (2100 * t + (ba : Int) + 1) ar.length)) hP.1 hKR hwH hm.1 rfl hF htr.1 ⟨by omega, htr.2.2⟩ hTh.1 ⟨by omega, hmd.1⟩ rfl hmd.2 rfl rfl h8b (by rw [pEs_l]; exact hpn) (by rw [pEs_l]; omega) h73 (by rw [pEs_l]; exact h76.trans hg1.1.symm) ⟨by omega, by rw [pEs_l]; omega⟩ (fun i hi => by rw [pEs_l] at hi; rw [pEs_g hi]; exact ⟨rfl, rfl⟩) (fun i hi => ?_) hm.2) (fun o Z hz => ?_)) (fun Z hZ => hZ.2.1)) (fun o V hq => ?_)
  · rw [pEs_l] at hi
    rw [pEs_g hi]
    have z := ar_r hK hg hi
    exact ⟨by show 0 ≤ Y 363 _ ∧ Y 363 _ ≤ 8; rw [z.1]; exact (hav _ (show ar.getD i (0, 0, []) ∈ ar by rw [List.getD_eq_getElem?_getD, List.getElem?_eq_getElem hi]; exact List.getElem_mem _)).1, p_lr hE hP.1 (by omega) (by omega)⟩
  · rcases hz with ⟨z1, z2, z3⟩ | ⟨z1, B, hB, ⟨z2, z3, z4⟩ | ⟨z2, z3, z4, hma⟩⟩
    · exact Or.inl ⟨z2, Or.inl z1, Y, fun _ _ _ => rfl, z3⟩
    · exact Or.inl ⟨z3, Or.inr z2, B, hB, z4⟩
    · rw [pEs_l, hg1.1] at hma
      exact Or.inr ⟨z4, by omega, rmI_m (ar := ar) hK hP.1 hW htr z1 h8b.1 hB pEs_l (fun q hq => by rw [pEs_l] at hq; rw [pEs_g hq]; exact ar_r hK hg hq) hma⟩
  · rcases hq with ⟨z1, z2, z3⟩ | ⟨z1, z2, Z, hZ, z3⟩
    · exact Or.inl ⟨z2, z1, z3⟩
    · obtain ⟨n1, n2, n3, n4, n5⟩ := hZ
      exact Or.inr ⟨n1, z1, z2, (z3 237 62 (by first | decide | omega) (by first | decide | omega)).trans n3, (z3 237 63 (by first | decide | omega) (by first | decide | omega)).trans n4, (z3 237 82 (by first | decide | omega) (by first | decide | omega)).trans n5⟩)
end Wjp
