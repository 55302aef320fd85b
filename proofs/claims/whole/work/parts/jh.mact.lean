/-! PART jh: acting at a site by tasks: NEW of a fun: of the reference. -/
section Wjh0
variable {xs : List (Nat × List Int32)} {M : Nat → Prop} {d : Nat} {S Z : wS} {t c p h tp ba s kd gk gb es : Int} {Q : wO → wS → Prop}
theorem rnw_ok (hP : mP t c p h tp S) (h73 : S 237 173 = 2100 * t + ba) (hba : 0 ≤ ba ∧ ba ≤ h) (h74 : S 237 174 = gk) (h75 : S 237 175 = gb) (hgb : 0 ≤ gb ∧ gb < 8000) (h76 : S 237 176 = es) (hkd : kd = 6) (hcal : wJ (pe_GA xs) wY0 (fun _ => False) (d + 8) t_M_news ((pe_at t_M_news.bl 0).getD (0, [])).2 [(0, (2, 237)), (1, (0, gb))] [] S Q) (hQ : ∀ (o : wO) (Z : wS), Q o Z → o = .inl none ∨ o = .inr 238) : wJ (pe_GA xs) wY0 M (d + 9) t_M_actsOnThing ((pe_at t_M_actsOnThing.bl 0).getD (0, [])).2 [(0, (2, 237)), (1, (0, s)), (2, (0, kd))] [] S Q := by
  obtain ⟨hM, ⟨mt, mt0, mt1⟩, mp, mf, ⟨mc, mc0, mc1⟩, ⟨mtp, mtq⟩, ⟨mpa, mp0, mp1⟩, mh, mh0, mh1⟩ := hP
  refine wa_aload_n (n := 0) rfl ?_
  refine wb_gfl 237 rfl (wy_pr rfl) wt_237 wf_15_175 (v := gb) (h75) (fun r1 => ?_)
  refine wb_l2i_r (wb_l2i_id ⟨(by omega), (by omega)⟩) ?_
  refine wa_istore_n (n := 3) rfl ?_
  refine wa_iload_n (n := 2) rfl ?_
  refine wa_iconst ?_
  refine wa_icmpne (w_rg0 (by omega) (by omega)) (w_rg0 (by omega) (by omega)) ⟨_, rfl⟩ (fun c2 => ?_) (fun c2 => ?_)
  · skip
    refine wa_iload_n (n := 2) rfl ?_
    refine wa_bipush (w_rg2 (by omega) (by omega)) ?_
    refine wa_icmpne (w_rg0 (by omega) (by omega)) (w_rg0 (by omega) (by omega)) ⟨_, rfl⟩ (fun c3 => ?_) (fun c3 => ?_)
    · skip
      exact absurd c3 (by omega)
    · skip
      refine wa_aload_n (n := 0) rfl ?_
      refine wa_iload_n (n := 3) rfl ?_
      refine wa_cv 237 rfl (wy_pr rfl) wt_237 (M2 := fun _ => False) rfl at_M_news ⟨_, rfl⟩ rfl rfl ⟨trivial, (Or.inr ⟨wy_pr rfl, fun q => q⟩), trivial, trivial, trivial⟩ trivial (fun _ _ q => False.elim q) ((wJ_mono hcal (fun o Z hz => (⟨hQ o Z hz, hz⟩ : (o = .inl none ∨ o = .inr 238) ∧ Q o Z)))) (fun oq4 Sq4 hp5 q4 => ?_)
      rcases q4 with ⟨rfl | rfl, hzq⟩
      · skip
        show wJ _ _ _ _ _ _ _ _ _ _
        refine wa_return rfl ?_
        exact hzq
      · skip
        refine ⟨rfl, ?_⟩
        exact hzq
  · skip
    exact absurd c2 (by omega)
end Wjh0
section Wjh
variable {xs : List (Nat × List Int32)} {M : Nat → Prop} {d : Nat} {Y : wS} {K : aK} {T : List aO} {H : List aH} {L : List aC} {G : Int → aV} {sl : Nat → List Int} {t s kd gk gb es hd wh e50 l : Int} {ba : Nat} {A B : wS}
theorem gD_app {α : Type} {l : List α} {x d : α} {i : Nat} (h : i < l.length) : (l ++ [x]).getD i d = l.getD i d := by rw [List.getD_eq_getElem?_getD, List.getElem?_append_left h, ← List.getD_eq_getElem?_getD]
theorem gD_la {α : Type} {l : List α} {x d : α} {i : Nat} (h : i = l.length) : (l ++ [x]).getD i d = x := by rw [List.getD_eq_getElem?_getD, List.getElem?_append_right (by omega), h, Nat.sub_self]; rfl
/-- the reference notes what NEW has made -/
theorem rTk_md {lp : List aV} {q f n g : Int} {th : aV} (h : rTk t Y (kCl K lp q f n th (-1))) : rTk t (w_up Y 370 (200 * t + (K.2.1.length : Int)) g) (kCl K lp q f n th g) := by
  obtain ⟨⟨a1, a2⟩, ⟨b1, b2⟩, ⟨c1, c2, c3⟩, d1, d2⟩ := h
  have eT : rTx Y (w_up Y 370 (200 * t + (K.2.1.length : Int)) g) := rTx_of rfl rfl (fun j x j0 j1 => w_up_slot (by omega))
  have ek : (kNx K q).2.1.length = K.2.1.length := List.length_set
  have el : ∀ md : Int, (kCl K lp q f n th md).2.1 = ((kNx K q).2.1 ++ [(f, 0, n, th, md, lp.length, K.2.2.1.length)]) := fun _ => rfl
  have e2 : ∀ md : Int, ((kNx K q).2.1 ++ [(f, 0, n, th, md, lp.length, K.2.2.1.length)]).length = K.2.1.length + 1 := fun md => by rw [List.length_append, ek]; rfl
  rw [el, e2] at b1
  refine ⟨⟨a1, fun i hi => rVl_mo (a2 i hi) eT⟩, ⟨by rw [el, e2]; exact b1, fun i hi => ?_⟩, ⟨c1, c2, fun i hi => c3 i hi⟩, d1, fun hd => rVl_mo (d2 hd) eT⟩
  rw [el, e2] at hi
  have b := b2 i (by rw [el, e2]; exact hi)
  rw [el] at b ⊢
  by_cases c : i < K.2.1.length
  · rw [gD_app (by rw [ek]; exact c)] at b ⊢
    obtain ⟨⟨x1, x2, x3⟩, x4, x5, x6, x7⟩ := b
    exact ⟨⟨x1, x2, x3⟩, rVl_mo x4 eT, (w_up_at (by omega)).trans x5, x6, x7⟩
  · have ei : i = K.2.1.length := by omega
    rw [gD_la (by rw [ek]; exact ei)] at b ⊢
    obtain ⟨⟨x1, x2, x3⟩, x4, x5, x6, x7⟩ := b
    refine ⟨⟨x1, x2, x3⟩, rVl_mo x4 eT, ?_, x6, x7⟩
    rw [ei]
    exact w_up_same _ _ _ _
theorem aFs_0 (h : wSh T H) : aFs (-1) (-1) (-1) H 0 = 0 ∧ 0 < H.length := by
  have h0 := h.1.1
  cases hh : H with
  | nil => rw [hh] at h0; exact absurd (congrArg (fun z => z.1) h0) (by first | decide | omega)
  | cons a l =>
    rw [hh] at h0
    have e : a = (-1, -1, -1, 0) := h0
    refine ⟨?_, by rw [List.length_cons]; omega⟩
    rw [e]
    unfold aFs
    exact if_pos ⟨rfl, rfl, rfl⟩
def rMw (j : Nat) (x : Int) : Prop := rMb j x ∨ rMc j x
def nrP (t : Int) (K : aK) (T1 : List aO) (H1 : List aH) (sl : Nat → List Int) (L : List aC) (G : Int → aV) (ba : Nat) (f ar : Int) (vn : Nat) (pn sh n ds : Int) (Y Z : wS) : Prop := rTk t Z (kCl K (K.1.take ba) ((K.2.1.getD (K.2.1.length - 1) (0, 0, 0, (0, 0, []), 0, 0, 0)).2.1 + 1) f (L.length : Int) (4, n, []) n) ∧ rWd Z sl (T1 ++ [(4, sh, -1, -1, -1, 0, [])]) (L ++ [(ar, aVr K.1 ba (esN K ba pn) vn)]) G ∧ rHs Z H1 ∧ rTm t rMw Y Z ∧ Z 237 62 = Y 237 62 + 2 ∧ Z 237 63 = Y 237 63 + (vn : Int) ∧ Z 237 94 = Y 237 94 + (vn : Int) ∧ Z 237 66 = Y 237 66 + ds
def nrQ (T : List aO) (H : List aH) (q : Int) (Y : wS) : Prop := q ≠ -1 ∧ aFs (-1) q (-1) H 0 = -1 ∧ 4000 ≤ Y 237 66
def nrR (t : Int) (K : aK) (T : List aO) (H : List aH) (sl : Nat → List Int) (L : List aC) (G : Int → aV) (ba : Nat) (f ar : Int) (vn : Nat) (pn q : Int) (Y : wS) (o : wO) (Z : wS) : Prop := (K.2.1.length = 200 ∧ o = .inr 238 ∧ hZ 11 Y = Z) ∨ (K.2.1.length < 200 ∧ (8000 < Y 237 62 + 2 ∨ 60000 < Y 237 63 + (vn : Int) ∨ nrQ T H q Y) ∧ o = .inr 238 ∧ hZ 99 Y = Z) ∨ (K.2.1.length < 200 ∧ (Y 237 62 + 2 ≤ 8000 ∧ Y 237 63 + (vn : Int) ≤ 60000 ∧ ¬ nrQ T H q Y) ∧ o = .inl none ∧ nrP t K (aBr T H q).1 (aBr T H q).2.1 (aSl sl T.length) L G ba f ar vn pn (aBr T H q).2.2 (T.length : Int) (if q ≠ -1 ∧ aFs (-1) q (-1) H 0 = -1 then 1 else 0) Y Z)
theorem nrR_o {f ar pn q : Int} {vn : Nat} {o : wO} {Z : wS} (h : nrR t K T H sl L G ba f ar vn pn q Y o Z) : o = .inl none ∨ o = .inr 238 := by
  rcases h with h | h | h
  · exact Or.inr h.2.1
  · exact Or.inr h.2.2.1
  · exact Or.inl h.2.2.1
theorem nrX {T1 : List aO} {H1 : List aH} {f ar pn sh : Int} {vn : Nat} {V : wS} (hKB : rTk t B K) (hWB : rWd B sl T1 L G) (hHB : rHs B H1) (hl1 : T1.length = T.length) (ht : 0 ≤ t ∧ t ≤ 1) (hKl : 0 < K.2.1.length ∧ K.2.1.length < 200 ∧ K.1.length ≤ 2001) (hba : ba < K.1.length) (hes : es = (K.1.length : Int) - (ba : Int) - 1) (hp : 0 ≤ pn) (n2 : 0 ≤ B 237 94) (n4 : (L.length : Int) < 8000) (n5 : B 237 94 + (vn : Int) ≤ 60000) (hq : cfQ t (K.2.1.length : Int) (K.2.1.getD (K.2.1.length - 1) (0, 0, 0, (0, 0, []), 0, 0, 0)).2.1 (200 * t + (K.2.1.length : Int) - 1) (B 237 94) (B 237 63) (vn : Int) pn es (ba : Int) f ar (L.length : Int) (B 237 62 + 1) 4 (T.length : Int) (K.2.2.1.length : Int) (w_up (ntZ 4 (T.length : Int) (B 237 62) B) 315 (T.length : Int) sh) V) : nrP t K T1 H1 (aSl sl T.length) L G ba f ar vn pn sh (T.length : Int) 0 B (w_up V 370 (200 * t + (K.2.1.length : Int)) (T.length : Int)) := by
  have nf : nt_f 4 sh (-1) (-1) (T.length : Int) B (w_up (ntZ 4 (T.length : Int) (B 237 62) B) 315 (T.length : Int) sh) := nt_sh (nt_g (kd := 4) (n := (T.length : Int)) (S := B) rfl (by first | decide | omega) (by first | decide | omega))
  obtain ⟨⟨c8, c2⟩, -, -, fr⟩ := id nf
  have eX : rTx B (w_up (ntZ 4 (T.length : Int) (B 237 62) B) 315 (T.length : Int) sh) := rTx_of (fr 237 19 (by first | decide | omega) (Or.inl (by first | decide | omega))) (fr 237 102 (by first | decide | omega) (Or.inl (by first | decide | omega))) (fun j x j0 j1 => fr j x (by omega) (by omega))
  have hkX := rTk_fr hKB eX (fun j x j0 j1 => fr j x (by omega) (by omega))
  have hWX := rWd_nx hWB (n := (T.length : Int)) (by rw [hl1]) nf
  obtain ⟨e1, e2⟩ := esN_e (K := K) (ba := ba) hba hp
  obtain ⟨r1, r2, r3, r4, r5, r6⟩ := cf_k (es := esN K ba pn) (th := (4, (T.length : Int), [])) hkX hWX ht hq (fr 237 94 (by first | decide | omega) (Or.inl (by first | decide | omega))) n2 (fr 237 63 (by first | decide | omega) (Or.inl (by first | decide | omega))) c2 hKl.1 hKl.2.1 e2 (fun i => by rw [e1, hes]; split <;> omega) hKl.2.2 (rV_e (by first | decide | omega) rfl) n4 n5
  rw [hl1] at r2
  have fV : ∀ (j : Nat) (x : Int), rOut t j x → ¬ rMw j x → V j x = B j x := fun j x o n => by
    refine (r3 j x o (fun z => n (Or.inr z))).trans ?_
    unfold rMw rMb rMk at n
    exact fr j x (by omega) (by omega)
  refine ⟨rTk_md r1, rWd_up r2 (Or.inl (by first | decide | omega)), rHs_up (rHs_ag hHB ((r3 237 87 (by unfold rOut; omega) (by unfold rMc; omega)).trans (fr 237 87 (by first | decide | omega) (Or.inl (by first | decide | omega)))) ?_) (by omega), fun j x o n => (w_up_no (by unfold rOut at o; omega)).trans (fV j x o n), (w_up_slot (by first | decide | omega)).trans (by rw [r4, c2]; omega), (w_up_slot (by first | decide | omega)).trans (by rw [r5, fr 237 63 (by first | decide | omega) (Or.inl (by first | decide | omega))]), (w_up_slot (by first | decide | omega)).trans (by rw [r6, fr 237 94 (by first | decide | omega) (Or.inl (by first | decide | omega))]), (w_up_slot (by first | decide | omega)).trans (((r3 237 66 (by unfold rOut; omega) (by unfold rMc; omega)).trans (fr 237 66 (by first | decide | omega) (Or.inl (by first | decide | omega)))).trans (by omega))⟩
  intro j x j0 j1
  exact (r3 j x (by unfold rOut; omega) (by unfold rMc; omega)).trans (fr j x (by omega) (by omega))
theorem rnwT {f ar pn nm : Int} {vn : Nat} {ho sh : Int} {N : List (List Int)} (h97 : pe_at (pe_GA xs).xs 97 = some (3, tx_97)) (h : rdR t kd ba gk gb es 0 ho wh sh K T sl L G Y) (hkd : kd = 6) (hH : rHs Y H) (hwS : wSh T H) (hN : mN N Y) (hnm : nm = ixL N wpro) (hf5 : isO T gb) (hpo : ∀ k : Int, isO T k → 0 ≤ aIx T nm k → (prV T nm k).1 = 4 ∨ (prV T nm k).1 = 5 → isO T (prV T nm k).2.1) (hpv : ∀ k : Int, isO T k → 0 ≤ aIx T nm k → 0 ≤ (prV T nm k).1 ∧ (prV T nm k).1 ≤ 8) (hes : es = (K.1.length : Int) - (ba : Int) - 1) (hes1 : es ≤ 100) (hfn : rFn T gb f ar vn pn Y) (hcn : rCn L Y) (hmd : (L.length : Int) + (T.length : Int) ≤ Y 237 62) (hu4 : 0 ≤ Y 237 66 ∧ Y 237 66 ≤ 4000 ∧ (H.length : Int) ≤ Y 237 66 + 1) : wJ (pe_GA xs) wY0 M (d + 9) t_M_actsOnThing ((pe_at t_M_actsOnThing.bl 0).getD (0, [])).2 [(0, (2, 237)), (1, (0, s)), (2, (0, kd))] [] Y (nrR t K T H sl L G ba f ar vn pn (npA T H nm gb) Y) := by
  obtain ⟨⟨hP, hK, hW, ht⟩, hKl, ⟨hT, h82, hll⟩, ⟨h73, hba, h74, h75, h76⟩, h66, h69, h70, h71⟩ := h
  obtain ⟨hTh, hCa, -, ⟨hL8, h94⟩, -⟩ := id hW
  obtain ⟨⟨f1, f15⟩, ⟨f2, f3⟩, f4, ⟨f5, f6⟩, f7, f8⟩ := id hfn
  obtain ⟨n1, n2, n3, n4⟩ := hcn
  obtain ⟨⟨-, -, x3, -, x4, -⟩, -⟩ := hW.1.2 gb.toNat (by omega)
  rw [show ((gb.toNat : Nat) : Int) = gb by omega] at x3 x4
  replace x3 : Y 319 gb = f := by
    refine x3.trans ?_
    show (if (tO T gb).1 = 5 then (tO T gb).2.2.1 else -1) = f
    rw [if_pos f15, f2]
  replace x4 : Y 320 gb = ar := x4.trans f3
  refine rnw_ok hP h73 ⟨by omega, by omega⟩ h74 h75 ⟨f1.1, by omega⟩ h76 hkd (wJ_mono (nws_ok (d := d) (g := (T.length : Int)) (n := (L.length : Int)) (u0 := Y 237 62) (u := Y 237 94) (v0 := Y 237 63) (f := f) (ar := ar) (vs := (vn : Int)) (pn := pn) (pl := (ba : Int)) (en := es) (z := (K.2.2.1.length : Int)) (u4 := Y 237 66) (r := aFs (-1) (npA T H nm gb) (-1) H 0) h97 hP hTh hH hwS hT h82 hN hnm hf5 hpo hpv hTh.1 rfl hCa.1 ⟨by omega, hmd⟩ rfl n1.2 rfl rfl x3 x4 f4 f5 f7 ⟨by omega, by omega⟩ n2 n3 h73 ⟨by omega, by omega⟩ h76 ⟨by omega, hes1⟩ hK.2.2.1.1 rfl hu4 rfl) (fun o Z hq => ?_)) (fun o Z hq => nrR_o hq)
  rcases hq with ⟨q1, q2, q3⟩ | ⟨q1, q2, q3, q4⟩ | ⟨q1, ⟨q2, q3⟩, q4, sh2, B, V, hB, hV, hZ2⟩
  · exact Or.inl ⟨by omega, q2, q3⟩
  · refine Or.inr (Or.inl ⟨by omega, ?_, q3, q4⟩)
    rcases q2 with z | ⟨z1, z2⟩
    · by_cases c : 8000 < Y 237 62 + 2
      · exact Or.inl c
      · exact Or.inr (Or.inl (by omega))
    · refine Or.inr (Or.inr ⟨fun c => ?_, z1, z2⟩)
      rw [c, (aFs_0 hwS).1] at z1
      omega
  · subst hZ2
    rcases hB with ⟨b1, b2, rfl⟩ | ⟨b1, b2, b3, b4⟩
    · obtain ⟨r1, r2, r3, r4, r5⟩ := nrX (T1 := T) (H1 := H) hK hW hH rfl ht ⟨hKl.1, by omega, hKl.2.2⟩ hba hes f8.1 n2.1 n4 (by omega) hV
      refine Or.inr (Or.inr ⟨by omega, ⟨q2, q3, fun z => by have := z.2.1; omega⟩, q4, ?_⟩)
      rw [b2] at r2
      unfold aBr
      by_cases c : npA T H nm gb = -1
      · rw [if_pos c, if_neg (fun z => z.1 c)]
        rw [c, (aFs_0 hwS).1] at r2
        exact ⟨r1, r2, r3, r4, r5⟩
      · rw [if_neg c, if_neg (by omega), if_neg (fun z => by have := z.2; omega)]
        exact ⟨r1, r2, r3, r4, r5⟩
    · have c : npA T H nm gb ≠ -1 := fun c => by
        rw [c, (aFs_0 hwS).1] at b1
        omega
      have hq : isO T (npA T H nm gb) := (npA_rg hwS hf5 hpo).resolve_left c
      obtain ⟨m1, m2, m3, m4⟩ := r_msb (u4 := Y 237 66) hH hW hq hwS b1
      rw [b4] at m1 m2 m3 m4
      have lT : (tEp T (npA T H nm gb) 0).length = T.length := tEp_l
      have ea : ∀ x : Int, x ≠ 87 → x ≠ 66 → B 237 x = Y 237 x := fun x x0 x1 => m4 237 x (Or.inr ⟨x0, x1⟩) (Or.inl (by first | decide | omega)) (Or.inl (by first | decide | omega))
      have hkB : rTk t B K := rTk_fr hK (rTx_of (ea 19 (by first | decide | omega) (by first | decide | omega)) (ea 102 (by first | decide | omega) (by first | decide | omega)) (fun j x j0 j1 => m4 j x (by omega) (by omega) (by omega))) (fun j x j0 j1 => m4 j x (by omega) (by omega) (by omega))
      rw [← ea 94 (by first | decide | omega) (by first | decide | omega), ← ea 63 (by first | decide | omega) (by first | decide | omega), ← ea 62 (by first | decide | omega) (by first | decide | omega)] at hV
      obtain ⟨r1, r2, r3, r4, r5, r6, r7, r8⟩ := nrX (T1 := tEp T (npA T H nm gb) 0) (H1 := H ++ [(npA T H nm gb, -1, -1, 0)]) hkB m2 m1 lT ht ⟨hKl.1, by omega, hKl.2.2⟩ hba hes f8.1 (by rw [ea 94 (by first | decide | omega) (by first | decide | omega)]; exact n2.1) n4 (by rw [ea 94 (by first | decide | omega) (by first | decide | omega)]; omega) hV
      rw [ea 62 (by first | decide | omega) (by first | decide | omega)] at r5
      rw [ea 63 (by first | decide | omega) (by first | decide | omega)] at r6
      rw [ea 94 (by first | decide | omega) (by first | decide | omega)] at r7
      rw [b3] at r2
      refine Or.inr (Or.inr ⟨by omega, ⟨q2, q3, fun z => by have := z.2.2; omega⟩, q4, ?_⟩)
      unfold aBr
      rw [if_neg c, if_pos b1, if_pos ⟨c, b1⟩]
      refine ⟨r1, r2, r3, fun j x o n => (r4 j x o n).trans (m4 j x ?_ ?_ ?_), r5, r6, r7, by rw [r8, m3]; omega⟩ <;> (unfold rMw rMb rMk at n; omega)
end Wjh
