/-! PART mc: an entry of a host's value that holds, on both sides. -/
section Wmc
variable {Sb : wS} {xs : List (Nat × List Int32)} {d : Nat} {S0 S Z : wS} {p w m : Nat} {HT : Int → Int} {cs : List hCR} {ms : List hMR} {os : Int → List Int} {X : List (List Int)} {mo t n B B2 oq : Int} {fa : Int → Int} {WE : aA → Prop} {A A2 : aA} {K2 : aK} {ml : List Nat} {k c s kd nms ne ec bh nm en : Int} {b ba : Nat} {ar : List aV} {e : aE} {V Z2 Y : wS} {o : wO} {dn : Int} {H2 : List aH} {N2 : List (List Int)} {E2 : Int → List aE} {C2 : List aQ} {W2 : Int} {c2 : Int → Int} {k2 : Int → Int → Int} {mk rk : Nat → Int → Prop} {K : aK} {T : List aO} {H : List aH} {E : Int → List aE} {gk gb es lo hi a : Int} {r : List aE × Int × Option aE} {A1 : aA} {tl cl : List Int} {sl : Nat → List Int} {L : List aC} {G : Int → aV} {u : aV} {x : List Int} {T2 : List aO} {L2 : List aC} {G2 : Int → aV} {H2 : List aH} {c2 : Int → Int} {y : Int} {Q : wO → wS → Prop} {ps : List (Int × aV)} {k hd wh : Int} {f a9 pn fn md : Int} {vn m9 : Nat} {th : aV} {g : Int} {lp : List aV} {l ds fo g : Int} {mk : Nat → Int → Prop} {C2 : List aQ} {W2 : Int} {RZ : wS → Prop} {N3 : Nat} {SB : wS} {r r0 : Int} {sh : Int} {K9 : aK} {nt : Int}
theorem ac_h (h : hyA S0 p HT cs ms os X fa n B2 w t A s kd nms ne ec bh ba ar) (hX : w_X xs) {b9 : Nat} (hH : stHo S0 p b9 HT nt cs ms os n) (hO9 : wOs cs os) (hAb : wAb cs) (hND : ∀ c : Int, 0 ≤ c → c < (cs.length : Int) → ∀ m q : Int, m ∈ mIx cs c → q ∈ mIx cs c → (hmR ms m).2.1 = 2 → (hmR ms q).2.1 = 2 → (hmR ms m).2.2.2.2.1 = (hmR ms q).2.2.2.2.1 → m = q) (hwo : a_W A < 10000000) (hix : 0 ≤ nms → nms < ((a_N A).length : Int) → ixL (a_N A) (nmT (a_N A) nms) = nms) (hno : nmO A (a_K A t) kd nms ba nm en) (he : eOk S0 HT cs ms os A s e) (hst : eSt (a_T A) (a_H A) kd e = 0) (hho : hoE (a_T A) kd nms ((a_K A t).1.getD ba (0, 0, [])).1 ((a_K A t).1.getD ba (0, 0, [])).2.1 nm (wb_l2i (esV (ar.map (clO (a_T A))))) (wb_l2i (wb_lushr (esV (ar.map (clO (a_T A)))) 32)) e) (e12 : e.1 = 1 ∨ e.1 = 2) (hB9 : ∀ (A3 : aA) (e : aE), hyA S0 p HT cs ms os X fa n B2 w t A3 s kd nms ne ec bh ba ar → nmO A3 (a_K A3 t) kd nms ba nm en → (e.1 = 1 ∨ e.1 = 2) → eOk S0 HT cs ms os A3 s e → hoE (a_T A3) kd nms ((a_K A3 t).1.getD ba (0, 0, [])).1 ((a_K A3 t).1.getD ba (0, 0, [])).2.1 nm (wb_l2i (esV (ar.map (clO (a_T A3))))) (wb_l2i (wb_lushr (esV (ar.map (clO (a_T A3)))) 32)) e → aOut xs d S0 p HT cs ms os X mo fa n B2 w t A3 s kd nms ec bh ba nm en (esV (ar.map (clO (a_T A3)))) e) : aOut xs d S0 p HT cs ms os X mo fa n B2 w t A s kd nms ec bh ba nm en (esV (ar.map (clO (a_T A)))) e ∧ ∀ {Sb : wS} (Y : wS), rRun S0 Sb HT cs ms os X mo t A Y → rAim t (a_K A t) ba bh en Y → wJ (pe_GA xs) wY0 (fun _ => False) (d + 89) t_M_looks ((pe_at t_M_looks.bl 0).getD (0, [])).2 [(0, (2, 237)), (1, (0, s)), (2, (0, 0))] [] Y (fun o Z => o = .inl none ∧ (Z 237 169 = e.2.2.2.1 ∧ Z 237 170 = e.2.2.2.2.1 ∧ Z 237 171 = e.2.2.2.2.2.1) ∧ (∀ (j : Nat) (x : Int), (j ≠ 237 ∨ x < 166 ∨ 172 < x) → ¬ lhP j x → Z j x = Y j x) ∧ rCh HT cs ms os (a_N A) (a_C A) (a_W A) mo Z) := by
  refine ⟨hB9 A e h hno e12 he hho, ?_⟩
  rcases hH.1 with ⟨rfl, rfl⟩ | ⟨rfl, rfl⟩
  · rcases e12 with e1 | e1
    · exact hkh_241_1 h hX hH hO9 hAb hND hwo hix he hst hho e1
    · exact hkh_241_2 h hX hH hO9 hAb hND hwo hix he hst hho e1
  · rcases e12 with e1 | e1
    · exact hkh_261_1 h hX hH hO9 hAb hND hwo hix he hst hho e1
    · exact hkh_261_2 h hX hH hO9 hAb hND hwo hix he hst hho e1
/-- acting on hosts' values, all that is wanted -/
def hoBa (xs : List (Nat × List Int32)) (d : Nat) (S0 : wS) (p : Nat) (HT : Int → Int) (cs : List hCR) (ms : List hMR) (os : Int → List Int) (X : List (List Int)) (mo : Int) (fa : Int → Int) (n B2 : Int) (w : Nat) (t : Int) : Prop := ∀ (A3 : aA) (s kd nms ne ec bh nm en : Int) (ba : Nat) (ar : List aV) (e : aE), hyA S0 p HT cs ms os X fa n B2 w t A3 s kd nms ne ec bh ba ar → nmO A3 (a_K A3 t) kd nms ba nm en → (e.1 = 1 ∨ e.1 = 2) → eOk S0 HT cs ms os A3 s e → hoE (a_T A3) kd nms ((a_K A3 t).1.getD ba (0, 0, [])).1 ((a_K A3 t).1.getD ba (0, 0, [])).2.1 nm (wb_l2i (esV (ar.map (clO (a_T A3))))) (wb_l2i (wb_lushr (esV (ar.map (clO (a_T A3)))) 32)) e → aOut xs d S0 p HT cs ms os X mo fa n B2 w t A3 s kd nms ec bh ba nm en (esV (ar.map (clO (a_T A3)))) e
/-- what is still to be kept of every state -/
def hoWf (S0 : wS) (fa : Int → Int) (HT : Int → Int) (cs : List hCR) (ms : List hMR) (os : Int → List Int) (n B2 : Int) : Prop := ∀ A3 : aA, wfA S0 fa ms n (WEs S0 HT cs ms os) B2 A3 → a_W A3 < 10000000 ∧ ∀ q : Int, 0 ≤ q → q < ((a_N A3).length : Int) → ixL (a_N A3) (nmT (a_N A3) q) = q
theorem ix_g {N : List (List Int)} (hN : N.Nodup) {q : Int} (h0 : 0 ≤ q) (h1 : q < (N.length : Int)) : ixL N (nmT N q) = q := by
  have e : nmT N q = N[q.toNat]'(by omega) := by
    unfold nmT
    rw [if_neg (by omega), List.getD_eq_getElem?_getD, List.getElem?_eq_getElem (by omega)]
    rfl
  unfold ixL
  rw [e, if_pos (List.getElem_mem _), List.Nodup.idxOf_getElem hN]
  omega
theorem hoWf_of {B2 : Int} (hB : B2 ≤ 600000) : hoWf S0 fa HT cs ms os n B2 := fun A3 h => by
  obtain ⟨a1, a2⟩ := h.2.2.2.2.2.2.2.1
  have b1 := h.2.2.2.2.1.2.2.2.2.2.1.2.2 21 (by first | decide | omega) (by first | decide | omega)
  have b2 := h.2.2.2.2.1.2.2.2.2.2.1.2.2 22 (by first | decide | omega) (by first | decide | omega)
  exact ⟨by omega, fun q q0 q1 => ix_g a2 q0 q1⟩
theorem hoLk_of (hL9 : stL S0) (hX : w_X xs) {b9 : Nat} (hH : stHo S0 p b9 HT nt cs ms os n) (hC9 : stHc S0 p HT cs ms os) (hO9 : wOs cs os) (hAb : wAb cs) (hND : ∀ c : Int, 0 ≤ c → c < (cs.length : Int) → ∀ m q : Int, m ∈ mIx cs c → q ∈ mIx cs c → (hmR ms m).2.1 = 2 → (hmR ms q).2.1 = 2 → (hmR ms m).2.2.2.2.1 = (hmR ms q).2.2.2.2.1 → m = q) (hW9 : hoWf S0 fa HT cs ms os n B2) (hB : hoBa xs d S0 p HT cs ms os X mo fa n B2 w t) : hoLk xs d S0 p HT cs ms os X mo fa n B2 w t := fun A3 s kd nms ne ec bh nm en ba ar h hno hb hg => by
  obtain ⟨w1, w2⟩ := hW9 A3 h.2.1
  rcases hg with g | g
  · exact lo_h1 h hL9 hX hH hC9 hO9 hAb hND w1 (w2 nms) hb.1 g hno (fun A4 e4 h4 hn4 e14 ok4 ho4 => hB A4 s kd nms ne ec bh nm en ba ar e4 h4 hn4 e14 ok4 ho4)
  · exact lo_h2 h hL9 hX hH hC9 hO9 hAb hND w1 (w2 nms) hb.2 g hno (fun A4 e4 h4 hn4 e14 ok4 ho4 => hB A4 s kd nms ne ec bh nm en ba ar e4 h4 hn4 e14 ok4 ho4)
theorem hoAc_of (hX : w_X xs) {b9 : Nat} (hH : stHo S0 p b9 HT nt cs ms os n) (hO9 : wOs cs os) (hAb : wAb cs) (hND : ∀ c : Int, 0 ≤ c → c < (cs.length : Int) → ∀ m q : Int, m ∈ mIx cs c → q ∈ mIx cs c → (hmR ms m).2.1 = 2 → (hmR ms q).2.1 = 2 → (hmR ms m).2.2.2.2.1 = (hmR ms q).2.2.2.2.1 → m = q) (hW9 : hoWf S0 fa HT cs ms os n B2) (hB : hoBa xs d S0 p HT cs ms os X mo fa n B2 w t) : hoAc xs d S0 p HT cs ms os X mo fa n B2 w t := fun A3 s kd nms ne ec bh nm en ba ar e h hno e12 he hst hho => by
  obtain ⟨w1, w2⟩ := hW9 A3 h.2.1
  exact ac_h h hX hH hO9 hAb hND w1 (w2 nms) hno he hst hho e12 (fun A4 e4 h4 hn4 e14 ok4 ho4 => hB A4 s kd nms ne ec bh nm en ba ar e4 h4 hn4 e14 ok4 ho4)
end Wmc
