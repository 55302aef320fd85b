/-! PART kd: a step of a task, on both sides: the world changes too. -/
section Wkd
variable {Sb : wS} {xs : List (Nat × List Int32)} {d : Nat} {S0 S Z : wS} {p w m : Nat} {HT : Int → Int} {cs : List hCR} {ms : List hMR} {os : Int → List Int} {X : List (List Int)} {mo t n B B2 oq : Int} {fa : Int → Int} {WE : aA → Prop} {A A2 : aA} {K2 : aK} {ml : List Nat} {T2 : List aO} {L2 : List aC} {G2 : Int → aV} {H2 : List aH} {c2 : Int → Int} {mk rk : Nat → Int → Prop} {k : Int}
/-- a task, the world and what is used are changed -/
def u_W (A : aA) (t : Int) (K2 : aK) (T2 : List aO) (L2 : List aC) (G2 : Int → aV) (H2 : List aH) (c2 : Int → Int) : aA := (fUp A.1 t K2, (T2, L2, G2, H2), A.2.2.1, A.2.2.2.1, A.2.2.2.2.1, c2, A.2.2.2.2.2.2)
/-- what of the class holds the world -/
def mWd (j : Nat) (x : Int) : Prop := (127 ≤ j ∧ j ≤ 136) ∨ j = 138 ∨ j = 139 ∨ j = 141 ∨ j = 142 ∨ (144 ≤ j ∧ j ≤ 149) ∨ (j = 72 ∧ (x = 3 ∨ x = 5 ∨ x = 8 ∨ x = 11)) ∨ (j = 140 ∧ x = 2) ∨ (j = 150 ∧ 0 ≤ x ∧ x < 5) ∨ (j = 153 ∧ x = 2) ∨ j = 154 ∨ j = 155 ∨ (j = 156 ∧ 0 ≤ x)
/-- what of the reference holds it -/
def rWd9 (j : Nat) (x : Int) : Prop := (314 ≤ j ∧ j ≤ 339) ∨ (j = 237 ∧ (x = 62 ∨ x = 63 ∨ x = 66 ∨ x = 68 ∨ x = 69 ∨ x = 81 ∨ x = 82 ∨ x = 87 ∨ x = 94))
/-- counters that a step in the world may count up -/
def cCw (c2 : Int → Int) (Z : wS) : Prop := (∀ i : Nat, i < 5 → Z 150 (i : Int) = c2 (i : Int)) ∧ Z 72 11 = c2 11
def rCw (c2 : Int → Int) (Z : wS) : Prop := ((∀ i : Nat, i < 5 → Z 237 (62 + (i : Int)) = c2 (i : Int)) ∧ Z 237 81 = c2 11) ∧ 0 ≤ Z 237 82 ∧ 0 ≤ Z 237 94 ∧ Z 237 82 + Z 237 94 ≤ Z 237 63
theorem cRel_W (h : cRel S0 p HT cs ms os X mo A S) (hp : p = 73 ∨ p = 162) (hw : isWt w t) (hF : cFm w mk S Z) (hmk : ∀ (j : Nat) (x : Int), mk j x → mWd j x) (hCL : w_CL Z) (hK : cTk w Z K2) (hW : cWd Z T2 L2 G2) (hSw : cSw Z T2 H2) (hPo : cPo Z) (hcn : cCw c2 Z) (hc2 : ∀ i : Int, 5 ≤ i → i ≠ 11 → c2 i = a_c A i) (hc3 : a_c A 3 ≤ c2 3) : cRel S0 p HT cs ms os X mo (u_W A t K2 T2 L2 G2 H2 c2) Z := by
  have hx := fr_tx hF hw (fun x hm => by have := hmk 3 x hm; unfold mWd at this; omega) (fun hm => by have := hmk 2 1 hm; unfold mWd at this; omega)
  refine ⟨⟨hCL, hF.2.2.1, rmR_tr h.1.2.2 hF.2.2.2⟩, cR_tk (A := A) h hF hw hx (fun j x hm => by have := hmk j x hm; unfold mWd at this; omega) hK, ⟨hW, hSw, hPo⟩, cR_N (A := A) h hF hw (fun j x hj hm => by have := hmk j x hm; unfold mWd at this; omega), cR_E (A := A) h hF hw (fun j x hj hm => by have := hmk j x hm; unfold cEo at hj; unfold mWd at this; omega), ⟨cR_O (A := A) h hF hw (fun x hm => by have := hmk _ x hm; unfold mWd at this; omega) (fun hm => by have := hmk _ _ hm; unfold mWd at this; omega), cR_R (A := A) h hF hw (fun x hm => by have := hmk _ x hm; unfold mWd at this; omega) (fun hm => by have := hmk _ _ hm; unfold mWd at this; omega)⟩, ⟨cR_C (A := A) h hp hF hw (fun j x hj hm => by have := hmk j x hm; unfold hoD at hj; unfold mWd at this; omega), cR_S (A := A) h hp hF hw hx (fun j x hj hm => by have := hmk j x hm; unfold hoD at hj; unfold mWd at this; omega)⟩, ?_, cR_st (A := A) h hp hF hw (fun j x hj hm => by have := hmk j x hm; unfold cSta at hj; unfold mWd at this; omega)⟩
  obtain ⟨-, h2, h3, h4, h5⟩ := h.2.2.2.2.2.2.2.1
  have f := fun (j : Nat) (x : Int) (hj : j < 215) (hx : cnD j x) (hn : ¬ (j = 72 ∧ x = 11)) => fmG hF hw j x hj (fun hm => by have := hmk j x hm; unfold cnD at hx; unfold mWd at this; omega)
  refine ⟨hcn.1, ⟨hcn.2, by show cPl (pV S0) (c2 3) (a_N A) Z; exact cPl_ag h2.2 (f 2 1 (by first | decide | omega) (by unfold cnD; omega) (by omega)) (f 3 (-1) (by first | decide | omega) (by unfold cnD; omega) (by omega)) (f 2 7 (by first | decide | omega) (by unfold cnD; omega) (by omega)) (f 4 (-1) (by first | decide | omega) (by unfold cnD; omega) (by omega)) hc3 (Nat.le_refl _)⟩, (f 158 19 (by first | decide | omega) (by unfold cnD; omega) (by omega)).trans (h3.trans (hc2 19 (by first | decide | omega) (by first | decide | omega)).symm), fun i hi => (f 160 i (by first | decide | omega) (by unfold cnD; omega) (by omega)).trans ((h4 i hi).trans (hc2 _ (by omega) (by omega)).symm), fun s s0 s1 => ?_⟩
  rw [f 19 9 (by first | decide | omega) (by unfold cnD; omega) (by omega)] at s1
  obtain ⟨a1, a2, a3, a4⟩ := h5 s s0 s1
  rw [f 41 s (by first | decide | omega) (by unfold cnD; omega) (by omega), f 42 s (by first | decide | omega) (by unfold cnD; omega) (by omega), f 43 s (by first | decide | omega) (by unfold cnD; omega) (by omega), f 45 s (by first | decide | omega) (by unfold cnD; omega) (by omega)]
  exact ⟨a1, a2, a3, a4⟩
theorem rRel_W (h : rRun S0 Sb HT cs ms os X mo t A S) (ht : t = 0 ∨ t = 1) (hl : kLn (a_K A 0) ∧ kLn (a_K A 1)) (hF : rTm t rk S Z) (hrk : ∀ (j : Nat) (x : Int), rk j x → rWd9 j x) (hM : w_ML Z) (hK : rTk t Z K2) (hW : ∃ sl : Nat → List Int, rWd Z sl T2 L2 G2) (hH : rHs Z H2) (hcn : rCw c2 Z) (hc2 : ∀ i : Int, 5 ≤ i → i ≠ 11 → c2 i = a_c A i) : rRun S0 Sb HT cs ms os X mo t (u_W A t K2 T2 L2 G2 H2 c2) Z := by
  have g := fun (x : Int) (hx : 151 ≤ x ∧ x ≤ 153) => tmG hF 237 x (by unfold rKp; omega) (fun hm => by have := hrk 237 x hm; unfold rWd9 at this; omega)
  refine ⟨?_, (g 151 (by omega)).trans h.2.1, (g 152 (by omega)).trans h.2.2.1, (g 153 (by omega)).trans h.2.2.2⟩
  have h := h.1
  have hx := tf_tx hF (fun j x hj hm => by have := hrk j x hm; unfold rWd9 at this; omega)
  refine ⟨hM, rR_tk (A := A) h hF ht hx hl (fun j x hm => by have := hrk j x hm; unfold rWd9 at this; omega) hK, ⟨hW, hH⟩, ⟨rR_N (A := A) h hF (fun j x hj hm => by have := hrk j x hm; unfold rWd9 at this; omega), rR_X (A := A) h hF hx (fun j x hj hm => by have := hrk j x hm; unfold rWd9 at this; omega), rR_t (A := A) h hF (fun j x hj hm => by have := hrk j x hm; unfold txD at hj; unfold rWd9 at this; omega)⟩, rR_E (A := A) h hF (fun j x hj hm => by have := hrk j x hm; unfold rWd9 at this; omega), ⟨rR_O (A := A) h hF (fun x hm => by have := hrk _ x hm; unfold rWd9 at this; omega) (fun hm => by have := hrk _ _ hm; unfold rWd9 at this; omega), rR_R (A := A) h hF (fun x hm => by have := hrk _ x hm; unfold rWd9 at this; omega) (fun hm => by have := hrk _ _ hm; unfold rWd9 at this; omega)⟩, ⟨rR_C (A := A) h hF (fun j x hj hm => by have := hrk j x hm; unfold chM at hj; unfold rWd9 at this; omega), rR_S (A := A) h hF hx (fun j x hj hm => by have := hrk j x hm; unfold rWd9 at this; omega)⟩, ?_, rR_st (A := A) h hF (fun j x hj hm => by have := hrk j x hm; unfold rSta at hj; unfold rWd9 at this; omega)⟩
  obtain ⟨-, h2, h3, h4, h5, -⟩ := h.2.2.2.2.2.2.2.1
  have f := fun (j : Nat) (x : Int) (hx : rcD j x) (hn : ¬ (j = 237 ∧ x = 81)) => tmG hF j x (by unfold rcD at hx; unfold rKp; omega) (fun hm => by have := hrk j x hm; unfold rcD at hx; unfold rWd9 at this; omega)
  refine ⟨hcn.1.1, hcn.1.2, (f 237 108 (by unfold rcD; omega) (by omega)).trans (h3.trans (hc2 19 (by first | decide | omega) (by first | decide | omega)).symm), fun i hi => (f 344 i (by unfold rcD; omega) (by omega)).trans ((h4 i hi).trans (hc2 _ (by omega) (by omega)).symm), fun s s0 s1 => ?_, hcn.2⟩
  rw [f 237 47 (by unfold rcD; omega) (by omega)] at s1
  obtain ⟨a1, a2, a3, a4⟩ := h5 s s0 s1
  rw [f 310 s (by unfold rcD; omega) (by omega), f 311 s (by unfold rcD; omega) (by omega), f 312 s (by unfold rcD; omega) (by omega), f 313 s (by unfold rcD; omega) (by omega)]
  exact ⟨a1, a2, a3, a4⟩
theorem CL_t : ∀ q ∈ wz_n, wY0.ty q.1 < 100 ∧ q.1 < 388 ∧ q.1 ∉ sML := by decide +kernel
theorem CL_len (hC : w_CL S) (hs : ∀ k ∈ ml, k ∈ sML) (hl : ∀ j : Nat, w_pr wY0 S j → wY0.ty j < 100 → ¬ mS ml j → Z j (-1) = S j (-1)) : w_CL Z := fun q hq => by
  obtain ⟨a1, a2, a3⟩ := CL_t q hq
  refine (hl q.1 ⟨Or.inl a2, by unfold wG; omega⟩ a1 (fun z => ?_)).trans (hC q hq)
  rcases z with z | z
  · omega
  · exact a3 (hs _ z)
/-- a step in the world -/
theorem stO_W (hp : p = 73 ∨ p = 162) (hw : isWt w t) (hs : ∀ k ∈ ml, k ∈ sML) (hA : wfA S0 fa ms n WE B A) (hA2 : wfA S0 fa ms n WE B2 (u_W A t K2 T2 L2 G2 H2 c2)) (hmk : ∀ (j : Nat) (x : Int), mk j x → mWd j x) (hrk : ∀ (j : Nat) (x : Int), rk j x → rWd9 j x) (hc2 : ∀ i : Int, 5 ≤ i → i ≠ 11 → c2 i = a_c A i) (hc : ∀ S : wS, cRel S0 p HT cs ms os X mo A S → cSm xs d w ml mk S K2 (fun Z => cWd Z T2 L2 G2 ∧ cSw Z T2 H2 ∧ cPo Z ∧ cCw c2 Z)) (hr : ∀ {Sb : wS} (S : wS), rRun S0 Sb HT cs ms os X mo t A S → rSm xs d t rk S K2 (fun Z => (∃ sl : Nat → List Int, rWd Z sl T2 L2 G2) ∧ rHs Z H2 ∧ rCw c2 Z)) (hc3 : a_c A 3 ≤ c2 3 := by first | exact Int.le_refl _ | simp [fUp]) : stO xs d S0 p HT cs ms os X mo fa n WE B2 w t A := by
  have tt := wt_t hw
  refine ⟨1, (u_W A t K2 T2 L2 G2 H2 c2), Or.inr rfl, hA2, fun t2 h => fUp_n h, fun z => absurd z (by first | decide | omega), fun S hS => ?_, fun S hS => ?_⟩
  · refine wJ_M (wJ_mono (wJ_len (hc S hS)) (fun o Z hz => ?_)) (mS_sM hs)
    obtain ⟨⟨z1, z2, z3, z4, z5, z6, z7⟩, z8⟩ := hz
    exact ⟨z1, cRel_W hS hp hw z3 hmk (CL_len hS.1.1 hs z8) z2 z4 z5 z6 z7 hc2 hc3⟩
  · exact rtu_mo (hr S hS) (fun Z dn hz => ⟨hz.1, fun hM => rRel_W hS tt ⟨hA.1.1.1, hA.1.2.1⟩ hz.2.2.1 hrk hM hz.2.1 hz.2.2.2.1 hz.2.2.2.2.1 hz.2.2.2.2.2 hc2⟩)
/-- instances keep their number of values; what is new is none -/
def tK7 (T T2 : List aO) : Prop := (∀ k : Int, 0 ≤ k → k < (T.length : Int) → (tO T k).1 = 7 → (tO T2 k).2.2.2.2.2.2.length = (tO T k).2.2.2.2.2.2.length) ∧ ∀ k : Int, (T.length : Int) ≤ k → k < (T2.length : Int) → (tO T2 k).1 ≠ 7
theorem tK7_r {T : List aO} : tK7 T T := ⟨fun _ _ _ _ => rfl, fun k k0 k1 => absurd k1 (by omega)⟩
theorem tK7_a {T : List aO} {o : aO} (h : o.1 = 4 ∨ o.1 = 5 ∨ o.1 = 6) : tK7 T (T ++ [o]) := by
  refine ⟨fun k k0 k1 _ => by rw [tO_l k0 k1], fun k k0 k1 => ?_⟩
  rw [List.length_append, List.length_singleton] at k1
  have e : k.toNat = T.length := by omega
  show ((T ++ [o]).getD k.toNat (0, 0, 0, 0, 0, 0, [])).1 ≠ 7
  rw [e, List.getD_eq_getElem?_getD, List.getElem?_append_right (Nat.le_refl _), Nat.sub_self]
  show o.1 ≠ 7
  omega
/-- what holds of entries goes on when the world changes -/
def WEw (WE : aA → Prop) : Prop := ∀ (A : aA) (t : Int) (K2 : aK) (T2 : List aO) (L2 : List aC) (G2 : Int → aV) (H2 : List aH) (c2 : Int → Int) (k : Int), WE A → wSh (a_T A) (a_H A) → eCh (a_T A) (a_H A) T2 H2 k (a_c A 11 + 1) → tKp (a_T A) T2 → tK7 (a_T A) T2 → (∀ i : Int, 20 ≤ i → c2 i = a_c A i) → a_c A 11 ≤ c2 11 → WE (u_W A t K2 T2 L2 G2 H2 c2)
/-- all that holds, after a step in the world -/
theorem wf_W0 (h : wfA S0 fa ms n WE B A) (hw : isWt w t) (h1 : wTk fa S0 K2) (hT : tKp (a_T A) T2) (hS : wSh T2 H2) (hV : wKv T2 n K2) (hO : ∀ o ∈ T2, ∀ x ∈ o.2.2.2.2.2.2, vG T2 n x.2) (hL : ∀ c ∈ L2, ∀ v ∈ c.2, vG T2 n v) (hG : ∀ a : Int, (G2 a).1 ≠ -1 → vG T2 n (G2 a)) (hC : ∀ cf : Int → Int, wCl S0 fa (a_T A) (a_L A) cf → wKc (a_T A) (a_L A) cf (a_K A t) → ∃ cf2 : Int → Int, wCl S0 fa T2 L2 cf2 ∧ wKc T2 L2 cf2 K2 ∧ (a_L A).length ≤ L2.length ∧ ∀ q : Int, q < ((a_L A).length : Int) → cf2 q = cf q) (hct : wCt S0 B2 (u_W A t K2 T2 L2 G2 H2 c2)) (hN : ∀ s : Int, 0 ≤ s → s < (H2.length : Int) → qNm H2 s = -1 ∨ (0 ≤ qNm H2 s ∧ qNm H2 s < ((a_N A).length : Int))) (hW : WE (u_W A t K2 T2 L2 G2 H2 c2)) (hG2 : G2 = a_G A ∨ ∀ a : Int, ((a_N A).length : Int) ≤ a → (G2 a).1 = -1 := by exact Or.inl rfl) : wfA S0 fa ms n WE B2 (u_W A t K2 T2 L2 G2 H2 c2) := by
  obtain ⟨⟨a1, a2⟩, a3, ⟨⟨b1, b2⟩, b3, b4, b5, b6⟩, ⟨cf, c1, c2', c3⟩, a5, a6, a7⟩ := h
  have hgn : ∀ a : Int, ((a_N A).length : Int) ≤ a → (G2 a).1 = -1 := fun a ha => by
    rcases hG2 with z | z
    · rw [z]; exact a6.1.2.2 a ha
    · exact z a ha
  have kk : ∀ (Q : aK) (cf2 : Int → Int), wKc (a_T A) (a_L A) cf Q → (a_L A).length ≤ L2.length → (∀ q : Int, q < ((a_L A).length : Int) → cf2 q = cf q) → wKc T2 L2 cf2 Q := fun Q cf2 hq hl hf f hm => by
    obtain ⟨q1, q2, q3⟩ := hq f hm
    have := hT.1
    refine ⟨⟨q1.1, by omega⟩, (hf _ q1.2).trans q2, q3.imp id (fun z => ⟨⟨z.1.1, by omega⟩, (hT.2 _ z.1.1 z.1.2).1.trans z.2⟩)⟩
  have kv : ∀ Q : aK, wKv (a_T A) n Q → wKv T2 n Q := fun Q hq => ⟨fun v hv => vG_mo (hq.1 v hv) hT, fun f hf => vG_mo (hq.2.1 f hf) hT, fun hs => vG_mo (hq.2.2 hs) hT⟩
  have hs : ∀ m : Int, isSf ms m → vG T2 n (a_S A m) := fun m hm => vG_mo (b6 m hm) hT
  rcases hw with ⟨-, rfl⟩ | ⟨-, rfl⟩
  · obtain ⟨cf2, d1, d2, d3, d4⟩ := hC cf c1 c2'
    exact ⟨⟨h1, a2⟩, hS, ⟨⟨hV, kv _ b2⟩, hO, hL, hG, hs⟩, ⟨cf2, d1, d2, kk _ cf2 c3 d3 d4⟩, hct, ⟨⟨a6.1.1, a6.1.2.1, hgn⟩, hN, a6.2.2⟩, hW⟩
  · obtain ⟨cf2, d1, d2, d3, d4⟩ := hC cf c1 c3
    exact ⟨⟨a1, h1⟩, hS, ⟨⟨kv _ b1, hV⟩, hO, hL, hG, hs⟩, ⟨cf2, d1, kk _ cf2 c2' d3 d4, d2⟩, hct, ⟨⟨a6.1.1, a6.1.2.1, hgn⟩, hN, a6.2.2⟩, hW⟩
/-- the same, where what holds of entries goes on -/
theorem wf_W (h : wfA S0 fa ms n WE B A) (hE : WEw WE) (hw : isWt w t) (h1 : wTk fa S0 K2) (hT : tKp (a_T A) T2) (hS : wSh T2 H2) (hV : wKv T2 n K2) (hO : ∀ o ∈ T2, ∀ x ∈ o.2.2.2.2.2.2, vG T2 n x.2) (hL : ∀ c ∈ L2, ∀ v ∈ c.2, vG T2 n v) (hG : ∀ a : Int, (G2 a).1 ≠ -1 → vG T2 n (G2 a)) (hC : ∀ cf : Int → Int, wCl S0 fa (a_T A) (a_L A) cf → wKc (a_T A) (a_L A) cf (a_K A t) → ∃ cf2 : Int → Int, wCl S0 fa T2 L2 cf2 ∧ wKc T2 L2 cf2 K2 ∧ (a_L A).length ≤ L2.length ∧ ∀ q : Int, q < ((a_L A).length : Int) → cf2 q = cf q) (hct : wCt S0 B2 (u_W A t K2 T2 L2 G2 H2 c2)) (hN : ∀ s : Int, 0 ≤ s → s < (H2.length : Int) → qNm H2 s = -1 ∨ (0 ≤ qNm H2 s ∧ qNm H2 s < ((a_N A).length : Int))) (he : eCh (a_T A) (a_H A) T2 H2 k (a_c A 11 + 1)) (h11 : a_c A 11 ≤ c2 11) (hG2 : G2 = a_G A ∨ ∀ a : Int, ((a_N A).length : Int) ≤ a → (G2 a).1 = -1 := by exact Or.inl rfl) (h20 : ∀ i : Int, 20 ≤ i → c2 i = a_c A i := by intro i hi; first | rfl | exact fUp_n (by omega) | exact (fUp_n (by omega)).trans (fUp_n (by omega))) (h7 : tK7 (a_T A) T2 := by first | exact tK7_r | exact tK7_a (Or.inl rfl) | exact tK7_a (Or.inr (Or.inl rfl)) | exact tK7_a (Or.inr (Or.inr rfl))) : wfA S0 fa ms n WE B2 (u_W A t K2 T2 L2 G2 H2 c2) := wf_W0 h hw h1 hT hS hV hO hL hG hC hct hN (hE A t K2 T2 L2 G2 H2 c2 k h.2.2.2.2.2.2 h.2.1 he hT h7 h20 h11) hG2
end Wkd
