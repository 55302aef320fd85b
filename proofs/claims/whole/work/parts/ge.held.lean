/-! PART ge: held of the class's linker. -/
section Wge
variable {xs : List (Nat × List Int32)} {M : Nat → Prop} {d : Nat} {S Z A : wS} {H : List aH} {T : List aO} {L : List aC} {G : Int → aV} {s kd nms gk gb nm es x lo hi k n ch : Int} {e : aE} {X : Int → Int}
/-- an entry holds; it says what a lookup finds; it is stale -/
noncomputable abbrev hoE (T : List aO) (kd nms gk gb nm lo hi : Int) (e : aE) : Prop := (e.1 = 0 ∧ (gk = 4 ∨ gk = 5) ∧ (((kd = 4 ∨ kd = 6) ∧ gk = 5 ∧ (tO T gb).2.2.1 = e.2.1) ∨ (kd ≠ 4 ∧ kd ≠ 6 ∧ (tO T gb).2.1 = e.2.1 ∧ nm = cNm kd nms e))) ∨ (e.1 = 1 ∧ gk = 7 ∧ e.2.1 = (tO T gb).2.2.1 ∧ (cHi kd e = -1 ∨ (cHi kd e = hi ∧ cLo kd e = lo))) ∨ (e.1 = 2 ∧ gk = 8 ∧ e.2.1 = gb ∧ (cHi kd e = -1 ∨ (cHi kd e = hi ∧ cLo kd e = lo))) ∨ (e.1 = 3 ∧ ((e.2.1 = 0 ∧ gk = 6) ∨ (e.2.1 ≠ 0 ∧ gk = 3)))
abbrev irE (T : List aO) (H : List aH) (kd gb nm : Int) (e : aE) : Prop := (e.1 ≠ 0 ∨ kd = 4 ∨ kd = 6) ∨ ((kd = 1 ∨ kd = 3) ∧ aIx T nm gb = e.2.2.2.2.1 ∧ (e.2.2.2.2.1 ≠ -1 ∨ aFs (tO T gb).2.1 (qPr H (tO T gb).2.1) nm H 0 = e.2.2.2.2.2.1)) ∨ (kd ≠ 1 ∧ kd ≠ 3 ∧ ((aUp T H nm gb = -1 ∧ e.2.2.2.2.1 = -1) ∨ (aUp T H nm gb ≠ -1 ∧ aIx T nm (aUp T H nm gb) = e.2.2.2.2.1 ∧ ((aUp T H nm gb = gb ∧ e.2.2.2.1 = -1) ∨ (aUp T H nm gb ≠ gb ∧ e.2.2.2.1 = aUp T H nm gb)))))
def eSt (T : List aO) (H : List aH) (kd : Int) (e : aE) : Int := if eSn kd e = -1 then 0 else aSt T H e.2.1 e.2.2.2.1 (eSn kd e)
/-- what the going through a site's entries leaves: those that stay, how many were stale, which one holds -/
noncomputable def hlF (T : List aO) (H : List aH) (kd nms gk gb nm lo hi : Int) : List aE → List aE × Int × Option aE
  | [] => ([], 0, none)
  | e :: l => if eSt T H kd e ≠ 0 then ((hlF T H kd nms gk gb nm lo hi l).1, (hlF T H kd nms gk gb nm lo hi l).2.1 + 1, (hlF T H kd nms gk gb nm lo hi l).2.2) else if hoE T kd nms gk gb nm lo hi e then (e :: l, 0, some e) else (e :: (hlF T H kd nms gk gb nm lo hi l).1, (hlF T H kd nms gk gb nm lo hi l).2.1, (hlF T H kd nms gk gb nm lo hi l).2.2)
/-- what holds of an entry of a site -/
def wEn (H : List aH) (kd nms : Int) (e : aE) : Prop := (0 ≤ e.1 ∧ e.1 ≤ 3) ∧ (eSn kd e ≠ -1 → 0 ≤ e.2.1 ∧ e.2.1 < (H.length : Int)) ∧ (e.1 = 0 → kd ≠ 4 → kd ≠ 6 → 0 ≤ cNm kd nms e ∧ cNm kd nms e ≤ 100000)
/-- the linker is at a site -/
def hdF (s kd nms gk gb nm es : Int) (T : List aO) (H : List aH) (L : List aC) (G : Int → aV) (S : wS) : Prop := (w_CL S ∧ cWd S T L G ∧ cSw S T H) ∧ (S 158 6 = s ∧ S 158 7 = kd ∧ S 158 9 = gk ∧ S 158 10 = gb ∧ S 158 11 = nm ∧ S 158 13 = es) ∧ (S 35 s = kd ∧ S 36 s = nms)
/-- what it may change -/
def hdM (s : Int) (j : Nat) (x : Int) : Prop := (j = 57 ∧ 0 ≤ x) ∨ ((j = 42 ∨ j = 43 ∨ j = 44 ∨ j = 46) ∧ x = s) ∨ (j = 19 ∧ x = 12) ∨ (j = 158 ∧ x = 19)
theorem hdF_ag (h : hdF s kd nms gk gb nm es T H L G S) (hs : 0 ≤ s) (f : ∀ (j : Nat) (x : Int), ¬ hdM s j x → Z j x = S j x) : hdF s kd nms gk gb nm es T H L G Z := by
  obtain ⟨⟨h1, h2, h3⟩, ⟨a1, a2, a3, a4, a5, a6⟩, b1, b2⟩ := h
  have f1 : ∀ (j : Nat) (x : Int), j ≠ 57 → j ≠ 42 → j ≠ 43 → j ≠ 44 → j ≠ 46 → (j ≠ 19 ∨ x ≠ 12) → (j ≠ 158 ∨ x ≠ 19) → Z j x = S j x := fun j x q1 q2 q3 q4 q5 q6 q7 => f j x (by unfold hdM; omega)
  refine ⟨⟨fun q hq => (f q.1 (-1) (by unfold hdM; omega)).trans (h1 q hq), cWd_ag h2 (cTx_of (f 2 1 (by unfold hdM; omega)) (fun x => f 3 x (by unfold hdM; omega))) (fun j x hj => f j x (by unfold hdM; unfold cWo at hj; omega)), cSw_ag h3 (fun j x hj => f j x (by unfold hdM; omega))⟩, ⟨(f 158 6 (by unfold hdM; omega)).trans a1, (f 158 7 (by unfold hdM; omega)).trans a2, (f 158 9 (by unfold hdM; omega)).trans a3, (f 158 10 (by unfold hdM; omega)).trans a4, (f 158 11 (by unfold hdM; omega)).trans a5, (f 158 13 (by unfold hdM; omega)).trans a6⟩, (f 35 s (by unfold hdM; omega)).trans b1, (f 36 s (by unfold hdM; omega)).trans b2⟩
theorem hdM_gr (hs : 0 ≤ s) (f : ∀ (j : Nat) (x : Int), ¬ hdM s j x → Z j x = S j x) (hI : gI S) : gI Z ∧ rmR S Z := by
  have hg : wG = 1000000 := rfl
  exact ⟨gI_ag2 hI (fun j hj => f j (-1) (by unfold hdM; omega)) (fun x _ => f 238 _ (by unfold hdM; omega)) (f 14 5 (by unfold hdM; omega)), rmR_ag (rmR_rfl S) (fun k _ => f k (-1) (by unfold hdM; omega)) (f wG 0 (by unfold hdM; omega)) (f wG 1 (by unfold hdM; omega))⟩
theorem chL_nx {a : Int} {q : List Int} : ∀ (p : List Int) (h : Int), chL X (p ++ a :: q) h → X a = q.headD (-1)
  | [], h, hc => by
    have hc2 : chL X (a :: q) h := hc
    cases q with
    | nil => exact hc2.2.2
    | cons b q => exact hc2.2.2.1
  | c :: p, h, hc => by
    have hc2 : chL X (c :: (p ++ a :: q)) h := hc
    exact chL_nx p _ hc2.2.2
theorem chL_h {q : List Int} {h : Int} (hc : chL X q h) : h = q.headD (-1) := by
  cases q with
  | nil => exact hc
  | cons b q => exact hc.1
theorem hoP_e (hc : cEc S kd nms e x) (ht : cTh S T) (hgb : (gk = 4 ∨ gk = 5 ∨ gk = 7) → 0 ≤ gb ∧ gb < (T.length : Int)) : hoP S kd gk gb nm lo hi x ↔ hoE T kd nms gk gb nm lo hi e := by
  obtain ⟨⟨h1, h2, h3, h4, h5⟩, h6, h7, h8, h9⟩ := hc
  unfold hoP hoE
  rw [h1, h2, h6, h8, h9]
  by_cases c : gk = 4 ∨ gk = 5 ∨ gk = 7
  · obtain ⟨g0, g1⟩ := hgb c
    have y := (c_th ht g0 g1).1
    rw [y.2.1, y.2.2.1]
  · exact ⟨fun z => z.elim (fun y => absurd y.2.1 (fun q => c (by omega))) (fun z => z.elim (fun y => absurd y.2.1 (fun q => c (by omega))) (fun z => Or.inr (Or.inr z))), fun z => z.elim (fun y => absurd y.2.1 (fun q => c (by omega))) (fun z => z.elim (fun y => absurd y.2.1 (fun q => c (by omega))) (fun z => Or.inr (Or.inr z)))⟩
theorem irP_e (hc : cEc S kd nms e x) (ht : cTh S T) (hgb : (e.1 = 0 ∧ kd ≠ 4 ∧ kd ≠ 6) → 0 ≤ gb ∧ gb < (T.length : Int)) : irP S T H kd gb nm x ↔ irE T H kd gb nm e := by
  obtain ⟨⟨h1, h2, h3, h4, h5⟩, h6, h7, h8, h9⟩ := hc
  unfold irP irE
  rw [h1, h3, h4, h5]
  by_cases c : e.1 = 0 ∧ kd ≠ 4 ∧ kd ≠ 6
  · obtain ⟨g0, g1⟩ := hgb c
    have y := (c_th ht g0 g1).1
    rw [y.2.1]
  · exact ⟨fun _ => Or.inl (by omega), fun _ => Or.inl (by omega)⟩
theorem hSt_rg {Pr ch : Int → Int} {ho si : Int} : ∀ (f : Nat) (u : Int), hSt Pr ch ho si f u = 0 ∨ hSt Pr ch ho si f u = 1
  | 0, _ => Or.inl rfl
  | f + 1, u => by
    by_cases c1 : u = -1
    · exact Or.inl (if_pos c1)
    · by_cases c2 : si < ch u
      · exact Or.inr ((if_neg c1).trans (if_pos c2))
      · by_cases c3 : u = ho
        · exact Or.inl ((if_neg c1).trans ((if_neg c2).trans (if_pos c3)))
        · have e : hSt Pr ch ho si (f + 1) u = hSt Pr ch ho si f (Pr u) := (if_neg c1).trans ((if_neg c2).trans (if_neg c3))
          rw [e]
          exact hSt_rg f (Pr u)
theorem eSt_rg : eSt T H kd e = 0 ∨ eSt T H kd e = 1 := by
  unfold eSt
  by_cases c : eSn kd e = -1
  · rw [if_pos c]; exact Or.inl rfl
  · rw [if_neg c]; exact hSt_rg _ _
def hoI (T : List aO) (kd nms gk gb nm lo hi : Int) (e : aE) : Prop := hoE T kd nms gk gb nm lo hi e
def irI (T : List aO) (H : List aH) (kd gb nm : Int) (e : aE) : Prop := irE T H kd gb nm e
def hoB (S : wS) (kd gk gb nm lo hi x : Int) : Int := if hoP S kd gk gb nm lo hi x then 1 else 0
def irB (S : wS) (T : List aO) (H : List aH) (kd gb nm x : Int) : Int := if irP S T H kd gb nm x then 1 else 0
theorem hoB_c (h : hoP S kd gk gb nm lo hi x ↔ hoE T kd nms gk gb nm lo hi e) : (hoB S kd gk gb nm lo hi x = 1 ∧ hoI T kd nms gk gb nm lo hi e) ∨ (hoB S kd gk gb nm lo hi x = 0 ∧ ¬ hoI T kd nms gk gb nm lo hi e) := by
  by_cases z : hoP S kd gk gb nm lo hi x
  · exact Or.inl ⟨if_pos z, h.mp z⟩
  · exact Or.inr ⟨if_neg z, fun y => z (h.mpr y)⟩
theorem irB_c (h : irP S T H kd gb nm x ↔ irE T H kd gb nm e) : (irB S T H kd gb nm x = 1 ∧ irI T H kd gb nm e) ∨ (irB S T H kd gb nm x = 0 ∧ ¬ irI T H kd gb nm e) := by
  by_cases z : irP S T H kd gb nm x
  · exact Or.inl ⟨if_pos z, h.mp z⟩
  · exact Or.inr ⟨if_neg z, fun y => z (h.mpr y)⟩
/-- what held leaves, and tells -/
def hdQ (s kd nms gk gb nm lo hi : Int) (T : List aO) (H : List aH) (E : Int → List aE) (pe re : List aE) (S : wS) (o : wO) (Z : wS) : Prop := (∃ (ix2 : Int → List Int) (fl2 : List Int) (ow2 : Int → Int), cSe Z (fUp E s (pe ++ (hlF T H kd nms gk gb nm lo hi re).1)) ix2 fl2 ow2) ∧ Z 43 s = S 43 s + (hlF T H kd nms gk gb nm lo hi re).2.1 ∧ (∀ (j : Nat) (x : Int), ¬ hdM s j x → Z j x = S j x) ∧ (((hlF T H kd nms gk gb nm lo hi re).2.2 = none ∧ o = .inl (some (0, -1)) ∧ Z 42 s = S 42 s ∧ Z 158 19 = S 158 19) ∨ (∃ (e : aE) (y : Int), (hlF T H kd nms gk gb nm lo hi re).2.2 = some e ∧ o = .inl (some (0, y)) ∧ cEc Z kd nms e y ∧ (0 ≤ y ∧ y < Z 48 (-1)) ∧ Z 42 s = S 42 s + 1 ∧ Z 158 19 = S 158 19 + (if irE T H kd gb nm e then 0 else 1)))
theorem fUp_eta {α : Type} {f : Int → α} {v : α} (h : f s = v) : fUp f s v = f := funext (fun x => by
  by_cases c : x = s
  · rw [c, fUp_s]; exact h.symm
  · exact fUp_n c)
theorem fUp_2 {α : Type} {f : Int → α} {v w : α} : fUp (fUp f s v) s w = fUp f s w := funext (fun x => by
  by_cases c : x = s
  · rw [c, fUp_s, fUp_s]
  · rw [fUp_n c, fUp_n c, fUp_n c])
set_option maxHeartbeats 4000000 in
theorem hd_l (hs : 0 ≤ s) (hw : wSh T H) (hT : (T.length : Int) ≤ 8000) (hlo : wb_l2i es = lo) (hhi : wb_l2i (wb_lushr es 32) = hi) (hgo : (gk = 4 ∨ gk = 5) → isO T gb) (hg7 : gk = 7 → 0 ≤ gb ∧ gb < (T.length : Int)) (hcg : ∀ k : Int, isO T k → aCg T k ≤ ch) : ∀ (re : List aE) (rx : List Int) (pe : List aE) (p : List Int) (E : Int → List aE) (ix : Int → List Int) (fl : List Int) (ow : Int → Int) (S : wS) (b cur i : Int), cSe S E ix fl ow → hdF s kd nms gk gb nm es T H L G S → s < S 19 9 → S 72 11 = ch → (0 ≤ S 43 s ∧ S 43 s + 4 - i ≤ 1000000) → (0 ≤ S 42 s ∧ S 42 s ≤ 1000000) → (0 ≤ S 158 19 ∧ S 158 19 ≤ 1000000) → E s = pe ++ re → ix s = p ++ rx → p.length = pe.length → ((p = [] ∧ b = -1) ∨ ∃ p2 : List Int, p = p2 ++ [b]) → (0 ≤ i ∧ i + (re.length : Int) ≤ 4) → cur = rx.headD (-1) → (∀ e ∈ re, wEn H kd nms e) → wJ (pe_GA xs) wY0 M (d + 3) t_XL_held ((pe_at t_XL_held.bl 1).getD (0, [])).2 [(0, (2, 158)), (1, (0, b)), (2, (0, cur)), (3, (0, i))] [] S (hdQ s kd nms gk gb nm lo hi T H E pe re S) := by
  intro re
  induction re with
  | nil =>
    intro rx pe p E ix fl ow S b cur i hse hF hs9 h11 h43 h42 h19 hE hx hpl hb hi0 hcur hwe
    have y1 := hse.2.1 s hs hs9
    have hrx : rx = [] := by
      have z := y1.2.2.1
      rw [hE, hx, List.length_append, List.length_append] at z
      have : ([] : List aE).length = 0 := rfl
      cases rx with
      | nil => rfl
      | cons a rx => rw [List.length_cons] at z; omega
    have hcm : cur = -1 := by rw [hcur, hrx]; rfl
    have hbr : b = -1 ∨ (0 ≤ b ∧ b < S 19 11) := by
      rcases hb with ⟨-, z⟩ | ⟨p2, z⟩
      · exact Or.inl z
      · have mb : b ∈ ix s := by rw [hx, z]; exact List.mem_append.mpr (Or.inl (List.mem_append.mpr (Or.inr (List.mem_cons.mpr (Or.inl rfl)))))
        exact Or.inr ⟨chL_0 _ _ y1.2.2.2.1 b mb, (y1.2.2.2.2.2.1 b mb).2⟩
    have h48 := hse.1.2.2.2
    have hfin : hdQ s kd nms gk gb nm lo hi T H E pe [] S (.inl (some (0, -1))) S := by
      refine ⟨⟨ix, fl, ow, ?_⟩, (Int.add_zero _).symm, fun _ _ _ => rfl, Or.inl ⟨rfl, rfl, rfl, rfl⟩⟩
      show cSe S (fUp E s (pe ++ [])) ix fl ow
      rw [← hE, fUp_eta rfl]
      exact hse
    refine wa_iload_n (n := 3) rfl ?_
    refine wa_iconst ?_
    refine wa_icmpge (w_rg0 (by omega) (by omega)) (w_rg0 (by omega) (by omega)) ⟨_, rfl⟩ (fun c1 => ?_) (fun c1 => ?_)
    · skip
      refine wa_iconst ?_
      refine wa_ireturn rfl ?_
      exact hfin
    · skip
      refine wa_iload_n (n := 2) rfl ?_
      refine wa_iconst ?_
      refine wa_icmpeq (w_rg0 (by omega) (by omega)) (w_rg0 (by omega) (by omega)) ⟨_, rfl⟩ (fun c2 => ?_) (fun c2 => ?_)
      · skip
        refine wa_iconst ?_
        refine wa_ireturn rfl ?_
        exact hfin
      · skip
        exfalso; omega
  | cons e re ih =>
    intro rx pe p E ix fl ow S b cur i hse hF hs9 h11 h43 h42 h19 hE hx hpl hb hi0 hcur hwe
    have y1 := hse.2.1 s hs hs9
    obtain ⟨a, rx, rfl⟩ : ∃ (a : Int) (r : List Int), rx = a :: r := by
      have z := y1.2.2.1
      rw [hE, hx, List.length_append, List.length_append, List.length_cons] at z
      cases rx with
      | nil => have : ([] : List Int).length = 0 := rfl; omega
      | cons a r => exact ⟨a, r, rfl⟩
    have hca : cur = a := hcur
    subst hca
    have ma : cur ∈ ix s := by rw [hx]; exact List.mem_append_cons_self
    have hch := y1.2.2.2.1
    have ha0 : 0 ≤ cur := chL_0 _ _ hch cur ma
    have ha1 := (y1.2.2.2.2.2.1 cur ma).2
    have hbr : b = -1 ∨ (0 ≤ b ∧ b < S 19 11) := by
      rcases hb with ⟨-, z⟩ | ⟨p2, z⟩
      · exact Or.inl z
      · have mb : b ∈ ix s := by rw [hx, z]; exact List.mem_append.mpr (Or.inl (List.mem_append.mpr (Or.inr (List.mem_cons.mpr (Or.inl rfl)))))
        exact Or.inr ⟨chL_0 _ _ hch b mb, (y1.2.2.2.2.2.1 b mb).2⟩
    have hnx : S 57 cur = rx.headD (-1) := by rw [hx] at hch; exact chL_nx p _ hch
    have hl := hse.1
    have h35 := hl.2.1
    have h48 := hl.2.2.2
    rw [List.length_cons] at hi0
    have h44 : 1 ≤ S 44 s ∧ S 44 s ≤ 4 := by
      have z := y1.1
      have z2 := y1.2.1
      rw [hE, List.length_append, List.length_cons] at z z2
      omega
    obtain ⟨⟨hC, hW, hsw⟩, ⟨l6, l7, l9, l10, l11, l13⟩, b1, b2⟩ := id hF
    have hth := hW.1
    have hlt : cLt S T := hW.2.2.2.2.1
    have hc : cEc S kd nms e cur := by
      have z := y1.2.2.2.2.2.2 pe.length (by rw [hE, List.length_append, List.length_cons]; omega)
      rw [hE, hx, gLb (Nat.le_refl _), gLb (by omega), Nat.sub_self, show pe.length - p.length = 0 by omega, b1, b2] at z
      exact z
    obtain ⟨we1, we2, we3⟩ := hwe e (List.mem_cons.mpr (Or.inl rfl))
    have hwr : ∀ e ∈ re, wEn H kd nms e := fun e2 he2 => hwe e2 (List.mem_cons.mpr (Or.inr he2))
    have hgb : (gk = 4 ∨ gk = 5 ∨ gk = 7) → 0 ≤ gb ∧ gb < (T.length : Int) := fun z => by
      rcases z with z | z | z
      · exact (hgo (Or.inl z)).1
      · exact (hgo (Or.inr z)).1
      · exact hg7 z
    obtain ⟨sv, hsv⟩ : ∃ v : Int, v = eSt T H kd e := ⟨_, rfl⟩
    have hsvr : sv = 0 ∨ sv = 1 := by rw [hsv]; exact eSt_rg
    have hvr := hoB_c (hoP_e (nm := nm) (lo := lo) (hi := hi) hc hth hgb)
    obtain ⟨hv, hhv⟩ : ∃ v : Int, v = hoB S kd gk gb nm lo hi cur := ⟨_, rfl⟩
    rw [← hhv] at hvr
    have hnr : -1 ≤ S 57 cur ∧ S 57 cur ≤ 40000 := by
      rw [hnx]
      cases rx with
      | nil => exact ⟨Int.le_refl _, by decide⟩
      | cons c r =>
        have mc : c ∈ ix s := by rw [hx]; exact List.mem_append.mpr (Or.inr (List.mem_cons.mpr (Or.inr (List.mem_cons.mpr (Or.inl rfl)))))
        have z1 := chL_0 _ _ hch c mc
        have z2 := (y1.2.2.2.2.2.1 c mc).2
        show -1 ≤ c ∧ c ≤ 40000
        omega
    refine wa_iload_n (n := 3) rfl ?_
    refine wa_iconst ?_
    refine wa_icmpge (w_rg0 (by omega) (by omega)) (w_rg0 (by omega) (by omega)) ⟨_, rfl⟩ (fun c301 => ?_) (fun c301 => ?_)
    · skip
      exfalso; omega
    · skip
      refine wa_iload_n (n := 2) rfl ?_
      refine wa_iconst ?_
      refine wa_icmpeq (w_rg0 (by omega) (by omega)) (w_rg0 (by omega) (by omega)) ⟨_, rfl⟩ (fun c302 => ?_) (fun c302 => ?_)
      · skip
        exfalso; omega
      · skip
        refine wa_aload_n (n := 0) rfl ?_
        refine wb_gf4 158 rfl (wy_pr rfl) wt_158 wf_5_3 (v := 47) wl_158_3 ?_
        refine wa_bipush (w_rg2 (by omega) (by omega)) ?_
        refine wb_aald5 47 9 rfl rfl (wy_pr rfl) wt_47 (by rw [show _ = _ from ((cl_47 hC))]; omega) wl_47_9 ?_
        refine wa_iload_n (n := 2) rfl ?_
        refine wb_iald 57 rfl (wy_pr rfl) wt_57 (n := (S 48 (-1))) ((hl.2.2.1 9 (by decide))) (by omega) (by omega) (v := (S 57 cur)) rfl (fun r303 => ?_)
        refine wa_istore (n := 4) rfl ?_
        refine wa_aload_n (n := 0) rfl ?_
        refine wb_gf4 158 rfl (wy_pr rfl) wt_158 wf_5_3 (v := 47) wl_158_3 ?_
        refine wa_iconst ?_
        refine wb_aald5 47 1 rfl rfl (wy_pr rfl) wt_47 (by rw [show _ = _ from ((cl_47 hC))]; omega) wl_47_1 ?_
        refine wa_iload_n (n := 2) rfl ?_
        refine wb_iald 49 rfl (wy_pr rfl) wt_49 (n := (S 48 (-1))) ((hl.2.2.1 1 (by decide))) (by omega) (by omega) (v := (e.2.1)) (hc.1.2.1) (fun r304 => ?_)
        refine wa_istore (n := 5) rfl ?_
        refine wa_aload_n (n := 0) rfl ?_
        refine wb_gf4 158 rfl (wy_pr rfl) wt_158 wf_5_0 (v := 72) wl_158_0 ?_
        refine wa_iload (n := 5) rfl ?_
        refine wa_aload_n (n := 0) rfl ?_
        refine wb_gf4 158 rfl (wy_pr rfl) wt_158 wf_5_3 (v := 47) wl_158_3 ?_
        refine wa_iconst ?_
        refine wb_aald5 47 2 rfl rfl (wy_pr rfl) wt_47 (by rw [show _ = _ from ((cl_47 hC))]; omega) wl_47_2 ?_
        refine wa_iload_n (n := 2) rfl ?_
        refine wb_iald 50 rfl (wy_pr rfl) wt_50 (n := (S 48 (-1))) ((hl.2.2.1 2 (by decide))) (by omega) (by omega) (v := (e.2.2.2.1)) (hc.1.2.2.1) (fun r305 => ?_)
        refine wa_aload_n (n := 0) rfl ?_
        refine wb_gf4 158 rfl (wy_pr rfl) wt_158 wf_5_3 (v := 47) wl_158_3 ?_
        refine wa_bipush (w_rg2 (by omega) (by omega)) ?_
        refine wb_aald5 47 6 rfl rfl (wy_pr rfl) wt_47 (by rw [show _ = _ from ((cl_47 hC))]; omega) wl_47_6 ?_
        refine wa_iload_n (n := 2) rfl ?_
        refine wb_iald 54 rfl (wy_pr rfl) wt_54 (n := (S 48 (-1))) ((hl.2.2.1 6 (by decide))) (by omega) (by omega) (v := (eSn kd e)) (hc.2.2.1) (fun r306 => ?_)
        refine wa_cv 72 rfl (wy_pr rfl) wt_72 (M2 := fun _ => False) rfl at_XH_isStale ⟨_, rfl⟩ rfl rfl ⟨trivial, trivial, (Or.inr ⟨wy_pr rfl, fun q => q⟩), trivial, trivial, trivial, trivial⟩ trivial (fun _ _ q => False.elim q) (wJ_mono (c_st (T := T) hC hsw hth hlt hw we2 ⟨by omega, by omega⟩ ⟨by omega, by omega⟩ ⟨by omega, by omega⟩ (fun k hk => by rw [h11]; exact hcg k hk)) (fun o Z hz => (⟨hz.1, by rw [hsv]; exact hz.2⟩ : S = Z ∧ o = .inl (some (0, sv))))) (fun oq307 Sq307 hp308 q307 => ?_)
        rcases q307 with ⟨rfl, rfl⟩
        show wJ _ _ _ _ _ _ _ _ _ _
        refine wa_ifeq (w_rg0 (by omega) (by omega)) ⟨_, rfl⟩ (fun c309 => ?_) (fun c309 => ?_)
        · skip
          refine wa_aload_n (n := 0) rfl ?_
          refine wa_iload_n (n := 2) rfl ?_
          refine wa_cv 158 rfl (wy_pr rfl) wt_158 (M2 := fun _ => False) rfl at_XL_holds ⟨_, rfl⟩ rfl rfl ⟨trivial, trivial, (Or.inr ⟨wy_pr rfl, fun q => q⟩), trivial, trivial, trivial, trivial⟩ trivial (fun _ _ q => False.elim q) (wJ_mono (hol_ok (x := cur) (T := T) hC hl hlt l7 l9 l10 l11 l13 ⟨by omega, by omega⟩ hT hlo hhi (by rw [hc.1.1]; exact we1) hgb) (fun o Z hz => (⟨hz.1, by rw [hhv]; exact hz.2⟩ : S = Z ∧ o = .inl (some (0, hv))))) (fun oq310 Sq310 hp311 q310 => ?_)
          rcases q310 with ⟨rfl, rfl⟩
          show wJ _ _ _ _ _ _ _ _ _ _
          refine wa_ifeq (w_rg0 (by omega) (by omega)) ⟨_, rfl⟩ (fun c312 => ?_) (fun c312 => ?_)
          · skip
            refine wa_iload_n (n := 2) rfl ?_
            refine wa_istore_n (n := 1) rfl ?_
            refine wa_fall ⟨_, rfl⟩ ?_
            refine wa_iload (n := 4) rfl ?_
            refine wa_istore_n (n := 2) rfl ?_
            refine wa_iinc rfl rfl ?_
            refine wa_goto ⟨_, rfl⟩ ?_
            have hno : ¬ hoI T kd nms gk gb nm lo hi e := (hvr.resolve_left (fun z => by omega)).2
            have er : hlF T H kd nms gk gb nm lo hi (e :: re) = (e :: (hlF T H kd nms gk gb nm lo hi re).1, (hlF T H kd nms gk gb nm lo hi re).2.1, (hlF T H kd nms gk gb nm lo hi re).2.2) := (if_neg (by omega)).trans (if_neg (show ¬ hoE T kd nms gk gb nm lo hi e from hno))
            refine wJ_S (wJ_mono (ih rx (pe ++ [e]) (p ++ [cur]) E ix fl ow S cur (S 57 cur) (i + 1) hse hF hs9 h11 ⟨h43.1, by omega⟩ h42 h19 (by rw [List.append_assoc]; exact hE) (by rw [List.append_assoc]; exact hx) (by rw [List.length_append, List.length_append]; exact congrArg (fun z => z + 1) hpl) (Or.inr ⟨p, rfl⟩) ⟨by omega, by omega⟩ hnx hwr) (fun o Z hz => ?_)) ⟨rfl, rfl, rfl, rfl, trivial⟩
            unfold hdQ at hz ⊢
            rw [List.append_assoc] at hz
            rw [er]
            exact hz
          · skip
            refine wa_aload_n (n := 0) rfl ?_
            refine wb_gf4 158 rfl (wy_pr rfl) wt_158 wf_5_2 (v := 34) wl_158_2 ?_
            refine wa_bipush (w_rg2 (by omega) (by omega)) ?_
            refine wb_aald5 34 7 rfl rfl (wy_pr rfl) wt_34 (by rw [show _ = _ from ((cl_34 hC))]; omega) wl_34_7 ?_
            refine wa_aload_n (n := 0) rfl ?_
            refine wb_gfi 158 rfl (wy_pr rfl) wt_158 wf_5_6 (v := s) (l6) (fun r313 => ?_)
            refine wa_dup2 (by decide) (by decide) ?_
            refine wb_iald 42 rfl (wy_pr rfl) wt_42 (n := (S 35 (-1))) ((hl.1 7 (by decide))) (by omega) (by omega) (v := (S 42 s)) rfl (fun r314 => ?_)
            refine wa_iconst ?_
            refine wa_iadd ?_
            refine wb_iast 42 rfl (wy_pr rfl) wt_42 (n := (S 35 (-1))) ((hl.1 7 (by decide))) (by omega) (by omega) ⟨(by omega), (by omega)⟩ ?_
            refine wa_aload_n (n := 0) rfl ?_
            refine wa_iload_n (n := 2) rfl ?_
            have hho : hoI T kd nms gk gb nm lo hi e := (hvr.resolve_right (fun z => by omega)).2
            have fS : ∀ (j : Nat) (x : Int), ¬ hdM s j x → (w_up S 42 s ((S 42 s) + 1)) j x = S j x := fun j x hj => w_up_no (by unfold hdM at hj; omega)
            have hF2 := hdF_ag hF hs fS
            obtain ⟨⟨hC2, hW2, hsw2⟩, ⟨-, m7, m9, m10, m11, m13⟩, -, -⟩ := id hF2
            have hc2 : cEc (w_up S 42 s ((S 42 s) + 1)) kd nms e cur := cEc_ag hc (fun j j0 j1 => w_up_slot (by omega))
            have hse2 : cSe (w_up S 42 s ((S 42 s) + 1)) E ix fl ow := cSe_ag hse (fun j x hj => w_up_no (by unfold cEo at hj; omega))
            have hq2 : ((w_up S 42 s ((S 42 s) + 1)) 48 cur = 0 ∧ kd ≠ 4 ∧ kd ≠ 6) → isO T gb ∧ 0 ≤ nm ∧ nm ≤ 100000 := fun z => by
              rw [hc2.1.1] at z
              have w3 := we3 z.1 z.2.1 z.2.2
              have gk45 : (gk = 4 ∨ gk = 5) ∧ nm = cNm kd nms e := by rcases (show hoE T kd nms gk gb nm lo hi e from hho) with ⟨z1, z2, (⟨z3, z4, z5⟩ | ⟨z3, z4, z5, z6⟩)⟩ | ⟨z1, z2, z3, z4⟩ | ⟨z1, z2, z3, z4⟩ | ⟨z1, z2⟩ <;> first | exact ⟨z2, z6⟩ | (exfalso; omega)
              exact ⟨hgo gk45.1, by omega, by omega⟩
            have hjr := irB_c (irP_e (H := H) (gb := gb) (nm := nm) hc2 hW2.1 (fun z => by
              have gk45 : gk = 4 ∨ gk = 5 := by rcases (show hoE T kd nms gk gb nm lo hi e from hho) with ⟨z1, z2, (⟨z3, z4, z5⟩ | ⟨z3, z4, z5, z6⟩)⟩ | ⟨z1, z2, z3, z4⟩ | ⟨z1, z2, z3, z4⟩ | ⟨z1, z2⟩ <;> first | exact z2 | (exfalso; omega)
              exact (hgo gk45).1))
            obtain ⟨jv, hjv⟩ : ∃ v : Int, v = irB (w_up S 42 s ((S 42 s) + 1)) T H kd gb nm cur := ⟨_, rfl⟩
            rw [← hjv] at hjr
            refine wa_cv 158 rfl (wy_pr rfl) wt_158 (M2 := fun _ => False) rfl at_XL_isRight ⟨_, rfl⟩ rfl rfl ⟨trivial, trivial, (Or.inr ⟨wy_pr rfl, fun q => q⟩), trivial, trivial, trivial, trivial⟩ trivial (fun _ _ q => False.elim q) (wJ_mono (irt_ok (S := (w_up S 42 s ((S 42 s) + 1))) (x := cur) (T := T) (H := H) hC2 hse2.1 hW2.2.2.2.2.1 m7 m9 m10 m11 m13 ⟨by omega, by rw [w_up_slot (by decide)]; omega⟩ hT hsw2 hW2.1 hw hq2) (fun o Z hz => (⟨hz.1, by rw [hjv]; exact hz.2⟩ : (w_up S 42 s ((S 42 s) + 1)) = Z ∧ o = .inl (some (0, jv))))) (fun oq315 Sq315 hp316 q315 => ?_)
            rcases q315 with ⟨rfl, rfl⟩
            show wJ _ _ _ _ _ _ _ _ _ _
            refine wa_ifne (w_rg0 (by omega) (by omega)) ⟨_, rfl⟩ (fun c317 => ?_) (fun c317 => ?_)
            · skip
              refine wa_iload_n (n := 2) rfl ?_
              refine wa_ireturn rfl ?_
              have er : hlF T H kd nms gk gb nm lo hi (e :: re) = (e :: re, 0, some e) := (if_neg (by omega)).trans (if_pos (show hoE T kd nms gk gb nm lo hi e from hho))
              have fT : ∀ (j : Nat) (x : Int), ¬ hdM s j x → (w_up S 42 s ((S 42 s) + 1)) j x = S j x := fun j x hj => fS j x hj
              have hsZ : cSe (w_up S 42 s ((S 42 s) + 1)) E ix fl ow := cSe_ag hse (fun j x hj => w_up_no (by unfold cEo at hj; omega))
              have hcZ : cEc (w_up S 42 s ((S 42 s) + 1)) kd nms e cur := cEc_ag hc (fun j j0 j1 => w_up_slot (by omega))
              unfold hdQ
              rw [er]
              refine ⟨⟨ix, fl, ow, by rw [← hE, fUp_eta rfl]; exact hsZ⟩, (w_up_slot (by first | decide | omega)).trans (Int.add_zero _).symm, fT, Or.inr ⟨e, cur, rfl, rfl, hcZ, ⟨ha0, by rw [show _ = _ from (w_up_slot (by first | decide | omega))]; omega⟩, (w_up_same _ _ _ _), ?_⟩⟩
              rw [(if_pos (show irE T H kd gb nm e from (hjr.resolve_right (fun z => by omega)).2))]
              exact ((w_up_slot (by first | decide | omega)).trans (Int.add_zero _).symm)
            · skip
              refine wa_aload_n (n := 0) rfl ?_
              refine wa_dup (by decide) ?_
              refine wb_gfi 158 rfl (wy_pr rfl) wt_158 wf_5_19 (v := (S 158 19)) (w_up_slot (by decide)) (fun r318 => ?_)
              refine wa_iconst ?_
              refine wa_iadd ?_
              refine wb_pfi 158 rfl (wy_pr rfl) wt_158 wf_5_19 (n := 19) rfl ⟨(by omega), (by omega)⟩ ?_
              refine wa_fall ⟨_, rfl⟩ ?_
              refine wa_iload_n (n := 2) rfl ?_
              refine wa_ireturn rfl ?_
              have er : hlF T H kd nms gk gb nm lo hi (e :: re) = (e :: re, 0, some e) := (if_neg (by omega)).trans (if_pos (show hoE T kd nms gk gb nm lo hi e from hho))
              have fT : ∀ (j : Nat) (x : Int), ¬ hdM s j x → (w_up (w_up S 42 s ((S 42 s) + 1)) 158 19 ((S 158 19) + 1)) j x = S j x := fun j x hj => (w_up_no (by unfold hdM at hj; omega)).trans (fS j x hj)
              have hsZ : cSe (w_up (w_up S 42 s ((S 42 s) + 1)) 158 19 ((S 158 19) + 1)) E ix fl ow := cSe_ag hse (fun j x hj => (w_up_no (by unfold cEo at hj; omega)).trans (w_up_no (by unfold cEo at hj; omega)))
              have hcZ : cEc (w_up (w_up S 42 s ((S 42 s) + 1)) 158 19 ((S 158 19) + 1)) kd nms e cur := cEc_ag hc (fun j j0 j1 => (w_up_slot (by omega)).trans (w_up_slot (by omega)))
              unfold hdQ
              rw [er]
              refine ⟨⟨ix, fl, ow, by rw [← hE, fUp_eta rfl]; exact hsZ⟩, ((w_up_slot (by first | decide | omega)).trans (w_up_slot (by first | decide | omega))).trans (Int.add_zero _).symm, fT, Or.inr ⟨e, cur, rfl, rfl, hcZ, ⟨ha0, by rw [show _ = _ from ((w_up_slot (by first | decide | omega)).trans (w_up_slot (by first | decide | omega)))]; omega⟩, ((w_up_slot (by first | decide | omega)).trans (w_up_same _ _ _ _)), ?_⟩⟩
              rw [(if_neg (show ¬ irE T H kd gb nm e from (hjr.resolve_left (fun z => by omega)).2))]
              exact (w_up_same _ _ _ _)
        · skip
          refine wa_aload_n (n := 0) rfl ?_
          refine wb_gf4 158 rfl (wy_pr rfl) wt_158 wf_5_2 (v := 34) wl_158_2 ?_
          refine wa_bipush (w_rg2 (by omega) (by omega)) ?_
          refine wa_fall ⟨_, rfl⟩ ?_
          refine wb_aald5 34 8 rfl rfl (wy_pr rfl) wt_34 (by rw [show _ = _ from ((cl_34 hC))]; omega) wl_34_8 ?_
          refine wa_aload_n (n := 0) rfl ?_
          refine wb_gfi 158 rfl (wy_pr rfl) wt_158 wf_5_6 (v := s) (l6) (fun r319 => ?_)
          refine wa_dup2 (by decide) (by decide) ?_
          refine wb_iald 43 rfl (wy_pr rfl) wt_43 (n := (S 35 (-1))) ((hl.1 8 (by decide))) (by omega) (by omega) (v := (S 43 s)) rfl (fun r320 => ?_)
          refine wa_iconst ?_
          refine wa_iadd ?_
          refine wb_iast 43 rfl (wy_pr rfl) wt_43 (n := (S 35 (-1))) ((hl.1 8 (by decide))) (by omega) (by omega) ⟨(by omega), (by omega)⟩ ?_
          refine wa_aload_n (n := 0) rfl ?_
          refine wb_gf4 158 rfl (wy_pr rfl) wt_158 wf_5_1 (v := 19) wl_158_1 ?_
          refine wa_aload_n (n := 0) rfl ?_
          refine wb_gfi 158 rfl (wy_pr rfl) wt_158 wf_5_6 (v := s) ((w_up_slot (by decide)).trans (l6)) (fun r321 => ?_)
          refine wa_iload_n (n := 1) rfl ?_
          refine wa_iload_n (n := 2) rfl ?_
          have fS : ∀ (j : Nat) (x : Int), (j ≠ 43 ∨ x ≠ s) → (w_up S 43 s ((S 43 s) + 1)) j x = S j x := fun j x hj => w_up_no (by omega)
          have hse2 : cSe (w_up S 43 s ((S 43 s) + 1)) E ix fl ow := cSe_ag hse (fun j x hj => fS j x (by unfold cEo at hj; omega))
          refine wa_cv 19 rfl (wy_pr rfl) wt_19 (M2 := fun _ => False) rfl at_XC_removeEntry ⟨_, rfl⟩ rfl rfl ⟨trivial, trivial, (Or.inr ⟨wy_pr rfl, fun q => q⟩), trivial, trivial, trivial, trivial⟩ trivial (fun _ _ q => False.elim q) (re_ok (S := (w_up S 43 s ((S 43 s) + 1))) (s := s) (b := b) (a := cur) hse2.1 ⟨hs, by rw [fS 35 _ (Or.inl (by decide))]; omega⟩ (by rw [fS 48 _ (Or.inl (by decide))]; omega) ⟨ha0, by rw [fS 48 _ (Or.inl (by decide))]; omega⟩ (by rw [fS 44 s (Or.inl (by decide))]; exact h44) (w_CL_up hC hs)) (fun oq322 Sq322 hp323 q322 => ?_)
          rcases q322 with ⟨rfl, rfl⟩
          show wJ _ _ _ _ _ _ _ _ _ _
          refine wa_goto ⟨_, rfl⟩ ?_
          refine wa_iload (n := 4) rfl ?_
          refine wa_istore_n (n := 2) rfl ?_
          refine wa_iinc rfl rfl ?_
          refine wa_goto ⟨_, rfl⟩ ?_
          have er : hlF T H kd nms gk gb nm lo hi (e :: re) = ((hlF T H kd nms gk gb nm lo hi re).1, (hlF T H kd nms gk gb nm lo hi re).2.1 + 1, (hlF T H kd nms gk gb nm lo hi re).2.2) := if_pos (by omega)
          have hse3 := cSe_rm (b := b) hse2 ⟨hs, by rw [fS 19 9 (Or.inl (by first | decide | omega))]; exact hs9⟩ hE hx hpl hb
          have fR : ∀ (j : Nat) (x : Int), (j ≠ 43 ∨ x ≠ s) → ((j ≠ 46 ∧ j ≠ 44) ∨ x ≠ s) → j ≠ 57 → (j ≠ 19 ∨ x ≠ 12) → (rmZ s b cur (w_up S 43 s ((S 43 s) + 1))) j x = S j x := fun j x j0 j1 j2 j3 => (rmZ_e j x j1 j2 j3).trans (fS j x j0)
          have f57 : (rmZ s b cur (w_up S 43 s ((S 43 s) + 1))) 57 (-1) = S 57 (-1) := (rmZ_57 (by omega) (by omega)).trans (fS 57 (-1) (Or.inl (by first | decide | omega)))
          have fM : ∀ (j : Nat) (x : Int), ¬ hdM s j x → (rmZ s b cur (w_up S 43 s ((S 43 s) + 1))) j x = S j x := fun j x hj => by
            unfold hdM at hj
            by_cases c : j = 57
            · rw [c]; exact (rmZ_57 (by omega) (by omega)).trans (fS 57 x (Or.inl (by first | decide | omega)))
            · exact fR j x (by omega) (by omega) c (by omega)
          have e43 : (rmZ s b cur (w_up S 43 s ((S 43 s) + 1))) 43 s = S 43 s + 1 := (rmZ_e 43 s (Or.inl (by first | decide | omega)) (by first | decide | omega) (by first | decide | omega)).trans (w_up_same _ _ _ _)
          have e42 : (rmZ s b cur (w_up S 43 s ((S 43 s) + 1))) 42 s = S 42 s := fR 42 s (Or.inl (by first | decide | omega)) (Or.inl (by first | decide | omega)) (by first | decide | omega) (by first | decide | omega)
          have e19 : (rmZ s b cur (w_up S 43 s ((S 43 s) + 1))) 158 19 = S 158 19 := fR 158 19 (Or.inl (by first | decide | omega)) (Or.inl (by first | decide | omega)) (by first | decide | omega) (by first | decide | omega)
          refine wJ_S (wJ_mono (ih rx pe p (fUp E s (pe ++ re)) (fUp ix s (p ++ rx)) (cur :: fl) (fUp ow cur (-1)) (rmZ s b cur (w_up S 43 s ((S 43 s) + 1))) b (S 57 cur) (i + 1) hse3 (hdF_ag hF hs fM) (by rw [fR 19 9 (Or.inl (by first | decide | omega)) (Or.inl (by first | decide | omega)) (by first | decide | omega) (by first | decide | omega)]; exact hs9) ((fR 72 11 (Or.inl (by first | decide | omega)) (Or.inl (by first | decide | omega)) (by first | decide | omega) (by first | decide | omega)).trans h11) (by rw [e43]; omega) (by rw [e42]; exact h42) (by rw [e19]; exact h19) fUp_s fUp_s hpl hb ⟨by omega, by omega⟩ hnx hwr) (fun o Z hz => ?_)) ⟨rfl, rfl, rfl, rfl, trivial⟩
          unfold hdQ at hz ⊢
          rw [fUp_2, e43, e42, e19] at hz
          rw [er]
          obtain ⟨z1, z2, z3, z4⟩ := hz
          exact ⟨z1, by show Z 43 s = S 43 s + (_ + 1); omega, fun j x hj => (z3 j x hj).trans (fM j x hj), z4⟩
theorem hed_ok {E : Int → List aE} {ix : Int → List Int} {fl : List Int} {ow : Int → Int} (hs : 0 ≤ s) (hw : wSh T H) (hT : (T.length : Int) ≤ 8000) (hlo : wb_l2i es = lo) (hhi : wb_l2i (wb_lushr es 32) = hi) (hgo : (gk = 4 ∨ gk = 5) → isO T gb) (hg7 : gk = 7 → 0 ≤ gb ∧ gb < (T.length : Int)) (hcg : ∀ k : Int, isO T k → aCg T k ≤ S 72 11) (hse : cSe S E ix fl ow) (hF : hdF s kd nms gk gb nm es T H L G S) (hs9 : s < S 19 9) (h43 : 0 ≤ S 43 s ∧ S 43 s + 4 ≤ 1000000) (h42 : 0 ≤ S 42 s ∧ S 42 s ≤ 1000000) (h19 : 0 ≤ S 158 19 ∧ S 158 19 ≤ 1000000) (hwe : ∀ e ∈ E s, wEn H kd nms e) : wJ (pe_GA xs) wY0 M (d + 3) t_XL_held ((pe_at t_XL_held.bl 0).getD (0, [])).2 [(0, (2, 158))] [] S (hdQ s kd nms gk gb nm lo hi T H E [] (E s) S) := by
  have y1 := hse.2.1 s hs hs9
  have hl := hse.1
  have h35 := hl.2.1
  have h48 := hl.2.2.2
  obtain ⟨⟨hC, hW, hsw⟩, ⟨l6, l7, l9, l10, l11, l13⟩, b1, b2⟩ := id hF
  have hln : ((E s).length : Int) ≤ 4 := by have := y1.2.1; omega
  refine wa_iconst ?_
  refine wa_istore_n (n := 1) rfl ?_
  refine wa_aload_n (n := 0) rfl ?_
  refine wb_gf4 158 rfl (wy_pr rfl) wt_158 wf_5_2 (v := 34) wl_158_2 ?_
  refine wa_bipush (w_rg2 (by omega) (by omega)) ?_
  refine wb_aald5 34 11 rfl rfl (wy_pr rfl) wt_34 (by rw [show _ = _ from ((cl_34 hC))]; omega) wl_34_11 ?_
  refine wa_aload_n (n := 0) rfl ?_
  refine wb_gfi 158 rfl (wy_pr rfl) wt_158 wf_5_6 (v := s) (l6) (fun r601 => ?_)
  refine wb_iald 46 rfl (wy_pr rfl) wt_46 (n := (S 35 (-1))) ((hl.1 11 (by decide))) (by omega) (by omega) (v := (S 46 s)) rfl (fun r602 => ?_)
  refine wa_istore_n (n := 2) rfl ?_
  refine wa_iconst ?_
  refine wa_istore_n (n := 3) rfl ?_
  refine wa_fall ⟨_, rfl⟩ ?_
  exact wJ_S (hd_l (ch := S 72 11) hs hw hT hlo hhi hgo hg7 hcg (E s) (ix s) [] [] E ix fl ow S (-1) (S 46 s) 0 hse hF hs9 rfl ⟨h43.1, by omega⟩ h42 h19 rfl rfl rfl (Or.inl ⟨rfl, rfl⟩) ⟨by omega, by omega⟩ (chL_h y1.2.2.2.1) hwe) ⟨rfl, rfl, rfl, rfl, trivial⟩
end Wge
