/-! PART kz: what holds of the entries of sites. -/
section Wkz
variable {xs : List (Nat × List Int32)} {d : Nat} {S0 S Z : wS} {p w m : Nat} {HT : Int → Int} {cs : List hCR} {ms : List hMR} {os : Int → List Int} {X : List (List Int)} {mo t n B B2 oq : Int} {fa : Int → Int} {WE : aA → Prop} {A A2 : aA} {K2 : aK} {ml : List Nat} {k c s kd nms ne ec bh nm en : Int} {b ba : Nat} {ar : List aV} {e : aE} {V Z2 Y : wS} {o : wO} {dn : Int} {H2 : List aH} {N2 : List (List Int)} {E2 : Int → List aE} {C2 : List aQ} {W2 : Int} {c2 : Int → Int} {k2 : Int → Int → Int} {mk rk : Nat → Int → Prop} {K : aK} {T : List aO} {H : List aH} {E : Int → List aE} {gk gb es lo hi a : Int} {r : List aE × Int × Option aE} {A1 : aA} {tl cl : List Int}
/-- the text of a name -/
def nmT (N : List (List Int)) (k : Int) : List Int := if k < 0 then [] else N.getD k.toNat []
/-- which of the words size, push, pop, sub a text is -/
def wdK (x : List Int) : Int := if x = wl2.getD 22 [] then 22 else if x = wl2.getD 23 [] then 23 else if x = wl2.getD 24 [] then 24 else if x = wl2.getD 25 [] then 25 else 0
theorem wl2_d : wl2.getD 22 [] ≠ wl2.getD 23 [] ∧ wl2.getD 22 [] ≠ wl2.getD 24 [] ∧ wl2.getD 22 [] ≠ wl2.getD 25 [] ∧ wl2.getD 23 [] ≠ wl2.getD 24 [] ∧ wl2.getD 23 [] ≠ wl2.getD 25 [] ∧ wl2.getD 24 [] ≠ wl2.getD 25 [] := by decide
theorem wdK_N (x : List Int) : wdN x (wdK x) := fun k k0 k1 => by
  obtain ⟨d1, d2, d3, d4, d5, d6⟩ := wl2_d
  have hk : k = 22 ∨ k = 23 ∨ k = 24 ∨ k = 25 := by omega
  unfold wdK
  by_cases e1 : x = wl2.getD 22 []
  · rw [if_pos e1, e1]
    rcases hk with rfl | rfl | rfl | rfl
    · exact ⟨fun _ => rfl, fun _ => rfl⟩
    · exact ⟨fun z => absurd z d1, fun z => absurd z (by first | decide | omega)⟩
    · exact ⟨fun z => absurd z d2, fun z => absurd z (by first | decide | omega)⟩
    · exact ⟨fun z => absurd z d3, fun z => absurd z (by first | decide | omega)⟩
  · rw [if_neg e1]
    by_cases e2 : x = wl2.getD 23 []
    · rw [if_pos e2, e2]
      rcases hk with rfl | rfl | rfl | rfl
      · exact ⟨fun z => absurd z.symm d1, fun z => absurd z (by first | decide | omega)⟩
      · exact ⟨fun _ => rfl, fun _ => rfl⟩
      · exact ⟨fun z => absurd z d4, fun z => absurd z (by first | decide | omega)⟩
      · exact ⟨fun z => absurd z d5, fun z => absurd z (by first | decide | omega)⟩
    · rw [if_neg e2]
      by_cases e3 : x = wl2.getD 24 []
      · rw [if_pos e3, e3]
        rcases hk with rfl | rfl | rfl | rfl
        · exact ⟨fun z => absurd z.symm d2, fun z => absurd z (by first | decide | omega)⟩
        · exact ⟨fun z => absurd z.symm d4, fun z => absurd z (by first | decide | omega)⟩
        · exact ⟨fun _ => rfl, fun _ => rfl⟩
        · exact ⟨fun z => absurd z d6, fun z => absurd z (by first | decide | omega)⟩
      · rw [if_neg e3]
        by_cases e4 : x = wl2.getD 25 []
        · rw [if_pos e4, e4]
          rcases hk with rfl | rfl | rfl | rfl
          · exact ⟨fun z => absurd z.symm d3, fun z => absurd z (by first | decide | omega)⟩
          · exact ⟨fun z => absurd z.symm d5, fun z => absurd z (by first | decide | omega)⟩
          · exact ⟨fun z => absurd z.symm d6, fun z => absurd z (by first | decide | omega)⟩
          · exact ⟨fun _ => rfl, fun _ => rfl⟩
        · rw [if_neg e4]
          rcases hk with rfl | rfl | rfl | rfl
          · exact ⟨fun z => absurd z e1, fun z => absurd z (by first | decide | omega)⟩
          · exact ⟨fun z => absurd z e2, fun z => absurd z (by first | decide | omega)⟩
          · exact ⟨fun z => absurd z e3, fun z => absurd z (by first | decide | omega)⟩
          · exact ⟨fun z => absurd z e4, fun z => absurd z (by first | decide | omega)⟩
theorem rwP_w {x : List Int} {a b g k e : Int} (ha : wdN x a) (hb : wdN x b) : rwP a g k e = rwP b g k e := by
  have h2 : a = 22 ↔ b = 22 := (ha 22 (by first | decide | omega) (by first | decide | omega)).symm.trans (hb 22 (by first | decide | omega) (by first | decide | omega))
  have h3 : a = 23 ↔ b = 23 := (ha 23 (by first | decide | omega) (by first | decide | omega)).symm.trans (hb 23 (by first | decide | omega) (by first | decide | omega))
  have h4 : a = 24 ↔ b = 24 := (ha 24 (by first | decide | omega) (by first | decide | omega)).symm.trans (hb 24 (by first | decide | omega) (by first | decide | omega))
  have h5 : a = 25 ↔ b = 25 := (ha 25 (by first | decide | omega) (by first | decide | omega)).symm.trans (hb 25 (by first | decide | omega) (by first | decide | omega))
  unfold rwP
  simp only [h2, h3, h4, h5]
/-- what a lookup at a host's value finds (am: 1 at a class) -/
def whA (HT : Int → Int) (cs : List hCR) (ms : List hMR) (os : Int → List Int) (kd am : Int) (W : List Int) (k : Int) (tl : List Int) : Int := if kd = 0 then (if gtA HT cs ms os am W k = -1 then fdA HT cs ms am W k else gtA HT cs ms os am W k) else if kd = 1 then (if FA HT cs ms os k am 1 (wnW [115, 101, 116] W) = [] then fdA HT cs ms am W k else rvA HT cs ms os (k, am, 1, wnW [115, 101, 116] W, tl)) else if kd = 5 then rvA HT cs ms os (k, am, 0, wnW ([] : List Int) W, tl) else rvA HT cs ms os (k, 2, 0, [], tl)
/-- how many types of arguments it hangs on -/
def mnA (HT : Int → Int) (cs : List hCR) (ms : List hMR) (os : Int → List Int) (kd am : Int) (W : List Int) (k : Int) (tl : List Int) : Nat := if kd = 0 then 0 else if kd = 1 then (if FA HT cs ms os k am 1 (wnW [115, 101, 116] W) = [] then 0 else 1) else tl.length
/-- an entry of a host's value -/
def eRh (HT : Int → Int) (cs : List hCR) (ms : List hMR) (os : Int → List Int) (kd ec : Int) (W : List Int) (e : aE) : Prop := (kd = 0 ∨ kd = 1 ∨ kd = 5 ∨ (kd = 6 ∧ e.1 = 2)) ∧ (0 ≤ e.2.1 ∧ e.2.1 < (cs.length : Int)) ∧ ∃ tl : List Int, ((tl.length : Int) = ec ∧ tl.length ≤ 8 ∧ esOk tl ∧ ∀ c ∈ tl, c < 9 + (cs.length : Int)) ∧ 0 ≤ whA HT cs ms os kd (e.1 - 1) W e.2.1 tl ∧ e = hoN e.1 e.2.1 (whA HT cs ms os kd (e.1 - 1) W e.2.1 tl) (mnA HT cs ms os kd (e.1 - 1) W e.2.1 tl : Int) (esV (tl.take (mnA HT cs ms os kd (e.1 - 1) W e.2.1 tl))) e.2.2.2.2.2.2.1
/-- an entry of a list or a text -/
def eRw (kd ne : Int) (W : List Int) (e : aE) : Prop := (e.2.1 = 0 ∨ e.2.1 = 1) ∧ e = (3, e.2.1, -1, -1, -1, -1, e.2.2.2.2.2.2.1, 0, 0) ∧ rwP (wdK W) (if e.2.1 = 0 then 6 else 3) kd ne = 0
/-- an entry of a thing, besides what a lookup finds -/
def eR0 (kd : Int) (nN : Nat) (e : aE) : Prop := (e.2.2.2.2.2.2.2.1 = 0 ∧ e.2.2.2.2.2.2.2.2 = 0) ∧ -1 ≤ e.2.2.2.1 ∧ ((kd = 2 ∨ kd = 3) → 0 ≤ e.2.2.1 ∧ e.2.2.1 < (nN : Int)) ∧ (¬ (kd = 2 ∨ kd = 3) → e.2.2.1 = -1)
/-- a site has a kind, and a name where it wants one -/
def sKn (S0 : wS) (s : Int) : Prop := (0 ≤ S0 304 s ∧ S0 304 s ≤ 6) ∧ ((S0 304 s = 0 ∨ S0 304 s = 1 ∨ S0 304 s = 5) → 0 ≤ S0 305 s)
/-- an entry of a site is as it should be -/
def eOk (S0 : wS) (HT : Int → Int) (cs : List hCR) (ms : List hMR) (os : Int → List Int) (A : aA) (s : Int) (e : aE) : Prop := ((0 ≤ e.1 ∧ e.1 ≤ 3 ∧ S0 305 s < S0 237 16 ∧ sKn S0 s) ∧ (0 ≤ e.2.2.2.2.2.2.1 ∧ e.2.2.2.2.2.2.1 ≤ a_c A 11)) ∧ eRt (a_T A) (a_H A) (S0 304 s) (S0 305 s) e ∧ (e.1 = 0 → eR0 (S0 304 s) (a_N A).length e) ∧ (e.1 = 3 → eRw (S0 304 s) (S0 306 s) (nmT (a_N A) (S0 305 s)) e) ∧ (e.1 = 1 ∨ e.1 = 2 → eRh HT cs ms os (S0 304 s) (if S0 304 s = 1 then 1 else S0 306 s) (nmT (a_N A) (S0 305 s)) e)
/-- an instance has a value for each field of its class -/
def iK7 (cs : List hCR) (ms : List hMR) (T : List aO) : Prop := ∀ k : Int, 0 ≤ k → k < (T.length : Int) → (tO T k).1 = 7 → (tO T k).2.2.2.2.2.2.length = (flA cs ms (tO T k).2.2.1).length
/-- besides: choices that were wanted, names that differ, instances -/
def WEx (cs : List hCR) (ms : List hMR) (A : aA) : Prop := (a_W A ≤ a_c A 21 + a_c A 22 ∧ (a_N A).Nodup) ∧ iK7 cs ms (a_T A)
/-- all entries are -/
def WEs (S0 : wS) (HT : Int → Int) (cs : List hCR) (ms : List hMR) (os : Int → List Int) (A : aA) : Prop := (∀ s : Int, 0 ≤ s → s < S0 237 47 → (a_E A s).length ≤ 4 ∧ ∀ e ∈ a_E A s, eOk S0 HT cs ms os A s e) ∧ WEx cs ms A
theorem WEs_k : WEk (WEs S0 HT cs ms os) := fun _ _ _ h => h
theorem WEs_o : WEo (WEs S0 HT cs ms os) := fun _ _ _ _ h => h
theorem WEs_e {T2 : List aO} {L2 : List aC} {G2 : Int → aV} {H2 : List aH} {c2 : Int → Int} {k : Int} (h : WEs S0 HT cs ms os A) (hw : wSh (a_T A) (a_H A)) (hc : eCh (a_T A) (a_H A) T2 H2 k (a_c A 11 + 1)) (h11 : a_c A 11 ≤ c2 11) : ∀ s : Int, 0 ≤ s → s < S0 237 47 → (a_E A s).length ≤ 4 ∧ ∀ e ∈ a_E A s, eOk S0 HT cs ms os (u_W A t K2 T2 L2 G2 H2 c2) s e := fun s s0 s1 => by
  obtain ⟨a1, a2⟩ := h.1 s s0 s1
  refine ⟨a1, fun e he => ?_⟩
  obtain ⟨⟨b0, b1⟩, b2, b3, b4, b5⟩ := a2 e he
  refine ⟨⟨b0, b1.1, ?_⟩, eRt_ch hw hc ⟨b1.1, by omega⟩ b2, b3, b4, b5⟩
  show e.2.2.2.2.2.2.1 ≤ c2 11
  omega
theorem WEs_w : WEw (WEs S0 HT cs ms os) := fun A t K2 T2 L2 G2 H2 c2 k h hw hc ht h7 h20 h11 => by
  refine ⟨WEs_e (A := A) h hw hc h11, ⟨?_, h.2.1.2⟩, fun q q0 q1 q7 => ?_⟩
  · show a_W A ≤ c2 21 + c2 22
    rw [h20 21 (by first | decide | omega), h20 22 (by first | decide | omega)]
    exact h.2.1.1
  · show (tO T2 q).2.2.2.2.2.2.length = (flA cs ms (tO T2 q).2.2.1).length
    replace q1 : q < (T2.length : Int) := q1
    replace q7 : (tO T2 q).1 = 7 := q7
    by_cases e : q < ((a_T A).length : Int)
    · obtain ⟨y1, y2, y3⟩ := ht.2 q q0 e
      rw [y1] at q7
      rw [h7.1 q q0 e q7, y2]
      exact h.2.2 q q0 e q7
    · exact absurd q7 (h7.2 q (by omega) q1)
/-- the types that an entry has kept -/
theorem eOk_ty (h : eOk S0 HT cs ms os A s e) (hl : (cl.length : Int) = (if S0 304 s = 1 then 1 else S0 306 s)) : ∃ ty : List Int, (e.2.2.2.2.2.2.2.1 = (ty.length : Int) ∧ e.2.2.2.2.2.2.2.2 = esV ty ∧ esOk ty ∧ ty.length ≤ 8 ∧ ty.length ≤ cl.length) ∧ ((e.1 = 0 ∨ e.1 = 3) → ty = []) ∧ ((e.1 = 1 ∨ e.1 = 2) → ((S0 304 s = 5 ∨ S0 304 s = 6 ∨ (S0 304 s = 1 ∧ e.2.2.2.2.2.2.2.1 = 1)) ∧ ty.length = cl.length) ∨ (¬ (S0 304 s = 5 ∨ S0 304 s = 6 ∨ (S0 304 s = 1 ∧ e.2.2.2.2.2.2.2.1 = 1)) ∧ ty = [])) := by
  obtain ⟨⟨b0, b1⟩, b2, b3, b4, b5⟩ := h
  by_cases e0 : e.1 = 0
  · exact ⟨[], ⟨(b3 e0).1.1, (b3 e0).1.2, fun c hc => absurd hc (List.not_mem_nil), Nat.zero_le _, Nat.zero_le _⟩, fun _ => rfl, fun z => by omega⟩
  · by_cases e3 : e.1 = 3
    · obtain ⟨-, c2, -⟩ := b4 e3
      refine ⟨[], ⟨by rw [c2]; rfl, by rw [c2]; rfl, fun c hc => absurd hc (List.not_mem_nil), Nat.zero_le _, Nat.zero_le _⟩, fun _ => rfl, fun z => by omega⟩
    · obtain ⟨kk, -, tl, ⟨t1, t2, t3, t4⟩, -, c2⟩ := b5 (by omega)
      have c8 : e.2.2.2.2.2.2.2.1 = (mnA HT cs ms os (S0 304 s) (e.1 - 1) (nmT (a_N A) (S0 305 s)) e.2.1 tl : Int) := congrArg (fun x : aE => x.2.2.2.2.2.2.2.1) c2
      have c9 : e.2.2.2.2.2.2.2.2 = esV (tl.take (mnA HT cs ms os (S0 304 s) (e.1 - 1) (nmT (a_N A) (S0 305 s)) e.2.1 tl)) := congrArg (fun x : aE => x.2.2.2.2.2.2.2.2) c2
      have hm : ((S0 304 s = 5 ∨ S0 304 s = 6 ∨ (S0 304 s = 1 ∧ mnA HT cs ms os (S0 304 s) (e.1 - 1) (nmT (a_N A) (S0 305 s)) e.2.1 tl = 1)) ∧ mnA HT cs ms os (S0 304 s) (e.1 - 1) (nmT (a_N A) (S0 305 s)) e.2.1 tl = tl.length) ∨ (¬ (S0 304 s = 5 ∨ S0 304 s = 6 ∨ (S0 304 s = 1 ∧ mnA HT cs ms os (S0 304 s) (e.1 - 1) (nmT (a_N A) (S0 305 s)) e.2.1 tl = 1)) ∧ mnA HT cs ms os (S0 304 s) (e.1 - 1) (nmT (a_N A) (S0 305 s)) e.2.1 tl = 0) := by
        unfold mnA
        by_cases k0 : S0 304 s = 0
        · rw [if_pos k0]
          right
          omega
        · rw [if_neg k0]
          by_cases k1 : S0 304 s = 1
          · rw [if_pos k1]
            rw [if_pos k1] at t1
            by_cases kf : FA HT cs ms os e.2.1 (e.1 - 1) 1 (wnW [115, 101, 116] (nmT (a_N A) (S0 305 s))) = []
            · rw [if_pos kf]
              right
              omega
            · rw [if_neg kf]
              left
              omega
          · rw [if_neg k1]
            left
            exact ⟨by omega, rfl⟩
      generalize mnA HT cs ms os (S0 304 s) (e.1 - 1) (nmT (a_N A) (S0 305 s)) e.2.1 tl = mn at hm c8 c9
      have hlt : (tl.take mn).length = mn := by rw [List.length_take]; omega
      refine ⟨tl.take mn, ⟨by rw [hlt]; exact c8, c9, fun c hc => t3 c (List.mem_of_mem_take hc), by omega, by omega⟩, fun z => by omega, fun _ => ?_⟩
      rcases hm with ⟨z1, z2⟩ | ⟨z1, z2⟩
      · left
        exact ⟨by omega, by rw [hlt]; omega⟩
      · right
        refine ⟨by omega, ?_⟩
        rw [z2, List.take_zero]
theorem es_hi {v : Int} (hv : 0 ≤ v ∧ v < 72057594037927936) : wb_l2i (wb_lushr v 32) ≠ -1 := fun h => by
  rw [lsr_32 hv, wb_l2i_id ⟨by omega, by omega⟩] at h
  omega
theorem es_rg8 {l : List Int} (h : esOk l) (h8 : l.length ≤ 8) : 0 ≤ esV l ∧ esV l < 72057594037927936 := by
  have z := esV_rg l h
  have q := p7_le h8
  omega
/-- types that were kept hold just where class and reference say so -/
theorem ty_eq {ty : List Int} (h1 : esOk ty) (h2 : esOk cl) (h8 : cl.length ≤ 8) (hl : ty.length = cl.length) : (wb_l2i (wb_lushr (esV ty) 32) = -1 ∨ (wb_l2i (wb_lushr (esV ty) 32) = wb_l2i (wb_lushr (esV cl) 32) ∧ wb_l2i (esV ty) = wb_l2i (esV cl))) ↔ ty = cl.take ty.length := by
  rw [hl, List.take_length]
  have r1 := es_rg8 h1 (by omega)
  have r2 := es_rg8 h2 h8
  constructor
  · intro z
    rcases z with z | z
    · exact absurd z (es_hi r1)
    · exact esV_inj ty cl h1 h2 hl ((es_half r1 r2).mp z)
  · intro z
    right
    rw [z]
    exact ⟨rfl, rfl⟩
theorem ho_eq (h : eOk S0 HT cs ms os A s e) (hk : S0 304 s = kd) (hn : S0 305 s = nms) (hl : (cl.length : Int) = (if kd = 1 then 1 else S0 306 s)) (h2 : esOk cl) (h8 : cl.length ≤ 8) (hlo : wb_l2i (esV cl) = lo) (hhi : wb_l2i (wb_lushr (esV cl) 32) = hi) (hnm : gk = 4 ∨ gk = 5 → ((kd = 2 ∨ kd = 3) → nm = en) ∧ (¬ (kd = 2 ∨ kd = 3) → nm = nms ∧ en = -1)) : ∃ ty : List Int, (e.2.2.2.2.2.2.2.1 = (ty.length : Int) ∧ e.2.2.2.2.2.2.2.2 = esV ty ∧ esOk ty ∧ ty.length ≤ 8 ∧ ty.length ≤ cl.length) ∧ (hoE (a_T A) kd nms gk gb nm lo hi e ↔ hoR (a_T A) kd gk gb en ty cl e) := by
  rw [← hk] at hl
  obtain ⟨ty, t1, t2, t3⟩ := eOk_ty h hl
  rw [hk] at t3
  refine ⟨ty, t1, ?_⟩
  obtain ⟨⟨b0, b1⟩, b2, b3, b4, b5⟩ := h
  rw [hk] at b3 b4
  by_cases e0 : e.1 = 0
  · have r3 := (b3 e0).2.2
    clear b2 b3 b4 b5 t3 t2 t1 hlo hhi hl
    have hc : kd ≠ 4 → kd ≠ 6 → cNm kd nms e = if kd = 2 ∨ kd = 3 then e.2.2.1 else nms := fun k4 k6 => by
      unfold cNm
      rw [if_pos ⟨e0, k4, k6⟩]
    have hq : (gk = 4 ∨ gk = 5) → kd ≠ 4 → kd ≠ 6 → (nm = cNm kd nms e ↔ e.2.2.1 = en) := fun g k4 k6 => by
      rw [hc k4 k6]
      by_cases k2 : kd = 2 ∨ kd = 3
      · rw [if_pos k2, (hnm g).1 k2]
        exact eq_comm
      · rw [if_neg k2, ((hnm g).2 k2).1, ((hnm g).2 k2).2]
        exact ⟨fun _ => r3.2 k2, fun _ => rfl⟩
    constructor
    · rintro (⟨z1, z2, z3⟩ | ⟨z1, -⟩ | ⟨z1, -⟩ | ⟨z1, -⟩)
      · refine Or.inl ⟨z2, e0, z3.imp id (fun y => ⟨y.1, y.2.1, y.2.2.1, (hq z2 y.1 y.2.1).mp y.2.2.2⟩)⟩
      · omega
      · omega
      · omega
    · rintro (⟨z2, z1, z3⟩ | ⟨z1, (⟨-, z2, -⟩ | ⟨-, z2, -⟩ | ⟨-, z2, -⟩ | ⟨-, z2, -⟩), -⟩)
      · exact Or.inl ⟨e0, z2, z3.imp id (fun y => ⟨y.1, y.2.1, y.2.2.1, (hq z2 y.1 y.2.1).mpr y.2.2.2⟩)⟩
      · omega
      · omega
      · omega
      · omega
  · by_cases e3 : e.1 = 3
    · have g := (b4 e3).1
      rw [t2 (Or.inr e3)]
      clear b2 b3 b4 b5 hnm t3 t1 t2 hlo hhi hl
      constructor
      · rintro (⟨z1, -⟩ | ⟨z1, -⟩ | ⟨z1, -⟩ | ⟨z1, z2⟩)
        · omega
        · omega
        · omega
        · refine Or.inr ⟨by omega, ?_, rfl⟩
          rcases z2 with z | z
          · exact Or.inr (Or.inr (Or.inl ⟨z.2, e3, z.1⟩))
          · exact Or.inr (Or.inr (Or.inr ⟨z.2, e3, by omega⟩))
      · rintro (⟨-, z1, -⟩ | ⟨z1, (⟨-, z2, -⟩ | ⟨-, z2, -⟩ | ⟨z3, -, z4⟩ | ⟨z3, -, z4⟩), -⟩)
        · omega
        · omega
        · omega
        · exact Or.inr (Or.inr (Or.inr ⟨e3, Or.inl ⟨z4, z3⟩⟩))
        · exact Or.inr (Or.inr (Or.inr ⟨e3, Or.inr ⟨by omega, z3⟩⟩))
    · have he : e.1 = 1 ∨ e.1 = 2 := by clear b2 b3 b4 b5 hnm t3 t1 t2 hlo hhi hl; omega
      clear b2 b3 b4 b5 hnm
      have ht : (cHi kd e = -1 ∨ (cHi kd e = hi ∧ cLo kd e = lo)) ↔ ty = cl.take ty.length := by
        unfold cHi cLo
        rcases t3 he with ⟨q1, q2⟩ | ⟨q1, q2⟩
        · rw [if_pos ⟨he, q1⟩, if_pos ⟨he, q1⟩, t1.2.1, ← hlo, ← hhi]
          exact ty_eq t1.2.2.1 h2 h8 q2
        · rw [if_neg (fun z => q1 z.2), if_neg (fun z => q1 z.2), q2]
          exact ⟨fun _ => rfl, fun _ => Or.inl rfl⟩
      constructor
      · rintro (⟨z1, -⟩ | ⟨z1, z2, z3, z4⟩ | ⟨z1, z2, z3, z4⟩ | ⟨z1, -⟩)
        · exact absurd z1 e0
        · exact Or.inr ⟨by rw [z2]; decide, Or.inl ⟨z2, z1, z3⟩, ht.mp z4⟩
        · exact Or.inr ⟨by rw [z2]; decide, Or.inr (Or.inl ⟨z2, z1, z3⟩), ht.mp z4⟩
        · exact absurd z1 e3
      · rintro (⟨-, z1, -⟩ | ⟨z1, (⟨z2, z3, z4⟩ | ⟨z2, z3, z4⟩ | ⟨-, z2, -⟩ | ⟨-, z2, -⟩), z5⟩)
        · exact absurd z1 e0
        · exact Or.inr (Or.inl ⟨z3, z2, z4, ht.mpr z5⟩)
        · exact Or.inr (Or.inr (Or.inl ⟨z3, z2, z4, ht.mpr z5⟩))
        · exact absurd z2 e3
        · exact absurd z2 e3
theorem wEn_of (h : eOk S0 HT cs ms os A s e) (hk : S0 304 s = kd) (hn : S0 305 s = nms) (hN : (a_N A).length ≤ 4000) (hk6 : 0 ≤ kd ∧ kd ≤ 6) (hm : (kd = 0 ∨ kd = 1 ∨ kd = 5) → 0 ≤ nms ∧ nms < 4000) : wEn (a_H A) kd nms e := by
  obtain ⟨⟨b0, b1⟩, b2, b3, b4, b5⟩ := h
  rw [hk] at b2 b3
  rw [hn] at b2
  refine ⟨⟨b0.1, b0.2.1⟩, fun z => ?_, fun e0 k4 k6 => ?_⟩
  · unfold eSn at z
    by_cases q : e.1 = 0 ∧ (kd = 0 ∨ kd = 2 ∨ kd = 5) ∧ ¬ (0 ≤ e.2.2.2.2.1 ∧ e.2.2.2.1 = -1)
    · exact ((b2 q.1).1 q.2.1).1
    · rw [if_neg q] at z
      exact absurd rfl z
  · unfold cNm
    rw [if_pos ⟨e0, k4, k6⟩]
    have b0k := (b2 e0)
    by_cases k2 : kd = 2 ∨ kd = 3
    · rw [if_pos k2]
      have := (b3 e0).2.2.1 k2
      omega
    · rw [if_neg k2]
      have := hm (by omega)
      omega
theorem wEr_of (h : eOk S0 HT cs ms os A s e) (hk : S0 304 s = kd) (hn : S0 305 s = nms) (hN : (a_N A).length ≤ 4000) (hk6 : 0 ≤ kd ∧ kd ≤ 6) (hm : (kd = 0 ∨ kd = 1 ∨ kd = 5) → 0 ≤ nms ∧ nms < 4000) (hl : (cl.length : Int) = (if kd = 1 then 1 else S0 306 s)) (h2 : esOk cl) (h8 : cl.length ≤ 8) (hlo : wb_l2i (esV cl) = lo) (hhi : wb_l2i (wb_lushr (esV cl) 32) = hi) (hnm : gk = 4 ∨ gk = 5 → ((kd = 2 ∨ kd = 3) → nm = en) ∧ (¬ (kd = 2 ∨ kd = 3) → nm = nms ∧ en = -1)) : wEr (a_T A) (a_H A) kd nms gk gb nm en lo hi cl e := by
  refine ⟨wEn_of h hk hn hN hk6 hm, ⟨?_, h.1.2.1⟩, ho_eq h hk hn hl h2 h8 hlo hhi hnm⟩
  obtain ⟨⟨b0, b1⟩, b2, b3, b4, b5⟩ := h
  by_cases e0 : e.1 = 0
  · exact (b3 e0).2.1
  · by_cases e3 : e.1 = 3
    · rw [(b4 e3).2.1]
      exact Int.le_refl (-1)
    · obtain ⟨-, -, tl, -, -, c2⟩ := b5 (by omega)
      rw [c2]
      exact Int.le_refl (-1)
/-- an entry that holds, and is not stale, is right -/
theorem ir_of (hw : wSh (a_T A) (a_H A)) (h : eOk S0 HT cs ms os A s e) (hk : S0 304 s = kd) (hn : S0 305 s = nms) (hk6 : 0 ≤ kd ∧ kd ≤ 6) (hst : eSt (a_T A) (a_H A) kd e = 0) (hg : (gk = 4 ∨ gk = 5) → isO (a_T A) gb) (hho : hoE (a_T A) kd nms gk gb nm lo hi e) : irE (a_T A) (a_H A) kd gb nm e := by
  obtain ⟨-, b2, -⟩ := h
  rw [hk, hn] at b2
  by_cases q : e.1 ≠ 0 ∨ kd = 4 ∨ kd = 6
  · exact Or.inl q
  · have e0 : e.1 = 0 := by omega
    obtain ⟨c1, c2, c3⟩ := b2 e0
    rcases hho with ⟨-, z2, z3⟩ | ⟨z1, -⟩ | ⟨z1, -⟩ | ⟨z1, -⟩
    · rcases z3 with ⟨z3, -⟩ | ⟨-, -, z4, z5⟩
      · omega
      · have hi := hg z2
        have au := aUp_sh (nm := nm) hw hi
        rw [← z5] at c1 c2
        by_cases k1 : kd = 1 ∨ kd = 3
        · obtain ⟨d1, d2, d3, d4⟩ := c2 k1
          refine Or.inr (Or.inl ⟨k1, ?_, ?_⟩)
          · rw [au.1, z4, d3]
          · rcases d4 with ⟨d4, -⟩ | ⟨-, -, d5⟩
            · exact Or.inl d4
            · right
              rw [z4]
              exact d5.symm
        · obtain ⟨d1, d2, d3⟩ := c1 (by omega)
          exact Or.inr (Or.inr ⟨by omega, by omega, eRd_ir hw hi z4 (d3 hst)⟩)
    · omega
    · omega
    · omega
end Wkz
