/-! PART mr: what holds of a state goes on where code grows. -/
section Wmr0
variable {S Z : wS} {g : Int} {fa fb : Int → Int}
/-- code, as it was, with what has come behind it -/
def cdW (S Z : wS) : Prop := (S 237 16 ≤ Z 237 16 ∧ S 237 19 ≤ Z 237 19 ∧ S 237 34 ≤ Z 237 34 ∧ S 237 43 ≤ Z 237 43 ∧ S 237 47 ≤ Z 237 47) ∧ (∀ (j : Nat) (x : Int), (293 ≤ j ∧ j ≤ 300 ∧ j ≠ 294) → 0 ≤ x → x < S 237 34 → Z j x = S j x) ∧ (∀ (j : Nat) (x : Int), (301 ≤ j ∧ j ≤ 303) → 0 ≤ x → x < S 237 43 → Z j x = S j x) ∧ ∀ (j : Nat) (x : Int), (304 ≤ j ∧ j ≤ 309) → 0 ≤ x → x < S 237 47 → Z j x = S j x
theorem fTy_mo {f : aF} {hi : Int} {tl : List aY} (hm : mK S) (e : cdW S Z) (ea : ∀ x : Int, 0 ≤ x → x < S 237 34 → fb x = fa x) (h : fTy fa S f hi tl) : fTy fb Z f hi tl := by
  obtain ⟨h1, H, D, n, h2, h3⟩ := h
  obtain ⟨e1, e2, e3, e4⟩ := e
  obtain ⟨-, d1, d2, d3⟩ := hm.2.2.2.2.1 f.1 h1.1 h1.2
  exact ⟨⟨h1.1, by omega⟩, H, D, n, tyC_mo h2 ⟨d1, d3⟩ h1 ⟨e1.1, e1.2.1, e1.2.2.1, e1.2.2.2.2⟩ (fun j x hj => e2 j x (by omega)) e3 (fun j x hj => e4 j x (by omega)) ea, h3⟩
theorem wTk_mo {K : aK} (hm : mK S) (e : cdW S Z) (ea : ∀ x : Int, 0 ≤ x → x < S 237 34 → fb x = fa x) (h : wTk fa S K) : wTk fb Z K := ⟨h.1, fun r => ⟨⟨fun i hi => fTy_mo hm e ea ((h.2.1 r).1.1 i hi), (h.2.1 r).1.2⟩, (h.2.1 r).2⟩, h.2.2⟩
theorem wCl_mo {T : List aO} {L : List aC} {cf : Int → Int} (e : cdW S Z) (ea : ∀ x : Int, 0 ≤ x → x < S 237 34 → fb x = fa x) (h : wCl S fa T L cf) : wCl Z fb T L cf := by
  obtain ⟨e1, e2, e3, e4⟩ := e
  refine ⟨fun k hk => ?_, fun k k0 k1 k5 => ?_⟩
  · obtain ⟨a1, a2, a3⟩ := h.1 k hk
    rw [ea _ a1.1 a1.2, e2 296 _ (by omega) a1.1 a1.2]
    exact ⟨⟨a1.1, by omega⟩, a2, a3⟩
  · obtain ⟨a1, a2⟩ := h.2 k k0 k1 k5
    rw [ea _ a1.1 a1.2]
    exact ⟨⟨a1.1, by omega⟩, a2⟩
theorem nmT_l {N l : List (List Int)} {k : Int} (h : k < (N.length : Int)) : nmT (N ++ l) k = nmT N k := by
  unfold nmT
  by_cases e : k < 0
  · rw [if_pos e, if_pos e]
  · rw [if_neg e, if_neg e, List.getD_eq_getElem?_getD, List.getD_eq_getElem?_getD, List.getElem?_append_left (by omega)]
end Wmr0
section Wmr
variable {xs : List (Nat × List Int32)} {d : Nat} {S0 S Z : wS} {p w m : Nat} {HT : Int → Int} {cs : List hCR} {ms : List hMR} {os : Int → List Int} {X : List (List Int)} {mo t n B B2 oq : Int} {fa : Int → Int} {WE : aA → Prop} {A A2 : aA} {K2 : aK} {ml : List Nat} {k c s kd nms ne ec bh nm en : Int} {b ba : Nat} {ar : List aV} {e : aE} {V Z2 Y : wS} {o : wO} {dn : Int} {H2 : List aH} {N2 : List (List Int)} {E2 : Int → List aE} {C2 : List aQ} {W2 : Int} {c2 : Int → Int} {k2 : Int → Int → Int} {mk rk : Nat → Int → Prop} {K : aK} {T : List aO} {H : List aH} {E : Int → List aE} {gk gb es lo hi a : Int} {r : List aE × Int × Option aE} {A1 : aA} {tl cl : List Int} {sl : Nat → List Int} {L : List aC} {G : Int → aV} {u : aV} {x : List Int} {T2 : List aO} {L2 : List aC} {G2 : Int → aV} {H2 : List aH} {c2 : Int → Int} {y : Int} {Q : wO → wS → Prop} {ps : List (Int × aV)} {k hd wh : Int} {f a9 pn fn md : Int} {vn m9 : Nat} {th : aV} {g : Int} {lp : List aV} {l ds fo g : Int} {mk : Nat → Int → Prop} {C2 : List aQ} {W2 : Int} {RZ : wS → Prop} {N3 : Nat} {SB : wS} {r r0 : Int} {sh : Int} {K9 : aK} {nt : Int} {R2 : List Int} {S2 : Int → aV} {wh en9 : Int} {fb : Int → Int}
/-- names have come, sites have come: what the abstract state is then -/
def u_C (A : aA) (sb : Int) (N2 : List (List Int)) (v : Int) : aA := u_L A (a_H A) N2 (fun s => if s < sb then a_E A s else []) (a_C A) (a_W A) (fUp (a_c A) 6 v) (fun s i => if s < sb then a_k A s i else 0)
theorem wf_cd {v : Int} {l : List (List Int)} (hm : mK S) (h : wfA S fa ms n (WEs S HT cs ms os) B A) (e : cdW S Z) (ea : ∀ x : Int, 0 ≤ x → x < S 237 34 → fb x = fa x) (hN : (a_N A ++ l).length ≤ 4000 ∧ Z 237 16 ≤ ((a_N A ++ l).length : Int) ∧ (a_N A ++ l).Nodup) : wfA Z fb ms n (WEs Z HT cs ms os) B (u_C A (S 237 47) (a_N A ++ l) v) := by
  have e4 := e.2.2.2
  have e1 := e.1
  obtain ⟨⟨a1, a2⟩, a3, a4, ⟨cf, c1, c2, c3⟩, ⟨b1, b2, b3, b4, b5, b6, b7, b8, b9⟩, ⟨⟨n1, n2, n3⟩, n4, n5⟩, w1, ⟨w2, w3⟩, w4⟩ := h
  have hl : ((a_N A).length : Int) ≤ ((a_N A ++ l).length : Int) := by rw [List.length_append]; omega
  have cn : ∀ i : Int, i ≠ 6 → (fUp (a_c A) 6 v) i = a_c A i := fun i hi => fUp_n hi
  refine ⟨⟨wTk_mo hm e ea a1, wTk_mo hm e ea a2⟩, a3, a4, ⟨cf, wCl_mo e ea c1, c2, c3⟩, ⟨?_, ?_, ?_, ?_, ?_, ⟨?_, ?_, fun i i0 i1 => ?_⟩, fun s s0 s1 => ?_, fun k k0 k1 => ?_, b9⟩, ⟨⟨hN.1, hN.2.1, fun a ha => n3 a ?_⟩, fun s s0 s1 => ?_, n5⟩, fun s s0 s1 => ?_, ⟨?_, hN.2.2⟩, w4⟩
  · show ((a_T A).length : Int) + ((a_L A).length : Int) ≤ (fUp (a_c A) 6 v) 0 ∧ (fUp (a_c A) 6 v) 0 ≤ 8000
    rw [cn 0 (by first | decide | omega)]
    exact b1
  · show 0 ≤ (fUp (a_c A) 6 v) 1 ∧ (fUp (a_c A) 6 v) 1 ≤ 60000 ∧ ∀ o ∈ a_T A, (o.2.2.2.2.2.2.length : Int) ≤ (fUp (a_c A) 6 v) 1
    rw [cn 1 (by first | decide | omega)]
    exact b2
  · show 0 ≤ (fUp (a_c A) 6 v) 2 ∧ (fUp (a_c A) 6 v) 2 ≤ 12000
    rw [cn 2 (by first | decide | omega)]
    exact b3
  · show 0 ≤ (fUp (a_c A) 6 v) 3 ∧ (fUp (a_c A) 6 v) 3 ≤ 200000
    rw [cn 3 (by first | decide | omega)]
    exact b4
  · show 0 ≤ (fUp (a_c A) 6 v) 4 ∧ (fUp (a_c A) 6 v) 4 ≤ 4000 ∧ ((a_H A).length : Int) ≤ (fUp (a_c A) 6 v) 4 + 1
    rw [cn 4 (by first | decide | omega)]
    exact b5
  · show 0 ≤ (fUp (a_c A) 6 v) 11 ∧ (fUp (a_c A) 6 v) 11 ≤ B
    rw [cn 11 (by first | decide | omega)]
    exact b6.1
  · show 0 ≤ (fUp (a_c A) 6 v) 19 ∧ (fUp (a_c A) 6 v) 19 ≤ B
    rw [cn 19 (by first | decide | omega)]
    exact b6.2.1
  · show 0 ≤ (fUp (a_c A) 6 v) i ∧ (fUp (a_c A) 6 v) i ≤ B
    rw [cn i (by omega)]
    exact b6.2.2 i i0 i1
  · show (0 ≤ (if s < S 237 47 then a_k A s 0 else 0) ∧ (if s < S 237 47 then a_k A s 0 else 0) ≤ 9) ∧ (0 ≤ (if s < S 237 47 then a_k A s 1 else 0) ∧ (if s < S 237 47 then a_k A s 1 else 0) ≤ B) ∧ (0 ≤ (if s < S 237 47 then a_k A s 2 else 0) ∧ (if s < S 237 47 then a_k A s 2 else 0) + ((if s < S 237 47 then a_E A s else []).length : Int) ≤ (if s < S 237 47 then a_k A s 0 else 0)) ∧ (((if s < S 237 47 then a_k A s 3 else 0) = 0 ∧ (if s < S 237 47 then a_k A s 0 else 0) ≤ 8) ∨ ((if s < S 237 47 then a_k A s 3 else 0) = 1 ∧ (if s < S 237 47 then a_E A s else []) = []))
    by_cases c : s < S 237 47
    · rw [if_pos c, if_pos c, if_pos c, if_pos c, if_pos c]
      exact b7 s s0 c
    · rw [if_neg c, if_neg c, if_neg c, if_neg c, if_neg c]
      have := b9.1
      exact ⟨⟨by decide, by decide⟩, ⟨by decide, by omega⟩, ⟨by decide, by decide⟩, Or.inl ⟨rfl, by decide⟩⟩
  · show (-1 ≤ (tO (a_T A) k).2.2.2.2.1 ∧ (tO (a_T A) k).2.2.2.2.1 ≤ (fUp (a_c A) 6 v) 11) ∧ 0 ≤ (tO (a_T A) k).2.2.2.2.2.1 ∧ (tO (a_T A) k).2.2.2.2.2.1 ≤ (fUp (a_c A) 6 v) 11
    rw [cn 11 (by first | decide | omega)]
    exact b8 k k0 k1
  · replace ha : ((a_N A ++ l).length : Int) ≤ a := ha
    omega
  · show qNm (a_H A) s = -1 ∨ (0 ≤ qNm (a_H A) s ∧ qNm (a_H A) s < ((a_N A ++ l).length : Int))
    have := n4 s s0 s1
    omega
  · show (if s < S 237 47 then a_E A s else []).length ≤ 4 ∧ ∀ y ∈ (if s < S 237 47 then a_E A s else []), eOk Z HT cs ms os (u_C A (S 237 47) (a_N A ++ l) v) s y
    by_cases c : s < S 237 47
    · rw [if_pos c]
      obtain ⟨x1, x2⟩ := w1 s s0 c
      refine ⟨x1, fun y hy => ?_⟩
      obtain ⟨⟨y1, y2⟩, y3, y4, y5, y6⟩ := x2 y hy
      have f4 := e4 304 s (by omega) s0 c
      have f5 := e4 305 s (by omega) s0 c
      have f6 := e4 306 s (by omega) s0 c
      have hn5 : S 305 s < ((a_N A).length : Int) := by have := y1.2.2.1; omega
      refine ⟨⟨⟨y1.1, y1.2.1, by have := y1.2.2.1; omega, by unfold sKn; rw [f4, f5]; exact y1.2.2.2⟩, y2.1, ?_⟩, ?_, fun y0 => ?_, fun y0 => ?_, fun y0 => ?_⟩
      · show y.2.2.2.2.2.2.1 ≤ (fUp (a_c A) 6 v) 11
        rw [cn 11 (by first | decide | omega)]
        exact y2.2
      · rw [f4, f5]
        exact y3
      · rw [f4]
        obtain ⟨d1, d2, d3, d4⟩ := y4 y0
        exact ⟨d1, d2, fun z => ⟨(d3 z).1, by have := (d3 z).2; show y.2.2.1 < ((a_N A ++ l).length : Int); omega⟩, d4⟩
      · show eRw (Z 304 s) (Z 306 s) (nmT (a_N A ++ l) (Z 305 s)) y
        rw [f4, f5, f6, nmT_l hn5]
        exact y5 y0
      · show eRh HT cs ms os (Z 304 s) (if Z 304 s = 1 then 1 else Z 306 s) (nmT (a_N A ++ l) (Z 305 s)) y
        rw [f4, f5, f6, nmT_l hn5]
        exact y6 y0
    · rw [if_neg c]
      exact ⟨by decide, fun y hy => absurd hy (List.not_mem_nil)⟩
  · show a_W A ≤ (fUp (a_c A) 6 v) 21 + (fUp (a_c A) 6 v) 22
    rw [cn 21 (by first | decide | omega), cn 22 (by first | decide | omega)]
    exact w2
end Wmr
