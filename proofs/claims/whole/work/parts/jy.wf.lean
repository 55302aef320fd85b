/-! PART jy: what holds of every state of a run: values, calls, counters, entries. -/
section Wjy
variable {S0 : wS} {T T2 : List aO} {L L2 : List aC} {n : Int} {cf : Int → Int} {fa : Int → Int} {ms : List hMR} {A A2 : aA} {K K2 : aK} {t B : Int} {v u : aV}
/-- a value that is there: a thing of its kind, an instance and a class of the host, signs -/
def vG (T : List aO) (n : Int) (v : aV) : Prop := vOk T v ∧ (v.1 = 7 → (tO T v.2.1).2.2.1 < n) ∧ (v.1 = 8 → v.2.1 < n) ∧ (∀ x ∈ v.2.2, 0 ≤ x ∧ x ≤ 255) ∧ v.2.2.length ≤ 200000
/-- things stay what they are -/
def tKp (T T2 : List aO) : Prop := T.length ≤ T2.length ∧ ∀ k : Int, 0 ≤ k → k < (T.length : Int) → (tO T2 k).1 = (tO T k).1 ∧ (tO T2 k).2.2.1 = (tO T k).2.2.1 ∧ (tO T2 k).2.2.2.1 = (tO T k).2.2.2.1
theorem tKp_r : tKp T T := ⟨Nat.le_refl _, fun _ _ _ => ⟨rfl, rfl, rfl⟩⟩
theorem vG_mo (h : vG T n v) (e : tKp T T2) : vG T2 n v := by
  obtain ⟨⟨a1, a2, a3, a4, a5, a6⟩, b, c, d⟩ := h
  have e1 := e.1
  refine ⟨⟨a1, fun h1 h2 => ?_, a3, fun h7 => ?_, a5, a6⟩, fun h7 => ?_, c, d⟩
  · obtain ⟨x1, x2⟩ := a2 h1 h2
    exact ⟨⟨x1.1, by omega⟩, (e.2 _ x1.1 x1.2).1.trans x2⟩
  · obtain ⟨x1, x2⟩ := a2 (by omega) (by omega)
    rw [(e.2 _ x1.1 x1.2).2.1]
    exact a4 h7
  · obtain ⟨x1, x2⟩ := a2 (by omega) (by omega)
    rw [(e.2 _ x1.1 x1.2).2.1]
    exact b h7
theorem vG_s {k x : Int} {l : List Int} (hk : 0 ≤ k ∧ k ≤ 3) (h0 : k = 0 → x = 0) (h1 : k = 1 → x = 0 ∨ x = 1) (hl : (∀ y ∈ l, 0 ≤ y ∧ y ≤ 255) ∧ l.length ≤ 200000) : vG T n (k, x, l) := by
  refine ⟨⟨?_, fun h _ => ?_, fun h => ?_, fun h => ?_, fun h => ?_, fun h => ?_⟩, fun h => ?_, fun h => ?_, hl⟩
  · show 0 ≤ k ∧ k ≤ 8; omega
  · replace h : 4 ≤ k := h; omega
  · replace h : k = 8 := h; omega
  · replace h : k = 7 := h; omega
  · exact h0 h
  · exact h1 h
  · replace h : k = 7 := h; omega
  · replace h : k = 8 := h; omega
theorem l0_v : (∀ y ∈ ([] : List Int), 0 ≤ y ∧ y ≤ 255) ∧ ([] : List Int).length ≤ 200000 := ⟨fun y hy => absurd hy (List.not_mem_nil), Nat.zero_le _⟩
theorem vG_0 : vG T n (0, 0, []) := vG_s ⟨by decide, by decide⟩ (fun _ => rfl) (fun h => absurd h (by first | decide | omega)) l0_v
theorem vG_n {x : Int} : vG T n (2, x, []) := vG_s ⟨by decide, by decide⟩ (fun h => absurd h (by first | decide | omega)) (fun h => absurd h (by first | decide | omega)) l0_v
theorem vG_b {x : Int} (h : x = 0 ∨ x = 1) : vG T n (1, x, []) := vG_s ⟨by decide, by decide⟩ (fun h => absurd h (by first | decide | omega)) (fun _ => h) l0_v
theorem vG_i {c : Prop} [Decidable c] : vG T n (1, if c then 1 else 0, []) := vG_b (by by_cases h : c <;> simp [h])
theorem vG_j {c : Prop} [Decidable c] : vG T n (1, if c then 0 else 1, []) := vG_b (by by_cases h : c <;> simp [h])
theorem vG_x {x : List Int} (h : (∀ y ∈ x, 0 ≤ y ∧ y ≤ 255) ∧ x.length ≤ 200000) : vG T n (3, 0, x) := vG_s ⟨by decide, by decide⟩ (fun h => absurd h (by first | decide | omega)) (fun h => absurd h (by first | decide | omega)) h
theorem vG_t {k : Int} (h0 : 0 ≤ k ∧ k < (T.length : Int)) (h1 : (tO T k).1 = 4 ∨ (tO T k).1 = 5 ∨ (tO T k).1 = 6) : vG T n ((tO T k).1, k, []) := by
  refine ⟨⟨?_, fun _ _ => ⟨h0, rfl⟩, fun h => ?_, fun h => ?_, fun h => ?_, fun h => ?_⟩, fun h => ?_, fun h => ?_, l0_v⟩
  · show 0 ≤ (tO T k).1 ∧ (tO T k).1 ≤ 8; omega
  · replace h : (tO T k).1 = 8 := h; omega
  · replace h : (tO T k).1 = 7 := h; omega
  · replace h : (tO T k).1 = 0 := h; omega
  · replace h : (tO T k).1 = 1 := h; omega
  · replace h : (tO T k).1 = 7 := h; omega
  · replace h : (tO T k).1 = 8 := h; omega
/-- the values of a task -/
def wKv (T : List aO) (n : Int) (K : aK) : Prop := (∀ v ∈ K.1, vG T n v) ∧ (∀ f ∈ K.2.1, vG T n f.2.2.2.1) ∧ (K.2.2.2.1 = 2 ∨ K.2.2.2.1 = 3 → vG T n K.2.2.2.2)
/-- the calls of a task: each is a call of its frame's function; what NEW made is an object -/
def wKc (T : List aO) (L : List aC) (cf : Int → Int) (K : aK) : Prop := ∀ f ∈ K.2.1, (0 ≤ f.2.2.1 ∧ f.2.2.1 < (L.length : Int)) ∧ cf f.2.2.1 = f.1 ∧ (f.2.2.2.2.1 = -1 ∨ ((0 ≤ f.2.2.2.2.1 ∧ f.2.2.2.2.1 < (T.length : Int)) ∧ (tO T f.2.2.2.2.1).1 = 4))
/-- calls and funs: variables of their function, within calls of the function around -/
def wCl (S0 : wS) (fa : Int → Int) (T : List aO) (L : List aC) (cf : Int → Int) : Prop := (∀ k : Nat, k < L.length → (0 ≤ cf (k : Int) ∧ cf (k : Int) < S0 237 34) ∧ ((L.getD k (0, [])).2.length : Int) = S0 296 (cf (k : Int)) ∧ (fa (cf (k : Int)) = -1 ∨ ((0 ≤ (L.getD k (0, [])).1 ∧ (L.getD k (0, [])).1 < (k : Int)) ∧ cf (L.getD k (0, [])).1 = fa (cf (k : Int))))) ∧ ∀ k : Int, 0 ≤ k → k < (T.length : Int) → (tO T k).1 = 5 → (0 ≤ (tO T k).2.2.1 ∧ (tO T k).2.2.1 < S0 237 34) ∧ (fa (tO T k).2.2.1 = -1 ∨ ((0 ≤ (tO T k).2.2.2.1 ∧ (tO T k).2.2.2.1 < (L.length : Int)) ∧ cf (tO T k).2.2.2.1 = fa (tO T k).2.2.1))
/-- all values that are kept -/
def wVl (ms : List hMR) (n : Int) (A : aA) : Prop := (wKv (a_T A) n (a_K A 0) ∧ wKv (a_T A) n (a_K A 1)) ∧ (∀ o ∈ a_T A, ∀ x ∈ o.2.2.2.2.2.2, vG (a_T A) n x.2) ∧ (∀ c ∈ a_L A, ∀ v ∈ c.2, vG (a_T A) n v) ∧ (∀ a : Int, (a_G A a).1 ≠ -1 → vG (a_T A) n (a_G A a)) ∧ ∀ m : Int, isSf ms m → vG (a_T A) n (a_S A m)
/-- counters within their limits; B: how many steps there were at most -/
def wCt (S0 : wS) (B : Int) (A : aA) : Prop := (((a_T A).length : Int) + ((a_L A).length : Int) ≤ a_c A 0 ∧ a_c A 0 ≤ 8000) ∧ (0 ≤ a_c A 1 ∧ a_c A 1 ≤ 60000 ∧ ∀ o ∈ a_T A, (o.2.2.2.2.2.2.length : Int) ≤ a_c A 1) ∧ (0 ≤ a_c A 2 ∧ a_c A 2 ≤ 12000) ∧ (0 ≤ a_c A 3 ∧ a_c A 3 ≤ 200000) ∧ (0 ≤ a_c A 4 ∧ a_c A 4 ≤ 4000 ∧ ((a_H A).length : Int) ≤ a_c A 4 + 1) ∧ ((0 ≤ a_c A 11 ∧ a_c A 11 ≤ B) ∧ (0 ≤ a_c A 19 ∧ a_c A 19 ≤ B) ∧ ∀ i : Int, 20 ≤ i → i ≤ 23 → 0 ≤ a_c A i ∧ a_c A i ≤ B) ∧ (∀ s : Int, 0 ≤ s → s < S0 237 47 → (0 ≤ a_k A s 0 ∧ a_k A s 0 ≤ 9) ∧ (0 ≤ a_k A s 1 ∧ a_k A s 1 ≤ B) ∧ (0 ≤ a_k A s 2 ∧ a_k A s 2 + ((a_E A s).length : Int) ≤ a_k A s 0) ∧ ((a_k A s 3 = 0 ∧ a_k A s 0 ≤ 8) ∨ (a_k A s 3 = 1 ∧ a_E A s = []))) ∧ (∀ k : Int, 0 ≤ k → k < ((a_T A).length : Int) → (-1 ≤ (tO (a_T A) k).2.2.2.2.1 ∧ (tO (a_T A) k).2.2.2.2.1 ≤ a_c A 11) ∧ 0 ≤ (tO (a_T A) k).2.2.2.2.2.1 ∧ (tO (a_T A) k).2.2.2.2.2.1 ≤ a_c A 11) ∧ (0 ≤ B ∧ B ≤ 600000)
/-- names: how many, what shapes and names of globals are of -/
def wNm (S0 : wS) (A : aA) : Prop := ((a_N A).length ≤ 4000 ∧ S0 237 16 ≤ ((a_N A).length : Int) ∧ ∀ a : Int, ((a_N A).length : Int) ≤ a → (a_G A a).1 = -1) ∧ (∀ s : Int, 0 ≤ s → s < ((a_H A).length : Int) → qNm (a_H A) s = -1 ∨ (0 ≤ qNm (a_H A) s ∧ qNm (a_H A) s < ((a_N A).length : Int))) ∧ (a_O A).length ≤ 65536
theorem wCt_B (h : wCt S0 B A) {B2 : Int} (h1 : B ≤ B2 ∧ B2 ≤ 600000) : wCt S0 B2 A := by
  obtain ⟨a1, a2, a3, a4, a5, ⟨a6, a7, a8⟩, a9, b1, b2⟩ := h
  refine ⟨a1, a2, a3, a4, a5, ⟨⟨a6.1, by omega⟩, ⟨a7.1, by omega⟩, fun i i0 i1 => ⟨(a8 i i0 i1).1, by have := (a8 i i0 i1).2; omega⟩⟩, fun s s0 s1 => ?_, fun k k0 k1 => ?_, ⟨by omega, h1.2⟩⟩
  · obtain ⟨x1, x2, x3, x4⟩ := a9 s s0 s1
    exact ⟨x1, ⟨x2.1, by omega⟩, x3, x4⟩
  · obtain ⟨x1, x2⟩ := b1 k k0 k1
    exact ⟨⟨x1.1, by omega⟩, x2⟩
/-- all that holds of a state; WE: what holds of the entries -/
def wfA (S0 : wS) (fa : Int → Int) (ms : List hMR) (n : Int) (WE : aA → Prop) (B : Int) (A : aA) : Prop := (wTk fa S0 (a_K A 0) ∧ wTk fa S0 (a_K A 1)) ∧ wSh (a_T A) (a_H A) ∧ wVl ms n A ∧ (∃ cf : Int → Int, wCl S0 fa (a_T A) (a_L A) cf ∧ wKc (a_T A) (a_L A) cf (a_K A 0) ∧ wKc (a_T A) (a_L A) cf (a_K A 1)) ∧ wCt S0 B A ∧ wNm S0 A ∧ WE A
/-- the entries hang on nothing that a task is -/
def WEk (WE : aA → Prop) : Prop := ∀ (A : aA) (t : Int) (K : aK), WE A → WE (u_K A t K)
theorem wf_K {WE : aA → Prop} (h : wfA S0 fa ms n WE B A) (hE : WEk WE) (ht : t = 0 ∨ t = 1) (h1 : wTk fa S0 K2) (h2 : wKv (a_T A) n K2) (h3 : ∀ cf : Int → Int, wCl S0 fa (a_T A) (a_L A) cf → wKc (a_T A) (a_L A) cf (a_K A t) → wKc (a_T A) (a_L A) cf K2) {B2 : Int} (hB : B ≤ B2 ∧ B2 ≤ 600000) : wfA S0 fa ms n WE B2 (u_K A t K2) := by
  obtain ⟨⟨a1, a2⟩, a3, ⟨⟨b1, b2⟩, b3⟩, ⟨cf, c1, c2, c3⟩, a5, a6, a7⟩ := h
  have hW := hE A t K2 a7
  rcases ht with rfl | rfl
  · exact ⟨⟨h1, a2⟩, a3, ⟨⟨h2, b2⟩, b3⟩, ⟨cf, c1, h3 cf c1 c2, c3⟩, wCt_B a5 hB, a6, hW⟩
  · exact ⟨⟨a1, h1⟩, a3, ⟨⟨b1, h2⟩, b3⟩, ⟨cf, c1, c2, h3 cf c1 c3⟩, wCt_B a5 hB, a6, hW⟩
end Wjy
