/-! PART 50: a machine over slots: values, states, what a heap holds, the judgement. -/
section W50
/-- a state: what slot j holds at place i; at place -1 an array's length (less than 0: it isn't there) -/
abbrev wS : Type := Nat → Int → Int
/-- values: (0, x) an int, (1, x) a long, (2, x) a reference: a slot, -1 null, -10 - k the outer thing k -/
abbrev wv : Type := Nat × Int
abbrev wL : Type := List (Nat × wv)
abbrev wO : Type := Option wv ⊕ Nat
/-- a layout: the type of a slot (the tag of an array, 100 + k an object of class k), the kinds of a class's fields (0 int, 1 long, 3 boolean, 4 a fixed reference, 5 a reference to an object, 6 a reference to an array or -2: unknown, 7 a reference to an array of colour 1), fixed references, how many slots are always there -/
def wY : Type := (Nat → Nat) × (Nat → List Nat) × (Nat → Nat → Int) × Nat × (Nat → Nat)
def wY.ty (Y : wY) : Nat → Nat := Y.1
def wY.fk (Y : wY) : Nat → List Nat := Y.2.1
def wY.ln (Y : wY) : Nat → Nat → Int := Y.2.2.1
def wY.n0 (Y : wY) : Nat := Y.2.2.2.1
/-- the colour of a slot: 1: arrays that a field of kind 7 may hold -/
def wY.co (Y : wY) : Nat → Nat := Y.2.2.2.2
/-- the place of the room's counts -/
def wG : Nat := 1000000
def w_r (ad : Nat → Nat) (x : Int) : Value := if 0 ≤ x then .ref (ad x.toNat) else if x = -1 then .null else .retAddr (-10 - x).toNat
def w_u (ad : Nat → Nat) (v : wv) : Value := match v with
  | (0, x) => .int (Int32.ofInt x)
  | (1, x) => .long (Int64.ofInt x)
  | (_, x) => w_r ad x
def w_rg (k : Nat) (x : Int) : Prop := match k with
  | 0 => -2147483648 ≤ x ∧ x ≤ 2147483647
  | 1 => -9223372036854775808 ≤ x ∧ x ≤ 9223372036854775807
  | 2 => -128 ≤ x ∧ x ≤ 127
  | 3 => 0 ≤ x ∧ x ≤ 1
  | _ => True
def w_f (ad : Nat → Nat) (k : Nat) (x y : Int) : Value := match k with
  | 1 => .long (Int64.ofInt x)
  | 4 => w_r ad y
  | 5 => w_r ad x
  | 6 => w_r ad x
  | 7 => w_r ad x
  | _ => .int (Int32.ofInt x)
def w_pr (Y : wY) (S : wS) (j : Nat) : Prop := (j < Y.n0 ∨ 0 ≤ S j (-1)) ∧ j ≠ wG
/-- what a stored reference refers to is there -/
def w_sr (Y : wY) (S : wS) (k : Nat) (x y : Int) : Prop := match k with
  | 4 => y < 0 ∨ w_pr Y S y.toNat
  | 5 => x < 0 ∨ (w_pr Y S x.toNat ∧ 100 ≤ Y.ty x.toNat)
  | 6 => x < 0 ∨ w_pr Y S x.toNat
  | 7 => x < 0 ∨ (w_pr Y S x.toNat ∧ Y.co x.toNat = 1)
  | _ => True
def w_c (Y : wY) (ad : Nat → Nat) (S : wS) (j : Nat) (x : pe_E) : Prop := match x with
  | .inl (t, n, c) => Y.ty j = t ∧ (t < 4 ∧ t ≠ 1) ∧ (S j (-1) = n ∧ n ≤ 2147483647) ∧ ∀ i : Nat, i < n → Int32.toInt (pe_lk 0 i c) = S j i ∧ w_rg t (S j i)
  | .inr (.inl (ci, vs)) => Y.ty j = 100 + ci ∧ (Y.fk ci).length ≤ vs.length ∧ ∀ i k : Nat, (Y.fk ci)[i]? = some k → ((k = 6 ∧ S j i = -2) ∨ vs[i]? = some (w_f ad k (S j i) (Y.ln j i))) ∧ w_rg k (S j i) ∧ w_sr Y S k (S j i) (Y.ln j i)
  | .inr (.inr (.inl (t, n, c))) => Y.ty j = t ∧ (5 ≤ t ∧ t < 100) ∧ (S j (-1) = n ∧ n ≤ 2147483647) ∧ ∀ i : Nat, i < n → pm_r (pe_lk none i c) = w_r ad (if t = 5 then Y.ln j i else S j i) ∧ w_sr Y S (if t = 5 then 4 else 5) (S j i) (Y.ln j i)
  | .inr (.inr (.inr (t, n, c))) => Y.ty j = t ∧ t = 1 ∧ (S j (-1) = n ∧ n ≤ 2147483647) ∧ ∀ i : Nat, i < n → Int64.toInt (pe_lk 0 i c) = S j i
/-- a heap holds a state, slot j at address ad j -/
def w_E (Y : wY) (ad : Nat → Nat) (S : wS) (h : pe_H) : Prop := (∀ j, w_pr Y S j → ∃ x, h[ad j]? = some x ∧ w_c Y ad S j x) ∧ (∀ j k, w_pr Y S j → w_pr Y S k → ad j = ad k → j = k) ∧ S wG 0 = (pm_sz (pe_D h) : Nat) ∧ S wG 1 = (h.length : Nat) ∧ ∀ j, w_pr Y S j → (j : Int) < 4000000 + 64 * S wG 1
def w_lk (i : Nat) : wL → Option wv
  | [] => none
  | (k, v) :: r => bif Nat.beq k i then some v else w_lk i r
def w_LL (ad : Nat → Nat) (L : wL) (Lc : pm_L) : Prop := ∀ i v, w_lk i L = some v → pe_gl i Lc = some (w_u ad v)
def w_oc (ad : Nat → Nat) (o : wO) : pm_O := match o with
  | .inl none => .inl none
  | .inl (some v) => .inl (some (w_u ad v))
  | .inr x => .inr (ad x)
/-- from here the method comes to an outcome and a state of which Q holds; slots outside M stay where they are -/
def wJ (G : pe_G) (Y : wY) (M : Nat → Prop) (d : Nat) (mt : pe_Mt) (is : List pe_I) (L : wL) (st : List wv) (S : wS) (Q : wO → wS → Prop) : Prop :=
  ∀ ad Lc h, w_E Y ad S h → w_LL ad L Lc → ∃ o ad2 S2 h2 f0, (∀ f, f0 ≤ f → pe_go G f d mt is Lc (st.map (w_u ad)) h = some (w_oc ad2 o, h2)) ∧ w_E Y ad2 S2 h2 ∧ (∀ j, w_pr Y S j → w_pr Y S2 j ∧ (¬ M j → ad2 j = ad j)) ∧ Q o S2
/-- one place is set -/
def w_up (S : wS) (j : Nat) (i x : Int) : wS := fun k n => if k = j ∧ n = i then x else S k n
theorem w_up_same (S : wS) (j : Nat) (i x : Int) : w_up S j i x j i = x := if_pos ⟨rfl, rfl⟩
theorem w_up_slot {S : wS} {j k : Nat} {i n x : Int} (h : k ≠ j) : w_up S j i x k n = S k n := if_neg (fun q => h q.1)
theorem w_up_at {S : wS} {j k : Nat} {i n x : Int} (h : n ≠ i) : w_up S j i x k n = S k n := if_neg (fun q => h q.2)
theorem w_up_pr {Y : wY} {S : wS} {j k : Nat} {i x : Int} (hi : 0 ≤ i) : w_pr Y (w_up S j i x) k ↔ w_pr Y S k := by
  unfold w_pr
  rw [w_up_at (show (-1 : Int) ≠ i by omega)]
variable {G : pe_G} {Y : wY} {M : Nat → Prop} {d : Nat} {mt : pe_Mt} {is rest : List pe_I} {L L2 : wL} {st st2 : List wv} {S S2 : wS} {Q Q2 : wO → wS → Prop}
theorem wJ_mono (h : wJ G Y M d mt is L st S Q) (hq : ∀ o S2, Q o S2 → Q2 o S2) : wJ G Y M d mt is L st S Q2 := by
  intro ad Lc hp hE hL
  obtain ⟨o, ad2, S2, h2, f0, a, b, c, e⟩ := h ad Lc hp hE hL
  exact ⟨o, ad2, S2, h2, f0, a, b, c, hq _ _ e⟩
/-- what the heap says may be used -/
theorem wJ_E (h : (∃ ad hp, w_E Y ad S hp) → wJ G Y M d mt is L st S Q) : wJ G Y M d mt is L st S Q := by
  intro ad Lc hp hE hL
  exact h ⟨ad, hp, hE⟩ ad Lc hp hE hL
/-- fewer locals are known -/
theorem wJ_L (hs : ∀ i v, w_lk i L2 = some v → w_lk i L = some v) (h : wJ G Y M d mt is L2 st S Q) : wJ G Y M d mt is L st S Q := by
  intro ad Lc hp hE hL
  exact h ad Lc hp hE (fun i v q => hL i v (hs i v q))
theorem wJ_o {i : Instr} (hop : ∀ ad Lc h, w_E Y ad S h → w_LL ad L Lc → ∃ Lc2 h2, (∀ k : pm_L → List Value → pe_H → Option (pm_O × pe_H), pe_op G.xs mt.mx i Lc (st.map (w_u ad)) h k = k Lc2 (st2.map (w_u ad)) h2) ∧ w_E Y ad S2 h2 ∧ w_LL ad L2 Lc2 ∧ (∀ j, w_pr Y S j → w_pr Y S2 j)) (hk : wJ G Y M d mt rest L2 st2 S2 Q) : wJ G Y M d mt (.inl i :: rest) L st S Q := by
  intro ad Lc h hE hL
  obtain ⟨Lc2, h2, h1, hE2, hL2, hpr⟩ := hop ad Lc h hE hL
  obtain ⟨o, ad2, S3, h3, f0, hg, hE3, hM, hQ⟩ := hk ad Lc2 h2 hE2 hL2
  refine ⟨o, ad2, S3, h3, f0 + 1, fun f hf => ?_, hE3, fun j hp => hM j (hpr j hp), hQ⟩
  obtain ⟨f, rfl⟩ : ∃ g, f = g + 1 := ⟨f - 1, by omega⟩
  show pe_op G.xs mt.mx i Lc _ h (fun L st h => pe_go G f d mt rest L st h) = _
  rw [h1]
  exact hg f (by omega)
theorem wJ_p {i : Instr} (hop : ∀ ad Lc h, w_LL ad L Lc → ∀ k : pm_L → List Value → pe_H → Option (pm_O × pe_H), pe_op G.xs mt.mx i Lc (st.map (w_u ad)) h k = k Lc (st2.map (w_u ad)) h) (hk : wJ G Y M d mt rest L st2 S Q) : wJ G Y M d mt (.inl i :: rest) L st S Q :=
  wJ_o (fun ad Lc h hE hL => ⟨Lc, h, hop ad Lc h hL, hE, hL, fun _ q => q⟩) hk
end W50

