/-! PART ef2: how many cells the class has taken: a potential. -/
section Wef2
variable {S Z A : wS} {k kd sh fo rm bt : Int}
def mx0 (x : Int) : Int := if 0 ≤ x then x else 0
theorem mx0_0 (x : Int) : 0 ≤ mx0 x := by unfold mx0; split <;> omega
/-- what the things may still cost without a value that comes -/
def pS (S : wS) : Nat → Int
  | 0 => 0
  | n + 1 => pS S n + mx0 (2 * (2 * S 134 (n : Int) - S 135 (n : Int)))
/-- cells taken are at most four for each value that ever came -/
def cPo (S : wS) : Prop := S 140 2 + pS S (S 72 3).toNat ≤ 4 * S 150 1
theorem pS_0 : ∀ n : Nat, 0 ≤ pS S n
  | 0 => Int.le_refl _
  | n + 1 => by
    have h1 := pS_0 n
    have h2 := mx0_0 (2 * (2 * S 134 (n : Int) - S 135 (n : Int)))
    show 0 ≤ pS S n + mx0 (2 * (2 * S 134 (n : Int) - S 135 (n : Int)))
    omega
theorem pS_cg : ∀ n : Nat, (∀ x : Int, 0 ≤ x → x < (n : Int) → Z 134 x = S 134 x ∧ Z 135 x = S 135 x) → pS Z n = pS S n
  | 0, _ => rfl
  | n + 1, h => by
    obtain ⟨h1, h2⟩ := h n (by omega) (by omega)
    show pS Z n + mx0 (2 * (2 * Z 134 (n : Int) - Z 135 (n : Int))) = pS S n + mx0 (2 * (2 * S 134 (n : Int) - S 135 (n : Int)))
    rw [h1, h2, pS_cg n (fun x x0 x1 => h x x0 (by omega))]
theorem pS_1 {i : Nat} : ∀ n : Nat, i < n → (∀ x : Int, 0 ≤ x → x < (n : Int) → x ≠ (i : Int) → Z 134 x = S 134 x ∧ Z 135 x = S 135 x) → pS Z n = pS S n - mx0 (2 * (2 * S 134 (i : Int) - S 135 (i : Int))) + mx0 (2 * (2 * Z 134 (i : Int) - Z 135 (i : Int)))
  | 0, h, _ => absurd h (Nat.not_lt_zero _)
  | n + 1, hi, h => by
    show pS Z n + mx0 (2 * (2 * Z 134 (n : Int) - Z 135 (n : Int))) = pS S n + mx0 (2 * (2 * S 134 (n : Int) - S 135 (n : Int))) - mx0 (2 * (2 * S 134 (i : Int) - S 135 (i : Int))) + mx0 (2 * (2 * Z 134 (i : Int) - Z 135 (i : Int)))
    by_cases c : i = n
    · subst c
      rw [pS_cg i (fun x x0 x1 => h x x0 (by omega) (by omega))]
      omega
    · obtain ⟨h1, h2⟩ := h n (by omega) (by omega) (by omega)
      rw [pS_1 n (by omega) (fun x x0 x1 x2 => h x x0 (by omega) x2), h1, h2]
      omega
theorem cPo_ag (h : cPo S) (e3 : Z 72 3 = S 72 3) (e : ∀ x : Int, Z 134 x = S 134 x ∧ Z 135 x = S 135 x) (e4 : Z 140 2 = S 140 2) (e5 : Z 150 1 = S 150 1) : cPo Z := by
  unfold cPo at h ⊢
  rw [e3, e4, e5, pS_cg _ (fun x _ _ => e x)]
  exact h
/-- one thing has changed -/
theorem cPo_1 {i : Nat} (h : cPo S) (hi : (i : Int) < S 72 3) (e3 : Z 72 3 = S 72 3) (e : ∀ x : Int, 0 ≤ x → x < S 72 3 → x ≠ (i : Int) → Z 134 x = S 134 x ∧ Z 135 x = S 135 x) (hc : Z 140 2 - S 140 2 + mx0 (2 * (2 * Z 134 (i : Int) - Z 135 (i : Int))) - mx0 (2 * (2 * S 134 (i : Int) - S 135 (i : Int))) ≤ 4 * (Z 150 1 - S 150 1)) : cPo Z := by
  unfold cPo at h ⊢
  have := pS_1 (S := S) (Z := Z) (i := i) (S 72 3).toNat (by omega) (fun x x0 x1 x2 => e x x0 (by omega) x2)
  rw [e3, this]
  omega
/-- one thing has come -/
theorem cPo_n (h : cPo S) (h0 : 0 ≤ S 72 3) (e3 : Z 72 3 = S 72 3 + 1) (e : ∀ x : Int, 0 ≤ x → x < S 72 3 → Z 134 x = S 134 x ∧ Z 135 x = S 135 x) (hc : Z 140 2 - S 140 2 + mx0 (2 * (2 * Z 134 (S 72 3) - Z 135 (S 72 3))) ≤ 4 * (Z 150 1 - S 150 1)) : cPo Z := by
  unfold cPo at h ⊢
  rw [e3, show (S 72 3 + 1).toNat = (S 72 3).toNat + 1 by omega]
  show Z 140 2 + (pS Z (S 72 3).toNat + mx0 (2 * (2 * Z 134 ((S 72 3).toNat : Int) - Z 135 ((S 72 3).toNat : Int)))) ≤ 4 * Z 150 1
  rw [pS_cg (S := S) (Z := Z) (S 72 3).toNat (fun x x0 x1 => e x x0 (by omega)), show (((S 72 3).toNat : Nat) : Int) = S 72 3 by omega]
  omega
theorem cPo_b (h : cPo S) : S 140 2 ≤ 4 * S 150 1 := by
  have := pS_0 (S := S) (S 72 3).toNat
  unfold cPo at h
  omega
theorem cPo_at (h : cPo S) (h0 : 0 ≤ S 72 3) (r : at_ag kd sh fo 0 S A) : cPo A := by
  have hg : wG = 1000000 := rfl
  obtain ⟨⟨a1, a2⟩, ⟨-, -, -, b8, b9, -⟩, c, d1, -, -, -, fr, -, -⟩ := r
  have e5 : A 150 1 = S 150 1 := fr 150 1 (by decide) (by decide) (by decide) (by decide) (by decide) (by decide) (by decide) (by decide)
  refine cPo_n h h0 a1 (fun x x0 x1 => ⟨c 7 (by decide) x x0 x1, c 8 (by decide) x x0 x1⟩) ?_
  rw [b8, b9, d1, e5]
  have : mx0 (2 * (2 * 0 - 0)) = 0 := rfl
  omega
theorem cPo_av (h : cPo S) (hk : 0 ≤ k ∧ k < S 72 3) (r : avH_ag k kd bt S Z) (hs : 0 ≤ S 134 k) : cPo Z := by
  have hg : wG = 1000000 := rfl
  obtain ⟨⟨a1, a2⟩, b, -, -, -, -, fr, -, -⟩ := r
  have ek : ((k.toNat : Nat) : Int) = k := by omega
  have e3 : Z 72 3 = S 72 3 := fr 72 3 (by decide) (by decide) (by decide) (by decide) (Or.inl (by decide)) (by decide) (by decide)
  refine cPo_1 (i := k.toNat) h (by omega) e3 (fun x x0 x1 x2 => ⟨fr 134 x (by decide) (by decide) (by decide) (by decide) (Or.inr (by omega)) (Or.inl (by decide)) (Or.inl (by decide)), fr 135 x (by decide) (by decide) (by decide) (by decide) (Or.inr (by omega)) (Or.inl (by decide)) (Or.inl (by decide))⟩) ?_
  rw [ek, a1, a2]
  unfold mx0
  rcases b with (⟨z0, z1, z2, z⟩ | ⟨z0, z3, z1, z2, z⟩) | ⟨z0, z1, z2, z⟩
  · rw [z2, z]
    split <;> split <;> omega
  · rw [z2, z]
    split <;> split <;> omega
  · rw [z, z2]
    by_cases c : 4 ≤ S 134 k * 2
    · rw [if_pos c]
      split <;> split <;> omega
    · rw [if_neg c]
      split <;> split <;> omega
theorem cPo_ac {ar vn : Int} (h : cPo S) (r : ac_ag ar vn S A) (hv : 0 ≤ vn) : cPo A := by
  have hg : wG = 1000000 := rfl
  obtain ⟨⟨a1, a2, a3⟩, -, -, d1, -, -, -, fr, -, -⟩ := r
  have es : ∀ (j : Nat) (x : Int), 127 ≤ j → j ≤ 136 → A j x = S j x := fun j x j0 j1 => fr j x (by omega) (by omega) (by omega) (by omega) (by omega) (by omega) (by omega) (by omega) (by omega)
  have e3 : A 72 3 = S 72 3 := fr 72 3 (by decide) (by decide) (by decide) (by decide) (by decide) (by decide) (by decide) (by decide) (by decide)
  unfold cPo at h ⊢
  rw [e3, pS_cg _ (fun x _ _ => ⟨es 134 x (by decide) (by decide), es 135 x (by decide) (by decide)⟩), d1, a3]
  omega
end Wef2
