/-! PART mrb: parameters of functions are variables of theirs. -/
section Wmrb
variable {K V P : Nat → Int} {f u dp x t t0 l a : Int} {J : List Int} {i : Nat} {I : List pz_I} {F F9 : List pz_F} {o : pz_O}
def QF (F : List pz_F) : Prop := ∀ q ∈ F, 0 ≤ q.2.1 ∧ q.2.1 ≤ (q.2.2.length : Int)
def FO (F : List pz_F) (o : pz_O) : Prop := ∀ (i2 : Nat) (I2 : List pz_I) (F2 : List pz_F) (t : Int), o = .inr (i2, I2, F2, t) → QF F → QF F2
def R10 (_ : Int) : pz_R := fun _ _ _ _ _ _ _ F o => FO F o
theorem QF_f (h : QF F) : 0 ≤ (pz_f f F u).2.1 ∧ (pz_f f F u).2.1 ≤ ((pz_f f F u).2.2.length : Int) := by
  unfold pz_f
  rw [List.getD_eq_getElem?_getD]
  cases hg : F[(u - f).toNat]? with
  | none => exact ⟨Int.le_refl _, Int.le_refl _⟩
  | some q => exact h q (List.mem_of_getElem? hg)
theorem QF_v {y : Int} (h : QF F) : QF (pz_v f F u y) := fun q hq => by
  rcases List.mem_or_eq_of_mem_set hq with z | z
  · exact h q z
  · rw [z]
    have := QF_f (f := f) (u := u) h
    refine ⟨this.1, ?_⟩
    show (pz_f f F u).2.1 ≤ (((pz_f f F u).2.2.length + 1 : Nat) : Int)
    omega
theorem QF_p (h : QF F) : QF (pz_p f F u) := fun q hq => by
  rcases List.mem_or_eq_of_mem_set hq with z | z
  · exact h q z
  · rw [z]
    exact ⟨Int.natCast_nonneg _, Int.le_refl _⟩
theorem QF_n (h : QF F) : QF (F ++ [(u, 0, [])]) := fun q hq => by
  rcases List.mem_append.mp hq with z | z
  · exact h q z
  · rw [List.mem_singleton.mp z]
    exact ⟨Int.le_refl _, Int.le_refl _⟩
theorem fo_q {p : pz_O → Prop} {k : Nat → List pz_I → List pz_F → Int → pz_O → Prop} (h1 : ∀ o, p o → FO F o) (h2 : ∀ i I F t o, k i I F t o → FO F o) (h : pz_q p k o) : FO F o := fun i2 I2 F2 t e hQ => by
  rcases h with ⟨v, -, z⟩ | ⟨i, I, F1, t1, z1, z2⟩
  · rw [z] at e
    cases e
  · exact h2 _ _ _ _ _ z2 i2 I2 F2 t e (h1 _ z1 _ _ _ _ rfl hQ)
theorem fo_e (h : o = .inr (i, I, F, t)) : FO F o := fun i2 I2 F2 t e hQ => by
  rw [h] at e
  cases e
  exact hQ
theorem fo_ev {y : Int} (h : o = .inr (i, I, pz_v f F u y, t)) : FO F o := fun i2 I2 F2 t e hQ => by
  rw [h] at e
  cases e
  exact QF_v hQ
theorem fo_ep (h : o = .inr (i, I, pz_p f F u, t)) : FO F o := fun i2 I2 F2 t e hQ => by
  rw [h] at e
  cases e
  exact QF_p hQ
theorem fo_v {y : Int} (h : FO (pz_v f F u y) o) : FO F o := fun i2 I2 F2 t e hQ => h i2 I2 F2 t e (QF_v hQ)
theorem fo_fa (h : o = pz_fa P a i) : FO F o := fun i2 I2 F2 t e hQ => by
  rw [h] at e
  unfold pz_fa at e
  cases e
theorem fo_tk (h : o = pz_tk K P a i I F) : FO F o := by
  unfold pz_tk at h
  split at h
  · exact fo_e h
  · exact fo_fa h
theorem fo_o9 (hF : QF F → QF F9) (h : o = pz_op K P a dp i I F9) : FO F o := fun i2 I2 F2 t e hQ => by
  rw [h] at e
  unfold pz_op at e
  split at e
  · unfold pz_fa at e
    cases e
  · split at e
    · unfold pz_fa at e
      cases e
    · cases e
      exact hF hQ
theorem fo_op (h : o = pz_op K P a dp i I F) : FO F o := fo_o9 id h
theorem fo_on (h : o = pz_op K P a dp i I (F ++ [(u, 0, [])])) : FO F o := fo_o9 QF_n h
theorem fo_pp (h : o = pz_op K P a dp i I (pz_p f F u)) : FO F o := fo_o9 QF_p h
theorem fo_nm (h : o = pz_nm K V P i I F) : FO F o := by
  unfold pz_nm at h
  split at h
  · exact fo_fa h
  · split at h
    · exact fo_fa h
    · exact fo_e h
theorem fo_dc (h : o = pz_dc K V P f i u I F) : FO F o := by
  unfold pz_dc at h
  repeat' first
    | exact fo_e h
    | exact fo_ev h
    | exact fo_fa h
    | (split at h)

theorem c10_bk (h : pz_bk K P (R10 f) i dp u I F o) : FO F o := by
  unfold pz_bk at h
  refine fo_q (fun o h => ?_) (fun i I F t o h => ?_) h
  · exact fo_op h
  · refine fo_q (fun o h => ?_) (fun i I F t o h => ?_) h
    · exact h
    · exact fo_tk h

theorem c10_cd (h : pz_cd K P (R10 f) i dp u I F o) : FO F o := by
  unfold pz_cd at h
  refine fo_q (fun o h => ?_) (fun i I F t o h => ?_) h
  · exact fo_op h
  · refine fo_q (fun o h => ?_) (fun i I F t o h => ?_) h
    · exact h
    · exact fo_tk h

theorem c10_es (h : pz_es K P (R10 f) i dp u I F o) : FO F o := by
  unfold pz_es at h
  refine fo_q (fun o h => ?_) (fun i I F t o h => ?_) h
  · exact fo_op h
  · split at h
    · exact fo_e h
    · exact h

theorem c10_fn (h : pz_fn K P f (R10 f) i dp u I F o) : FO F o := by
  unfold pz_fn at h
  refine fo_q (fun o h => ?_) (fun i I F t o h => ?_) h
  · exact fo_on h
  · refine fo_q (fun o h => ?_) (fun i I F t o h => ?_) h
    · try dsimp only at h
      split at h
      · exact fo_e h
      · exact h
    · refine fo_q (fun o h => ?_) (fun i I F t o h => ?_) h
      · exact fo_tk h
      · refine fo_q (fun o h => ?_) (fun i I F t o h => ?_) h
        · exact fo_pp h
        · refine fo_q (fun o h => ?_) (fun i I F t o h => ?_) h
          · exact h
          · refine fo_q (fun o h => ?_) (fun i I F t o h => ?_) h
            · exact fo_tk h
            · exact fo_e h

theorem c10_el (h : pz_el K P (R10 f) i dp u I F o) : FO F o := by
  unfold pz_el at h
  refine fo_q (fun o h => ?_) (fun i I F t o h => ?_) h
  · exact fo_op h
  · refine fo_q (fun o h => ?_) (fun i I F t o h => ?_) h
    · exact h
    · exact fo_tk h

theorem c10_SS (h : pz_SS K (R10 f) i dp u I F o) : FO F o := by
  unfold pz_SS at h
  split at h
  · exact fo_e h
  · refine fo_q (fun o h => ?_) (fun i I F t o h => ?_) h
    · exact h
    · exact h

theorem c10_ST40 (h : pz_ST40 K V P f (R10 f) i dp u I F o) : FO F o := by
  unfold pz_ST40 at h
  refine fo_q (fun o h => ?_) (fun i I F t o h => ?_) h
  · exact fo_dc h
  · split at h
    · refine fo_q (fun o h => ?_) (fun i I F t o h => ?_) h
      · exact h
      · exact fo_tk h
    · exact fo_tk h

theorem c10_ST41 (h : pz_ST41 K V P f (R10 f) i dp u I F o) : FO F o := by
  unfold pz_ST41 at h
  split at h
  · exact fo_fa h
  · refine fo_q (fun o h => ?_) (fun i I F t o h => ?_) h
    · exact fo_dc h
    · refine fo_q (fun o h => ?_) (fun i I F t o h => ?_) h
      · exact c10_fn h
      · exact fo_e h

theorem c10_ST44 (h : pz_ST44 K P (R10 f) i dp u I F o) : FO F o := by
  unfold pz_ST44 at h
  refine fo_q (fun o h => ?_) (fun i I F t o h => ?_) h
  · exact c10_cd h
  · refine fo_q (fun o h => ?_) (fun i I F t o h => ?_) h
    · exact c10_bk h
    · exact fo_e h

theorem c10_ST45 (h : pz_ST45 K P (R10 f) i dp u I F o) : FO F o := by
  unfold pz_ST45 at h
  split at h
  · exact fo_e h
  · refine fo_q (fun o h => ?_) (fun i I F t o h => ?_) h
    · exact h
    · refine fo_q (fun o h => ?_) (fun i I F t o h => ?_) h
      · exact fo_tk h
      · exact fo_e h

theorem c10_ST47 (h : pz_ST47 K V P f (R10 f) i dp u I F o) : FO F o := by
  unfold pz_ST47 at h
  refine fo_q (fun o h => ?_) (fun i I F t o h => ?_) h
  · exact c10_bk h
  · refine fo_q (fun o h => ?_) (fun i I F t o h => ?_) h
    · exact fo_tk h
    · refine fo_q (fun o h => ?_) (fun i I F t o h => ?_) h
      · exact fo_op h
      · refine fo_q (fun o h => ?_) (fun i I F t o h => ?_) h
        · exact fo_dc h
        · refine fo_q (fun o h => ?_) (fun i I F t o h => ?_) h
          · exact fo_tk h
          · refine fo_q (fun o h => ?_) (fun i I F t o h => ?_) h
            · exact c10_bk h
            · exact fo_e h

theorem c10_STe (h : pz_STe K P (R10 f) i dp u I F o) : FO F o := by
  unfold pz_STe at h
  split at h
  · exact fo_fa h
  · refine fo_q (fun o h => ?_) (fun i I F t o h => ?_) h
    · exact h
    · refine fo_q (fun o h => ?_) (fun i I F t o h => ?_) h
      · exact fo_tk h
      · exact fo_e h

theorem c10_ST (h : pz_ST K V P f (R10 f) i dp u I F o) : FO F o := by
  unfold pz_ST at h
  split at h
  · exact c10_ST40 h
  · split at h
    · exact c10_ST41 h
    · split at h
      · exact h
      · split at h
        · exact c10_ST44 h
        · split at h
          · exact c10_ST45 h
          · split at h
            · exact c10_ST47 h
            · exact c10_STe h

theorem c10_PM (h : pz_PM K V P f (R10 f) x i dp u I F o) : FO F o := by
  unfold pz_PM at h
  split at h
  · exact fo_fa h
  · split at h
    · exact fo_fa h
    · split at h
      · exact fo_fa h
      · split at h
        · exact fo_fa h
        · split at h
          · exact fo_v h
          · exact fo_ev h

theorem c10_CH (h : pz_CH K P (R10 f) J i dp u I F o) : FO F o := by
  unfold pz_CH at h
  refine fo_q (fun o h => ?_) (fun i I F t o h => ?_) h
  · exact c10_cd h
  · refine fo_q (fun o h => ?_) (fun i I F t o h => ?_) h
    · exact c10_bk h
    · split at h
      · split at h
        · exact h
        · refine fo_q (fun o h => ?_) (fun i I F t o h => ?_) h
          · exact c10_bk h
          · exact fo_e h
      · exact fo_e h

theorem c10_VA (h : pz_VA K P (R10 f) i dp u I F o) : FO F o := by
  unfold pz_VA at h
  refine fo_q (fun o h => ?_) (fun i I F t o h => ?_) h
  · exact h
  · split at h
    · exact fo_e h
    · split at h
      · exact fo_fa h
      · split at h
        · exact fo_fa h
        · refine fo_q (fun o h => ?_) (fun i I F t o h => ?_) h
          · exact h
          · exact fo_e h

theorem c10_E (h : pz_E (R10 f) l i dp u I F o) : FO F o := by
  unfold pz_E at h
  split at h
  · exact h
  · refine fo_q (fun o h => ?_) (fun i I F t o h => ?_) h
    · exact h
    · exact h

theorem c10_L (h : pz_L K (R10 f) l t0 i dp u I F o) : FO F o := by
  unfold pz_L at h
  split at h
  · exact fo_e h
  · split at h
    · refine fo_q (fun o h => ?_) (fun i I F t o h => ?_) h
      · exact h
      · exact h
    · refine fo_q (fun o h => ?_) (fun i I F t o h => ?_) h
      · exact h
      · exact h

theorem c10_FR (h : pz_FR K P (R10 f) i dp u I F o) : FO F o := by
  unfold pz_FR at h
  split at h
  · split at h
    · exact fo_fa h
    · refine fo_q (fun o h => ?_) (fun i I F t o h => ?_) h
      · exact h
      · exact fo_e h
  · exact h

theorem c10_BH (h : pz_BH (R10 f) i dp u I F o) : FO F o := by
  unfold pz_BH at h
  refine fo_q (fun o h => ?_) (fun i I F t o h => ?_) h
  · exact h
  · exact h

theorem c10_FI49 (h : pz_FI49 K P (R10 f) i dp u I F o) : FO F o := by
  unfold pz_FI49 at h
  refine fo_q (fun o h => ?_) (fun i I F t o h => ?_) h
  · exact h
  · refine fo_q (fun o h => ?_) (fun i I F t o h => ?_) h
    · exact h
    · refine fo_q (fun o h => ?_) (fun i I F t o h => ?_) h
      · exact c10_es h
      · exact fo_e h

theorem c10_FI54 (h : pz_FI54 K P (R10 f) i dp u I F o) : FO F o := by
  unfold pz_FI54 at h
  refine fo_q (fun o h => ?_) (fun i I F t o h => ?_) h
  · exact c10_es h
  · split at h
    · exact fo_fa h
    · exact fo_e h

theorem c10_FI14 (h : pz_FI14 K P (R10 f) i dp u I F o) : FO F o := by
  unfold pz_FI14 at h
  refine fo_q (fun o h => ?_) (fun i I F t o h => ?_) h
  · exact fo_op h
  · refine fo_q (fun o h => ?_) (fun i I F t o h => ?_) h
    · try dsimp only at h
      split at h
      · exact fo_e h
      · exact h
    · refine fo_q (fun o h => ?_) (fun i I F t o h => ?_) h
      · exact fo_tk h
      · exact fo_e h

theorem c10_FI12 (h : pz_FI12 K P (R10 f) i dp u I F o) : FO F o := by
  unfold pz_FI12 at h
  refine fo_q (fun o h => ?_) (fun i I F t o h => ?_) h
  · exact fo_op h
  · refine fo_q (fun o h => ?_) (fun i I F t o h => ?_) h
    · try dsimp only at h
      split at h
      · exact fo_e h
      · exact h
    · refine fo_q (fun o h => ?_) (fun i I F t o h => ?_) h
      · exact fo_tk h
      · exact fo_e h

theorem c10_FI (h : pz_FI K V P f (R10 f) x i dp u I F o) : FO F o := by
  unfold pz_FI at h
  by_cases hc2 : K i = 2
  · rw [if_pos hc2] at h
    exact fo_e h
  · rw [if_neg hc2] at h
    by_cases hc4 : K i = 3
    · rw [if_pos hc4] at h
      exact fo_e h
    · rw [if_neg hc4] at h
      by_cases hc6 : K i = 4
      · rw [if_pos hc6] at h
        exact fo_fa h
      · rw [if_neg hc6] at h
        by_cases hc8 : K i = 5
        · rw [if_pos hc8] at h
          exact fo_e h
        · rw [if_neg hc8] at h
          by_cases hc10 : K i = 6
          · rw [if_pos hc10] at h
            exact fo_fa h
          · rw [if_neg hc10] at h
            by_cases hc12 : K i = 10
            · rw [if_pos hc12] at h
              refine fo_q (fun o h => ?_) (fun i I F t o h => ?_) h
              · exact c10_cd h
              · exact fo_e h
            · rw [if_neg hc12] at h
              by_cases hc14 : K i = 14
              · rw [if_pos hc14] at h
                exact c10_FI14 h
              · rw [if_neg hc14] at h
                by_cases hc16 : K i = 12
                · rw [if_pos hc16] at h
                  exact c10_FI12 h
                · rw [if_neg hc16] at h
                  by_cases hc18 : K i = 41
                  · rw [if_pos hc18] at h
                    by_cases hc20 : 400 ≤ f + F.length
                    · rw [if_pos hc20] at h
                      exact fo_fa h
                    · rw [if_neg hc20] at h
                      refine fo_q (fun o h => ?_) (fun i I F t o h => ?_) h
                      · exact c10_fn h
                      · exact fo_e h
                  · rw [if_neg hc18] at h
                    by_cases hc20 : K i = 50
                    · rw [if_pos hc20] at h
                      exact fo_e h
                    · rw [if_neg hc20] at h
                      by_cases hc22 : K i = 51 ∨ K i = 52 ∨ K i = 53
                      · rw [if_pos hc22] at h
                        exact fo_e h
                      · rw [if_neg hc22] at h
                        by_cases hc24 : K i = 49
                        · rw [if_pos hc24] at h
                          by_cases hc26 : x = 0
                          · rw [if_pos hc26] at h
                            exact fo_fa h
                          · rw [if_neg hc26] at h
                            exact c10_FI49 h
                        · rw [if_neg hc24] at h
                          by_cases hc26 : 54 ≤ K i ∧ K i < 62
                          · rw [if_pos hc26] at h
                            exact c10_FI54 h
                          · rw [if_neg hc26] at h
                            exact fo_fa h

theorem c10_BL (h : pz_BL K V P (R10 f) t0 i dp u I F o) : FO F o := by
  unfold pz_BL at h
  split at h
  · refine fo_q (fun o h => ?_) (fun i I F t o h => ?_) h
    · exact fo_nm h
    · split at h
      · refine fo_q (fun o h => ?_) (fun i I F t o h => ?_) h
        · exact c10_es h
        · exact h
      · exact h
  · split at h
    · refine fo_q (fun o h => ?_) (fun i I F t o h => ?_) h
      · exact c10_el h
      · exact h
    · split at h
      · refine fo_q (fun o h => ?_) (fun i I F t o h => ?_) h
        · exact c10_es h
        · exact h
      · exact fo_e h

theorem c10_VL (h : pz_VL K P (R10 f) x i dp u I F o) : FO F o := by
  unfold pz_VL at h
  split at h
  · rcases h with h | h
    · replace h := h.2
      exact fo_fa h
    · replace h := h.2
      split at h
      · exact fo_fa h
      · exact fo_fa h
  · refine fo_q (fun o h => ?_) (fun i I F t o h => ?_) h
    · exact h
    · split at h
      · exact h
      · split at h
        · exact fo_e h
        · exact fo_fa h

theorem c10_LI (h : pz_LI K (R10 f) x i dp u I F o) : FO F o := by
  unfold pz_LI at h
  refine fo_q (fun o h => ?_) (fun i I F t o h => ?_) h
  · exact h
  · split at h
    · exact h
    · exact fo_e h

theorem c10_OB (h : pz_OB K V P (R10 f) i dp u I F o) : FO F o := by
  unfold pz_OB at h
  refine fo_q (fun o h => ?_) (fun i I F t o h => ?_) h
  · exact fo_nm h
  · refine fo_q (fun o h => ?_) (fun i I F t o h => ?_) h
    · exact fo_tk h
    · refine fo_q (fun o h => ?_) (fun i I F t o h => ?_) h
      · exact h
      · split at h
        · exact h
        · exact fo_e h

theorem c10_ML (h : pz_ML K V P (R10 f) i dp u I F o) : FO F o := by
  unfold pz_ML at h
  split at h
  · refine fo_q (fun o h => ?_) (fun i I F t o h => ?_) h
    · exact fo_nm h
    · exact h
  · split at h
    · refine fo_q (fun o h => ?_) (fun i I F t o h => ?_) h
      · exact c10_el h
      · exact h
    · exact fo_e h

theorem R10_C : pz_C K V P f (R10 f) := ⟨fun i dp u I F o h => c10_SS h, fun i dp u I F o h => c10_ST h, fun x i dp u I F o h => c10_PM h, fun J i dp u I F o h => c10_CH h, fun i dp u I F o h => c10_VA h, fun l i dp u I F o h => c10_E h, fun l t i dp u I F o h => c10_L h, fun i dp u I F o h => c10_FR h, fun i dp u I F o h => c10_BH h, fun x i dp u I F o h => c10_FI h, fun t i dp u I F o h => c10_BL h, fun x i dp u I F o h => c10_VL h, fun x i dp u I F o h => c10_LI h, fun i dp u I F o h => c10_OB h, fun i dp u I F o h => c10_ML h⟩

end Wmrb
