/-! PART j2: what going through a site's entries leaves (no machine). -/
section Wj2
variable {T : List aO} {H : List aH} {kd nms gk gb gb2 nm lo hi : Int} {e : aE}
theorem hoE_gb (h : gk = 3 ∨ gk = 6) : hoE T kd nms gk gb nm lo hi e ↔ hoE T kd nms gk gb2 nm lo hi e := by
  constructor <;> (
    rintro (⟨z1, z2, z3⟩ | ⟨z1, z2, z3⟩ | ⟨z1, z2, z3⟩ | z)
    · exfalso; omega
    · exfalso; omega
    · exfalso; omega
    · exact Or.inr (Or.inr (Or.inr z)))
theorem hlF_gb (h : gk = 3 ∨ gk = 6) : ∀ l : List aE, hlF T H kd nms gk gb nm lo hi l = hlF T H kd nms gk gb2 nm lo hi l
  | [] => rfl
  | x :: l => by
    have ih := hlF_gb h l
    unfold hlF
    rw [ih]
    by_cases c : eSt T H kd x ≠ 0
    · rw [if_pos c, if_pos c]
    · rw [if_neg c, if_neg c]
      by_cases c2 : hoE T kd nms gk gb nm lo hi x
      · rw [if_pos c2, if_pos ((hoE_gb h).mp c2)]
      · rw [if_neg c2, if_neg (fun z => c2 ((hoE_gb h).mpr z))]
theorem hlF_so : ∀ l : List aE, (hlF T H kd nms gk gb nm lo hi l).2.2 = some e → e ∈ l ∧ eSt T H kd e = 0 ∧ hoE T kd nms gk gb nm lo hi e
  | [], h => by cases h
  | x :: l, h => by
    unfold hlF at h
    by_cases c : eSt T H kd x ≠ 0
    · rw [if_pos c] at h
      obtain ⟨h1, h2⟩ := hlF_so l h
      exact ⟨List.mem_cons_of_mem _ h1, h2⟩
    · rw [if_neg c] at h
      by_cases c2 : hoE T kd nms gk gb nm lo hi x
      · rw [if_pos c2] at h
        have h2 : x = e := Option.some.inj h
        rw [← h2]
        exact ⟨List.mem_cons_self, by omega, c2⟩
      · rw [if_neg c2] at h
        obtain ⟨h1, h2⟩ := hlF_so l h
        exact ⟨List.mem_cons_of_mem _ h1, h2⟩
theorem hlF_me : ∀ (l : List aE) (y : aE), y ∈ (hlF T H kd nms gk gb nm lo hi l).1 → y ∈ l
  | [], y, h => h
  | x :: l, y, h => by
    unfold hlF at h
    by_cases c : eSt T H kd x ≠ 0
    · rw [if_pos c] at h
      exact List.mem_cons_of_mem _ (hlF_me l y h)
    · rw [if_neg c] at h
      by_cases c2 : hoE T kd nms gk gb nm lo hi x
      · rw [if_pos c2] at h
        exact h
      · rw [if_neg c2] at h
        rcases List.mem_cons.mp h with z | z
        · rw [z]; exact List.mem_cons_self
        · exact List.mem_cons_of_mem _ (hlF_me l y z)
theorem hlF_le : ∀ l : List aE, (hlF T H kd nms gk gb nm lo hi l).1.length ≤ l.length ∧ 0 ≤ (hlF T H kd nms gk gb nm lo hi l).2.1 ∧ (hlF T H kd nms gk gb nm lo hi l).2.1 ≤ (l.length : Int)
  | [] => ⟨Nat.le_refl _, Int.le_refl _, Int.le_refl _⟩
  | x :: l => by
    obtain ⟨h1, h2, h3⟩ := hlF_le l
    have hl : (x :: l).length = l.length + 1 := rfl
    unfold hlF
    by_cases c : eSt T H kd x ≠ 0
    · rw [if_pos c]
      refine ⟨?_, ?_, ?_⟩
      · show (hlF T H kd nms gk gb nm lo hi l).1.length ≤ l.length + 1; omega
      · show 0 ≤ (hlF T H kd nms gk gb nm lo hi l).2.1 + 1; omega
      · show (hlF T H kd nms gk gb nm lo hi l).2.1 + 1 ≤ ((l.length + 1 : Nat) : Int); omega
    · rw [if_neg c]
      by_cases c2 : hoE T kd nms gk gb nm lo hi x
      · rw [if_pos c2]
        exact ⟨Nat.le_refl _, Int.le_refl _, by show (0 : Int) ≤ ((l.length + 1 : Nat) : Int); omega⟩
      · rw [if_neg c2]
        refine ⟨?_, h2, ?_⟩
        · show (hlF T H kd nms gk gb nm lo hi l).1.length + 1 ≤ l.length + 1; omega
        · show (hlF T H kd nms gk gb nm lo hi l).2.1 ≤ ((l.length + 1 : Nat) : Int); omega
end Wj2
