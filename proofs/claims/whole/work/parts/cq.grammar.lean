/-! PART cq: the reference's parser keeps the grammar's rules. -/
section Wcq
variable {xs : List (Nat × List Int32)} {M : Nat → Prop} {d : Nat} {A B C S Z S0 : wS} {Q : wO → wS → Prop} {T : Int → Int} {n f0 u dp b0 b1 : Int} {N X : List (List Int)} {c i k pm : Nat} {I : List pz_I} {F : List pz_F} {o : pz_O}
variable {K V P : Nat → Int} {f x l t v : Int} {J : List Int} {z : pz_O} {c a a2 b b2 : Prop} {k1 k2 : Nat → List pz_I → List pz_F → Int → pz_O → Prop}
theorem qfm (h : pz_qf z k1 o) (m2 : ∀ (i : Nat) (I : List pz_I) (F : List pz_F) (t : Int) (z : pz_O), k1 i I F t z → k2 i I F t z) : pz_qf z k2 o := qmm h (fun _ q => q) m2
theorem itm [Decidable c] (h : if c then a else b) (ha : a → a2) (hb : b → b2) : if c then a2 else b2 := by
  by_cases e : c
  · rw [if_pos e] at h ⊢; exact ha h
  · rw [if_neg e] at h ⊢; exact hb h
section
variable {R R2 : pz_R}
theorem mo_bk (m : ∀ {k : Nat} {x : Int} {J : List Int} {i : Nat} {dp u : Int} {I : List pz_I} {F : List pz_F} {o : pz_O}, R k x J i dp u I F o → R2 k x J i dp u I F o) (h : pz_bk K P R i dp u I F o) : pz_bk K P R2 i dp u I F o := by
  unfold pz_bk at h ⊢
  exact qfm h (fun _ _ _ _ _ h => qmm h (fun _ h => m h) (fun _ _ _ _ _ h => h))
theorem mo_cd (m : ∀ {k : Nat} {x : Int} {J : List Int} {i : Nat} {dp u : Int} {I : List pz_I} {F : List pz_F} {o : pz_O}, R k x J i dp u I F o → R2 k x J i dp u I F o) (h : pz_cd K P R i dp u I F o) : pz_cd K P R2 i dp u I F o := by
  unfold pz_cd at h ⊢
  exact qfm h (fun _ _ _ _ _ h => qmm h (fun _ h => m h) (fun _ _ _ _ _ h => h))
theorem mo_es (m : ∀ {k : Nat} {x : Int} {J : List Int} {i : Nat} {dp u : Int} {I : List pz_I} {F : List pz_F} {o : pz_O}, R k x J i dp u I F o → R2 k x J i dp u I F o) (h : pz_es K P R i dp u I F o) : pz_es K P R2 i dp u I F o := by
  unfold pz_es at h ⊢
  exact qfm h (fun _ _ _ _ _ h => itm h (fun h => h) (fun h => m h))
theorem mo_el (m : ∀ {k : Nat} {x : Int} {J : List Int} {i : Nat} {dp u : Int} {I : List pz_I} {F : List pz_F} {o : pz_O}, R k x J i dp u I F o → R2 k x J i dp u I F o) (h : pz_el K P R i dp u I F o) : pz_el K P R2 i dp u I F o := by
  unfold pz_el at h ⊢
  exact qfm h (fun _ _ _ _ _ h => qmm h (fun _ h => m h) (fun _ _ _ _ _ h => h))
theorem mo_fn (m : ∀ {k : Nat} {x : Int} {J : List Int} {i : Nat} {dp u : Int} {I : List pz_I} {F : List pz_F} {o : pz_O}, R k x J i dp u I F o → R2 k x J i dp u I F o) (h : pz_fn K P f R i dp u I F o) : pz_fn K P f R2 i dp u I F o := by
  unfold pz_fn at h ⊢
  exact qfm h (fun _ _ _ _ _ h => qmm h (fun _ h => itm h (fun h => h) (fun h => m h)) (fun _ _ _ _ _ h => qfm h (fun _ _ _ _ _ h => qfm h (fun _ _ _ _ _ h => qmm h (fun _ h => m h) (fun _ _ _ _ _ h => qfm h (fun _ _ _ _ _ h => h))))))
theorem mo_SS (m : ∀ {k : Nat} {x : Int} {J : List Int} {i : Nat} {dp u : Int} {I : List pz_I} {F : List pz_F} {o : pz_O}, R k x J i dp u I F o → R2 k x J i dp u I F o) (h : pz_SS K R i dp u I F o) : pz_SS K R2 i dp u I F o := by
  unfold pz_SS at h ⊢
  exact itm h (fun h => h) (fun h => qmm h (fun _ h => m h) (fun _ _ _ _ _ h => m h))
theorem mo_ST40 (m : ∀ {k : Nat} {x : Int} {J : List Int} {i : Nat} {dp u : Int} {I : List pz_I} {F : List pz_F} {o : pz_O}, R k x J i dp u I F o → R2 k x J i dp u I F o) (h : pz_ST40 K V P f R i dp u I F o) : pz_ST40 K V P f R2 i dp u I F o := by
  unfold pz_ST40 at h ⊢
  exact qfm h (fun _ _ _ _ _ h => itm h (fun h => qmm h (fun _ h => m h) (fun _ _ _ _ _ h => h)) (fun h => h))
theorem mo_ST41 (m : ∀ {k : Nat} {x : Int} {J : List Int} {i : Nat} {dp u : Int} {I : List pz_I} {F : List pz_F} {o : pz_O}, R k x J i dp u I F o → R2 k x J i dp u I F o) (h : pz_ST41 K V P f R i dp u I F o) : pz_ST41 K V P f R2 i dp u I F o := by
  unfold pz_ST41 at h ⊢
  exact itm h (fun h => h) (fun h => qfm h (fun _ _ _ _ _ h => qmm h (fun _ h => mo_fn m h) (fun _ _ _ _ _ h => h)))
theorem mo_ST44 (m : ∀ {k : Nat} {x : Int} {J : List Int} {i : Nat} {dp u : Int} {I : List pz_I} {F : List pz_F} {o : pz_O}, R k x J i dp u I F o → R2 k x J i dp u I F o) (h : pz_ST44 K P R i dp u I F o) : pz_ST44 K P R2 i dp u I F o := by
  unfold pz_ST44 at h ⊢
  exact qmm h (fun _ h => mo_cd m h) (fun _ _ _ _ _ h => qmm h (fun _ h => mo_bk m h) (fun _ _ _ _ _ h => h))
theorem mo_ST45 (m : ∀ {k : Nat} {x : Int} {J : List Int} {i : Nat} {dp u : Int} {I : List pz_I} {F : List pz_F} {o : pz_O}, R k x J i dp u I F o → R2 k x J i dp u I F o) (h : pz_ST45 K P R i dp u I F o) : pz_ST45 K P R2 i dp u I F o := by
  unfold pz_ST45 at h ⊢
  exact itm h (fun h => h) (fun h => qmm h (fun _ h => m h) (fun _ _ _ _ _ h => h))
theorem mo_ST47 (m : ∀ {k : Nat} {x : Int} {J : List Int} {i : Nat} {dp u : Int} {I : List pz_I} {F : List pz_F} {o : pz_O}, R k x J i dp u I F o → R2 k x J i dp u I F o) (h : pz_ST47 K V P f R i dp u I F o) : pz_ST47 K V P f R2 i dp u I F o := by
  unfold pz_ST47 at h ⊢
  exact qmm h (fun _ h => mo_bk m h) (fun _ _ _ _ _ h => qfm h (fun _ _ _ _ _ h => qfm h (fun _ _ _ _ _ h => qfm h (fun _ _ _ _ _ h => qfm h (fun _ _ _ _ _ h => qmm h (fun _ h => mo_bk m h) (fun _ _ _ _ _ h => h))))))
theorem mo_STe (m : ∀ {k : Nat} {x : Int} {J : List Int} {i : Nat} {dp u : Int} {I : List pz_I} {F : List pz_F} {o : pz_O}, R k x J i dp u I F o → R2 k x J i dp u I F o) (h : pz_STe K P R i dp u I F o) : pz_STe K P R2 i dp u I F o := by
  unfold pz_STe at h ⊢
  exact itm h (fun h => h) (fun h => qmm h (fun _ h => m h) (fun _ _ _ _ _ h => h))
theorem mo_ST (m : ∀ {k : Nat} {x : Int} {J : List Int} {i : Nat} {dp u : Int} {I : List pz_I} {F : List pz_F} {o : pz_O}, R k x J i dp u I F o → R2 k x J i dp u I F o) (h : pz_ST K V P f R i dp u I F o) : pz_ST K V P f R2 i dp u I F o := by
  unfold pz_ST at h ⊢
  exact itm h (mo_ST40 m) (fun h => itm h (mo_ST41 m) (fun h => itm h (fun h => m h) (fun h => itm h (mo_ST44 m) (fun h => itm h (mo_ST45 m) (fun h => itm h (mo_ST47 m) (mo_STe m))))))
theorem mo_PM (m : ∀ {k : Nat} {x : Int} {J : List Int} {i : Nat} {dp u : Int} {I : List pz_I} {F : List pz_F} {o : pz_O}, R k x J i dp u I F o → R2 k x J i dp u I F o) (h : pz_PM K V P f R x i dp u I F o) : pz_PM K V P f R2 x i dp u I F o := by
  unfold pz_PM at h ⊢
  exact itm h (fun h => h) (fun h => itm h (fun h => h) (fun h => itm h (fun h => h) (fun h => itm h (fun h => h) (fun h => itm h (fun h => m h) (fun h => h)))))
theorem mo_VA (m : ∀ {k : Nat} {x : Int} {J : List Int} {i : Nat} {dp u : Int} {I : List pz_I} {F : List pz_F} {o : pz_O}, R k x J i dp u I F o → R2 k x J i dp u I F o) (h : pz_VA K P R i dp u I F o) : pz_VA K P R2 i dp u I F o := by
  unfold pz_VA at h ⊢
  exact qmm h (fun _ h => m h) (fun _ _ _ _ _ h => itm h (fun h => h) (fun h => itm h (fun h => h) (fun h => itm h (fun h => h) (fun h => qmm h (fun _ h => m h) (fun _ _ _ _ _ h => h)))))
theorem mo_E (m : ∀ {k : Nat} {x : Int} {J : List Int} {i : Nat} {dp u : Int} {I : List pz_I} {F : List pz_F} {o : pz_O}, R k x J i dp u I F o → R2 k x J i dp u I F o) (h : pz_E R l i dp u I F o) : pz_E R2 l i dp u I F o := by
  unfold pz_E at h ⊢
  exact itm h (fun h => m h) (fun h => qmm h (fun _ h => m h) (fun _ _ _ _ _ h => m h))
theorem mo_L (m : ∀ {k : Nat} {x : Int} {J : List Int} {i : Nat} {dp u : Int} {I : List pz_I} {F : List pz_F} {o : pz_O}, R k x J i dp u I F o → R2 k x J i dp u I F o) (h : pz_L K R l t i dp u I F o) : pz_L K R2 l t i dp u I F o := by
  unfold pz_L at h ⊢
  exact itm h (fun h => h) (fun h => itm h (fun h => qmm h (fun _ h => m h) (fun _ _ _ _ _ h => m h)) (fun h => qmm h (fun _ h => m h) (fun _ _ _ _ _ h => m h)))
theorem mo_FR (m : ∀ {k : Nat} {x : Int} {J : List Int} {i : Nat} {dp u : Int} {I : List pz_I} {F : List pz_F} {o : pz_O}, R k x J i dp u I F o → R2 k x J i dp u I F o) (h : pz_FR K P R i dp u I F o) : pz_FR K P R2 i dp u I F o := by
  unfold pz_FR at h ⊢
  exact itm h (fun h => itm h (fun h => h) (fun h => qmm h (fun _ h => m h) (fun _ _ _ _ _ h => h))) (fun h => m h)
theorem mo_BH (m : ∀ {k : Nat} {x : Int} {J : List Int} {i : Nat} {dp u : Int} {I : List pz_I} {F : List pz_F} {o : pz_O}, R k x J i dp u I F o → R2 k x J i dp u I F o) (h : pz_BH R i dp u I F o) : pz_BH R2 i dp u I F o := by
  unfold pz_BH at h ⊢
  exact qmm h (fun _ h => m h) (fun _ _ _ _ _ h => m h)
theorem mo_FI49 (m : ∀ {k : Nat} {x : Int} {J : List Int} {i : Nat} {dp u : Int} {I : List pz_I} {F : List pz_F} {o : pz_O}, R k x J i dp u I F o → R2 k x J i dp u I F o) (h : pz_FI49 K P R i dp u I F o) : pz_FI49 K P R2 i dp u I F o := by
  unfold pz_FI49 at h ⊢
  exact qmm h (fun _ h => m h) (fun _ _ _ _ _ h => qmm h (fun _ h => m h) (fun _ _ _ _ _ h => qmm h (fun _ h => mo_es m h) (fun _ _ _ _ _ h => h)))
theorem mo_FI54 (m : ∀ {k : Nat} {x : Int} {J : List Int} {i : Nat} {dp u : Int} {I : List pz_I} {F : List pz_F} {o : pz_O}, R k x J i dp u I F o → R2 k x J i dp u I F o) (h : pz_FI54 K P R i dp u I F o) : pz_FI54 K P R2 i dp u I F o := by
  unfold pz_FI54 at h ⊢
  exact qmm h (fun _ h => mo_es m h) (fun _ _ _ _ _ h => h)
theorem mo_FI14 (m : ∀ {k : Nat} {x : Int} {J : List Int} {i : Nat} {dp u : Int} {I : List pz_I} {F : List pz_F} {o : pz_O}, R k x J i dp u I F o → R2 k x J i dp u I F o) (h : pz_FI14 K P R i dp u I F o) : pz_FI14 K P R2 i dp u I F o := by
  unfold pz_FI14 at h ⊢
  exact qfm h (fun _ _ _ _ _ h => qmm h (fun _ h => itm h (fun h => h) (fun h => m h)) (fun _ _ _ _ _ h => h))
theorem mo_FI12 (m : ∀ {k : Nat} {x : Int} {J : List Int} {i : Nat} {dp u : Int} {I : List pz_I} {F : List pz_F} {o : pz_O}, R k x J i dp u I F o → R2 k x J i dp u I F o) (h : pz_FI12 K P R i dp u I F o) : pz_FI12 K P R2 i dp u I F o := by
  unfold pz_FI12 at h ⊢
  exact qfm h (fun _ _ _ _ _ h => qmm h (fun _ h => itm h (fun h => h) (fun h => m h)) (fun _ _ _ _ _ h => h))
theorem mo_FI (m : ∀ {k : Nat} {x : Int} {J : List Int} {i : Nat} {dp u : Int} {I : List pz_I} {F : List pz_F} {o : pz_O}, R k x J i dp u I F o → R2 k x J i dp u I F o) (h : pz_FI K V P f R x i dp u I F o) : pz_FI K V P f R2 x i dp u I F o := by
  unfold pz_FI at h ⊢
  exact itm h (fun h => h) (fun h => itm h (fun h => h) (fun h => itm h (fun h => h) (fun h => itm h (fun h => h) (fun h => itm h (fun h => h) (fun h => itm h (fun h => qmm h (fun _ h => mo_cd m h) (fun _ _ _ _ _ h => h)) (fun h => itm h (mo_FI14 m) (fun h => itm h (mo_FI12 m) (fun h => itm h (fun h => itm h (fun h => h) (fun h => qmm h (fun _ h => mo_fn m h) (fun _ _ _ _ _ h => h))) (fun h => itm h (fun h => h) (fun h => itm h (fun h => h) (fun h => itm h (fun h => itm h (fun h => h) (mo_FI49 m)) (fun h => itm h (mo_FI54 m) (fun h => h)))))))))))))
theorem mo_BL (m : ∀ {k : Nat} {x : Int} {J : List Int} {i : Nat} {dp u : Int} {I : List pz_I} {F : List pz_F} {o : pz_O}, R k x J i dp u I F o → R2 k x J i dp u I F o) (h : pz_BL K V P R t i dp u I F o) : pz_BL K V P R2 t i dp u I F o := by
  unfold pz_BL at h ⊢
  exact itm h (fun h => qfm h (fun _ _ _ _ _ h => itm h (fun h => qmm h (fun _ h => mo_es m h) (fun _ _ _ _ _ h => m h)) (fun h => m h))) (fun h => itm h (fun h => qmm h (fun _ h => mo_el m h) (fun _ _ _ _ _ h => m h)) (fun h => itm h (fun h => qmm h (fun _ h => mo_es m h) (fun _ _ _ _ _ h => m h)) (fun h => h)))
theorem mo_VL (m : ∀ {k : Nat} {x : Int} {J : List Int} {i : Nat} {dp u : Int} {I : List pz_I} {F : List pz_F} {o : pz_O}, R k x J i dp u I F o → R2 k x J i dp u I F o) (h : pz_VL K P R x i dp u I F o) : pz_VL K P R2 x i dp u I F o := by
  unfold pz_VL at h ⊢
  exact itm h (fun h => h) (fun h => qmm h (fun _ h => m h) (fun _ _ _ _ _ h => itm h (fun h => m h) (fun h => h)))
theorem mo_LI (m : ∀ {k : Nat} {x : Int} {J : List Int} {i : Nat} {dp u : Int} {I : List pz_I} {F : List pz_F} {o : pz_O}, R k x J i dp u I F o → R2 k x J i dp u I F o) (h : pz_LI K R x i dp u I F o) : pz_LI K R2 x i dp u I F o := by
  unfold pz_LI at h ⊢
  exact qmm h (fun _ h => m h) (fun _ _ _ _ _ h => itm h (fun h => m h) (fun h => h))
theorem mo_OB (m : ∀ {k : Nat} {x : Int} {J : List Int} {i : Nat} {dp u : Int} {I : List pz_I} {F : List pz_F} {o : pz_O}, R k x J i dp u I F o → R2 k x J i dp u I F o) (h : pz_OB K V P R i dp u I F o) : pz_OB K V P R2 i dp u I F o := by
  unfold pz_OB at h ⊢
  exact qfm h (fun _ _ _ _ _ h => qfm h (fun _ _ _ _ _ h => qmm h (fun _ h => m h) (fun _ _ _ _ _ h => itm h (fun h => m h) (fun h => h))))
theorem mo_ML (m : ∀ {k : Nat} {x : Int} {J : List Int} {i : Nat} {dp u : Int} {I : List pz_I} {F : List pz_F} {o : pz_O}, R k x J i dp u I F o → R2 k x J i dp u I F o) (h : pz_ML K V P R i dp u I F o) : pz_ML K V P R2 i dp u I F o := by
  unfold pz_ML at h ⊢
  exact itm h (fun h => qfm h (fun _ _ _ _ _ h => m h)) (fun h => itm h (fun h => qmm h (fun _ h => mo_el m h) (fun _ _ _ _ _ h => m h)) (fun h => h))
end
/-- at the end of all, or of a block, no statement begins -/
theorem st_no (hX : w_X xs) (hx107 : pe_at (pe_GA xs).xs 107 = some (1, tx_101)) (hk : kq T n N X i = 0 ∨ kq T n N X i = 13) : rR xs T n N X f0 b0 b1 S0 1 0 [] i dp u I F (.inl (1 + 16 * tp T n 0 i)) := by
  have g9 : rR xs T n N X f0 b0 b1 S0 9 1 [] i dp u I F (.inl (1 + 16 * tp T n 0 i)) := me_fi hX hx107 (by
    unfold pz_FI
    repeat (first | rw [if_pos (by omega)] | rw [if_neg (by omega)])
    rfl)
  have g8 : rR xs T n N X f0 b0 b1 S0 8 0 [] i dp u I F (.inl (1 + 16 * tp T n 0 i)) := me_bh (Or.inl ⟨_, g9, rfl⟩)
  have g7 : rR xs T n N X f0 b0 b1 S0 7 0 [] i dp u I F (.inl (1 + 16 * tp T n 0 i)) := me_fr (by
    unfold pz_FR
    rw [if_neg (by omega)]
    exact g8)
  have a7 : rR xs T n N X f0 b0 b1 S0 5 7 [] i dp u I F (.inl (1 + 16 * tp T n 0 i)) := me_bin ⟨by decide, by decide⟩ (by unfold pz_E; rw [if_pos rfl]; exact g7)
  have a6 : rR xs T n N X f0 b0 b1 S0 5 6 [] i dp u I F (.inl (1 + 16 * tp T n 0 i)) := me_bin ⟨by decide, by decide⟩ (by unfold pz_E; rw [if_neg (by decide)]; exact Or.inl ⟨_, a7, rfl⟩)
  have a5 : rR xs T n N X f0 b0 b1 S0 5 5 [] i dp u I F (.inl (1 + 16 * tp T n 0 i)) := me_bin ⟨by decide, by decide⟩ (by unfold pz_E; rw [if_neg (by decide)]; exact Or.inl ⟨_, a6, rfl⟩)
  have a4 : rR xs T n N X f0 b0 b1 S0 5 4 [] i dp u I F (.inl (1 + 16 * tp T n 0 i)) := me_bin ⟨by decide, by decide⟩ (by unfold pz_E; rw [if_neg (by decide)]; exact Or.inl ⟨_, a5, rfl⟩)
  have a3 : rR xs T n N X f0 b0 b1 S0 5 3 [] i dp u I F (.inl (1 + 16 * tp T n 0 i)) := me_bin ⟨by decide, by decide⟩ (by unfold pz_E; rw [if_neg (by decide)]; exact Or.inl ⟨_, a4, rfl⟩)
  have a2 : rR xs T n N X f0 b0 b1 S0 5 2 [] i dp u I F (.inl (1 + 16 * tp T n 0 i)) := me_and (by unfold pz_E; rw [if_neg (by decide)]; exact Or.inl ⟨_, a3, rfl⟩)
  have a1 : rR xs T n N X f0 b0 b1 S0 5 1 [] i dp u I F (.inl (1 + 16 * tp T n 0 i)) := me_or (by unfold pz_E; rw [if_neg (by decide)]; exact Or.inl ⟨_, a2, rfl⟩)
  have g4 : rR xs T n N X f0 b0 b1 S0 4 0 [] i dp u I F (.inl (1 + 16 * tp T n 0 i)) := me_va (Or.inl ⟨_, a1, rfl⟩)
  refine me_st hX ?_
  unfold pz_ST
  rw [if_neg (by omega), if_neg (by omega), if_neg (by omega), if_neg (by omega), if_neg (by omega), if_neg (by omega)]
  unfold pz_STe
  rw [if_neg (by omega)]
  exact Or.inl ⟨_, g4, rfl⟩
theorem r5_no (h : ¬ (1 ≤ x ∧ x ≤ 7)) : rR xs T n N X f0 b0 b1 S0 5 x [] i dp u I F o := by
  show (if x = 1 then _ else if x = 2 then _ else (3 ≤ x ∧ x ≤ 7 → _))
  rw [if_neg (by omega), if_neg (by omega)]
  exact fun q => absurd q (by omega)
theorem r6_no (h : ¬ (1 ≤ x ∧ x ≤ 6)) : rR xs T n N X f0 b0 b1 S0 6 x [t] i dp u I F o := by
  show (if x = 1 then _ else if x = 2 then _ else (3 ≤ x ∧ x ≤ 6 → _))
  rw [if_neg (by omega), if_neg (by omega)]
  exact fun q => absurd q (by omega)
theorem me_E (hd : pz_E (rR xs T n N X f0 b0 b1 S0) x i dp u I F o) : rR xs T n N X f0 b0 b1 S0 5 x [] i dp u I F o := by
  by_cases h1 : x = 1
  · subst h1; exact me_or hd
  by_cases h2 : x = 2
  · subst h2; exact me_and hd
  by_cases h3 : 3 ≤ x ∧ x ≤ 7
  · exact me_bin h3 hd
  · exact r5_no (by omega)
theorem me_L (hd : pz_L (kq T n N X) (rR xs T n N X f0 b0 b1 S0) x t i dp u I F o) : rR xs T n N X f0 b0 b1 S0 6 x [t] i dp u I F o := by
  by_cases h1 : x = 1
  · subst h1; exact lp_or hd
  by_cases h2 : x = 2
  · subst h2; exact lp_and hd
  by_cases h3 : 3 ≤ x ∧ x ≤ 6
  · exact lp_bin h3 hd
  · exact r6_no (by omega)
theorem me_VL (hX : w_X xs) (hd : pz_VL (kq T n N X) (tp T n 0) (rR xs T n N X f0 b0 b1 S0) x i dp u I F o) : rR xs T n N X f0 b0 b1 S0 11 x [] i dp u I F o := fun hx => ⟨vl_values hX hx hd, fun _ => vl_builtin hX hx hd⟩
/-- the reference's parser keeps the grammar -/
theorem rRA_C (hX : w_X xs) (hx107 : pe_at (pe_GA xs).xs 107 = some (1, tx_101)) : pz_C (kq T n N X) (vq T n N X) (tp T n 0) f0 (rRA xs T n N X f0 b0 b1) :=
  ⟨fun i dp u I F o h S0 => lp_ss (mo_SS (fun q => q S0) h) (fun hk => st_no hX hx107 hk),
   fun i dp u I F o h S0 => me_st hX (mo_ST (fun q => q S0) h),
   fun x i dp u I F o h S0 => me_pm hX (mo_PM (fun q => q S0) h),
   fun J i dp u I F o h => me_ch hX h,
   fun i dp u I F o h S0 => me_va (mo_VA (fun q => q S0) h),
   fun l i dp u I F o h S0 => me_E (mo_E (fun q => q S0) h),
   fun l t i dp u I F o h S0 => me_L (mo_L (fun q => q S0) h),
   fun i dp u I F o h S0 => me_fr (mo_FR (fun q => q S0) h),
   fun i dp u I F o h S0 => me_bh (mo_BH (fun q => q S0) h),
   fun x i dp u I F o h S0 => me_fi hX hx107 (mo_FI (fun q => q S0) h),
   fun t i dp u I F o h S0 => lp_bh hX (mo_BL (fun q => q S0) h),
   fun x i dp u I F o h S0 => me_VL hX (mo_VL (fun q => q S0) h),
   fun x i dp u I F o h S0 => lp_li (mo_LI (fun q => q S0) h),
   fun i dp u I F o h S0 => lp_ob hX (mo_OB (fun q => q S0) h),
   fun i dp u I F o h S0 => lp_mk hX (mo_ML (fun q => q S0) h)⟩
end Wcq
