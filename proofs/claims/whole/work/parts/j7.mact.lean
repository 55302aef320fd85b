/-! PART j7: acting at a site by tasks: a property is read or set: of the reference. -/
section Wj7
variable {xs : List (Nat × List Int32)} {M : Nat → Prop} {d : Nat} {Y : wS} {K : aK} {T : List aO} {L : List aC} {G : Int → aV} {sl : Nat → List Int} {t s kd gk gb hd wh e50 k v es : Int} {ba : Nat} {a : aV}
theorem rTk_gv (h : rTk t Y K) (ht : 0 ≤ t ∧ t ≤ 1) (h0 : 0 < K.2.1.length) (hba : ba ≤ K.1.length) (hv : rVl Y k v a) : rTk t (gvZ t (ba : Int) (200 * t + (K.2.1.length : Int) - 1) (K.2.1.getD (K.2.1.length - 1) (0, 0, 0, (0, 0, []), 0, 0, 0)).2.1 k v Y) (kP K (K.1.length - ba) a) := by
  have e : K.1.length - (K.1.length - ba) = ba := by omega
  have h1 := rTk_tk h hba
  have h2 := rTk_pU (n := (ba : Int)) h1 ht (by show (ba : Int) = ((K.1.take ba).length : Int); rw [List.length_take]; omega) (rVl_mo hv (rTx_of rfl rfl (fun j x j0 j1 => w_up_slot (by omega))))
  have h3 := rTk_nx (q := (K.2.1.getD (K.2.1.length - 1) (0, 0, 0, (0, 0, []), 0, 0, 0)).2.1 + 1) h2 h0
  unfold kP
  rw [e]
  exact h3
theorem gvZ_f (ht : 0 ≤ t ∧ t ≤ 1) (hK : 0 < K.2.1.length ∧ K.2.1.length ≤ 200) (hba : ba ≤ 2001) : rTf t Y (gvZ t (ba : Int) (200 * t + (K.2.1.length : Int) - 1) (K.2.1.getD (K.2.1.length - 1) (0, 0, 0, (0, 0, []), 0, 0, 0)).2.1 k v Y) := by
  refine rTf_up (rTf_up (rTf_up (rTf_up (rTf_up rTf_rfl ?_) ?_) ?_) ?_) ?_ <;> (unfold rOut; omega)
theorem gvZ_w (hW : rWd Y sl T L G) : rWd (gvZ t (ba : Int) (200 * t + (K.2.1.length : Int) - 1) (K.2.1.getD (K.2.1.length - 1) (0, 0, 0, (0, 0, []), 0, 0, 0)).2.1 k v Y) sl T L G := rWd_up (rWd_up (rWd_up (rWd_up (rWd_up hW (by first | decide | omega)) (by first | decide | omega)) (by first | decide | omega)) (by first | decide | omega)) (by first | decide | omega)
theorem slot_v (hW : rWd Y sl T L G) (h0 : 0 ≤ hd ∧ hd < (T.length : Int)) (h82 : Y 237 82 ≤ 60000) (hwh : 0 ≤ wh ∧ wh < ((tO T hd).2.2.2.2.2.2.length : Int)) : (wh < ((sl hd.toNat).length : Int) ∧ slC Y hd (sl hd.toNat)) ∧ (0 ≤ (sl hd.toNat).getD wh.toNat 0 ∧ (sl hd.toNat).getD wh.toNat 0 < 60000) ∧ rVl Y (Y 325 ((sl hd.toNat).getD wh.toNat 0)) (Y 326 ((sl hd.toNat).getD wh.toNat 0)) (gvA T hd wh) := by
  obtain ⟨-, ⟨b1, b2⟩, b3, b4, -⟩ := hW.1.2 hd.toNat (by omega)
  replace b2 : (sl hd.toNat).length = (tO T hd).2.2.2.2.2.2.length := b2
  rw [show ((hd.toNat : Nat) : Int) = hd by omega] at b1 b3
  obtain ⟨c1, -, c3, -⟩ := b4 wh.toNat (by omega)
  refine ⟨⟨by omega, ⟨by rw [b1, b2], fun z => (b3 z).1, fun q hq => ⟨by have := (b4 q hq).1; omega, (b4 q hq).2.2.2⟩⟩⟩, by omega, ?_⟩
  unfold gvA
  rw [if_neg (by omega)]
  exact c3
theorem rgt (hP : mP t (K.2.1.length : Int) (K.2.1.getD (K.2.1.length - 1) (0, 0, 0, (0, 0, []), 0, 0, 0)).2.1 (K.1.length : Int) (200 * t + (K.2.1.length : Int) - 1) Y) (hK : rTk t Y K) (hW : rWd Y sl T L G) (ht : 0 ≤ t ∧ t ≤ 1) (hKl : 0 < K.2.1.length ∧ K.2.1.length ≤ 200 ∧ K.1.length ≤ 2001) (hT : (T.length : Int) ≤ 8000) (h82 : Y 237 82 ≤ 60000) (hll : ∀ q : Nat, q < T.length → (sl q).length ≤ 60000) (h73 : Y 237 173 = 2100 * t + (ba : Int)) (hba : ba < K.1.length) (h74 : Y 237 174 = gk) (h75 : Y 237 175 = gb) (h76 : Y 237 176 = es) (hgb : 0 ≤ gb ∧ gb < (T.length : Int)) (h69 : Y 237 169 = e50) (h70 : Y 237 170 = wh) (hhd : (e50 = -1 ∧ hd = gb) ∨ (e50 ≠ -1 ∧ hd = e50)) (hh0 : 0 ≤ hd ∧ hd < (T.length : Int)) (hwh : wh = -1 ∨ (0 ≤ wh ∧ wh < ((tO T hd).2.2.2.2.2.2.length : Int))) (hkd : kd = 0 ∨ kd = 2) (hvk : 0 ≤ (gvA T hd wh).1 ∧ (gvA T hd wh).1 ≤ 8) (hvb : ∀ i : Int, 0 ≤ i → i < 60000 → -9223372036854775808 ≤ Y 326 i ∧ Y 326 i ≤ 9223372036854775807) : wJ (pe_GA xs) wY0 M (d + 8) t_M_actsOnThing ((pe_at t_M_actsOnThing.bl 0).getD (0, [])).2 [(0, (2, 237)), (1, (0, s)), (2, (0, kd))] [] Y (fun o Z => o = .inl none ∧ rTk t Z (kP K (K.1.length - ba) (gvA T hd wh)) ∧ rWd Z sl T L G ∧ rTf t Y Z) := by
  have hif : (if e50 = -1 then gb else e50) = hd := by
    rcases hhd with ⟨z1, z2⟩ | ⟨z1, z2⟩
    · rw [if_pos z1, z2]
    · rw [if_neg z1, z2]
  obtain ⟨vk, vb, hvv, hcv⟩ : ∃ vk vb : Int, ((wh = -1 ∧ vk = 0 ∧ vb = 0) ∨ (0 ≤ wh ∧ wh < ((sl hd.toNat).length : Int) ∧ (sl hd.toNat).length ≤ 60000 ∧ slC Y (if e50 = -1 then gb else e50) (sl hd.toNat) ∧ (sl hd.toNat).getD wh.toNat 0 = (sl hd.toNat).getD wh.toNat 0 ∧ Y 325 ((sl hd.toNat).getD wh.toNat 0) = vk ∧ Y 326 ((sl hd.toNat).getD wh.toNat 0) = vb)) ∧ rVl Y vk vb (gvA T hd wh) ∧ (-9223372036854775808 ≤ vb ∧ vb ≤ 9223372036854775807) := by
    rcases hwh with c | c
    · exact ⟨0, 0, Or.inl ⟨c, rfl, rfl⟩, by unfold gvA; rw [if_pos c]; exact ⟨rfl, fun _ => ⟨rfl, rfl⟩, fun z => absurd z (by first | decide | omega)⟩, by decide⟩
    · obtain ⟨⟨z1, z2⟩, z3, z4⟩ := slot_v hW hh0 h82 c
      exact ⟨_, _, Or.inr ⟨c.1, z1, hll _ (by omega), by rw [hif]; exact z2, rfl, rfl, rfl⟩, z4, hvb _ z3.1 z3.2⟩
  have hk2 := hcv.1.1
  refine wJ_mono (rag_ok (d := d) (l := sl hd.toNat) (sl := (sl hd.toNat).getD wh.toNat 0) (vk := vk) (vb := vb) (hd := e50) (wh := wh) hP h73 ⟨by omega, by omega⟩ h74 h75 ⟨hgb.1, by omega⟩ h76 h69 h70 ⟨by omega, by omega⟩ hvv (by omega) hcv.2 hkd) (fun o Z hq => ?_)
  obtain ⟨rfl, rfl⟩ := hq
  exact ⟨rfl, rTk_gv hK ht hKl.1 (by omega) hcv.1, gvZ_w hW, gvZ_f ht ⟨hKl.1, hKl.2.1⟩ (by omega)⟩
end Wj7
