/-! PART eq: texts compared, by tasks. -/
section Weq
variable {xs : List (Nat × List Int32)} {d : Nat} {S Z A B : wS} {K Kr : aK} {k v q t a b : Int} {u : aV} {w m : Nat}
/-- the class's pool of signs; the reference's rows of texts -/
def cTt (S : wS) : Prop := 0 ≤ S 2 1 ∧ S 2 1 ≤ S 3 (-1) ∧ S 3 (-1) ≤ 10000000
def rTt (S : wS) : Prop := (0 ≤ S 237 19 ∧ S 237 19 ≤ 4000) ∧ (0 ≤ S 237 102 ∧ S 237 102 ≤ 12000) ∧ ∀ x : Int, ((0 ≤ x ∧ x < S 237 19) ∨ (4000 ≤ x ∧ x < 4000 + S 237 102)) → 0 ≤ S 284 x ∧ 0 ≤ S 285 x ∧ S 284 x + S 285 x ≤ 269632
/-- texts compared: how far apart -/
theorem cmpL_rg {n : Int} (hn : 0 ≤ n) : ∀ (l m : List Int), (∀ x ∈ l, 0 ≤ x ∧ x ≤ 255) → (∀ x ∈ m, 0 ≤ x ∧ x ≤ 255) → (l.length : Int) ≤ n → (m.length : Int) ≤ n → -(n + 255) ≤ cmpL l m ∧ cmpL l m ≤ n + 255
  | [], m, _, _, _, h4 => by
    have : cmpL [] m = -(m.length : Int) := by cases m <;> rfl
    rw [this]; omega
  | x :: l, [], _, _, h3, _ => by
    rw [cmpL_nil]; omega
  | x :: l, y :: m, h1, h2, h3, h4 => by
    have a1 := h1 x List.mem_cons_self
    have a2 := h2 y List.mem_cons_self
    have l1 : ((x :: l).length : Int) = (l.length : Int) + 1 := rfl
    have l2 : ((y :: m).length : Int) = (m.length : Int) + 1 := rfl
    show -(n + 255) ≤ (if x = y then cmpL l m else x - y) ∧ (if x = y then cmpL l m else x - y) ≤ n + 255
    split
    · exact cmpL_rg hn l m (fun z hz => h1 z (List.mem_cons_of_mem _ hz)) (fun z hz => h2 z (List.mem_cons_of_mem _ hz)) (by omega) (by omega)
    · omega
theorem z14t_215 (h : stC 215 S K) (hi : cIn S K 14 a b) (hh : 2 ≤ K.1.length) (hx : (K.1.getD (K.1.length - 2) (0, 0, [])).1 = 3) (hy : (K.1.getD (K.1.length - 1) (0, 0, [])).1 = 3) (hT : cTt S) (hr : -1000000 ≤ cmpL (K.1.getD (K.1.length - 2) (0, 0, [])).2.2 (K.1.getD (K.1.length - 1) (0, 0, [])).2.2 ∧ cmpL (K.1.getD (K.1.length - 2) (0, 0, [])).2.2 (K.1.getD (K.1.length - 1) (0, 0, [])).2.2 ≤ 1000000) : cSt xs d 215 S (kP K 2 (1, if cmpL (K.1.getD (K.1.length - 2) (0, 0, [])).2.2 (K.1.getD (K.1.length - 1) (0, 0, [])).2.2 = 0 then 1 else 0, [])) := by
  obtain ⟨t0, t1, t2⟩ := hT
  obtain ⟨y1, -, y3⟩ := c_at h.1 (i := K.1.length - 1) (by omega) (j := (K.1.length : Int) - 1) (by omega)
  obtain ⟨x1, -, x3⟩ := c_at h.1 (i := K.1.length - 2) (by omega) (j := (K.1.length : Int) - 1 - 1) (by omega)
  obtain ⟨-, sx, vx, ax, bx, cx⟩ := x3 hx
  obtain ⟨-, sy, vy, ay, by_, cy⟩ := y3 hy
  exact cs_o_215 (m := 2) h hi.1 hi.2.1 hi.2.2 (by decide) (fun q => by omega) (fun x hx => hx) (by unfold mS; decide) (x14t_215 (l1 := (K.1.getD (K.1.length - 2) (0, 0, [])).2.2) (l2 := (K.1.getD (K.1.length - 1) (0, 0, [])).2.2) (xP_of (Or.inl rfl) h) (c_16 (y1.trans hy) (by decide)) (c_16 vy (by decide)) (c_16 (x1.trans hx) (by decide)) (c_16 vx (by decide)) (by omega) ⟨ax, by rw [w_up_slot (by decide)]; omega⟩ ⟨ay, by rw [w_up_slot (by decide)]; omega⟩ (by rw [w_up_slot (by decide)]; exact t2) (fun i hi => (w_up_slot (by decide)).trans (cx i hi)) (fun i hi => (w_up_slot (by decide)).trans (cy i hi)) rfl rfl hr) rfl (by omega) (cV_e (by decide) rfl)
theorem z15t_215 (h : stC 215 S K) (hi : cIn S K 15 a b) (hh : 2 ≤ K.1.length) (hx : (K.1.getD (K.1.length - 2) (0, 0, [])).1 = 3) (hy : (K.1.getD (K.1.length - 1) (0, 0, [])).1 = 3) (hT : cTt S) (hr : -1000000 ≤ cmpL (K.1.getD (K.1.length - 2) (0, 0, [])).2.2 (K.1.getD (K.1.length - 1) (0, 0, [])).2.2 ∧ cmpL (K.1.getD (K.1.length - 2) (0, 0, [])).2.2 (K.1.getD (K.1.length - 1) (0, 0, [])).2.2 ≤ 1000000) : cSt xs d 215 S (kP K 2 (1, if cmpL (K.1.getD (K.1.length - 2) (0, 0, [])).2.2 (K.1.getD (K.1.length - 1) (0, 0, [])).2.2 = 0 then 0 else 1, [])) := by
  obtain ⟨t0, t1, t2⟩ := hT
  obtain ⟨y1, -, y3⟩ := c_at h.1 (i := K.1.length - 1) (by omega) (j := (K.1.length : Int) - 1) (by omega)
  obtain ⟨x1, -, x3⟩ := c_at h.1 (i := K.1.length - 2) (by omega) (j := (K.1.length : Int) - 1 - 1) (by omega)
  obtain ⟨-, sx, vx, ax, bx, cx⟩ := x3 hx
  obtain ⟨-, sy, vy, ay, by_, cy⟩ := y3 hy
  exact cs_o_215 (m := 2) h hi.1 hi.2.1 hi.2.2 (by decide) (fun q => by omega) (fun x hx => hx) (by unfold mS; decide) (x15t_215 (l1 := (K.1.getD (K.1.length - 2) (0, 0, [])).2.2) (l2 := (K.1.getD (K.1.length - 1) (0, 0, [])).2.2) (xP_of (Or.inl rfl) h) (c_16 (y1.trans hy) (by decide)) (c_16 vy (by decide)) (c_16 (x1.trans hx) (by decide)) (c_16 vx (by decide)) (by omega) ⟨ax, by rw [w_up_slot (by decide)]; omega⟩ ⟨ay, by rw [w_up_slot (by decide)]; omega⟩ (by rw [w_up_slot (by decide)]; exact t2) (fun i hi => (w_up_slot (by decide)).trans (cx i hi)) (fun i hi => (w_up_slot (by decide)).trans (cy i hi)) rfl rfl hr) rfl (by omega) (cV_e (by decide) rfl)
theorem z16t_215 (h : stC 215 S K) (hi : cIn S K 16 a b) (hh : 2 ≤ K.1.length) (hx : (K.1.getD (K.1.length - 2) (0, 0, [])).1 = 3) (hy : (K.1.getD (K.1.length - 1) (0, 0, [])).1 = 3) (hT : cTt S) (hr : -1000000 ≤ cmpL (K.1.getD (K.1.length - 2) (0, 0, [])).2.2 (K.1.getD (K.1.length - 1) (0, 0, [])).2.2 ∧ cmpL (K.1.getD (K.1.length - 2) (0, 0, [])).2.2 (K.1.getD (K.1.length - 1) (0, 0, [])).2.2 ≤ 1000000) : cSt xs d 215 S (kP K 2 (1, if cmpL (K.1.getD (K.1.length - 2) (0, 0, [])).2.2 (K.1.getD (K.1.length - 1) (0, 0, [])).2.2 < 0 then 1 else 0, [])) := by
  obtain ⟨t0, t1, t2⟩ := hT
  obtain ⟨y1, -, y3⟩ := c_at h.1 (i := K.1.length - 1) (by omega) (j := (K.1.length : Int) - 1) (by omega)
  obtain ⟨x1, -, x3⟩ := c_at h.1 (i := K.1.length - 2) (by omega) (j := (K.1.length : Int) - 1 - 1) (by omega)
  obtain ⟨-, sx, vx, ax, bx, cx⟩ := x3 hx
  obtain ⟨-, sy, vy, ay, by_, cy⟩ := y3 hy
  exact cs_o_215 (m := 2) h hi.1 hi.2.1 hi.2.2 (by decide) (fun q => by omega) (fun x hx => hx) (by unfold mS; decide) (x16t_215 (l1 := (K.1.getD (K.1.length - 2) (0, 0, [])).2.2) (l2 := (K.1.getD (K.1.length - 1) (0, 0, [])).2.2) (xP_of (Or.inl rfl) h) (c_16 (y1.trans hy) (by decide)) (c_16 vy (by decide)) (c_16 (x1.trans hx) (by decide)) (c_16 vx (by decide)) (by omega) ⟨ax, by rw [w_up_slot (by decide)]; omega⟩ ⟨ay, by rw [w_up_slot (by decide)]; omega⟩ (by rw [w_up_slot (by decide)]; exact t2) (fun i hi => (w_up_slot (by decide)).trans (cx i hi)) (fun i hi => (w_up_slot (by decide)).trans (cy i hi)) rfl rfl hr) rfl (by omega) (cV_e (by decide) rfl)
theorem z17t_215 (h : stC 215 S K) (hi : cIn S K 17 a b) (hh : 2 ≤ K.1.length) (hx : (K.1.getD (K.1.length - 2) (0, 0, [])).1 = 3) (hy : (K.1.getD (K.1.length - 1) (0, 0, [])).1 = 3) (hT : cTt S) (hr : -1000000 ≤ cmpL (K.1.getD (K.1.length - 2) (0, 0, [])).2.2 (K.1.getD (K.1.length - 1) (0, 0, [])).2.2 ∧ cmpL (K.1.getD (K.1.length - 2) (0, 0, [])).2.2 (K.1.getD (K.1.length - 1) (0, 0, [])).2.2 ≤ 1000000) : cSt xs d 215 S (kP K 2 (1, if cmpL (K.1.getD (K.1.length - 2) (0, 0, [])).2.2 (K.1.getD (K.1.length - 1) (0, 0, [])).2.2 ≤ 0 then 1 else 0, [])) := by
  obtain ⟨t0, t1, t2⟩ := hT
  obtain ⟨y1, -, y3⟩ := c_at h.1 (i := K.1.length - 1) (by omega) (j := (K.1.length : Int) - 1) (by omega)
  obtain ⟨x1, -, x3⟩ := c_at h.1 (i := K.1.length - 2) (by omega) (j := (K.1.length : Int) - 1 - 1) (by omega)
  obtain ⟨-, sx, vx, ax, bx, cx⟩ := x3 hx
  obtain ⟨-, sy, vy, ay, by_, cy⟩ := y3 hy
  exact cs_o_215 (m := 2) h hi.1 hi.2.1 hi.2.2 (by decide) (fun q => by omega) (fun x hx => hx) (by unfold mS; decide) (x17t_215 (l1 := (K.1.getD (K.1.length - 2) (0, 0, [])).2.2) (l2 := (K.1.getD (K.1.length - 1) (0, 0, [])).2.2) (xP_of (Or.inl rfl) h) (c_16 (y1.trans hy) (by decide)) (c_16 vy (by decide)) (c_16 (x1.trans hx) (by decide)) (c_16 vx (by decide)) (by omega) ⟨ax, by rw [w_up_slot (by decide)]; omega⟩ ⟨ay, by rw [w_up_slot (by decide)]; omega⟩ (by rw [w_up_slot (by decide)]; exact t2) (fun i hi => (w_up_slot (by decide)).trans (cx i hi)) (fun i hi => (w_up_slot (by decide)).trans (cy i hi)) rfl rfl hr) rfl (by omega) (cV_e (by decide) rfl)
theorem z18t_215 (h : stC 215 S K) (hi : cIn S K 18 a b) (hh : 2 ≤ K.1.length) (hx : (K.1.getD (K.1.length - 2) (0, 0, [])).1 = 3) (hy : (K.1.getD (K.1.length - 1) (0, 0, [])).1 = 3) (hT : cTt S) (hr : -1000000 ≤ cmpL (K.1.getD (K.1.length - 2) (0, 0, [])).2.2 (K.1.getD (K.1.length - 1) (0, 0, [])).2.2 ∧ cmpL (K.1.getD (K.1.length - 2) (0, 0, [])).2.2 (K.1.getD (K.1.length - 1) (0, 0, [])).2.2 ≤ 1000000) : cSt xs d 215 S (kP K 2 (1, if 0 < cmpL (K.1.getD (K.1.length - 2) (0, 0, [])).2.2 (K.1.getD (K.1.length - 1) (0, 0, [])).2.2 then 1 else 0, [])) := by
  obtain ⟨t0, t1, t2⟩ := hT
  obtain ⟨y1, -, y3⟩ := c_at h.1 (i := K.1.length - 1) (by omega) (j := (K.1.length : Int) - 1) (by omega)
  obtain ⟨x1, -, x3⟩ := c_at h.1 (i := K.1.length - 2) (by omega) (j := (K.1.length : Int) - 1 - 1) (by omega)
  obtain ⟨-, sx, vx, ax, bx, cx⟩ := x3 hx
  obtain ⟨-, sy, vy, ay, by_, cy⟩ := y3 hy
  exact cs_o_215 (m := 2) h hi.1 hi.2.1 hi.2.2 (by decide) (fun q => by omega) (fun x hx => hx) (by unfold mS; decide) (x18t_215 (l1 := (K.1.getD (K.1.length - 2) (0, 0, [])).2.2) (l2 := (K.1.getD (K.1.length - 1) (0, 0, [])).2.2) (xP_of (Or.inl rfl) h) (c_16 (y1.trans hy) (by decide)) (c_16 vy (by decide)) (c_16 (x1.trans hx) (by decide)) (c_16 vx (by decide)) (by omega) ⟨ax, by rw [w_up_slot (by decide)]; omega⟩ ⟨ay, by rw [w_up_slot (by decide)]; omega⟩ (by rw [w_up_slot (by decide)]; exact t2) (fun i hi => (w_up_slot (by decide)).trans (cx i hi)) (fun i hi => (w_up_slot (by decide)).trans (cy i hi)) rfl rfl hr) rfl (by omega) (cV_e (by decide) rfl)
theorem z19t_215 (h : stC 215 S K) (hi : cIn S K 19 a b) (hh : 2 ≤ K.1.length) (hx : (K.1.getD (K.1.length - 2) (0, 0, [])).1 = 3) (hy : (K.1.getD (K.1.length - 1) (0, 0, [])).1 = 3) (hT : cTt S) (hr : -1000000 ≤ cmpL (K.1.getD (K.1.length - 2) (0, 0, [])).2.2 (K.1.getD (K.1.length - 1) (0, 0, [])).2.2 ∧ cmpL (K.1.getD (K.1.length - 2) (0, 0, [])).2.2 (K.1.getD (K.1.length - 1) (0, 0, [])).2.2 ≤ 1000000) : cSt xs d 215 S (kP K 2 (1, if 0 ≤ cmpL (K.1.getD (K.1.length - 2) (0, 0, [])).2.2 (K.1.getD (K.1.length - 1) (0, 0, [])).2.2 then 1 else 0, [])) := by
  obtain ⟨t0, t1, t2⟩ := hT
  obtain ⟨y1, -, y3⟩ := c_at h.1 (i := K.1.length - 1) (by omega) (j := (K.1.length : Int) - 1) (by omega)
  obtain ⟨x1, -, x3⟩ := c_at h.1 (i := K.1.length - 2) (by omega) (j := (K.1.length : Int) - 1 - 1) (by omega)
  obtain ⟨-, sx, vx, ax, bx, cx⟩ := x3 hx
  obtain ⟨-, sy, vy, ay, by_, cy⟩ := y3 hy
  exact cs_o_215 (m := 2) h hi.1 hi.2.1 hi.2.2 (by decide) (fun q => by omega) (fun x hx => hx) (by unfold mS; decide) (x19t_215 (l1 := (K.1.getD (K.1.length - 2) (0, 0, [])).2.2) (l2 := (K.1.getD (K.1.length - 1) (0, 0, [])).2.2) (xP_of (Or.inl rfl) h) (c_16 (y1.trans hy) (by decide)) (c_16 vy (by decide)) (c_16 (x1.trans hx) (by decide)) (c_16 vx (by decide)) (by omega) ⟨ax, by rw [w_up_slot (by decide)]; omega⟩ ⟨ay, by rw [w_up_slot (by decide)]; omega⟩ (by rw [w_up_slot (by decide)]; exact t2) (fun i hi => (w_up_slot (by decide)).trans (cx i hi)) (fun i hi => (w_up_slot (by decide)).trans (cy i hi)) rfl rfl hr) rfl (by omega) (cV_e (by decide) rfl)
theorem z14t_226 (h : stC 226 S K) (hi : cIn S K 14 a b) (hh : 2 ≤ K.1.length) (hx : (K.1.getD (K.1.length - 2) (0, 0, [])).1 = 3) (hy : (K.1.getD (K.1.length - 1) (0, 0, [])).1 = 3) (hT : cTt S) (hr : -1000000 ≤ cmpL (K.1.getD (K.1.length - 2) (0, 0, [])).2.2 (K.1.getD (K.1.length - 1) (0, 0, [])).2.2 ∧ cmpL (K.1.getD (K.1.length - 2) (0, 0, [])).2.2 (K.1.getD (K.1.length - 1) (0, 0, [])).2.2 ≤ 1000000) : cSt xs d 226 S (kP K 2 (1, if cmpL (K.1.getD (K.1.length - 2) (0, 0, [])).2.2 (K.1.getD (K.1.length - 1) (0, 0, [])).2.2 = 0 then 1 else 0, [])) := by
  obtain ⟨t0, t1, t2⟩ := hT
  obtain ⟨y1, -, y3⟩ := c_at h.1 (i := K.1.length - 1) (by omega) (j := (K.1.length : Int) - 1) (by omega)
  obtain ⟨x1, -, x3⟩ := c_at h.1 (i := K.1.length - 2) (by omega) (j := (K.1.length : Int) - 1 - 1) (by omega)
  obtain ⟨-, sx, vx, ax, bx, cx⟩ := x3 hx
  obtain ⟨-, sy, vy, ay, by_, cy⟩ := y3 hy
  exact cs_o_226 (m := 2) h hi.1 hi.2.1 hi.2.2 (by decide) (fun q => by omega) (fun x hx => hx) (by unfold mS; decide) (x14t_226 (l1 := (K.1.getD (K.1.length - 2) (0, 0, [])).2.2) (l2 := (K.1.getD (K.1.length - 1) (0, 0, [])).2.2) (xP_of (Or.inr rfl) h) (c_16 (y1.trans hy) (by decide)) (c_16 vy (by decide)) (c_16 (x1.trans hx) (by decide)) (c_16 vx (by decide)) (by omega) ⟨ax, by rw [w_up_slot (by decide)]; omega⟩ ⟨ay, by rw [w_up_slot (by decide)]; omega⟩ (by rw [w_up_slot (by decide)]; exact t2) (fun i hi => (w_up_slot (by decide)).trans (cx i hi)) (fun i hi => (w_up_slot (by decide)).trans (cy i hi)) rfl rfl hr) rfl (by omega) (cV_e (by decide) rfl)
theorem z15t_226 (h : stC 226 S K) (hi : cIn S K 15 a b) (hh : 2 ≤ K.1.length) (hx : (K.1.getD (K.1.length - 2) (0, 0, [])).1 = 3) (hy : (K.1.getD (K.1.length - 1) (0, 0, [])).1 = 3) (hT : cTt S) (hr : -1000000 ≤ cmpL (K.1.getD (K.1.length - 2) (0, 0, [])).2.2 (K.1.getD (K.1.length - 1) (0, 0, [])).2.2 ∧ cmpL (K.1.getD (K.1.length - 2) (0, 0, [])).2.2 (K.1.getD (K.1.length - 1) (0, 0, [])).2.2 ≤ 1000000) : cSt xs d 226 S (kP K 2 (1, if cmpL (K.1.getD (K.1.length - 2) (0, 0, [])).2.2 (K.1.getD (K.1.length - 1) (0, 0, [])).2.2 = 0 then 0 else 1, [])) := by
  obtain ⟨t0, t1, t2⟩ := hT
  obtain ⟨y1, -, y3⟩ := c_at h.1 (i := K.1.length - 1) (by omega) (j := (K.1.length : Int) - 1) (by omega)
  obtain ⟨x1, -, x3⟩ := c_at h.1 (i := K.1.length - 2) (by omega) (j := (K.1.length : Int) - 1 - 1) (by omega)
  obtain ⟨-, sx, vx, ax, bx, cx⟩ := x3 hx
  obtain ⟨-, sy, vy, ay, by_, cy⟩ := y3 hy
  exact cs_o_226 (m := 2) h hi.1 hi.2.1 hi.2.2 (by decide) (fun q => by omega) (fun x hx => hx) (by unfold mS; decide) (x15t_226 (l1 := (K.1.getD (K.1.length - 2) (0, 0, [])).2.2) (l2 := (K.1.getD (K.1.length - 1) (0, 0, [])).2.2) (xP_of (Or.inr rfl) h) (c_16 (y1.trans hy) (by decide)) (c_16 vy (by decide)) (c_16 (x1.trans hx) (by decide)) (c_16 vx (by decide)) (by omega) ⟨ax, by rw [w_up_slot (by decide)]; omega⟩ ⟨ay, by rw [w_up_slot (by decide)]; omega⟩ (by rw [w_up_slot (by decide)]; exact t2) (fun i hi => (w_up_slot (by decide)).trans (cx i hi)) (fun i hi => (w_up_slot (by decide)).trans (cy i hi)) rfl rfl hr) rfl (by omega) (cV_e (by decide) rfl)
theorem z16t_226 (h : stC 226 S K) (hi : cIn S K 16 a b) (hh : 2 ≤ K.1.length) (hx : (K.1.getD (K.1.length - 2) (0, 0, [])).1 = 3) (hy : (K.1.getD (K.1.length - 1) (0, 0, [])).1 = 3) (hT : cTt S) (hr : -1000000 ≤ cmpL (K.1.getD (K.1.length - 2) (0, 0, [])).2.2 (K.1.getD (K.1.length - 1) (0, 0, [])).2.2 ∧ cmpL (K.1.getD (K.1.length - 2) (0, 0, [])).2.2 (K.1.getD (K.1.length - 1) (0, 0, [])).2.2 ≤ 1000000) : cSt xs d 226 S (kP K 2 (1, if cmpL (K.1.getD (K.1.length - 2) (0, 0, [])).2.2 (K.1.getD (K.1.length - 1) (0, 0, [])).2.2 < 0 then 1 else 0, [])) := by
  obtain ⟨t0, t1, t2⟩ := hT
  obtain ⟨y1, -, y3⟩ := c_at h.1 (i := K.1.length - 1) (by omega) (j := (K.1.length : Int) - 1) (by omega)
  obtain ⟨x1, -, x3⟩ := c_at h.1 (i := K.1.length - 2) (by omega) (j := (K.1.length : Int) - 1 - 1) (by omega)
  obtain ⟨-, sx, vx, ax, bx, cx⟩ := x3 hx
  obtain ⟨-, sy, vy, ay, by_, cy⟩ := y3 hy
  exact cs_o_226 (m := 2) h hi.1 hi.2.1 hi.2.2 (by decide) (fun q => by omega) (fun x hx => hx) (by unfold mS; decide) (x16t_226 (l1 := (K.1.getD (K.1.length - 2) (0, 0, [])).2.2) (l2 := (K.1.getD (K.1.length - 1) (0, 0, [])).2.2) (xP_of (Or.inr rfl) h) (c_16 (y1.trans hy) (by decide)) (c_16 vy (by decide)) (c_16 (x1.trans hx) (by decide)) (c_16 vx (by decide)) (by omega) ⟨ax, by rw [w_up_slot (by decide)]; omega⟩ ⟨ay, by rw [w_up_slot (by decide)]; omega⟩ (by rw [w_up_slot (by decide)]; exact t2) (fun i hi => (w_up_slot (by decide)).trans (cx i hi)) (fun i hi => (w_up_slot (by decide)).trans (cy i hi)) rfl rfl hr) rfl (by omega) (cV_e (by decide) rfl)
theorem z17t_226 (h : stC 226 S K) (hi : cIn S K 17 a b) (hh : 2 ≤ K.1.length) (hx : (K.1.getD (K.1.length - 2) (0, 0, [])).1 = 3) (hy : (K.1.getD (K.1.length - 1) (0, 0, [])).1 = 3) (hT : cTt S) (hr : -1000000 ≤ cmpL (K.1.getD (K.1.length - 2) (0, 0, [])).2.2 (K.1.getD (K.1.length - 1) (0, 0, [])).2.2 ∧ cmpL (K.1.getD (K.1.length - 2) (0, 0, [])).2.2 (K.1.getD (K.1.length - 1) (0, 0, [])).2.2 ≤ 1000000) : cSt xs d 226 S (kP K 2 (1, if cmpL (K.1.getD (K.1.length - 2) (0, 0, [])).2.2 (K.1.getD (K.1.length - 1) (0, 0, [])).2.2 ≤ 0 then 1 else 0, [])) := by
  obtain ⟨t0, t1, t2⟩ := hT
  obtain ⟨y1, -, y3⟩ := c_at h.1 (i := K.1.length - 1) (by omega) (j := (K.1.length : Int) - 1) (by omega)
  obtain ⟨x1, -, x3⟩ := c_at h.1 (i := K.1.length - 2) (by omega) (j := (K.1.length : Int) - 1 - 1) (by omega)
  obtain ⟨-, sx, vx, ax, bx, cx⟩ := x3 hx
  obtain ⟨-, sy, vy, ay, by_, cy⟩ := y3 hy
  exact cs_o_226 (m := 2) h hi.1 hi.2.1 hi.2.2 (by decide) (fun q => by omega) (fun x hx => hx) (by unfold mS; decide) (x17t_226 (l1 := (K.1.getD (K.1.length - 2) (0, 0, [])).2.2) (l2 := (K.1.getD (K.1.length - 1) (0, 0, [])).2.2) (xP_of (Or.inr rfl) h) (c_16 (y1.trans hy) (by decide)) (c_16 vy (by decide)) (c_16 (x1.trans hx) (by decide)) (c_16 vx (by decide)) (by omega) ⟨ax, by rw [w_up_slot (by decide)]; omega⟩ ⟨ay, by rw [w_up_slot (by decide)]; omega⟩ (by rw [w_up_slot (by decide)]; exact t2) (fun i hi => (w_up_slot (by decide)).trans (cx i hi)) (fun i hi => (w_up_slot (by decide)).trans (cy i hi)) rfl rfl hr) rfl (by omega) (cV_e (by decide) rfl)
theorem z18t_226 (h : stC 226 S K) (hi : cIn S K 18 a b) (hh : 2 ≤ K.1.length) (hx : (K.1.getD (K.1.length - 2) (0, 0, [])).1 = 3) (hy : (K.1.getD (K.1.length - 1) (0, 0, [])).1 = 3) (hT : cTt S) (hr : -1000000 ≤ cmpL (K.1.getD (K.1.length - 2) (0, 0, [])).2.2 (K.1.getD (K.1.length - 1) (0, 0, [])).2.2 ∧ cmpL (K.1.getD (K.1.length - 2) (0, 0, [])).2.2 (K.1.getD (K.1.length - 1) (0, 0, [])).2.2 ≤ 1000000) : cSt xs d 226 S (kP K 2 (1, if 0 < cmpL (K.1.getD (K.1.length - 2) (0, 0, [])).2.2 (K.1.getD (K.1.length - 1) (0, 0, [])).2.2 then 1 else 0, [])) := by
  obtain ⟨t0, t1, t2⟩ := hT
  obtain ⟨y1, -, y3⟩ := c_at h.1 (i := K.1.length - 1) (by omega) (j := (K.1.length : Int) - 1) (by omega)
  obtain ⟨x1, -, x3⟩ := c_at h.1 (i := K.1.length - 2) (by omega) (j := (K.1.length : Int) - 1 - 1) (by omega)
  obtain ⟨-, sx, vx, ax, bx, cx⟩ := x3 hx
  obtain ⟨-, sy, vy, ay, by_, cy⟩ := y3 hy
  exact cs_o_226 (m := 2) h hi.1 hi.2.1 hi.2.2 (by decide) (fun q => by omega) (fun x hx => hx) (by unfold mS; decide) (x18t_226 (l1 := (K.1.getD (K.1.length - 2) (0, 0, [])).2.2) (l2 := (K.1.getD (K.1.length - 1) (0, 0, [])).2.2) (xP_of (Or.inr rfl) h) (c_16 (y1.trans hy) (by decide)) (c_16 vy (by decide)) (c_16 (x1.trans hx) (by decide)) (c_16 vx (by decide)) (by omega) ⟨ax, by rw [w_up_slot (by decide)]; omega⟩ ⟨ay, by rw [w_up_slot (by decide)]; omega⟩ (by rw [w_up_slot (by decide)]; exact t2) (fun i hi => (w_up_slot (by decide)).trans (cx i hi)) (fun i hi => (w_up_slot (by decide)).trans (cy i hi)) rfl rfl hr) rfl (by omega) (cV_e (by decide) rfl)
theorem z19t_226 (h : stC 226 S K) (hi : cIn S K 19 a b) (hh : 2 ≤ K.1.length) (hx : (K.1.getD (K.1.length - 2) (0, 0, [])).1 = 3) (hy : (K.1.getD (K.1.length - 1) (0, 0, [])).1 = 3) (hT : cTt S) (hr : -1000000 ≤ cmpL (K.1.getD (K.1.length - 2) (0, 0, [])).2.2 (K.1.getD (K.1.length - 1) (0, 0, [])).2.2 ∧ cmpL (K.1.getD (K.1.length - 2) (0, 0, [])).2.2 (K.1.getD (K.1.length - 1) (0, 0, [])).2.2 ≤ 1000000) : cSt xs d 226 S (kP K 2 (1, if 0 ≤ cmpL (K.1.getD (K.1.length - 2) (0, 0, [])).2.2 (K.1.getD (K.1.length - 1) (0, 0, [])).2.2 then 1 else 0, [])) := by
  obtain ⟨t0, t1, t2⟩ := hT
  obtain ⟨y1, -, y3⟩ := c_at h.1 (i := K.1.length - 1) (by omega) (j := (K.1.length : Int) - 1) (by omega)
  obtain ⟨x1, -, x3⟩ := c_at h.1 (i := K.1.length - 2) (by omega) (j := (K.1.length : Int) - 1 - 1) (by omega)
  obtain ⟨-, sx, vx, ax, bx, cx⟩ := x3 hx
  obtain ⟨-, sy, vy, ay, by_, cy⟩ := y3 hy
  exact cs_o_226 (m := 2) h hi.1 hi.2.1 hi.2.2 (by decide) (fun q => by omega) (fun x hx => hx) (by unfold mS; decide) (x19t_226 (l1 := (K.1.getD (K.1.length - 2) (0, 0, [])).2.2) (l2 := (K.1.getD (K.1.length - 1) (0, 0, [])).2.2) (xP_of (Or.inr rfl) h) (c_16 (y1.trans hy) (by decide)) (c_16 vy (by decide)) (c_16 (x1.trans hx) (by decide)) (c_16 vx (by decide)) (by omega) ⟨ax, by rw [w_up_slot (by decide)]; omega⟩ ⟨ay, by rw [w_up_slot (by decide)]; omega⟩ (by rw [w_up_slot (by decide)]; exact t2) (fun i hi => (w_up_slot (by decide)).trans (cx i hi)) (fun i hi => (w_up_slot (by decide)).trans (cy i hi)) rfl rfl hr) rfl (by omega) (cV_e (by decide) rfl)
theorem rn14t (h : stR t S K) (hs : S 357 t = 1) (hi : rIn S K 14 a b) (hh : 2 ≤ K.1.length) (hx : (K.1.getD (K.1.length - 2) (0, 0, [])).1 = 3) (hy : (K.1.getD (K.1.length - 1) (0, 0, [])).1 = 3) (hT : rTt S) (hr : -1000000 ≤ cmpL (K.1.getD (K.1.length - 2) (0, 0, [])).2.2 (K.1.getD (K.1.length - 1) (0, 0, [])).2.2 ∧ cmpL (K.1.getD (K.1.length - 2) (0, 0, [])).2.2 (K.1.getD (K.1.length - 1) (0, 0, [])).2.2 ≤ 1000000) : rSt xs d t S (kP K 2 (1, if cmpL (K.1.getD (K.1.length - 2) (0, 0, [])).2.2 (K.1.getD (K.1.length - 1) (0, 0, [])).2.2 = 0 then 1 else 0, [])) := by
  obtain ⟨t0, t1, t2⟩ := hT
  obtain ⟨y1, -, y3⟩ := r_at h.1 (i := K.1.length - 1) (by omega) (j := 2100 * t + (K.1.length : Int) - 1) (by omega)
  obtain ⟨x1, -, x3⟩ := r_at h.1 (i := K.1.length - 2) (by omega) (j := 2100 * t + (K.1.length : Int) - 1 - 1) (by omega)
  obtain ⟨-, vx, nx, cx⟩ := x3 hx
  obtain ⟨-, vy, ny, cy⟩ := y3 hy
  have gx := t2 _ vx
  have gy := t2 _ vy
  rw [nx] at gx
  rw [ny] at gy
  exact rg_p h hs hi.1 hi.2.1 hi.2.2 (by decide) (y14t (l1 := (K.1.getD (K.1.length - 2) (0, 0, [])).2.2) (l2 := (K.1.getD (K.1.length - 1) (0, 0, [])).2.2) (vx := S 364 (2100 * t + (K.1.length : Int) - 1 - 1)) (vy := S 364 (2100 * t + (K.1.length : Int) - 1)) (mP_of h) (r_16 (y1.trans hy) (by decide)) (r_16 rfl (by decide)) (r_16 (x1.trans hx) (by decide)) (r_16 rfl (by decide)) (by omega) (by omega) (by omega) (r_16 nx (by decide)) (r_16 ny (by decide)) (by rw [r_16 (v := S 284 (S 364 (2100 * t + (K.1.length : Int) - 1 - 1))) rfl (by decide)]; exact ⟨gx.1, gx.2.2⟩) (by rw [r_16 (v := S 284 (S 364 (2100 * t + (K.1.length : Int) - 1))) rfl (by decide)]; exact ⟨gy.1, gy.2.2⟩) (fun i hi => by rw [r_16 (v := S 284 (S 364 (2100 * t + (K.1.length : Int) - 1 - 1))) rfl (by decide)]; exact r_16 (cx i hi) (by decide)) (fun i hi => by rw [r_16 (v := S 284 (S 364 (2100 * t + (K.1.length : Int) - 1))) rfl (by decide)]; exact r_16 (cy i hi) (by decide)) hr) (fun Z hz => by subst hz; exact rp_X h hh (rV_e (by decide) rfl))
theorem rn15t (h : stR t S K) (hs : S 357 t = 1) (hi : rIn S K 15 a b) (hh : 2 ≤ K.1.length) (hx : (K.1.getD (K.1.length - 2) (0, 0, [])).1 = 3) (hy : (K.1.getD (K.1.length - 1) (0, 0, [])).1 = 3) (hT : rTt S) (hr : -1000000 ≤ cmpL (K.1.getD (K.1.length - 2) (0, 0, [])).2.2 (K.1.getD (K.1.length - 1) (0, 0, [])).2.2 ∧ cmpL (K.1.getD (K.1.length - 2) (0, 0, [])).2.2 (K.1.getD (K.1.length - 1) (0, 0, [])).2.2 ≤ 1000000) : rSt xs d t S (kP K 2 (1, if cmpL (K.1.getD (K.1.length - 2) (0, 0, [])).2.2 (K.1.getD (K.1.length - 1) (0, 0, [])).2.2 = 0 then 0 else 1, [])) := by
  obtain ⟨t0, t1, t2⟩ := hT
  obtain ⟨y1, -, y3⟩ := r_at h.1 (i := K.1.length - 1) (by omega) (j := 2100 * t + (K.1.length : Int) - 1) (by omega)
  obtain ⟨x1, -, x3⟩ := r_at h.1 (i := K.1.length - 2) (by omega) (j := 2100 * t + (K.1.length : Int) - 1 - 1) (by omega)
  obtain ⟨-, vx, nx, cx⟩ := x3 hx
  obtain ⟨-, vy, ny, cy⟩ := y3 hy
  have gx := t2 _ vx
  have gy := t2 _ vy
  rw [nx] at gx
  rw [ny] at gy
  exact rg_p h hs hi.1 hi.2.1 hi.2.2 (by decide) (y15t (l1 := (K.1.getD (K.1.length - 2) (0, 0, [])).2.2) (l2 := (K.1.getD (K.1.length - 1) (0, 0, [])).2.2) (vx := S 364 (2100 * t + (K.1.length : Int) - 1 - 1)) (vy := S 364 (2100 * t + (K.1.length : Int) - 1)) (mP_of h) (r_16 (y1.trans hy) (by decide)) (r_16 rfl (by decide)) (r_16 (x1.trans hx) (by decide)) (r_16 rfl (by decide)) (by omega) (by omega) (by omega) (r_16 nx (by decide)) (r_16 ny (by decide)) (by rw [r_16 (v := S 284 (S 364 (2100 * t + (K.1.length : Int) - 1 - 1))) rfl (by decide)]; exact ⟨gx.1, gx.2.2⟩) (by rw [r_16 (v := S 284 (S 364 (2100 * t + (K.1.length : Int) - 1))) rfl (by decide)]; exact ⟨gy.1, gy.2.2⟩) (fun i hi => by rw [r_16 (v := S 284 (S 364 (2100 * t + (K.1.length : Int) - 1 - 1))) rfl (by decide)]; exact r_16 (cx i hi) (by decide)) (fun i hi => by rw [r_16 (v := S 284 (S 364 (2100 * t + (K.1.length : Int) - 1))) rfl (by decide)]; exact r_16 (cy i hi) (by decide)) hr) (fun Z hz => by subst hz; exact rp_X h hh (rV_e (by decide) rfl))
theorem rn16t (h : stR t S K) (hs : S 357 t = 1) (hi : rIn S K 16 a b) (hh : 2 ≤ K.1.length) (hx : (K.1.getD (K.1.length - 2) (0, 0, [])).1 = 3) (hy : (K.1.getD (K.1.length - 1) (0, 0, [])).1 = 3) (hT : rTt S) (hr : -1000000 ≤ cmpL (K.1.getD (K.1.length - 2) (0, 0, [])).2.2 (K.1.getD (K.1.length - 1) (0, 0, [])).2.2 ∧ cmpL (K.1.getD (K.1.length - 2) (0, 0, [])).2.2 (K.1.getD (K.1.length - 1) (0, 0, [])).2.2 ≤ 1000000) : rSt xs d t S (kP K 2 (1, if cmpL (K.1.getD (K.1.length - 2) (0, 0, [])).2.2 (K.1.getD (K.1.length - 1) (0, 0, [])).2.2 < 0 then 1 else 0, [])) := by
  obtain ⟨t0, t1, t2⟩ := hT
  obtain ⟨y1, -, y3⟩ := r_at h.1 (i := K.1.length - 1) (by omega) (j := 2100 * t + (K.1.length : Int) - 1) (by omega)
  obtain ⟨x1, -, x3⟩ := r_at h.1 (i := K.1.length - 2) (by omega) (j := 2100 * t + (K.1.length : Int) - 1 - 1) (by omega)
  obtain ⟨-, vx, nx, cx⟩ := x3 hx
  obtain ⟨-, vy, ny, cy⟩ := y3 hy
  have gx := t2 _ vx
  have gy := t2 _ vy
  rw [nx] at gx
  rw [ny] at gy
  exact rg_p h hs hi.1 hi.2.1 hi.2.2 (by decide) (y16t (l1 := (K.1.getD (K.1.length - 2) (0, 0, [])).2.2) (l2 := (K.1.getD (K.1.length - 1) (0, 0, [])).2.2) (vx := S 364 (2100 * t + (K.1.length : Int) - 1 - 1)) (vy := S 364 (2100 * t + (K.1.length : Int) - 1)) (mP_of h) (r_16 (y1.trans hy) (by decide)) (r_16 rfl (by decide)) (r_16 (x1.trans hx) (by decide)) (r_16 rfl (by decide)) (by omega) (by omega) (by omega) (r_16 nx (by decide)) (r_16 ny (by decide)) (by rw [r_16 (v := S 284 (S 364 (2100 * t + (K.1.length : Int) - 1 - 1))) rfl (by decide)]; exact ⟨gx.1, gx.2.2⟩) (by rw [r_16 (v := S 284 (S 364 (2100 * t + (K.1.length : Int) - 1))) rfl (by decide)]; exact ⟨gy.1, gy.2.2⟩) (fun i hi => by rw [r_16 (v := S 284 (S 364 (2100 * t + (K.1.length : Int) - 1 - 1))) rfl (by decide)]; exact r_16 (cx i hi) (by decide)) (fun i hi => by rw [r_16 (v := S 284 (S 364 (2100 * t + (K.1.length : Int) - 1))) rfl (by decide)]; exact r_16 (cy i hi) (by decide)) hr) (fun Z hz => by subst hz; exact rp_X h hh (rV_e (by decide) rfl))
theorem rn17t (h : stR t S K) (hs : S 357 t = 1) (hi : rIn S K 17 a b) (hh : 2 ≤ K.1.length) (hx : (K.1.getD (K.1.length - 2) (0, 0, [])).1 = 3) (hy : (K.1.getD (K.1.length - 1) (0, 0, [])).1 = 3) (hT : rTt S) (hr : -1000000 ≤ cmpL (K.1.getD (K.1.length - 2) (0, 0, [])).2.2 (K.1.getD (K.1.length - 1) (0, 0, [])).2.2 ∧ cmpL (K.1.getD (K.1.length - 2) (0, 0, [])).2.2 (K.1.getD (K.1.length - 1) (0, 0, [])).2.2 ≤ 1000000) : rSt xs d t S (kP K 2 (1, if cmpL (K.1.getD (K.1.length - 2) (0, 0, [])).2.2 (K.1.getD (K.1.length - 1) (0, 0, [])).2.2 ≤ 0 then 1 else 0, [])) := by
  obtain ⟨t0, t1, t2⟩ := hT
  obtain ⟨y1, -, y3⟩ := r_at h.1 (i := K.1.length - 1) (by omega) (j := 2100 * t + (K.1.length : Int) - 1) (by omega)
  obtain ⟨x1, -, x3⟩ := r_at h.1 (i := K.1.length - 2) (by omega) (j := 2100 * t + (K.1.length : Int) - 1 - 1) (by omega)
  obtain ⟨-, vx, nx, cx⟩ := x3 hx
  obtain ⟨-, vy, ny, cy⟩ := y3 hy
  have gx := t2 _ vx
  have gy := t2 _ vy
  rw [nx] at gx
  rw [ny] at gy
  exact rg_p h hs hi.1 hi.2.1 hi.2.2 (by decide) (y17t (l1 := (K.1.getD (K.1.length - 2) (0, 0, [])).2.2) (l2 := (K.1.getD (K.1.length - 1) (0, 0, [])).2.2) (vx := S 364 (2100 * t + (K.1.length : Int) - 1 - 1)) (vy := S 364 (2100 * t + (K.1.length : Int) - 1)) (mP_of h) (r_16 (y1.trans hy) (by decide)) (r_16 rfl (by decide)) (r_16 (x1.trans hx) (by decide)) (r_16 rfl (by decide)) (by omega) (by omega) (by omega) (r_16 nx (by decide)) (r_16 ny (by decide)) (by rw [r_16 (v := S 284 (S 364 (2100 * t + (K.1.length : Int) - 1 - 1))) rfl (by decide)]; exact ⟨gx.1, gx.2.2⟩) (by rw [r_16 (v := S 284 (S 364 (2100 * t + (K.1.length : Int) - 1))) rfl (by decide)]; exact ⟨gy.1, gy.2.2⟩) (fun i hi => by rw [r_16 (v := S 284 (S 364 (2100 * t + (K.1.length : Int) - 1 - 1))) rfl (by decide)]; exact r_16 (cx i hi) (by decide)) (fun i hi => by rw [r_16 (v := S 284 (S 364 (2100 * t + (K.1.length : Int) - 1))) rfl (by decide)]; exact r_16 (cy i hi) (by decide)) hr) (fun Z hz => by subst hz; exact rp_X h hh (rV_e (by decide) rfl))
theorem rn18t (h : stR t S K) (hs : S 357 t = 1) (hi : rIn S K 18 a b) (hh : 2 ≤ K.1.length) (hx : (K.1.getD (K.1.length - 2) (0, 0, [])).1 = 3) (hy : (K.1.getD (K.1.length - 1) (0, 0, [])).1 = 3) (hT : rTt S) (hr : -1000000 ≤ cmpL (K.1.getD (K.1.length - 2) (0, 0, [])).2.2 (K.1.getD (K.1.length - 1) (0, 0, [])).2.2 ∧ cmpL (K.1.getD (K.1.length - 2) (0, 0, [])).2.2 (K.1.getD (K.1.length - 1) (0, 0, [])).2.2 ≤ 1000000) : rSt xs d t S (kP K 2 (1, if 0 < cmpL (K.1.getD (K.1.length - 2) (0, 0, [])).2.2 (K.1.getD (K.1.length - 1) (0, 0, [])).2.2 then 1 else 0, [])) := by
  obtain ⟨t0, t1, t2⟩ := hT
  obtain ⟨y1, -, y3⟩ := r_at h.1 (i := K.1.length - 1) (by omega) (j := 2100 * t + (K.1.length : Int) - 1) (by omega)
  obtain ⟨x1, -, x3⟩ := r_at h.1 (i := K.1.length - 2) (by omega) (j := 2100 * t + (K.1.length : Int) - 1 - 1) (by omega)
  obtain ⟨-, vx, nx, cx⟩ := x3 hx
  obtain ⟨-, vy, ny, cy⟩ := y3 hy
  have gx := t2 _ vx
  have gy := t2 _ vy
  rw [nx] at gx
  rw [ny] at gy
  exact rg_p h hs hi.1 hi.2.1 hi.2.2 (by decide) (y18t (l1 := (K.1.getD (K.1.length - 2) (0, 0, [])).2.2) (l2 := (K.1.getD (K.1.length - 1) (0, 0, [])).2.2) (vx := S 364 (2100 * t + (K.1.length : Int) - 1 - 1)) (vy := S 364 (2100 * t + (K.1.length : Int) - 1)) (mP_of h) (r_16 (y1.trans hy) (by decide)) (r_16 rfl (by decide)) (r_16 (x1.trans hx) (by decide)) (r_16 rfl (by decide)) (by omega) (by omega) (by omega) (r_16 nx (by decide)) (r_16 ny (by decide)) (by rw [r_16 (v := S 284 (S 364 (2100 * t + (K.1.length : Int) - 1 - 1))) rfl (by decide)]; exact ⟨gx.1, gx.2.2⟩) (by rw [r_16 (v := S 284 (S 364 (2100 * t + (K.1.length : Int) - 1))) rfl (by decide)]; exact ⟨gy.1, gy.2.2⟩) (fun i hi => by rw [r_16 (v := S 284 (S 364 (2100 * t + (K.1.length : Int) - 1 - 1))) rfl (by decide)]; exact r_16 (cx i hi) (by decide)) (fun i hi => by rw [r_16 (v := S 284 (S 364 (2100 * t + (K.1.length : Int) - 1))) rfl (by decide)]; exact r_16 (cy i hi) (by decide)) hr) (fun Z hz => by subst hz; exact rp_X h hh (rV_e (by decide) rfl))
theorem rn19t (h : stR t S K) (hs : S 357 t = 1) (hi : rIn S K 19 a b) (hh : 2 ≤ K.1.length) (hx : (K.1.getD (K.1.length - 2) (0, 0, [])).1 = 3) (hy : (K.1.getD (K.1.length - 1) (0, 0, [])).1 = 3) (hT : rTt S) (hr : -1000000 ≤ cmpL (K.1.getD (K.1.length - 2) (0, 0, [])).2.2 (K.1.getD (K.1.length - 1) (0, 0, [])).2.2 ∧ cmpL (K.1.getD (K.1.length - 2) (0, 0, [])).2.2 (K.1.getD (K.1.length - 1) (0, 0, [])).2.2 ≤ 1000000) : rSt xs d t S (kP K 2 (1, if 0 ≤ cmpL (K.1.getD (K.1.length - 2) (0, 0, [])).2.2 (K.1.getD (K.1.length - 1) (0, 0, [])).2.2 then 1 else 0, [])) := by
  obtain ⟨t0, t1, t2⟩ := hT
  obtain ⟨y1, -, y3⟩ := r_at h.1 (i := K.1.length - 1) (by omega) (j := 2100 * t + (K.1.length : Int) - 1) (by omega)
  obtain ⟨x1, -, x3⟩ := r_at h.1 (i := K.1.length - 2) (by omega) (j := 2100 * t + (K.1.length : Int) - 1 - 1) (by omega)
  obtain ⟨-, vx, nx, cx⟩ := x3 hx
  obtain ⟨-, vy, ny, cy⟩ := y3 hy
  have gx := t2 _ vx
  have gy := t2 _ vy
  rw [nx] at gx
  rw [ny] at gy
  exact rg_p h hs hi.1 hi.2.1 hi.2.2 (by decide) (y19t (l1 := (K.1.getD (K.1.length - 2) (0, 0, [])).2.2) (l2 := (K.1.getD (K.1.length - 1) (0, 0, [])).2.2) (vx := S 364 (2100 * t + (K.1.length : Int) - 1 - 1)) (vy := S 364 (2100 * t + (K.1.length : Int) - 1)) (mP_of h) (r_16 (y1.trans hy) (by decide)) (r_16 rfl (by decide)) (r_16 (x1.trans hx) (by decide)) (r_16 rfl (by decide)) (by omega) (by omega) (by omega) (r_16 nx (by decide)) (r_16 ny (by decide)) (by rw [r_16 (v := S 284 (S 364 (2100 * t + (K.1.length : Int) - 1 - 1))) rfl (by decide)]; exact ⟨gx.1, gx.2.2⟩) (by rw [r_16 (v := S 284 (S 364 (2100 * t + (K.1.length : Int) - 1))) rfl (by decide)]; exact ⟨gy.1, gy.2.2⟩) (fun i hi => by rw [r_16 (v := S 284 (S 364 (2100 * t + (K.1.length : Int) - 1 - 1))) rfl (by decide)]; exact r_16 (cx i hi) (by decide)) (fun i hi => by rw [r_16 (v := S 284 (S 364 (2100 * t + (K.1.length : Int) - 1))) rfl (by decide)]; exact r_16 (cy i hi) (by decide)) hr) (fun Z hz => by subst hz; exact rp_X h hh (rV_e (by decide) rfl))
end Weq
