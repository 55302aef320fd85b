/-! PART 53: rows of the machine over slots: calls, new arrays, a fixed reference set anew. -/
section W53
variable {G : pe_G} {Y : wY} {M M2 : Nat → Prop} {d : Nat} {mt : pe_Mt} {is rest : List pe_I} {L L2 : wL} {st st2 : List wv} {S S2 : wS} {Q Q2 : wO → wS → Prop}
/-- a value that keeps its meaning where the slots outside M2 stay where they are -/
def w_kv (Y : wY) (S : wS) (M2 : Nat → Prop) (v : wv) : Prop := match v with
  | (0, _) => True
  | (1, _) => True
  | (_, x) => x < 0 ∨ (w_pr Y S x.toNat ∧ ¬ M2 x.toNat)
def w_kl (Y : wY) (S : wS) (M2 : Nat → Prop) : wL → Prop
  | [] => True
  | (_, v) :: r => w_kv Y S M2 v ∧ w_kl Y S M2 r
def w_ks (Y : wY) (S : wS) (M2 : Nat → Prop) : List wv → Prop
  | [] => True
  | v :: r => w_kv Y S M2 v ∧ w_ks Y S M2 r
theorem w_r_kv {ad ad2 : Nat → Nat} {x : Int} (ha : ∀ j, w_pr Y S j → ¬ M2 j → ad2 j = ad j) (h : x < 0 ∨ (w_pr Y S x.toNat ∧ ¬ M2 x.toNat)) : w_r ad2 x = w_r ad x := by
  unfold w_r
  rcases h with h | h
  · have hx : ¬ 0 ≤ x := by omega
    rw [if_neg hx, if_neg hx]
  · rw [ha _ h.1 h.2]
theorem w_u_kv {ad ad2 : Nat → Nat} {v : wv} (ha : ∀ j, w_pr Y S j → ¬ M2 j → ad2 j = ad j) (h : w_kv Y S M2 v) : w_u ad2 v = w_u ad v := match v, h with
  | (0, _), _ => rfl
  | (1, _), _ => rfl
  | (_ + 2, _), h => w_r_kv ha h
theorem w_LL_kl {ad ad2 : Nat → Nat} {Lc : pm_L} (ha : ∀ j, w_pr Y S j → ¬ M2 j → ad2 j = ad j) (h : w_kl Y S M2 L) (hL : w_LL ad L Lc) : w_LL ad2 L Lc := by
  intro i v hv
  have hk : w_kv Y S M2 v := by
    clear hL
    induction L with
    | nil => cases hv
    | cons a r ih =>
      obtain ⟨a, u⟩ := a
      unfold w_lk at hv
      cases hb : Nat.beq a i
      · rw [hb] at hv
        exact ih h.2 hv
      · rw [hb] at hv
        cases hv
        exact h.1
  rw [w_u_kv ha hk]
  exact hL i v hv
theorem w_st_ks {ad ad2 : Nat → Nat} (ha : ∀ j, w_pr Y S j → ¬ M2 j → ad2 j = ad j) (h : w_ks Y S M2 st) : st.map (w_u ad2) = st.map (w_u ad) := by
  induction st with
  | nil => rfl
  | cons v r ih =>
    rw [List.map_cons, List.map_cons, ih h.2, w_u_kv ha h.1]
def w_pop : Nat → List wv → List wv → Option (List wv × List wv)
  | 0, acc, st => some (acc, st)
  | n + 1, acc, v :: st => w_pop n (v :: acc) st
  | _ + 1, _, [] => none
theorem w_pop_ok {α : Type} (ad : Nat → Nat) {av st0 : List wv} (n : Nat) : ∀ (acc st : List wv) (k : List Value → List Value → Option α), w_pop n acc st = some (av, st0) → pe_pop n (acc.map (w_u ad)) (st.map (w_u ad)) k = k (av.map (w_u ad)) (st0.map (w_u ad)) := by
  induction n with
  | zero => intro acc st k h; cases h; rfl
  | succ n ih =>
    intro acc st k h
    cases st with
    | nil => cases h
    | cons v r => exact ih (v :: acc) r k h
def w_cat : List wv → Nat
  | [] => 0
  | v :: r => (bif Nat.beq v.1 1 then 2 else 1) + w_cat r
theorem w_cat_v (ad : Nat → Nat) (v : wv) : (w_u ad v).category = (bif Nat.beq v.1 1 then 2 else 1) := by
  obtain ⟨a, x⟩ := v
  by_cases h : a = 1
  · subst h; rfl
  · rw [w_cat1 ad a x h]
    cases hb : Nat.beq a 1
    · rfl
    · exact absurd (Nat.eq_of_beq_eq_true hb) h
theorem w_cat_eq (ad : Nat → Nat) (st : List wv) : pe_cat (st.map (w_u ad)) = w_cat st := by
  induction st with
  | nil => rfl
  | cons v r ih =>
    show (w_u ad v).category + pe_cat _ = _
    rw [ih, w_cat_v]
    rfl
def w_args : Nat → List wv → wL
  | _, [] => []
  | i, v :: r => (i, v) :: w_args (bif Nat.beq v.1 1 then i + 2 else i + 1) r
theorem w_LL_args (ad : Nat → Nat) (av : List wv) : ∀ i, w_LL ad (w_args i av) (pm_args i (av.map (w_u ad))) := by
  induction av with
  | nil => intro i j v h; cases h
  | cons a r ih =>
    intro i j v h
    show (bif Nat.beq i j then some (w_u ad a) else pe_gl j (pm_args (if (w_u ad a).category = 2 then i + 2 else i + 1) (r.map (w_u ad)))) = _
    unfold w_args w_lk at h
    cases hb : Nat.beq i j
    · rw [hb] at h
      have e : (if (w_u ad a).category = 2 then i + 2 else i + 1) = (bif Nat.beq a.1 1 then i + 2 else i + 1) := by
        rw [w_cat_v]
        cases Nat.beq a.1 1 <;> rfl
      rw [e]
      exact ih _ j v h
    · rw [hb] at h
      cases h
      rfl
/-- what a caller goes on with -/
def w_co (G : pe_G) (Y : wY) (M : Nat → Prop) (d : Nat) (mt : pe_Mt) (rest : List pe_I) (L : wL) (st : List wv) (Q : wO → wS → Prop) (o : wO) (S2 : wS) : Prop := match o with
  | .inl none => wJ G Y M d mt rest L st S2 Q
  | .inl (some v) => wJ G Y M d mt rest L (v :: st) S2 Q
  | .inr x => mt.hh = [] ∧ Q (.inr x) S2
theorem w_calx {d2 mi : Nat} {m2 : pe_Mt} {is2 : List pe_I} {av : List wv} {i : pe_I} (hd : d = d2 + 1) (hm : pe_at G.ms mi = some m2) (hb : w_k m2 0 is2) (hx : (Nat.ble (w_cat st2) 8 && (Nat.ble m2.mx 41 && Nat.ble (w_cat av) m2.mx)) = true)
    (hs : ∀ ad Lc h f, w_E Y ad S h → pe_go G (f + 1) d mt (i :: rest) Lc (st.map (w_u ad)) h = pe_calx (fun d m is L st h => pe_go G f d m is L st h) G.ms d mi (av.map (w_u ad)) (st2.map (w_u ad)) h (fun st h => pe_go G f d mt rest Lc st h) (fun x h => bif mt.hh.isEmpty then some (.inr x, h) else none))
    (hkl : w_kl Y S M2 L) (hks : w_ks Y S M2 st2) (hMM : ∀ j, w_pr Y S j → M2 j → M j)
    (hc : wJ G Y M2 d2 m2 is2 (w_args 0 av) [] S Q2) (hk : ∀ o S2, (∀ j, w_pr Y S j → w_pr Y S2 j) → Q2 o S2 → w_co G Y M d mt rest L st2 Q o S2) : wJ G Y M d mt (i :: rest) L st S Q := by
  intro ad Lc h hE hL
  obtain ⟨o, ad2, S2, h2, f1, hg, hE2, hM2, hq⟩ := hc ad _ h hE (w_LL_args ad av 0)
  have ha : ∀ j, w_pr Y S j → ¬ M2 j → ad2 j = ad j := fun j q r => (hM2 j q).2 r
  have hL2 := w_LL_kl ha hkl hL
  have hst := w_st_ks ha hks
  have hco := hk o S2 (fun j q => (hM2 j q).1) hq
  subst hd
  have hstep : ∀ f, f1 ≤ f → pe_go G (f + 1) (d2 + 1) mt (i :: rest) Lc (st.map (w_u ad)) h = (match (some (w_oc ad2 o, h2) : Option (pm_O × pe_H)) with
    | some (.inl none, h) => pe_go G f (d2 + 1) mt rest Lc (st2.map (w_u ad2)) h
    | some (.inl (some v), h) => pe_go G f (d2 + 1) mt rest Lc (v :: st2.map (w_u ad2)) h
    | some (.inr x, h) => (bif mt.hh.isEmpty then some (.inr x, h) else none)
    | none => none) := by
    intro f hf
    rw [hs ad Lc h f hE]
    unfold pe_calx
    rw [hm, w_cat_eq, w_cat_eq, hst]
    show (bif Nat.ble (w_cat st2) 8 && (Nat.ble m2.mx 41 && Nat.ble (w_cat av) m2.mx) then pe_jmp m2 0 _ else none) = _
    rw [hx, cond_true, w_jmp hb, pe_argk_eq]
    have := hg f hf
    rw [show ([] : List wv).map (w_u ad) = [] from rfl] at this
    dsimp only
    generalize pe_go G f d2 m2 is2 (pm_args 0 (List.map (w_u ad) av)) [] h = X at this ⊢
    subst this
    rfl
  match o, hco, hstep with
  | .inl none, hco, hstep =>
    obtain ⟨o3, ad3, S3, h3, f3, hg3, hE3, hM3, hQ⟩ := hco ad2 Lc h2 hE2 hL2
    refine ⟨o3, ad3, S3, h3, f1 + f3 + 1, fun f hf => ?_, hE3, fun j q => ⟨(hM3 j (hM2 j q).1).1, fun r => ?_⟩, hQ⟩
    · obtain ⟨f, rfl⟩ : ∃ g, f = g + 1 := ⟨f - 1, by omega⟩
      rw [hstep f (by omega)]
      exact hg3 f (by omega)
    · rw [(hM3 j (hM2 j q).1).2 r]
      exact ha j q (fun e => r (hMM j q e))
  | .inl (some v), hco, hstep =>
    obtain ⟨o3, ad3, S3, h3, f3, hg3, hE3, hM3, hQ⟩ := hco ad2 Lc h2 hE2 hL2
    refine ⟨o3, ad3, S3, h3, f1 + f3 + 1, fun f hf => ?_, hE3, fun j q => ⟨(hM3 j (hM2 j q).1).1, fun r => ?_⟩, hQ⟩
    · obtain ⟨f, rfl⟩ : ∃ g, f = g + 1 := ⟨f - 1, by omega⟩
      rw [hstep f (by omega)]
      exact hg3 f (by omega)
    · rw [(hM3 j (hM2 j q).1).2 r]
      exact ha j q (fun e => r (hMM j q e))
  | .inr x, hco, hstep =>
    refine ⟨.inr x, ad2, S2, h2, f1 + 1, fun f hf => ?_, hE2, fun j q => ⟨(hM2 j q).1, fun r => ha j q (fun e => r (hMM j q e))⟩, hco.2⟩
    obtain ⟨f, rfl⟩ : ∃ g, f = g + 1 := ⟨f - 1, by omega⟩
    rw [hstep f (by omega)]
    show (bif mt.hh.isEmpty then _ else none) = _
    rw [hco.1]
    rfl
theorem wa_cs {d2 ix mi n : Nat} {ws : List Nat} {m2 : pe_Mt} {is2 : List pe_I} {av st0 : List wv} (hd : d = d2 + 1) (hm : pe_at G.ms mi = some m2) (hb : w_k m2 0 is2) (hp : w_pop n [] st = some (av, st0)) (hx : (Nat.ble (w_cat st0) 8 && (Nat.ble m2.mx 41 && Nat.ble (w_cat av) m2.mx)) = true) (hkl : w_kl Y S M2 L) (hks : w_ks Y S M2 st0) (hMM : ∀ j, w_pr Y S j → M2 j → M j) (hc : wJ G Y M2 d2 m2 is2 (w_args 0 av) [] S Q2) (hk : ∀ o S2, (∀ j, w_pr Y S j → w_pr Y S2 j) → Q2 o S2 → w_co G Y M d mt rest L st0 Q o S2) : wJ G Y M d mt (.inr (.inr (.inr (.inr (.inr (.inr (.inl (ix, mi, n, ws))))))) :: rest) L st S Q :=
  w_calx hd hm hb hx (fun ad Lc h f _ => w_pop_ok ad n [] st _ hp) hkl hks hMM hc hk
theorem wa_ci {d2 ix mi n : Nat} {ws : List Nat} {m2 : pe_Mt} {is2 : List pe_I} {av st0 : List wv} {x : Int} (b : Nat) (hbx : x = b) (hd : d = d2 + 1) (hm : pe_at G.ms mi = some m2) (hb : w_k m2 0 is2) (hp : w_pop n [] st = some (av, (2, x) :: st0)) (hx : (Nat.ble (w_cat st0) 8 && (Nat.ble m2.mx 41 && Nat.ble (w_cat ((2, x) :: av)) m2.mx)) = true) (hkl : w_kl Y S M2 L) (hks : w_ks Y S M2 st0) (hMM : ∀ j, w_pr Y S j → M2 j → M j) (hc : wJ G Y M2 d2 m2 is2 (w_args 0 ((2, x) :: av)) [] S Q2) (hk : ∀ o S2, (∀ j, w_pr Y S j → w_pr Y S2 j) → Q2 o S2 → w_co G Y M d mt rest L st0 Q o S2) : wJ G Y M d mt (.inr (.inr (.inr (.inr (.inr (.inr (.inr (.inl (ix, mi, n, ws)))))))) :: rest) L st S Q :=
  w_calx (av := (2, x) :: av) hd hm hb hx (fun ad Lc h f _ => (w_pop_ok ad n [] st _ hp).trans (by
    show pe_rf (w_r ad x :: st0.map (w_u ad)) _ = pe_calx _ G.ms d mi (w_r ad x :: av.map (w_u ad)) _ h _ _
    rw [w_r_n ad hbx]
    rfl)) hkl hks hMM hc hk
theorem wa_cv {d2 ix mi n rc : Nat} {ws : List Nat} {m2 : pe_Mt} {is2 : List pe_I} {av st0 : List wv} {x : Int} (b : Nat) (hbx : x = b) (hpb : w_pr Y S b) (htb : Y.ty b = 100 + rc) (hd : d = d2 + 1) (hm : pe_at G.ms mi = some m2) (hb : w_k m2 0 is2) (hp : w_pop n [] st = some (av, (2, x) :: st0)) (hx : (Nat.ble (w_cat st0) 8 && (Nat.ble m2.mx 41 && Nat.ble (w_cat ((2, x) :: av)) m2.mx)) = true) (hkl : w_kl Y S M2 L) (hks : w_ks Y S M2 st0) (hMM : ∀ j, w_pr Y S j → M2 j → M j) (hc : wJ G Y M2 d2 m2 is2 (w_args 0 ((2, x) :: av)) [] S Q2) (hk : ∀ o S2, (∀ j, w_pr Y S j → w_pr Y S2 j) → Q2 o S2 → w_co G Y M d mt rest L st0 Q o S2) : wJ G Y M d mt (.inr (.inr (.inr (.inr (.inr (.inl (ix, mi, n, rc, ws)))))) :: rest) L st S Q :=
  w_calx (av := (2, x) :: av) hd hm hb hx (fun ad Lc h f hE => (w_pop_ok ad n [] st _ hp).trans (by
    obtain ⟨vs, h1, -⟩ := w_obj hE hpb htb
    show pe_rf (w_r ad x :: st0.map (w_u ad)) _ = pe_calx _ G.ms d mi (w_r ad x :: av.map (w_u ad)) _ h _ _
    rw [w_r_n ad hbx]
    show (match pe_at h (ad b) with | some (.inr (.inl (c, vs))) => (bif Nat.beq c rc then _ else none) | _ => none) = _
    rw [pe_at_eq, h1]
    show (bif Nat.beq rc rc then _ else none) = _
    rw [Nat.beq_refl]
    rfl)) hkl hks hMM hc hk
/-- a new slot -/
def w_nw (S : wS) (j : Nat) (g : Int → Int) (m : Int) : wS := fun k i => if k = j then g i else if k = wG then (if i = 0 then S wG 0 + m else if i = 1 then S wG 1 + 1 else S wG i) else S k i
theorem w_nw_at (S : wS) (j : Nat) (g : Int → Int) (m : Int) : w_nw S j g m j = g := by
  funext i
  exact if_pos rfl
theorem w_nw_of {S : wS} {j k : Nat} {g : Int → Int} {m : Int} (h : k ≠ j) (h2 : k ≠ wG) : w_nw S j g m k = S k := by
  funext i
  unfold w_nw
  rw [if_neg h, if_neg h2]
theorem w_nw_G {S : wS} {j : Nat} {g : Int → Int} {m : Int} (h : j ≠ wG) : w_nw S j g m wG 0 = S wG 0 + m ∧ w_nw S j g m wG 1 = S wG 1 + 1 := by
  have e : ¬ wG = j := fun q => h q.symm
  refine ⟨?_, ?_⟩
  · show (if wG = j then _ else if wG = wG then _ else _) = _
    rw [if_neg e, if_pos rfl, if_pos rfl]
  · show (if wG = j then _ else if wG = wG then _ else _) = _
    rw [if_neg e, if_pos rfl, if_neg (by decide), if_pos rfl]
theorem w_c_ad {ad ad2 : Nat → Nat} {k : Nat} {x : pe_E} (hm : ∀ j, w_pr Y S j → w_pr Y S2 j) (ha : ∀ j, w_pr Y S j → ad2 j = ad j) (h : S2 k = S k) (hc : w_c Y ad S k x) : w_c Y ad2 S2 k x := by
  refine w_c_same hm (fun n => by rw [h]) ?_
  have hr : ∀ v : Int, (v < 0 ∨ w_pr Y S v.toNat) → w_r ad2 v = w_r ad v := fun v q => w_r_kv (M2 := fun _ => False) (fun j r _ => ha j r) (q.imp id (fun r => ⟨r, id⟩))
  rcases x with ⟨t, n, c⟩ | ⟨ci, vs⟩ | ⟨t, n, c⟩ | ⟨t, n, c⟩
  · exact hc
  · refine ⟨hc.1, hc.2.1, fun i kd q => ?_⟩
    obtain ⟨h1, h2, h3⟩ := hc.2.2 i kd q
    refine ⟨?_, h2, h3⟩
    refine h1.imp id (fun h1 => ?_)
    rw [h1]
    congr 1
    match kd, h3 with
    | 0, _ => rfl
    | 1, _ => rfl
    | 2, _ => rfl
    | 3, _ => rfl
    | 4, h3 => exact (hr _ h3).symm
    | 5, h3 => exact (hr _ (h3.imp id (fun r => r.1))).symm
    | 6, h3 => exact (hr _ h3).symm
    | 7, h3 => exact (hr _ (h3.imp id (fun r => r.1))).symm
    | _ + 8, _ => rfl
  · refine ⟨hc.1, hc.2.1, hc.2.2.1, fun i q => ?_⟩
    obtain ⟨h1, h2⟩ := hc.2.2.2 i q
    refine ⟨?_, h2⟩
    rw [h1]
    by_cases e : t = 5
    · rw [if_pos e] at h2 ⊢
      exact (hr _ h2).symm
    · rw [if_neg e] at h2 ⊢
      exact (hr _ (h2.imp id (fun r => r.1))).symm
  · exact hc
/-- the heap with one more cell -/
theorem w_E_new {ad : Nat → Nat} {h : pe_H} {j : Nat} {g : Int → Int} {c : pe_E} (hE : w_E Y ad S h) (hj : 4000000 + 64 * S wG 1 ≤ (j : Int) ∧ (j : Int) < 4000000 + 64 * (S wG 1 + 1)) (hg : 0 ≤ g (-1)) (hc : ∀ ad2, w_c Y ad2 (w_nw S j g (pm_n (pe_d c))) j c) : w_E Y (fun k => if k = j then h.length else ad k) (w_nw S j g (pm_n (pe_d c))) (h ++ [c]) ∧ (∀ k, w_pr Y S k → w_pr Y (w_nw S j g (pm_n (pe_d c))) k ∧ (if k = j then h.length else ad k) = ad k) := by
  have h1 := hE.2.2.2.1
  have hfr : ∀ k, w_pr Y S k → k ≠ j := fun k hk e => by have := hE.2.2.2.2 k hk; subst e; omega
  have hjG : j ≠ wG := by unfold wG; omega
  have hpr : ∀ k, w_pr Y S k → w_pr Y (w_nw S j g (pm_n (pe_d c))) k := fun k hk => by
    refine ⟨?_, hk.2⟩
    rw [w_nw_of (hfr k hk) hk.2]
    exact hk.1
  have hback : ∀ k, w_pr Y (w_nw S j g (pm_n (pe_d c))) k → k ≠ j → w_pr Y S k := fun k hk e => by
    refine ⟨?_, hk.2⟩
    have := hk.1
    rw [w_nw_of e hk.2] at this
    exact this
  have hlt : ∀ k, w_pr Y S k → ad k < h.length := fun k hk => by
    obtain ⟨x, q, -⟩ := hE.1 k hk
    exact (List.getElem?_eq_some_iff.mp q).1
  refine ⟨⟨fun k hk => ?_, fun k m hk hm => ?_, ?_, ?_, ?_⟩, fun k hk => ⟨hpr k hk, if_neg (hfr k hk)⟩⟩
  · by_cases e : k = j
    · subst e
      refine ⟨c, ?_, hc _⟩
      show (h ++ [c])[if k = k then h.length else ad k]? = _
      rw [if_pos rfl]
      exact List.getElem?_concat_length
    · obtain ⟨x, q1, q2⟩ := hE.1 k (hback k hk e)
      refine ⟨x, ?_, w_c_ad hpr (fun m q => if_neg (hfr m q)) (w_nw_of e hk.2) q2⟩
      show (h ++ [c])[if k = j then h.length else ad k]? = _
      rw [if_neg e, List.getElem?_append_left (hlt k (hback k hk e))]
      exact q1
  · show (if k = j then h.length else ad k) = (if m = j then h.length else ad m) → k = m
    by_cases e : k = j
    · by_cases e2 : m = j
      · intro _; rw [e, e2]
      · rw [if_pos e, if_neg e2]
        intro q
        have := hlt m (hback m hm e2)
        omega
    · by_cases e2 : m = j
      · rw [if_neg e, if_pos e2]
        intro q
        have := hlt k (hback k hk e)
        omega
      · rw [if_neg e, if_neg e2]
        exact hE.2.1 k m (hback k hk e) (hback m hm e2)
  · rw [(w_nw_G hjG).1, hE.2.2.1, pe_D_push, pm_sz_push]
    omega
  · rw [(w_nw_G hjG).2, h1, List.length_append]
    rfl
  · intro k hk
    rw [(w_nw_G hjG).2]
    by_cases e : k = j
    · subst e; exact hj.2
    · have := hE.2.2.2.2 k (hback k hk e)
      omega
def w_z (n : Int) : Int → Int := fun i => if i = -1 then n else 0
theorem wa_newI {n : Int} (j : Nat) (hn : 0 ≤ n ∧ n ≤ 67108864) (ht : Y.ty j = 0) (hj : 4000000 + 64 * S wG 1 ≤ (j : Int) ∧ (j : Int) < 4000000 + 64 * (S wG 1 + 1)) (hkl : w_kl Y S (fun _ => False) L) (hks : w_ks Y S (fun _ => False) st) (k : wJ G Y M d mt rest L ((2, (j : Int)) :: st) (w_nw S j (w_z n) n) Q) : wJ G Y M d mt (.inl (.newarray .int) :: rest) L ((0, n) :: st) S Q := by
  intro ad Lc h hE hL
  have hn2 : ((n.toNat : Nat) : Int) = n := by omega
  have W := w_E_new (j := j) (g := w_z n) (c := .inl (0, n.toNat, [])) hE hj (by show 0 ≤ n; exact hn.1) (fun ad2 => ⟨ht, ⟨by omega, by omega⟩, ⟨by rw [w_nw_at]; show n = _; omega, by omega⟩, fun i hi => by rw [w_nw_at]; show (0 : Int) = (if (i : Int) = -1 then n else 0) ∧ w_rg 0 (if (i : Int) = -1 then n else 0); rw [if_neg (by omega)]; exact ⟨rfl, ⟨by omega, by omega⟩⟩⟩)
  rw [show ((pm_n (pe_d (.inl (0, n.toNat, []))) : Nat) : Int) = n from hn2] at W
  have ha : ∀ k, w_pr Y S k → ¬ (fun _ : Nat => False) k → (if k = j then h.length else ad k) = ad k := fun k q _ => (W.2 k q).2
  obtain ⟨o, ad2, S3, h3, f0, hg, hE3, hM, hQ⟩ := k _ Lc _ W.1 (w_LL_kl ha hkl hL)
  refine ⟨o, ad2, S3, h3, f0 + 1, fun f hf => ?_, hE3, fun k q => ⟨(hM k (W.2 k q).1).1, fun r => by rw [(hM k (W.2 k q).1).2 r]; exact (W.2 k q).2⟩, hQ⟩
  obtain ⟨f, rfl⟩ : ∃ g, f = g + 1 := ⟨f - 1, by omega⟩
  have hr : w_rg 0 n := ⟨by omega, by omega⟩
  have e : (Int32.ofInt n).toNatClampNeg = n.toNat := by
    show (Int32.ofInt n).toInt.toNat = _
    rw [w_ti hr]
  have hgf := hg f (by omega)
  rw [show List.map (w_u (fun k => if k = j then h.length else ad k)) ((2, (j : Int)) :: st) = .ref h.length :: st.map (w_u ad) by
    rw [List.map_cons, w_st_ks ha hks]
    show w_r (fun k => if k = j then h.length else ad k) (j : Int) :: _ = _
    rw [w_r_n _ rfl]
    show Value.ref (if j = j then h.length else ad j) :: _ = _
    rw [if_pos rfl]] at hgf
  refine Eq.trans ?_ hgf
  show pe_f_newarray .int G.xs mt.mx Lc (.int (Int32.ofInt n) :: st.map (w_u ad)) h (fun L st h => pe_go G f d mt rest L st h) = _
  unfold pe_f_newarray pe_1i
  dsimp only
  rw [show decide (Int32.ofInt n < 0) = false from decide_eq_false (fun q => by rw [w_0, w_lt0 hr w_r0] at q; omega), e, show Nat.ble (n.toNat * 8) 536870912 = true from Nat.ble_eq_true_of_le (by omega)]
  show (bif true then _ else none) = _
  rw [cond_true, pe_fn_eq, pe_fn_eq]
  show (pe_pushk (.inl (0, n.toNat, [])) h fun h2 => pe_go G f d mt rest Lc (.ref h.length :: st.map (w_u ad)) h2) = _
  rw [pe_pushk_eq]
theorem wa_newB {n : Int} (j : Nat) (hn : 0 ≤ n ∧ n ≤ 67108864) (ht : Y.ty j = 2) (hj : 4000000 + 64 * S wG 1 ≤ (j : Int) ∧ (j : Int) < 4000000 + 64 * (S wG 1 + 1)) (hkl : w_kl Y S (fun _ => False) L) (hks : w_ks Y S (fun _ => False) st) (k : wJ G Y M d mt rest L ((2, (j : Int)) :: st) (w_nw S j (w_z n) n) Q) : wJ G Y M d mt (.inl (.newarray .byte) :: rest) L ((0, n) :: st) S Q := by
  intro ad Lc h hE hL
  have hn2 : ((n.toNat : Nat) : Int) = n := by omega
  have W := w_E_new (j := j) (g := w_z n) (c := .inl (2, n.toNat, [])) hE hj (by show 0 ≤ n; exact hn.1) (fun ad2 => ⟨ht, ⟨by omega, by omega⟩, ⟨by rw [w_nw_at]; show n = _; omega, by omega⟩, fun i hi => by rw [w_nw_at]; show (0 : Int) = (if (i : Int) = -1 then n else 0) ∧ w_rg 2 (if (i : Int) = -1 then n else 0); rw [if_neg (by omega)]; exact ⟨rfl, ⟨by omega, by omega⟩⟩⟩)
  rw [show ((pm_n (pe_d (.inl (2, n.toNat, []))) : Nat) : Int) = n from hn2] at W
  have ha : ∀ k, w_pr Y S k → ¬ (fun _ : Nat => False) k → (if k = j then h.length else ad k) = ad k := fun k q _ => (W.2 k q).2
  obtain ⟨o, ad2, S3, h3, f0, hg, hE3, hM, hQ⟩ := k _ Lc _ W.1 (w_LL_kl ha hkl hL)
  refine ⟨o, ad2, S3, h3, f0 + 1, fun f hf => ?_, hE3, fun k q => ⟨(hM k (W.2 k q).1).1, fun r => by rw [(hM k (W.2 k q).1).2 r]; exact (W.2 k q).2⟩, hQ⟩
  obtain ⟨f, rfl⟩ : ∃ g, f = g + 1 := ⟨f - 1, by omega⟩
  have hr : w_rg 0 n := ⟨by omega, by omega⟩
  have e : (Int32.ofInt n).toNatClampNeg = n.toNat := by
    show (Int32.ofInt n).toInt.toNat = _
    rw [w_ti hr]
  have hgf := hg f (by omega)
  rw [show List.map (w_u (fun k => if k = j then h.length else ad k)) ((2, (j : Int)) :: st) = .ref h.length :: st.map (w_u ad) by
    rw [List.map_cons, w_st_ks ha hks]
    show w_r (fun k => if k = j then h.length else ad k) (j : Int) :: _ = _
    rw [w_r_n _ rfl]
    show Value.ref (if j = j then h.length else ad j) :: _ = _
    rw [if_pos rfl]] at hgf
  refine Eq.trans ?_ hgf
  show pe_f_newarray .byte G.xs mt.mx Lc (.int (Int32.ofInt n) :: st.map (w_u ad)) h (fun L st h => pe_go G f d mt rest L st h) = _
  unfold pe_f_newarray pe_1i
  dsimp only
  rw [show decide (Int32.ofInt n < 0) = false from decide_eq_false (fun q => by rw [w_0, w_lt0 hr w_r0] at q; omega), e, show Nat.ble (n.toNat * 8) 536870912 = true from Nat.ble_eq_true_of_le (by omega)]
  show (bif true then _ else none) = _
  rw [cond_true, pe_fn_eq, pe_fn_eq]
  show (pe_pushk (.inl (2, n.toNat, [])) h fun h2 => pe_go G f d mt rest Lc (.ref h.length :: st.map (w_u ad)) h2) = _
  rw [pe_pushk_eq]
theorem wa_newZ {n : Int} (j : Nat) (hn : 0 ≤ n ∧ n ≤ 67108864) (ht : Y.ty j = 3) (hj : 4000000 + 64 * S wG 1 ≤ (j : Int) ∧ (j : Int) < 4000000 + 64 * (S wG 1 + 1)) (hkl : w_kl Y S (fun _ => False) L) (hks : w_ks Y S (fun _ => False) st) (k : wJ G Y M d mt rest L ((2, (j : Int)) :: st) (w_nw S j (w_z n) n) Q) : wJ G Y M d mt (.inl (.newarray .boolean) :: rest) L ((0, n) :: st) S Q := by
  intro ad Lc h hE hL
  have hn2 : ((n.toNat : Nat) : Int) = n := by omega
  have W := w_E_new (j := j) (g := w_z n) (c := .inl (3, n.toNat, [])) hE hj (by show 0 ≤ n; exact hn.1) (fun ad2 => ⟨ht, ⟨by omega, by omega⟩, ⟨by rw [w_nw_at]; show n = _; omega, by omega⟩, fun i hi => by rw [w_nw_at]; show (0 : Int) = (if (i : Int) = -1 then n else 0) ∧ w_rg 3 (if (i : Int) = -1 then n else 0); rw [if_neg (by omega)]; exact ⟨rfl, ⟨by omega, by omega⟩⟩⟩)
  rw [show ((pm_n (pe_d (.inl (3, n.toNat, []))) : Nat) : Int) = n from hn2] at W
  have ha : ∀ k, w_pr Y S k → ¬ (fun _ : Nat => False) k → (if k = j then h.length else ad k) = ad k := fun k q _ => (W.2 k q).2
  obtain ⟨o, ad2, S3, h3, f0, hg, hE3, hM, hQ⟩ := k _ Lc _ W.1 (w_LL_kl ha hkl hL)
  refine ⟨o, ad2, S3, h3, f0 + 1, fun f hf => ?_, hE3, fun k q => ⟨(hM k (W.2 k q).1).1, fun r => by rw [(hM k (W.2 k q).1).2 r]; exact (W.2 k q).2⟩, hQ⟩
  obtain ⟨f, rfl⟩ : ∃ g, f = g + 1 := ⟨f - 1, by omega⟩
  have hr : w_rg 0 n := ⟨by omega, by omega⟩
  have e : (Int32.ofInt n).toNatClampNeg = n.toNat := by
    show (Int32.ofInt n).toInt.toNat = _
    rw [w_ti hr]
  have hgf := hg f (by omega)
  rw [show List.map (w_u (fun k => if k = j then h.length else ad k)) ((2, (j : Int)) :: st) = .ref h.length :: st.map (w_u ad) by
    rw [List.map_cons, w_st_ks ha hks]
    show w_r (fun k => if k = j then h.length else ad k) (j : Int) :: _ = _
    rw [w_r_n _ rfl]
    show Value.ref (if j = j then h.length else ad j) :: _ = _
    rw [if_pos rfl]] at hgf
  refine Eq.trans ?_ hgf
  show pe_f_newarray .boolean G.xs mt.mx Lc (.int (Int32.ofInt n) :: st.map (w_u ad)) h (fun L st h => pe_go G f d mt rest L st h) = _
  unfold pe_f_newarray pe_1i
  dsimp only
  rw [show decide (Int32.ofInt n < 0) = false from decide_eq_false (fun q => by rw [w_0, w_lt0 hr w_r0] at q; omega), e, show Nat.ble (n.toNat * 8) 536870912 = true from Nat.ble_eq_true_of_le (by omega)]
  show (bif true then _ else none) = _
  rw [cond_true, pe_fn_eq, pe_fn_eq]
  show (pe_pushk (.inl (3, n.toNat, [])) h fun h2 => pe_go G f d mt rest Lc (.ref h.length :: st.map (w_u ad)) h2) = _
  rw [pe_pushk_eq]
theorem wa_newJ {n : Int} (j : Nat) (hn : 0 ≤ n ∧ n ≤ 67108864) (ht : Y.ty j = 1) (hj : 4000000 + 64 * S wG 1 ≤ (j : Int) ∧ (j : Int) < 4000000 + 64 * (S wG 1 + 1)) (hkl : w_kl Y S (fun _ => False) L) (hks : w_ks Y S (fun _ => False) st) (k : wJ G Y M d mt rest L ((2, (j : Int)) :: st) (w_nw S j (w_z n) n) Q) : wJ G Y M d mt (.inl (.newarray .long) :: rest) L ((0, n) :: st) S Q := by
  intro ad Lc h hE hL
  have hn2 : ((n.toNat : Nat) : Int) = n := by omega
  have W := w_E_new (j := j) (g := w_z n) (c := .inr (.inr (.inr (1, n.toNat, [])))) hE hj (by show 0 ≤ n; exact hn.1) (fun ad2 => ⟨ht, rfl, ⟨by rw [w_nw_at]; show n = _; omega, by omega⟩, fun i hi => by rw [w_nw_at]; show (0 : Int) = (if (i : Int) = -1 then n else 0); rw [if_neg (by omega)]⟩)
  rw [show ((pm_n (pe_d (.inr (.inr (.inr (1, n.toNat, []))))) : Nat) : Int) = n from hn2] at W
  have ha : ∀ k, w_pr Y S k → ¬ (fun _ : Nat => False) k → (if k = j then h.length else ad k) = ad k := fun k q _ => (W.2 k q).2
  obtain ⟨o, ad2, S3, h3, f0, hg, hE3, hM, hQ⟩ := k _ Lc _ W.1 (w_LL_kl ha hkl hL)
  refine ⟨o, ad2, S3, h3, f0 + 1, fun f hf => ?_, hE3, fun k q => ⟨(hM k (W.2 k q).1).1, fun r => by rw [(hM k (W.2 k q).1).2 r]; exact (W.2 k q).2⟩, hQ⟩
  obtain ⟨f, rfl⟩ : ∃ g, f = g + 1 := ⟨f - 1, by omega⟩
  have hr : w_rg 0 n := ⟨by omega, by omega⟩
  have e : (Int32.ofInt n).toNatClampNeg = n.toNat := by
    show (Int32.ofInt n).toInt.toNat = _
    rw [w_ti hr]
  have hgf := hg f (by omega)
  rw [show List.map (w_u (fun k => if k = j then h.length else ad k)) ((2, (j : Int)) :: st) = .ref h.length :: st.map (w_u ad) by
    rw [List.map_cons, w_st_ks ha hks]
    show w_r (fun k => if k = j then h.length else ad k) (j : Int) :: _ = _
    rw [w_r_n _ rfl]
    show Value.ref (if j = j then h.length else ad j) :: _ = _
    rw [if_pos rfl]] at hgf
  refine Eq.trans ?_ hgf
  show pe_f_newarray .long G.xs mt.mx Lc (.int (Int32.ofInt n) :: st.map (w_u ad)) h (fun L st h => pe_go G f d mt rest L st h) = _
  unfold pe_f_newarray pe_1i
  dsimp only
  rw [show decide (Int32.ofInt n < 0) = false from decide_eq_false (fun q => by rw [w_0, w_lt0 hr w_r0] at q; omega), e, show Nat.ble (n.toNat * 8) 536870912 = true from Nat.ble_eq_true_of_le (by omega)]
  show (bif true then _ else none) = _
  rw [cond_true, pe_fn_eq, pe_fn_eq]
  show (pe_pushk (.inr (.inr (.inr (1, n.toNat, [])))) h fun h2 => pe_go G f d mt rest Lc (.ref h.length :: st.map (w_u ad)) h2) = _
  rw [pe_pushk_eq]
end W53
