/-! PART as: the class's Reader on a program: what a token is; a name. -/
section Was
variable {xs : List (Nat × List Int32)} {M : Nat → Prop} {d : Nat} {A B C S S1 Z : wS} {Q : wO → wS → Prop} {T : Int → Int} {n : Int} {N X : List (List Int)}
/-- the signs of a name -/
def nmx (T : Int → Int) (n p : Int) : List Int := sl_ T p (lx_en T n 0 p - p)
/-- the names, the texts behind the token at p -/
def Nn (T : Int → Int) (n p : Int) (N : List (List Int)) : List (List Int) := if lx_tk T n 0 p = 1 ∧ kwL (nmx T n p) = -1 then adL N (nmx T n p) else N
def Xn (T : Int → Int) (n p : Int) (X : List (List Int)) : List (List Int) := if lx_tk T n 0 p = 3 then adL X (lx_by T n p) else X
/-- the kind and the value of the token at p -/
def kp (T : Int → Int) (n p : Int) (N X : List (List Int)) : Int := if lx_tk T n 0 p = 1 then (if kwL (nmx T n p) = -1 then (if ixL (adL N (nmx T n p)) (nmx T n p) = -1 then 6 else 5) else 40 + kwL (nmx T n p)) else if lx_tk T n 0 p = 2 then 2 else if lx_tk T n 0 p = 3 then (if ixL (adL X (lx_by T n p)) (lx_by T n p) = -1 then 4 else 3) else if lx_tk T n 0 p = 5 then 1 else sk (lx_si T n 0 p)
def vp (T : Int → Int) (n p : Int) (N X : List (List Int)) : Int := if lx_tk T n 0 p = 1 then (if kwL (nmx T n p) = -1 then ixL (adL N (nmx T n p)) (nmx T n p) else 0) else if lx_tk T n 0 p = 2 then lx_va T n p else if lx_tk T n 0 p = 3 then ixL (adL X (lx_by T n p)) (lx_by T n p) else 0
/-- the token at p has come; e is what is answered -/
def pt_ok (T : Int → Int) (n p : Int) (N X : List (List Int)) (S Z : wS) (e : Int) : Prop := rp_ag S Z ∧ Z 14 3 = S 14 3 + 1 ∧ (Z 16 (S 14 3) = p ∧ Z 15 (S 14 3) = kp T n p N X ∧ Z 17 (S 14 3) = vp T n p N X) ∧ e = (if lx_tk T n 0 p = 5 then n else lx_en T n 0 p) ∧ cL 9 10 (Nn T n p N) Z ∧ cL 10 12 (Xn T n p X) Z ∧ Z 2 7 ≤ S 2 7 + 1 ∧ Z 2 1 ≤ S 2 1 + (e - p)
theorem pt_fin {k p v e : Int} (h0 : 0 ≤ S 2 7 ∧ 0 ≤ S 2 1 ∧ 0 ≤ S 14 3 ∧ 0 ≤ S 2 10 ∧ 0 ≤ S 2 12) (hr : rp_ag S S1) (z3 : S1 14 3 = S 14 3) (hb : S1 14 3 ≤ 500000) (hk : k = kp T n p N X) (hv : v = vp T n p N X) (he : e = (if lx_tk T n 0 p = 5 then n else lx_en T n 0 p)) (c1 : cL 9 10 (Nn T n p N) S1) (c2 : cL 10 12 (Xn T n p X) S1) (b1 : S1 2 7 ≤ S 2 7 + 1) (b2 : S1 2 1 ≤ S 2 1 + (e - p)) (g : ad_ag S1 Z k p v) : pt_ok T n p N X S Z e := by
  have hW := hr.2.2.2.2.2.2.2.2.1
  have ha := rp_ad hW hr.2.2.2.2.2.2.2.2.2.1 hr.2.2.2.2.2.2.2.2.2.2.1 hr.2.2.2.2.2.2.2.2.2.2.2.1 hb g
  have e2 : ∀ (j : Nat) (i : Int), j < 14 → Z j i = S1 j i := fun j i hj => g.2.2.2.1 j i (by omega) (by unfold wG; omega) (by omega) (by omega) (by omega) (by omega)
  refine ⟨rp_tr h0 hr ha, by rw [g.1, z3], ⟨?_, ?_, ?_⟩, he, cL_ag hW c1 ha (fun i _ _ => e2 9 i (by decide)) (e2 2 10 (by decide)), cL_ag hW c2 ha (fun i _ _ => e2 10 i (by decide)) (e2 2 12 (by decide)), by rw [e2 2 7 (by decide)]; exact b1, by rw [e2 2 1 (by decide)]; exact b2⟩
  · rw [← z3]; exact g.2.1.2.1
  · rw [← z3]; exact g.2.1.1.trans hk
  · rw [← z3]; exact g.2.1.2.2.trans hv
theorem adL_in {L : List (List Int)} {x : List Int} (h : x ∈ L) : adL L x = L := if_pos (Or.inl h)
theorem adL_full {L : List (List Int)} {x : List Int} (h : 4000 ≤ L.length) : adL L x = L := if_pos (Or.inr h)
theorem adL_new {L : List (List Int)} {x : List Int} (h : x ∉ L) (h2 : L.length < 4000) : adL L x = L ++ [x] := if_neg (fun q => q.elim h (fun q => by omega))
theorem xn5 {p e k : Int} (h0 : 0 ≤ S 2 7 ∧ 0 ≤ S 2 1 ∧ 0 ≤ S 14 3 ∧ 0 ≤ S 2 10 ∧ 0 ≤ S 2 12) (hr : rp_ag S S1) (z3 : S1 14 3 = S 14 3) (hb : S1 14 3 ≤ 400000) (h7 : S1 14 7 = 2) (h33 : 33 ≤ S1 2 7) (hr2 : r2_I S1) (hk : 0 ≤ k ∧ k < S1 2 7 ∧ S1 2 7 ≤ 500000) (hq : wqL S1 (nmx T n p) k) (c1 : cL 9 10 N S1) (c2 : cL 10 12 X S1) (hp : 0 ≤ p ∧ p ≤ 65536) (htk : lx_tk T n 0 p = 1) (hen : lx_en T n 0 p = e) (b1 : S1 2 7 ≤ S 2 7 + 1) (b2 : S1 2 1 ≤ S 2 1 + (e - p)) : wJ (pe_GA xs) wY0 (mS [3, 4, 5, 6, 7, 8, 9, 10, 15, 16, 17]) (d + 4) t_XR_addName ((pe_at t_XR_addName.bl 5).getD (0, [])).2 [(0, (2, 14)), (1, (0, p)), (2, (0, e)), (3, (0, k))] [] S1 (fun o Z => ∃ e : Int, o = .inl (some (0, e)) ∧ pt_ok T n p N X S Z e) := by
  have hW := hr.2.2.2.2.2.2.2.2.1
  have hL := hr.2.2.2.2.2.2.2.2.2.1
  have hV := hr.2.2.2.2.2.2.2.2.2.2.1
  have hR := hr.2.2.2.2.2.2.2.2.2.2.2.1
  have hI := hr.2.2.2.2.2.2.2.2.2.2.2.2.1
  have hrm := rmR_rfl S1
  have hc0 : 0 ≤ S1 2 7 ∧ S1 2 7 ≤ S1 4 (-1) := hW.1
  have hv1 : 0 ≤ S1 2 10 := hV.1.1
  have hkw := kw_of hW hr2 h33 ⟨hk.1, hk.2.1⟩ hq
  have hix : S1 7 k = ixL N (nmx T n p) := ix_no hW hV.1 c1 ⟨hk.1, hk.2.1⟩ hq
  have hv7 : S1 2 10 ≤ 4000 := hV.2.2.2.2.2.2.1
  have hno : -1 ≤ S1 7 k ∧ S1 7 k ≤ 4000 := by
    rcases hV.1.2.2 k hk.1 hk.2.1 with q | ⟨q1, q2, -⟩
    · have q : S1 7 k = -1 := q
      omega
    · have q1 : 0 ≤ S1 7 k := q1
      have q2 : S1 7 k < S1 2 10 := q2
      omega
  have hnl := c1.1
  have hee : e = (if lx_tk T n 0 p = 5 then n else lx_en T n 0 p) := by rw [htk, if_neg (by decide), hen]
  have hXn : Xn T n p X = X := if_neg (by rw [htk]; decide)
  refine wa_iload_n (n := 3) rfl ?_
  refine wa_bipush (w_rg2 (by omega) (by omega)) ?_
  refine wa_icmpge (w_rg0 (by omega) (by omega)) (w_rg0 (by omega) (by omega)) ⟨_, rfl⟩ (fun c101 => ?_) (fun c101 => ?_)
  · skip
    refine wa_aload_n (n := 0) rfl ?_
    refine wb_gf5 14 rfl (wy_pr rfl) wt_14 wf_6_7 (v := 2) (h7) (fun r102 => ?_)
    refine wa_iload_n (n := 3) rfl ?_
    refine wa_cv 2 rfl (wy_pr rfl) wt_2 (M2 := mS [9]) rfl at_XW_nameFor ⟨_, rfl⟩ rfl rfl ⟨(Or.inr ⟨wy_pr rfl, mS_no rfl⟩), trivial, trivial, trivial, trivial⟩ trivial (fun _ _ q => mS_sub (by decide) q) (nf_2 (S := S1) hI hL hV ⟨hk.1, hk.2.1, hc0.2⟩) (fun oq103 Sq103 hp104 q103 => ?_)
    rcases q103 with ⟨hcn, rfl, rfl⟩ | ⟨hcn, hg, rfl⟩
    · skip
      show wJ _ _ _ _ _ _ _ _ _ _
      have hgo := True.intro
      refine wa_istore (n := 4) rfl ?_
      refine wa_aload_n (n := 0) rfl ?_
      refine wa_iload (n := 4) rfl ?_
      refine wa_iconst ?_
      refine wa_icmpne (w_rg0 (by omega) (by omega)) (w_rg0 (by omega) (by omega)) ⟨_, rfl⟩ (fun c105 => ?_) (fun c105 => ?_)
      · skip
        refine wa_iconst ?_
        refine wa_fall ⟨_, rfl⟩ ?_
        refine wa_iload_n (n := 1) rfl ?_
        refine wa_iload (n := 4) rfl ?_
        refine wa_cv 14 rfl (wy_pr rfl) wt_14 (M2 := mS [15, 16, 17]) rfl at_XR_add ⟨_, rfl⟩ rfl rfl ⟨trivial, (Or.inr ⟨wy_pr rfl, mS_no rfl⟩), trivial, trivial, trivial, trivial⟩ trivial (fun _ _ q => mS_sub (by decide) q) (ad_ok (S := S1) hI ⟨by omega, by omega⟩ ⟨by omega, by omega⟩ ⟨by omega, by omega⟩ hR) (fun oq108 Sq108 hp109 q108 => ?_)
        rcases q108 with ⟨rfl, ad106⟩
        show wJ _ _ _ _ _ _ _ _ _ _
        generalize Sq108 = Z107 at ad106 ⊢
        refine wa_fall ⟨_, rfl⟩ ?_
        refine wa_iload_n (n := 2) rfl ?_
        refine wa_ireturn rfl ?_
        have hkk := hkw.2 (by omega)
        have hNn : Nn T n p N = adL N (nmx T n p) := if_pos ⟨htk, hkk⟩
        have hxn : nmx T n p ∈ N := Decidable.byContradiction (fun z => by have := ixL_no.mpr z; omega)
        have hadd : adL N (nmx T n p) = N := adL_in hxn
        refine ⟨e, rfl, pt_fin h0 hr z3 (by omega) ?_ ?_ hee ?_ ?_ b1 b2 ad106⟩
        · unfold kp; rw [if_pos htk, if_pos hkk, hadd, if_neg (by rw [← hix]; omega)]
        · unfold vp; rw [if_pos htk, if_pos hkk, hadd]; exact hix
        · rw [hNn, hadd]; exact c1
        · rw [hXn]; exact c2
      · skip
        refine wa_bipush (w_rg2 (by omega) (by omega)) ?_
        refine wa_goto ⟨_, rfl⟩ ?_
        refine wa_iload_n (n := 1) rfl ?_
        refine wa_iload (n := 4) rfl ?_
        refine wa_cv 14 rfl (wy_pr rfl) wt_14 (M2 := mS [15, 16, 17]) rfl at_XR_add ⟨_, rfl⟩ rfl rfl ⟨trivial, (Or.inr ⟨wy_pr rfl, mS_no rfl⟩), trivial, trivial, trivial, trivial⟩ trivial (fun _ _ q => mS_sub (by decide) q) (ad_ok (S := S1) hI ⟨by omega, by omega⟩ ⟨by omega, by omega⟩ ⟨by omega, by omega⟩ hR) (fun oq112 Sq112 hp113 q112 => ?_)
        rcases q112 with ⟨rfl, ad110⟩
        show wJ _ _ _ _ _ _ _ _ _ _
        generalize Sq112 = Z111 at ad110 ⊢
        refine wa_fall ⟨_, rfl⟩ ?_
        refine wa_iload_n (n := 2) rfl ?_
        refine wa_ireturn rfl ?_
        have hkk := hkw.2 (by omega)
        have hNn : Nn T n p N = adL N (nmx T n p) := if_pos ⟨htk, hkk⟩
        have hxn : nmx T n p ∉ N := ixL_no.mp (by omega)
        have hadd : adL N (nmx T n p) = N := adL_full (by omega)
        have hval : ixL N (nmx T n p) = -1 := ixL_no.mpr hxn
        refine ⟨e, rfl, pt_fin h0 hr z3 (by omega) ?_ ?_ hee ?_ ?_ b1 b2 ad110⟩
        · unfold kp; rw [if_pos htk, if_pos hkk, hadd, if_pos hval]
        · unfold vp; rw [if_pos htk, if_pos hkk, hadd]; exact hix
        · rw [hNn, hadd]; exact c1
        · rw [hXn]; exact c2
    · skip
      show wJ _ _ _ _ _ _ _ _ _ _
      have hz := rp_nf hW hL hV hR ⟨⟨hk.1, hk.2.1⟩, hcn.1, hcn.2⟩ hg
      have hzR := hz.2.2.2.2.2.2.2.2.2.2.2.1
      have hz3 : Sq103 14 3 = S1 14 3 := hg.2.2.2.1 14 3 (by decide) (by decide) (by decide) (Or.inl (by decide)) (Or.inl (by decide))
      refine wa_istore (n := 4) rfl ?_
      refine wa_aload_n (n := 0) rfl ?_
      refine wa_iload (n := 4) rfl ?_
      refine wa_iconst ?_
      refine wa_icmpne (w_rg0 (by omega) (by omega)) (w_rg0 (by omega) (by omega)) ⟨_, rfl⟩ (fun c114 => ?_) (fun c114 => ?_)
      · skip
        refine wa_iconst ?_
        refine wa_fall ⟨_, rfl⟩ ?_
        refine wa_iload_n (n := 1) rfl ?_
        refine wa_iload (n := 4) rfl ?_
        refine wa_cv 14 rfl (wy_pr rfl) wt_14 (M2 := mS [15, 16, 17]) rfl at_XR_add ⟨_, rfl⟩ rfl rfl ⟨trivial, (Or.inr ⟨wy_pr rfl, mS_no rfl⟩), trivial, trivial, trivial, trivial⟩ trivial (fun _ _ q => mS_sub (by decide) q) (ad_ok (S := Sq103) hg.2.2.2.2.1 ⟨by omega, by omega⟩ ⟨by omega, by omega⟩ ⟨by omega, by omega⟩ hzR) (fun oq117 Sq117 hp118 q117 => ?_)
        rcases q117 with ⟨rfl, ad115⟩
        show wJ _ _ _ _ _ _ _ _ _ _
        generalize Sq117 = Z116 at ad115 ⊢
        refine wa_fall ⟨_, rfl⟩ ?_
        refine wa_iload_n (n := 2) rfl ?_
        refine wa_ireturn rfl ?_
        have hkk := hkw.2 (by omega)
        have hNn : Nn T n p N = adL N (nmx T n p) := if_pos ⟨htk, hkk⟩
        have hxn : nmx T n p ∉ N := ixL_no.mp (by omega)
        have hadd : adL N (nmx T n p) = N ++ [nmx T n p] := adL_new hxn (by omega)
        have hval : ixL (N ++ [nmx T n p]) (nmx T n p) = (N.length : Int) := ixL_new hxn
        have e2 : ∀ i : Int, i ≠ 10 → Sq103 2 i = S1 2 i := fun i z => hg.2.2.2.1 2 i (by decide) (by decide) (by decide) (Or.inl (by decide)) (Or.inr z)
        refine ⟨e, rfl, pt_fin h0 (rp_tr h0 hr hz) (by omega) (by omega) ?_ ?_ hee ?_ ?_ (by rw [e2 7 (by decide)]; exact b1) (by rw [e2 1 (by decide)]; exact b2) ad115⟩
        · unfold kp; rw [if_pos htk, if_pos hkk, hadd, if_neg (by rw [hval]; omega)]
        · unfold vp; rw [if_pos htk, if_pos hkk, hadd, hval]; exact hnl
        · rw [hNn, hadd]; exact cL_nf hW c1 hz hg ⟨hk.1, hk.2.1⟩ hq
        · rw [hXn]; exact cL_ag hW c2 hz hz.2.2.2.2.1 (e2 12 (by decide))
      · skip
        exact absurd c114 (by omega)
  · skip
    refine wa_aload_n (n := 0) rfl ?_
    refine wa_bipush (w_rg2 (by omega) (by omega)) ?_
    refine wa_iload_n (n := 3) rfl ?_
    refine wa_iadd ?_
    refine wa_iload_n (n := 1) rfl ?_
    refine wa_iconst ?_
    refine wa_cv 14 rfl (wy_pr rfl) wt_14 (M2 := mS [15, 16, 17]) rfl at_XR_add ⟨_, rfl⟩ rfl rfl ⟨(Or.inr ⟨wy_pr rfl, mS_no rfl⟩), trivial, trivial, trivial, trivial⟩ trivial (fun _ _ q => mS_sub (by decide) q) (ad_ok (S := S1) hI ⟨by omega, by omega⟩ ⟨by omega, by omega⟩ ⟨by omega, by omega⟩ hR) (fun oq121 Sq121 hp122 q121 => ?_)
    rcases q121 with ⟨rfl, ad119⟩
    show wJ _ _ _ _ _ _ _ _ _ _
    generalize Sq121 = Z120 at ad119 ⊢
    refine wa_goto ⟨_, rfl⟩ ?_
    refine wa_iload_n (n := 2) rfl ?_
    refine wa_ireturn rfl ?_
    have hkk := hkw.1 (by omega)
    refine ⟨e, rfl, pt_fin h0 hr z3 (by omega) ?_ ?_ hee ?_ ?_ b1 b2 ad119⟩
    · unfold kp; rw [if_pos htk, hkk, if_neg (by omega)]
    · unfold vp; rw [if_pos htk, hkk, if_neg (by omega)]
    · rw [show Nn T n p N = N from if_neg (fun z => by rw [hkk] at z; omega)]; exact c1
    · rw [hXn]; exact c2
theorem xn2 {p : Int} (hB : rd_B T n S) (h7 : S 14 7 = 2) (h8 : S 14 8 = 0) (hI : gI S) (hW : wd_at S 2 1024) (hL : wd_L S 2 1024) (hV : wv_L S 2) (hR : rd_L S) (hb : rb_I 2 S) (h33 : 33 ≤ S 2 7) (hr2 : r2_I S) (c1 : cL 9 10 N S) (c2 : cL 10 12 X S) (hp : 0 ≤ p ∧ p < n) (hle : lx_le (T p) = true) : wJ (pe_GA xs) wY0 (mS [3, 4, 5, 6, 7, 8, 9, 10, 15, 16, 17]) (d + 6) t_XR_addName ((pe_at t_XR_addName.bl 0).getD (0, [])).2 [(0, (2, 14)), (1, (0, p))] [] S (fun o Z => ∃ e : Int, o = .inl (some (0, e)) ∧ pt_ok T n p N X S Z e) := by
  have hn := hB.2.2.1
  have hn1 := hB.2.2.2.1
  have hn2 := hB.2.2.2.2.1
  have hrm := rmR_rfl S
  have hb1 : S 2 7 ≤ 400000 ∧ S 2 1 ≤ 4000000 ∧ S 4 (-1) ≤ 1000000 ∧ S 3 (-1) ≤ 10000000 ∧ S 14 3 ≤ 400000 := hb
  have hc0 : 0 ≤ S 2 7 ∧ S 2 7 ≤ S 4 (-1) := hW.1
  have hu0 : 0 ≤ S 2 1 ∧ S 2 1 ≤ S 3 (-1) := hW.2.1
  have hl1 : 1024 ≤ S 3 (-1) := hL.2.2.2.2.2.2.1
  have hr1 : 0 ≤ S 14 3 := hR.1.1
  have hv1 : 0 ≤ S 2 10 := hV.1.1
  have hv2 : 0 ≤ S 2 12 := hV.2.1.1
  have h0 : 0 ≤ S 2 7 ∧ 0 ≤ S 2 1 ∧ 0 ≤ S 14 3 ∧ 0 ≤ S 2 10 ∧ 0 ≤ S 2 12 := ⟨hc0.1, hu0.1, hr1, hv1, hv2⟩
  have hpr := rp_rfl hW hL hV hR hI
  have hen : lx_en T n 0 p = lx_nm T n ((n - p).toNat + 1) p := by unfold lx_en; rw [if_neg (by omega), if_pos hle]
  have htk : lx_tk T n 0 p = if lx_nm T n ((n - p).toNat + 1) p - p ≤ 30 then 1 else 5 := by unfold lx_tk; rw [if_neg (by omega), if_pos hle]
  generalize hee : lx_nm T n ((n - p).toNat + 1) p = e at hen htk
  refine wa_iload_n (n := 1) rfl ?_
  refine wa_istore_n (n := 2) rfl ?_
  refine wa_fall ⟨_, rfl⟩ ?_
  refine wJ_S (xn_l (d := d + 4) (e := e) (p := p) hB (fun hpe hen1 => ?_) ((n - p).toNat + 1) p (by omega) (by omega) (by omega) (by omega) hee) ⟨rfl, rfl, rfl, trivial⟩
  refine wa_iload_n (n := 2) rfl ?_
  refine wa_iload_n (n := 1) rfl ?_
  refine wa_isub ?_
  refine wa_bipush (w_rg2 (by omega) (by omega)) ?_
  refine wa_icmple (w_rg0 (by omega) (by omega)) (w_rg0 (by omega) (by omega)) ⟨_, rfl⟩ (fun c31 => ?_) (fun c31 => ?_)
  · skip
    refine wa_aload_n (n := 0) rfl ?_
    refine wb_gf5 14 rfl (wy_pr rfl) wt_14 wf_6_7 (v := 2) (h7) (fun r32 => ?_)
    refine wa_aload_n (n := 0) rfl ?_
    refine wb_gf6 14 rfl (wy_pr rfl) wt_14 wf_6_5 (v := 1) (hB.1) (by decide) ?_
    refine wa_iload_n (n := 1) rfl ?_
    refine wa_iload_n (n := 2) rfl ?_
    refine wa_iload_n (n := 1) rfl ?_
    refine wa_isub ?_
    refine wa_cv 2 rfl (wy_pr rfl) wt_2 (M2 := mS [3, 4, 5, 6, 7, 8]) rfl at_XW_wordFor ⟨_, rfl⟩ rfl rfl ⟨(Or.inr ⟨wy_pr rfl, mS_no rfl⟩), trivial, trivial, trivial⟩ trivial (fun _ _ q => mS_sub (by decide) q) (wo_2_1 (S := S) (a0 := p) (n := e - p) hI hL ⟨by omega, by omega, by omega, by omega⟩ ⟨by omega, by omega⟩ ⟨by omega, by omega, by omega⟩ hW (by omega)) (fun oq33 Sq33 hp34 q33 => ?_)
    rcases q33 with ⟨k, rfl, hk0, hk1, hwq, rfl⟩ | ⟨rfl, hno, hq, hzI⟩
    · skip
      show wJ _ _ _ _ _ _ _ _ _ _
      refine wa_istore_n (n := 3) rfl ?_
      refine wa_aload_n (n := 0) rfl ?_
      refine wb_gfz 14 rfl (wy_pr rfl) wt_14 wf_6_8 (v := 0) (h8) (fun r35 => ?_)
      refine wa_ifeq (w_rg0 (by omega) (by omega)) ⟨_, rfl⟩ (fun c36 => ?_) (fun c36 => ?_)
      · skip
        have htk1 : lx_tk T n 0 p = 1 := by rw [htk, if_pos (by omega)]
        have hnx : nmx T n p = sl_ T p (e - p) := by unfold nmx; rw [hen]
        have hwT : wqL S (nmx T n p) k := by rw [hnx]; exact (wqL_sl (by omega)).mp ⟨hwq.1, fun i hi => (hwq.2 i hi).trans (hB.2.2.2.2.2.1 _ (by omega) (by omega))⟩
        exact wJ_S (xn5 (d := d + 2) h0 hpr rfl (by omega) h7 h33 hr2 ⟨hk0, hk1, by omega⟩ hwT c1 c2 ⟨by omega, by omega⟩ htk1 hen (by omega) (by omega)) ⟨rfl, rfl, rfl, rfl, trivial⟩
      · skip
        exact absurd c36 (by omega)
    · skip
      show wJ _ _ _ _ _ _ _ _ _ _
      generalize Sq33 = Zw at hq hzI ⊢
      refine wa_istore_n (n := 3) rfl ?_
      refine wa_aload_n (n := 0) rfl ?_
      refine wb_gfz 14 rfl (wy_pr rfl) wt_14 wf_6_8 (v := 0) (((hq.2.2.2.2.2.2.1 14 8 (by decide) (by decide) (by omega)).trans (h8))) (fun r37 => ?_)
      refine wa_ifeq (w_rg0 (by omega) (by omega)) ⟨_, rfl⟩ (fun c38 => ?_) (fun c38 => ?_)
      · skip
        have htk1 : lx_tk T n 0 p = 1 := by rw [htk, if_pos (by omega)]
        have hnx : nmx T n p = sl_ T p (e - p) := by unfold nmx; rw [hen]
        have hx := rp_wn hW hL hV hR ⟨by omega, by omega⟩ ⟨by omega, by omega⟩ hq hzI
        have hz7 : Zw 2 7 = S 2 7 + 1 := hq.1.2
        have hz1 : Zw 2 1 = S 2 1 + (e - p) := hq.1.1
        have hz14 : ∀ i : Int, Zw 14 i = S 14 i := fun i => hq.2.2.2.2.2.2.1 14 i (by decide) (by decide) (by omega)
        have hnw : wqL Zw (nmx T n p) (S 2 7) := by
          rw [hnx]
          refine (wqL_sl (by omega)).mp ⟨hq.2.2.1.2.1, fun i hi => ?_⟩
          rw [show Zw 4 (S 2 7) = S 2 1 from hq.2.2.1.1]
          exact (hq.2.2.2.2.2.1 (i : Int) (by omega) (by omega)).trans (hB.2.2.2.2.2.1 _ (by omega) (by omega))
        have e9 : ∀ (j : Nat) (i : Int), (j = 9 ∨ j = 10) → Zw j i = S j i := fun j i hj => hq.2.2.2.2.2.2.1 j i (by omega) (by unfold wG; omega) (by omega)
        have e2 : ∀ i : Int, i ≠ 1 → i ≠ 7 → Zw 2 i = S 2 i := fun i z1 z2 => hq.2.2.2.2.2.2.1 2 i (by decide) (by decide) (by omega)
        exact wJ_S (xn5 (d := d + 2) h0 hx (hz14 3) (by rw [hz14]; omega) ((hz14 7).trans h7) (by omega) (r2_ag hW h33 hr2 hx) ⟨by omega, by omega, by omega⟩ hnw (cL_ag hW c1 hx (fun i _ _ => e9 9 i (by omega)) (e2 10 (by decide) (by decide))) (cL_ag hW c2 hx (fun i _ _ => e9 10 i (by omega)) (e2 12 (by decide) (by decide))) ⟨by omega, by omega⟩ htk1 hen (by omega) (by omega)) ⟨rfl, rfl, rfl, rfl, trivial⟩
      · skip
        exact absurd c38 (by omega)
  · skip
    refine wa_aload_n (n := 0) rfl ?_
    refine wa_iload_n (n := 1) rfl ?_
    refine wa_cv 14 rfl (wy_pr rfl) wt_14 (M2 := mS [15, 16, 17]) rfl at_XR_addBad ⟨_, rfl⟩ rfl rfl ⟨(Or.inr ⟨wy_pr rfl, mS_no rfl⟩), trivial, trivial, trivial⟩ trivial (fun _ _ q => mS_sub (by decide) q) ?_ (fun _ _ _ q => q)
    refine wa_aload_n (n := 0) rfl ?_
    refine wa_iconst ?_
    refine wa_iload_n (n := 1) rfl ?_
    refine wa_iconst ?_
    refine wa_cv 14 rfl (wy_pr rfl) wt_14 (M2 := mS [15, 16, 17]) rfl at_XR_add ⟨_, rfl⟩ rfl rfl ⟨(Or.inr ⟨wy_pr rfl, mS_no rfl⟩), trivial, trivial⟩ trivial (fun _ _ q => mS_sub (by decide) q) (ad_ok (S := S) hI ⟨by omega, by omega⟩ ⟨by omega, by omega⟩ ⟨by omega, by omega⟩ hR) (fun oq41 Sq41 hp42 q41 => ?_)
    rcases q41 with ⟨rfl, ad39⟩
    show wJ _ _ _ _ _ _ _ _ _ _
    generalize Sq41 = Z40 at ad39 ⊢
    refine wa_aload_n (n := 0) rfl ?_
    refine wb_gfi 14 rfl (wy_pr rfl) wt_14 wf_6_6 (v := n) (((ad39.2.2.2.1 14 6 (by decide) (by decide) (by decide) (by decide) (by decide) (Or.inr (by decide))).trans (hB.2.1))) (fun r43 => ?_)
    refine wa_ireturn rfl ?_
    show wJ _ _ _ _ _ _ _ _ _ _
    refine wa_ireturn rfl ?_
    have htk5 : lx_tk T n 0 p = 5 := by rw [htk, if_neg (by omega)]
    refine ⟨n, rfl, pt_fin h0 hpr rfl (by omega) ?_ ?_ ?_ ?_ ?_ (by omega) (by omega) ad39⟩
    · unfold kp; rw [htk5]; rfl
    · unfold vp; rw [htk5]; rfl
    · rw [htk5, if_pos rfl]
    · rw [show Nn T n p N = N from if_neg (fun z => by rw [htk5] at z; omega)]; exact c1
    · rw [show Xn T n p X = X from if_neg (fun z => by rw [htk5] at z; omega)]; exact c2
end Was
