/-! the texts that the law writes, and what they read as -/
section Xt
variable {f g : Nat → Int32} {L : Nat}
theorem sk_ext (h : ∀ j, j < L → f j = g j) {p : Nat} : sk f L p = sk g L p := by
  unfold sk skp
  exact rnE_cg _ _ (fun j a b => by rw [h j (by omega)])
theorem tkn_ext (h : ∀ j, j < L → f j = g j) {s : Nat} : tkn f L s = tkn g L s := by
  unfold tkn
  by_cases c : s < L
  · rw [if_pos c, if_pos c]
    exact rnE_cg _ _ (fun j a b => by rw [h j (by omega), h s c])
  · rw [if_neg c, if_neg c]
theorem tk_ext (h : ∀ j, j < L → f j = g j) {p : Nat} : tk f L p = tk g L p := by
  have e : skp f L p = skp g L p := sk_ext h
  unfold tk
  rw [e, tkn_ext h]
theorem tq_ext (h : ∀ j, j < L → f j = g j) {s t i : Nat} (ht : t ≤ L) (hst : s ≤ t) : tq f s t i = tq g s t i := by
  unfold tq
  by_cases c : t - s = mj_sn.getD i 0
  · have e : (∀ j, j < mj_sn.getD i 0 → f (s + j) = (mj_sb.getD i []).getD j 0) ↔ (∀ j, j < mj_sn.getD i 0 → g (s + j) = (mj_sb.getD i []).getD j 0) := by
      constructor
      · intro a j hj
        rw [← h (s + j) (by omega)]; exact a j hj
      · intro a j hj
        rw [h (s + j) (by omega)]; exact a j hj
    rw [decide_eq_decide.mpr e]
  · rw [decide_eq_false c, Bool.false_and, Bool.false_and]
theorem nmOk_ext (h : ∀ j, j < L → f j = g j) {s t : Nat} : nmOk f L s t = nmOk g L s t := by
  unfold nmOk
  by_cases c : s < L
  · rw [h s c]
  · rw [decide_eq_false c, Bool.false_and, Bool.false_and]
theorem nmV_ext (h : ∀ j, j < L → f j = g j) {s t : Nat} (ht : t ≤ L) (hst : s < t) (hok : nmOk f L s t = true) : nmV f s t = nmV g s t := by
  unfold nmOk at hok
  rw [Bool.and_eq_true, Bool.and_eq_true, Bool.and_eq_true, decide_eq_true_eq, decide_eq_true_eq] at hok
  unfold nmV
  by_cases c : t - s = 1
  · rw [if_pos c, if_pos c, h s hok.1]
  · rw [if_neg c, if_neg c, h s hok.1, h (s + 1) (by omega)]
theorem kdR_ext (h : ∀ j, j < L → f j = g j) {s t : Nat} (ht : t ≤ L) (hst : s ≤ t) : ∀ n c, kdR f s t n c = kdR g s t n c
  | 0, c => rfl
  | n + 1, c => by
    rw [kdR, kdR, tq_ext h ht hst, kdR_ext h ht hst n (c + 1)]
theorem tk_gt {p : Nat} (hp : p ≤ L) : sk g L p ≤ tk g L p ∧ (sk g L p < L → sk g L p < tk g L p) := by
  have h1 := skp_le g hp
  exact ⟨(tkn_le g h1.2).1, fun h => tkn_gt g h⟩
theorem rde_ext (h : ∀ j, j < L → f j = g j) {p : Nat} {e : Int32} (r : RDE g L p e) : RDE f L p e := by
  unfold RDE at *
  rw [sk_ext h]; exact r
theorem rdm_ext (h : ∀ j, j < L → f j = g j) {p : Nat} (hp : p ≤ L) {e y : Int32} (r : RDM g L p e y) : RDM f L p e y := by
  have hs := sktk_le g hp
  have hg := tk_gt (g := g) hp
  unfold RDM at *
  rw [sk_ext h, tk_ext h]
  by_cases c : nmOk f L (sk g L p) (tk g L p) = true
  · have c' := c
    rw [nmOk_ext h] at c'
    rw [if_pos c'] at r
    have hl : sk g L p < L := by
      unfold nmOk at c'
      rw [Bool.and_eq_true, decide_eq_true_eq] at c'
      exact c'.1
    rw [if_pos c, nmV_ext h hs.2.2 (hg.2 hl) c]
    exact ⟨r.1, rde_ext h r.2⟩
  · have c' := c
    rw [nmOk_ext h] at c'
    rw [if_neg c'] at r
    rw [if_neg c]; exact r
theorem rdd_ext (h : ∀ j, j < L → f j = g j) {k p : Nat} (hp : p ≤ L) {e y : Int32} (r : RDD g L k p e y) : RDD f L k p e y := by
  have hs := sktk_le g hp
  have hg := tk_gt (g := g) hp
  unfold RDD at *
  by_cases k4 : k = 4
  · rw [if_pos k4] at r ⊢
    exact rdm_ext h hp r
  · rw [if_neg k4] at r ⊢
    rw [sk_ext h, tk_ext h, tq_ext h hs.2.2 hg.1]
    split at r <;> rename_i c
    · rw [if_pos c]; exact rdm_ext h hs.2.2 r
    · rw [if_neg c]; exact r
theorem rdn_ext (h : ∀ j, j < L → f j = g j) {k p : Nat} (hp : p ≤ L) {e x y : Int32} (r : RDN g L k p e x y) : RDN f L k p e x y := by
  have hs := sktk_le g hp
  have hg := tk_gt (g := g) hp
  unfold RDN at *
  rw [sk_ext h, tk_ext h]
  by_cases c : nmOk f L (sk g L p) (tk g L p) = true
  · have c' := c
    rw [nmOk_ext h] at c'
    rw [if_pos c'] at r
    have hl : sk g L p < L := by
      unfold nmOk at c'
      rw [Bool.and_eq_true, decide_eq_true_eq] at c'
      exact c'.1
    rw [if_pos c, nmV_ext h hs.2.2 (hg.2 hl) c]
    exact ⟨r.1, rdd_ext h hs.2.2 r.2⟩
  · have c' := c
    rw [nmOk_ext h] at c'
    rw [if_neg c'] at r
    rw [if_neg c]; exact r
theorem rdt_ext (h : ∀ j, j < L → f j = g j) {k p : Nat} (hp : p ≤ L) {e a x y : Int32} (r : RDT g L k p e a x y) : RDT f L k p e a x y := by
  have hs := sktk_le g hp
  have hg := tk_gt (g := g) hp
  unfold RDT at *
  by_cases k3 : k < 3
  · rw [if_pos k3] at r ⊢
    rw [sk_ext h, tk_ext h, tq_ext h hs.2.2 hg.1, tq_ext h hs.2.2 hg.1]
    split at r <;> rename_i c
    · rw [if_pos c]; exact ⟨r.1, rdn_ext h hs.2.2 r.2⟩
    · rw [if_neg c]; exact r
  · rw [if_neg k3] at r ⊢
    exact ⟨r.1, rdn_ext h hp r.2⟩
theorem rds_ext (h : ∀ j, j < L → f j = g j) {e k a x y : Int32} (r : RDS g L e k a x y) : RDS f L e k a x y := by
  have hs := sktk_le g (Nat.zero_le L)
  have hg := tk_gt (g := g) (Nat.zero_le L)
  unfold RDS at *
  have e1 : kdN f (sk g L 0) (tk g L 0) = kdN g (sk g L 0) (tk g L 0) := kdR_ext h hs.2.2 hg.1 5 0
  rw [sk_ext h, tk_ext h, e1]
  split at r <;> rename_i c
  · rw [if_pos c]; exact r
  · rw [if_neg c]; exact ⟨r.1, rdt_ext h hs.2.2 r.2⟩
end Xt
/-- what a text is read as, computed -/
def rdB (l : List Int32) (kd tb a b : Nat) : Bool :=
  let f := fun j => l.getD j 0
  let L := l.length
  let p := tk f L 0
  decide (kdN f (sk f L 0) p = kd) && (decide (cT f L kd p (-1) = -1) && (decide (aTb f L kd p = nI tb) && (decide (yM f L (pT f L kd p) = nI a) && decide (yD f L kd (tk f L (pT f L kd p)) = nI b))))
theorem rdB_ok {l : List Int32} {kd tb a b : Nat} (hL : l.length ≤ 40) (hk : kd < 5) (h : rdB l kd tb a b = true) : RDS (fun j => l.getD j 0) l.length (-1) (nI kd) (nI tb) (nI a) (nI b) := by
  unfold rdB at h
  simp only [Bool.and_eq_true, decide_eq_true_eq] at h
  obtain ⟨h1, h2, h3, h4, h5⟩ := h
  unfold RDS
  rw [h1, if_neg (by omega)]
  have g := fe_T (f := fun j => l.getD j 0) (L := l.length) (k := kd) (p := tk (fun j => l.getD j 0) l.length 0) hL (sktk_le _ (Nat.zero_le _)).2.2
  rw [h2, h3, h4, h5] at g
  exact ⟨rfl, g⟩
def txL (kd tb a b : Nat) : List Int32 := ((((mj_sb.getD kd []) ++ [32]) ++ (if kd < 3 then [nI (97 + tb)] else [])) ++ nmL a) ++ [if kd = 4 then 32 else 45] ++ nmL b
def txT (kd tb : Nat) : Nat := if kd < 3 then tb else 0
set_option maxRecDepth 20000 in
theorem tx_0 : ∀ tb, tb < 2 → ∀ a, a < 12 → ∀ b, b < 12 → rdB (txL 0 tb a b) 0 tb a b = true := by decide +kernel
set_option maxRecDepth 20000 in
theorem tx_1 : ∀ tb, tb < 2 → ∀ a, a < 12 → ∀ b, b < 12 → rdB (txL 1 tb a b) 1 tb a b = true := by decide +kernel
set_option maxRecDepth 20000 in
theorem tx_2 : ∀ tb, tb < 2 → ∀ a, a < 12 → ∀ b, b < 12 → rdB (txL 2 tb a b) 2 tb a b = true := by decide +kernel
set_option maxRecDepth 20000 in
theorem tx_3 : ∀ a, a < 12 → ∀ b, b < 12 → rdB (txL 3 0 a b) 3 0 a b = true := by decide +kernel
set_option maxRecDepth 20000 in
theorem tx_4 : ∀ a, a < 12 → ∀ b, b < 12 → rdB (txL 4 0 a b) 4 0 a b = true := by decide +kernel
theorem tx_o {kd tb a b : Nat} (h : ¬ kd < 3) : txL kd tb a b = txL kd 0 a b := by
  unfold txL
  rw [if_neg h, if_neg h]
theorem tx_le {kd tb a b : Nat} (hk : kd < 5) : (txL kd tb a b).length ≤ 40 := by
  have h0 : ∀ k, k < 5 → (mj_sb.getD k []).length ≤ 5 := by decide
  have h1 := h0 kd hk
  have h2 := nmL_le a
  have h3 := nmL_le b
  have h4 : (if kd < 3 then [nI (97 + tb)] else []).length ≤ 1 := by split <;> simp
  unfold txL
  simp only [List.length_append, List.length_singleton]
  omega
theorem tx_ok {kd tb a b : Nat} (hk : kd < 5) (ht : tb < 2) (ha : a < 12) (hb : b < 12) : RDS (fun j => (txL kd tb a b).getD j 0) (txL kd tb a b).length (-1) (nI kd) (nI (txT kd tb)) (nI a) (nI b) := by
  refine rdB_ok (tx_le hk) hk ?_
  unfold txT
  rcases (show kd = 0 ∨ kd = 1 ∨ kd = 2 ∨ kd = 3 ∨ kd = 4 by omega) with rfl | rfl | rfl | rfl | rfl
  · rw [if_pos (by decide)]; exact tx_0 tb ht a ha b hb
  · rw [if_pos (by decide)]; exact tx_1 tb ht a ha b hb
  · rw [if_pos (by decide)]; exact tx_2 tb ht a ha b hb
  · rw [if_neg (by decide), tx_o (by decide)]; exact tx_3 a ha b hb
  · rw [if_neg (by decide), tx_o (by decide)]; exact tx_4 a ha b hb
section Tl
variable {I : mj_I}
theorem T_tells {w p : mv} {o n L : Nat} {f : Nat → Int32} (hc : CR I w p o n L f) {kd tb a b : Nat} (hk : kd < 5) (ht : tb < 2) (ha : a < 12) (hb : b < 12) : mj_R D_L_tells [.inr (some 0), .inl (nI kd), .inl (nI tb), .inl (nI a), .inl (nI b)] (mj_w I) (mj_px (fun r J => r = none ∧ TXT I J (txL kd tb a b))) := by
  have m0 := s_0
  have h0 : ∀ k, k < 5 → (mj_sb.getD k []).length ≤ 5 := by decide
  have h1 := h0 kd hk
  have h2 := nmL_le a
  have e97 : (97 : Int32) + nI tb = nI (97 + tb) := nI_add 97 tb
  have l1 : ∀ (t : List Int32) (x : Int32), (t ++ [x]).length = t.length + 1 := fun t x => by rw [List.length_append]; rfl
  unfold txL
  refine mj_enter (by decide +kernel) (Nat.le_of_ble_eq_true rfl) ?_
  have tail : ∀ (J : mj_I) (t : List Int32), TXT I J t → t.length ≤ 7 → mj_J D_L_tells (mj_px (fun r J => r = none ∧ TXT I J (t ++ nmL a ++ [if kd = 4 then 32 else 45] ++ nmL b))) 31 [some (.inr (some 0)), some (.inl (nI kd)), some (.inl (nI tb)), some (.inl (nI a)), some (.inl (nI b))] [] (mj_w J) (0, 0) := by
    intro J t hJ hl
    by_cases k4 : kd = 4
    · rw [if_pos k4]
      refine J_ald S_L_tells rfl rfl ?_
      refine J_ild S_L_tells rfl rfl ?_
      refine J_CS S_L_tells rfl rfl (by simp) (C_L_number hJ (by omega) (by omega)) ?_
      rintro _ _ ⟨J1, rfl, rfl, g1⟩
      refine J_ald S_L_tells rfl rfl ?_
      refine J_ild S_L_tells rfl rfl ?_
      refine J_C S_L_tells rfl ?_
      refine J_cmp S_L_tells rfl (fun c39 => False.elim (c39 (by rw [k4]; rfl))) (fun c39 => ?_)
      refine J_C S_L_tells rfl ?_
      refine J_goto S_L_tells rfl ?_
      refine J_CV S_L_tells rfl rfl (by assumption) (by omega) (by simp) (A_app g1 ⟨by decide, by decide⟩ (by rw [List.length_append]; omega)) ?_
      rintro _ _ ⟨J2, rfl, ⟨x, rfl⟩, g2⟩
      refine J_pop S_L_tells rfl ?_
      refine J_ald S_L_tells rfl rfl ?_
      refine J_ild S_L_tells rfl rfl ?_
      refine J_CS S_L_tells rfl rfl (by simp) (C_L_number g2 (by omega) (by rw [l1, List.length_append]; omega)) ?_
      rintro _ _ ⟨J3, rfl, rfl, g3⟩
      refine J_retV S_L_tells rfl ?_
      exact ⟨_, rfl, rfl, g3⟩
    · rw [if_neg k4]
      refine J_ald S_L_tells rfl rfl ?_
      refine J_ild S_L_tells rfl rfl ?_
      refine J_CS S_L_tells rfl rfl (by simp) (C_L_number hJ (by omega) (by omega)) ?_
      rintro _ _ ⟨J1, rfl, rfl, g1⟩
      refine J_ald S_L_tells rfl rfl ?_
      refine J_ild S_L_tells rfl rfl ?_
      refine J_C S_L_tells rfl ?_
      refine J_cmp S_L_tells rfl (fun c39 => ?_) (fun c39 => False.elim (k4 ((nI_eq (b := 4) (by omega) (by decide)).mp c39)))
      refine J_C S_L_tells rfl ?_
      refine J_CV S_L_tells rfl rfl (by assumption) (by omega) (by simp) (A_app g1 ⟨by decide, by decide⟩ (by rw [List.length_append]; omega)) ?_
      rintro _ _ ⟨J2, rfl, ⟨x, rfl⟩, g2⟩
      refine J_pop S_L_tells rfl ?_
      refine J_ald S_L_tells rfl rfl ?_
      refine J_ild S_L_tells rfl rfl ?_
      refine J_CS S_L_tells rfl rfl (by simp) (C_L_number g2 (by omega) (by rw [l1, List.length_append]; omega)) ?_
      rintro _ _ ⟨J3, rfl, rfl, g3⟩
      refine J_retV S_L_tells rfl ?_
      exact ⟨_, rfl, rfl, g3⟩
  by_cases k3 : kd < 3
  · rw [if_pos k3]
    refine J_ald S_L_tells rfl rfl ?_
    refine J_CV S_L_tells rfl rfl (by assumption) (by omega) (by simp) (A_clear hc) ?_
    rintro _ _ ⟨J0, rfl, ⟨x, rfl⟩, g0⟩
    refine J_pop S_L_tells rfl ?_
    refine J_ald S_L_tells rfl rfl ?_
    refine J_ild S_L_tells rfl rfl ?_
    refine J_CS S_L_tells rfl rfl (by simp) (C_L_word hk g0 (by decide)) ?_
    rintro _ _ ⟨J1, rfl, rfl, g1⟩
    refine J_ald S_L_tells rfl rfl ?_
    refine J_C S_L_tells rfl ?_
    refine J_CV S_L_tells rfl rfl (by assumption) (by omega) (by simp) (A_app g1 ⟨by decide, by decide⟩ (by rw [List.nil_append]; omega)) ?_
    rintro _ _ ⟨J2, rfl, ⟨y, rfl⟩, g2⟩
    refine J_pop S_L_tells rfl ?_
    refine J_ild S_L_tells rfl rfl ?_
    refine J_C S_L_tells rfl ?_
    refine J_cmp S_L_tells rfl (fun c19 => False.elim (nI_ge k3 (by decide) c19)) (fun c19 => ?_)
    refine J_ald S_L_tells rfl rfl ?_
    refine J_C S_L_tells rfl ?_
    refine J_ild S_L_tells rfl rfl ?_
    refine J_bin S_L_tells rfl ?_
    rw [e97]
    refine J_CV S_L_tells rfl rfl (by assumption) (by omega) (by simp) (A_app g2 (ch_ok (by omega) (by omega)) (by rw [l1, List.nil_append]; omega)) ?_
    rintro _ _ ⟨J3, rfl, ⟨z, rfl⟩, g3⟩
    refine J_pop S_L_tells rfl ?_
    rw [List.nil_append] at g3
    exact tail J3 _ g3 (by rw [l1, l1]; omega)
  · rw [if_neg k3, List.append_nil]
    refine J_ald S_L_tells rfl rfl ?_
    refine J_CV S_L_tells rfl rfl (by assumption) (by omega) (by simp) (A_clear hc) ?_
    rintro _ _ ⟨J0, rfl, ⟨x, rfl⟩, g0⟩
    refine J_pop S_L_tells rfl ?_
    refine J_ald S_L_tells rfl rfl ?_
    refine J_ild S_L_tells rfl rfl ?_
    refine J_CS S_L_tells rfl rfl (by simp) (C_L_word hk g0 (by decide)) ?_
    rintro _ _ ⟨J1, rfl, rfl, g1⟩
    refine J_ald S_L_tells rfl rfl ?_
    refine J_C S_L_tells rfl ?_
    refine J_CV S_L_tells rfl rfl (by assumption) (by omega) (by simp) (A_app g1 ⟨by decide, by decide⟩ (by rw [List.nil_append]; omega)) ?_
    rintro _ _ ⟨J2, rfl, ⟨y, rfl⟩, g2⟩
    refine J_pop S_L_tells rfl ?_
    refine J_ild S_L_tells rfl rfl ?_
    refine J_C S_L_tells rfl ?_
    refine J_cmp S_L_tells rfl (fun c19 => ?_) (fun c19 => False.elim (c19 (nI_le (a := 3) (by omega) (by omega))))
    rw [List.nil_append] at g2
    exact tail J2 _ g2 (by rw [l1]; omega)
end Tl
