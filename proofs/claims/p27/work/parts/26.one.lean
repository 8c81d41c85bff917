theorem IV_to {v v' : mv} (h : IV v) (hq : SQ v v') (h0 : v' 0 = v 0) (h1 : v' 1 = v 1) (h2 : rg (v' 2) 9999) (hs : ∀ i, i < 6 → v' (9 + i) = v (9 + i)) (he : ∀ k, vk v' k 4 = vk v k 4)
    (hk : ∀ k, k < tn (v 1) → rg (vk v' k 5) 1 ∧ rg (vk v' k 6) (tn (v 0)) ∧ rg (vk v' k 7) 500 ∧ (vk v k 4 = 0 → vk v' k 7 = 0)) : IV v' := by
  obtain ⟨a0, a1, a2, a3, a4, a5, a6⟩ := h
  refine ⟨by rw [h0]; exact a0, by rw [h1]; exact a1, h2, fun i hi => by rw [hs i hi]; exact a3 i hi, fun j hj => ?_, fun k hk' => ?_, fun k g1 g2 => ?_⟩
  · rw [h0] at hj
    have := a0.2
    rw [hq.1 _ (by omega) (by omega), hq.1 _ (by omega) (by omega), hq.1 _ (by omega) (by omega)]
    exact a4 j hj
  · rw [h1] at hk'
    obtain ⟨b1, b2, b3, b4, b5, b6, b7, b8, b9, b10, b11, b12, b13⟩ := a5 k hk'
    obtain ⟨c1, c2, c3, c4⟩ := hk k hk'
    have e := fun f (hf : f < 4) => hq.2 k f hf
    refine ⟨by rw [he]; exact b1, by rw [e 0 (by decide)]; exact b2, by rw [e 1 (by decide)]; exact b3, by rw [e 0 (by decide), e 1 (by decide)]; exact b4, by rw [e 2 (by decide)]; exact b5, by rw [e 3 (by decide)]; exact b6, by rw [e 0 (by decide), e 2 (by decide), e 3 (by decide)]; exact b7, by rw [e 0 (by decide), e 2 (by decide), e 3 (by decide)]; exact b8, by rw [he, e 0 (by decide), e 2 (by decide), e 3 (by decide), he, he]; exact b9, c1, by rw [h0]; exact c2, c3, by rw [he]; exact c4⟩
  · rw [h1] at g1
    rw [he]
    exact a6 k g1 g2
theorem arr_to {v v' : mv} (hI : IV v) (hq : SQ v v') (h0 : v' 0 = v 0) {k : Nat} (h5 : vk v' k 5 = vk v k 5) (h6 : vk v' k 6 = vk v k 6) : arr v' k = arr v k := by
  unfold arr
  rw [h5, h6, h0]
  split
  · rfl
  · refine cnt_ext (fun j g1 g2 => ?_)
    have := hI.1.2
    rw [sq_cs hq, sq_cl hq (by omega)]
theorem pl_ext {p q : Nat → Bool} : ∀ {n a s : Nat}, (∀ i, a ≤ i → i < a + n → p i = q i) → pl p a n s = pl q a n s
  | 0, _, _, _ => rfl
  | n + 1, a, s, h => by
    rw [pl, pl, h a (by omega) (by omega), pl_ext (fun i h1 h2 => h i (by omega) (by omega)), pl_ext (n := n) (s := s) (fun i h1 h2 => h i (by omega) (by omega))]
theorem plc_to {v v' : mv} (hI : IV v) (hq : SQ v v') (h0 : v' 0 = v 0) {k s : Nat} (h6 : vk v' k 6 = vk v k 6) : plc v' k s = plc v k s := by
  unfold plc
  rw [h6, h0]
  refine pl_ext (fun j g1 g2 => ?_)
  have := hI.1.2
  unfold cq
  rw [sq_cs hq, sq_cl hq (by omega)]
theorem prN_to {v v' : mv} (hq : SQ v v') (h10 : v' 10 = v 10) {k : Nat} : prN v' k = prN v k := by
  unfold prN
  rw [hq.2 k 0 (by decide), h10]
theorem stl_to {v v' : mv} (hI : IV v) (hq : SQ v v') (h0 : v' 0 = v 0) (h10 : v' 10 = v 10) {k c : Nat} (h5 : vk v' k 5 = vk v k 5) (h6 : vk v' k 6 = vk v k 6) : stl v' k c = stl v k c := by
  unfold stl
  rw [prN_to hq h10, arr_to hI hq h0 h5 h6]
/-- a payment of c coins to view k: on its debt, and how many arrears -/
def pyD (v : mv) (k c : Nat) : Nat := if v 13 = 0 then min c (tn (vk v k 7)) else min (c - stl v k c * prN v k) (tn (vk v k 7))
def pyS (v : mv) (k c : Nat) : Nat := if v 13 = 0 then stl v k (c - min c (tn (vk v k 7))) else stl v k c
def pyA (v : mv) (k c : Nat) : Nat := pyS v k c * prN v k
def payV (v : mv) (k c : Nat) : mv :=
  upd (upd (upd (upd (upd (upd v (615 + 9 * k + 6) (nI (plc v k (pyS v k c)))) (615 + 9 * k + 7) (vk v k 7 - nI (pyD v k c))) (615 + 9 * k + 8) (vk v k 8 + nI (pyD v k c + pyA v k c))) 2 (v 2 - nI (pyD v k c + pyA v k c))) 4 (v 4 + nI (pyD v k c))) 5 (v 5 + nI (pyA v k c))
theorem i32_ss (x a b : Int32) : x - a - b = x - (a + b) := by
  rw [Int32.sub_eq_add_neg, Int32.sub_eq_add_neg, Int32.sub_eq_add_neg, Int32.neg_add, Int32.add_assoc, ← Int32.sub_eq_add_neg]
theorem stl_le (v : mv) (k c : Nat) : stl v k c * prN v k ≤ c := by
  have h := Nat.div_mul_le_self c (prN v k)
  have : stl v k c ≤ c / prN v k := Nat.min_le_left _ _
  exact Nat.le_trans (Nat.mul_le_mul_right _ this) h
theorem py_le (v : mv) (k c : Nat) : pyD v k c + pyA v k c ≤ c := by
  unfold pyA pyD pyS
  split
  · have := stl_le v k (c - min c (tn (vk v k 7)))
    omega
  · have := stl_le v k c
    omega
theorem pyD_le (v : mv) (k c : Nat) : pyD v k c ≤ tn (vk v k 7) := by
  unfold pyD
  split <;> omega
theorem minI_N {a c : Nat} (ha : a < 2 ^ 31) (hc : c < 2 ^ 31) : minI (nI a) (nI c) = nI (min a c) := by
  unfold minI
  by_cases h : c < a
  · rw [if_pos (nI_lt h ha), Nat.min_eq_right (by omega)]
  · rw [if_neg (nI_nlt (by omega) hc), Nat.min_eq_left (by omega)]
section On
variable {I : mj_I} {b : Nat} {v : mv}
theorem payV_I (hI : IV v) {k c : Nat} (hk : k < 8) (he : vk v k 4 = 1) (hc : c ≤ tn (v 2)) : IV (payV v k c) := by
  have hw := hI.wv hk he
  obtain ⟨-, -, -, -, -, -, -, -, -, w5, w6, w7, -⟩ := hw
  have hle := py_le v k c
  have hD := pyD_le v k c
  have hq : SQ v (payV v k c) := by
    unfold payV
    refine sq_tr (sq_tr (sq_tr (sq_tr (sq_tr (sq_up (Or.inr (by omega)) ?_) (sq_up (Or.inr (by omega)) ?_)) (sq_up (Or.inr (by omega)) ?_)) (sq_up (Or.inl (by omega)) ?_)) (sq_up (Or.inl (by omega)) ?_)) (sq_up (Or.inl (by omega)) ?_) <;> intro k' f' hf' <;> omega
  have e : ∀ i, i ≠ 2 → i ≠ 4 → i ≠ 5 → i ≠ 615 + 9 * k + 6 → i ≠ 615 + 9 * k + 7 → i ≠ 615 + 9 * k + 8 → payV v k c i = v i := by
    intro i g1 g2 g3 g4 g5 g6
    unfold payV
    rw [up_n g3, up_n g2, up_n g1, up_n g6, up_n g5, up_n g4]
  have e2 : payV v k c 2 = v 2 - nI (pyD v k c + pyA v k c) := by
    unfold payV
    rw [up_n (by omega), up_n (by omega), up_s]
  have e6 : vk (payV v k c) k 6 = nI (plc v k (pyS v k c)) := by
    unfold payV
    rw [vk_up (by omega), vk_up (by omega), vk_up (by omega), vk_up (by omega), vk_up (by omega), vk_us]
  have e7 : vk (payV v k c) k 7 = vk v k 7 - nI (pyD v k c) := by
    unfold payV
    rw [vk_up (by omega), vk_up (by omega), vk_up (by omega), vk_up (by omega), vk_us]
  have hl0 := hI.1.2
  refine IV_to hI hq (e 0 (by omega) (by omega) (by omega) (by omega) (by omega) (by omega)) (e 1 (by omega) (by omega) (by omega) (by omega) (by omega) (by omega)) ?_ (fun i hi => e _ (by omega) (by omega) (by omega) (by omega) (by omega) (by omega)) (fun k' => e _ (by omega) (by omega) (by omega) (by omega) (by omega) (by omega)) (fun k' hk' => ?_)
  · have h2 := hI.2.2.1
    rw [e2, h2.1, pk_sub (by omega)]
    exact rg_nI (by have := h2.2; omega) (by decide)
  · by_cases hkk : k' = k
    · subst hkk
      refine ⟨by rw [show vk (payV v k' c) k' 5 = vk v k' 5 from e _ (by omega) (by omega) (by omega) (by omega) (by omega) (by omega)]; exact w5, ?_, ?_, fun h => by rw [h] at he; exact absurd he (by decide)⟩
      · rw [e6]
        refine rg_nI ?_ (by omega)
        have h := pl_le (cq v k') (tn (v 0) - tn (vk v k' 6)) (tn (vk v k' 6)) (pyS v k' c)
        have := w6.2
        unfold plc
        omega
      · rw [e7, w7.1, pk_sub hD]
        exact rg_nI (by have := w7.2; omega) (by decide)
    · obtain ⟨-, -, -, -, -, -, -, -, -, x5, x6, x7, x8⟩ := hI.2.2.2.2.2.1 k' hk'
      have ev : ∀ f, vk (payV v k c) k' f = vk v k' f ∨ 9 ≤ f := by
        intro f
        rcases Nat.lt_or_ge f 9 with g | g
        · exact Or.inl (e _ (by omega) (by omega) (by omega) (by omega) (by omega) (by omega))
        · exact Or.inr g
      have ev' : ∀ f, f < 9 → vk (payV v k c) k' f = vk v k' f := fun f hf => (ev f).resolve_right (by omega)
      rw [ev' 5 (by decide), ev' 6 (by decide), ev' 7 (by decide)]
      exact ⟨x5, x6, x7, x8⟩
theorem C_X0_payOne (hB : mj_isB b) (hR : RB I b v) (hI : IV v) {k c : Nat} (hk : k < 8) (he : vk v k 4 = 1) (hz : vk v k 5 = 0) (hc : c ≤ 9999) : mj_R D_X0_payOne [.inr (some b), .inr (some (b + 7 + k)), .inl (nI c)] (mj_w I)
    (mj_px (fun r I' => r = some (.inl (nI (pyD v k (min c (tn (v 2))) + pyA v k (min c (tn (v 2)))))) ∧ RB I' b (payV v k (min c (tn (v 2)))) ∧ Fr b I I' ∧ I' (b + 6) = I (b + 6))) := by
  have hB' := hB
  have hkd := hI.ex hk he
  have hw := hI.wv hk he
  obtain ⟨h0, h1, h2, h3, h4, h5, h6, hv, hb⟩ := hB
  have hvk := hv k hk
  obtain ⟨r1, r2, r3, r4, r5, r6, r7, r8, r9, r10⟩ := (hR.2.2.2.2 k hk).2.2 he
  obtain ⟨-, -, -, -, -, -, -, -, -, w5, w6, w7, -⟩ := hw
  have ht := hI.2.2.1
  have e2 : I b 5 = v 2 := hR.2.1 1 (by decide)
  have e4 : I b 7 = v 4 := hR.2.1 3 (by decide)
  have e5 : I b 8 = v 5 := hR.2.1 4 (by decide)
  have hl0 := hI.1.2
  have hs := C_X0_setting (I := I) hB' (i := 4) (by decide)
  rw [hR.2.2.1 4 (by decide)] at hs
  generalize hm : min c (tn (v 2)) = m
  have hmc : m ≤ 9999 := by omega
  have hmt : m ≤ tn (v 2) := by omega
  have hmin : (if I b 5 < nI c then I b 5 else nI c) = nI m := by
    rw [e2, ht.1]
    have := minI_N (a := c) (c := tn (v 2)) (by omega) (by have := ht.2; omega)
    rw [hm] at this
    exact this
  have hd : I (b + 7 + k) 9 = nI (tn (vk v k 7)) := by rw [r9]; exact w7.1
  have hd7 := w7.2
  have hle := py_le v k m
  have hD := pyD_le v k m
  refine mj_enter (by decide +kernel) (Nat.le_of_ble_eq_true rfl) ?_
  by_cases ho : v 13 = 0
  · have eD : pyD v k m = min m (tn (vk v k 7)) := if_pos ho
    have eS : pyS v k m = stl v k (m - min m (tn (vk v k 7))) := if_pos ho
    have hmn : minI (nI m) (I (b + 7 + k) 9) = nI (pyD v k m) := by rw [hd, eD, minI_N (by omega) (by omega)]
    have c1 := C_X0_payDebt hB' hk hmn
    rw [r9, e4, e2, r10] at c1
    have R1 := RB_vw (f := 7) (x := vk v k 7 - nI (pyD v k m)) hl0 hR hk (by decide) (fun h => absurd h (by decide))
    have R2 := RB_ac (i := 3) (x := v 4 + nI (pyD v k m)) (by rw [up_n (by omega)]; exact hl0) R1 (by decide)
    have R3 := RB_ac (i := 1) (x := v 2 - nI (pyD v k m)) (by rw [up_n (by omega), up_n (by omega)]; exact hl0) R2 (by decide)
    have R4 := RB_vw (f := 8) (x := vk v k 8 + nI (pyD v k m)) (by rw [up_n (by omega), up_n (by omega), up_n (by omega)]; exact hl0) R3 hk (by decide) (fun h => absurd h (by decide))
    generalize hI1 : mj_up (mj_up (mj_up (mj_up I (b + 7 + k) 9 (vk v k 7 - nI (pyD v k m))) b 7 (v 4 + nI (pyD v k m))) b 5 (v 2 - nI (pyD v k m))) (b + 7 + k) 10 (vk v k 8 + nI (pyD v k m)) = I1 at c1
    have R4' : RB I1 b (upd (upd (upd (upd v (615 + 9 * k + 7) (vk v k 7 - nI (pyD v k m))) 4 (v 4 + nI (pyD v k m))) 2 (v 2 - nI (pyD v k m))) (615 + 9 * k + 8) (vk v k 8 + nI (pyD v k m))) := by rw [← hI1]; exact R4
    generalize hv1 : upd (upd (upd (upd v (615 + 9 * k + 7) (vk v k 7 - nI (pyD v k m))) 4 (v 4 + nI (pyD v k m))) 2 (v 2 - nI (pyD v k m))) (615 + 9 * k + 8) (vk v k 8 + nI (pyD v k m)) = v1 at R4'
    have hq : SQ v v1 := by
      rw [← hv1]
      refine sq_tr (sq_tr (sq_tr (sq_up (Or.inr (by omega)) ?_) (sq_up (Or.inl (by omega)) ?_)) (sq_up (Or.inl (by omega)) ?_)) (sq_up (Or.inr (by omega)) ?_) <;> intro k' f' hf' <;> omega
    have ev : ∀ i, i ≠ 2 → i ≠ 4 → i ≠ 615 + 9 * k + 7 → i ≠ 615 + 9 * k + 8 → v1 i = v i := by
      intro i g1 g2 g3 g4
      rw [← hv1, up_n g4, up_n g1, up_n g2, up_n g3]
    have ev2 : v1 2 = v 2 - nI (pyD v k m) := by rw [← hv1, up_n (by omega), up_s]
    have ev7 : vk v1 k 7 = vk v k 7 - nI (pyD v k m) := by rw [← hv1, vk_up (by omega), vk_up (by omega), vk_up (by omega), vk_us]
    have evk : ∀ f, f < 9 → f ≠ 7 → f ≠ 8 → vk v1 k f = vk v k f := fun f g1 g2 g3 => ev _ (by omega) (by omega) (by omega) (by omega)
    have hI1' : IV v1 := by
      refine IV_to hI hq (ev 0 (by omega) (by omega) (by omega) (by omega)) (ev 1 (by omega) (by omega) (by omega) (by omega)) ?_ (fun i hi => ev _ (by omega) (by omega) (by omega) (by omega)) (fun k' => ev _ (by omega) (by omega) (by omega) (by omega)) (fun k' hk' => ?_)
      · rw [ev2, ht.1, pk_sub (by omega)]
        exact rg_nI (by have := ht.2; omega) (by decide)
      · by_cases hkk : k' = k
        · subst hkk
          refine ⟨by rw [evk 5 (by decide) (by decide) (by decide)]; exact w5, by rw [evk 6 (by decide) (by decide) (by decide)]; exact w6, ?_, fun h => by rw [h] at he; exact absurd he (by decide)⟩
          rw [ev7, w7.1, pk_sub hD]
          exact rg_nI (by omega) (by decide)
        · obtain ⟨-, -, -, -, -, -, -, -, -, x5, x6, x7, x8⟩ := hI.2.2.2.2.2.1 k' hk'
          have ev' : ∀ f, f < 9 → vk v1 k' f = vk v k' f := fun f hf => ev _ (by omega) (by omega) (by omega) (by omega)
          rw [ev' 5 (by decide), ev' 6 (by decide), ev' 7 (by decide)]
          exact ⟨x5, x6, x7, x8⟩
    have c2 := C_X0_payArrears (c := m - pyD v k m) hB' R4' hI1' hk (by rw [evk 4 (by decide) (by decide) (by decide)]; exact he) (by rw [evk 5 (by decide) (by decide) (by decide)]; exact hz) (by omega)
    have es : stl v1 k (m - pyD v k m) = pyS v k m := by rw [stl_to hI hq (ev 0 (by omega) (by omega) (by omega) (by omega)) (ev 10 (by omega) (by omega) (by omega) (by omega)) (evk 5 (by decide) (by decide) (by decide)) (evk 6 (by decide) (by decide) (by decide)), eS, eD]
    have ep : prN v1 k = prN v k := prN_to hq (ev 10 (by omega) (by omega) (by omega) (by omega))
    have epl : plc v1 k (pyS v k m) = plc v k (pyS v k m) := plc_to hI hq (ev 0 (by omega) (by omega) (by omega) (by omega)) (evk 6 (by decide) (by decide) (by decide))
    rw [es, ep, epl, show pyS v k m * prN v k = pyA v k m from rfl] at c2
    have g5 : I1 b 5 = v1 2 := R4'.2.1 1 (by decide)
    have g8 : I1 b 8 = v1 5 := R4'.2.1 4 (by decide)
    have g10 : I1 (b + 7 + k) 10 = vk v1 k 8 := ((R4'.2.2.2.2 k hk).2.2 (by rw [evk 4 (by decide) (by decide) (by decide)]; exact he)).2.2.2.2.2.2.2.2.2
    rw [g5, g8, g10] at c2
    have hl1 : tn (v1 0) ≤ 200 := by rw [ev 0 (by omega) (by omega) (by omega) (by omega)]; exact hl0
    have hkd1 : k < tn (v1 1) := by rw [ev 1 (by omega) (by omega) (by omega) (by omega)]; exact hkd
    have S1 := RB_vw (f := 6) (x := nI (plc v k (pyS v k m))) hl1 R4' hk (by decide) (fun h => absurd h (by decide))
    have S2 := RB_ac (i := 4) (x := v1 5 + nI (pyA v k m)) (by rw [up_n (by omega)]; exact hl1) S1 (by decide)
    have S3 := RB_ac (i := 1) (x := v1 2 - nI (pyA v k m)) (by rw [up_n (by omega), up_n (by omega)]; exact hl1) S2 (by decide)
    have S4 := RB_vw (f := 8) (x := vk v1 k 8 + nI (pyA v k m)) (by rw [up_n (by omega), up_n (by omega), up_n (by omega)]; exact hl1) S3 hk (by decide) (fun h => absurd h (by decide))
    have efin : upd (upd (upd (upd v1 (615 + 9 * k + 6) (nI (plc v k (pyS v k m)))) 5 (v1 5 + nI (pyA v k m))) 2 (v1 2 - nI (pyA v k m))) (615 + 9 * k + 8) (vk v1 k 8 + nI (pyA v k m)) = payV v k m := by
      have ev8 : vk v1 k 8 = vk v k 8 + nI (pyD v k m) := by rw [← hv1, vk_us]
      have ev5 : v1 5 = v 5 := ev 5 (by omega) (by omega) (by omega) (by omega)
      rw [ev2, ev8, ev5, i32_ss, Int32.add_assoc, nI_add, ← hv1]
      funext j
      unfold payV
      simp only [upd]
      by_cases j1 : j = 615 + 9 * k + 8
      · subst j1; simp only [if_true]; rw [if_neg (by omega), if_neg (by omega), if_neg (by omega)]
      · by_cases j2 : j = 2
        · subst j2; simp only [if_true, if_neg j1]; rw [if_neg (by omega), if_neg (by omega)]
        · by_cases j3 : j = 5
          · subst j3; simp only [if_true, if_neg j1, if_neg j2]
          · by_cases j4 : j = 4
            · subst j4; simp only [if_true, if_neg j1, if_neg j2, if_neg j3]; rw [if_neg (by omega)]
            · by_cases j5 : j = 615 + 9 * k + 7
              · subst j5; simp only [if_true, if_neg j1, if_neg j2, if_neg j3, if_neg j4]; rw [if_neg (by omega)]
              · simp only [if_neg j1, if_neg j2, if_neg j3, if_neg j4, if_neg j5]
    rw [show (5 : Nat) = 1 + 4 from rfl, show (2 : Nat) = 1 + 1 from rfl] at efin
    have S4' := efin ▸ S4
    refine J_ild S_X0_payOne rfl rfl ?_
    refine J_ald S_X0_payOne rfl rfl ?_
    refine J_getI S_X0_payOne rfl (by assumption) (by omega) ?_
    refine J_min S_X0_payOne rfl (by decide) ?_
    rw [hmin]
    refine J_ist S_X0_payOne rfl rfl ?_
    refine J_ald S_X0_payOne rfl rfl ?_
    refine J_C S_X0_payOne rfl ?_
    refine J_CVx S_X0_payOne rfl rfl (by assumption) (by omega) (by simp) (hs) rfl ?_
    refine J_if S_X0_payOne rfl (fun c14 => False.elim (c14 ho)) (fun c14 => ?_)
    refine J_ald S_X0_payOne rfl rfl ?_
    refine J_ald S_X0_payOne rfl rfl ?_
    refine J_ild S_X0_payOne rfl rfl ?_
    refine J_CVx S_X0_payOne rfl rfl (by assumption) (by omega) (by simp) (c1) rfl ?_
    refine J_ist S_X0_payOne rfl rfl ?_
    refine J_ild S_X0_payOne rfl rfl ?_
    refine J_ald S_X0_payOne rfl rfl ?_
    refine J_ald S_X0_payOne rfl rfl ?_
    refine J_ild S_X0_payOne rfl rfl ?_
    refine J_ild S_X0_payOne rfl rfl ?_
    refine J_bin S_X0_payOne rfl ?_
    rw [pk_sub (by omega)]
    refine J_CVx S_X0_payOne rfl rfl (by assumption) (by omega) (by simp) (c2) rfl ?_
    refine J_bin S_X0_payOne rfl ?_
    refine J_ist S_X0_payOne rfl rfl ?_
    refine J_goto S_X0_payOne rfl ?_
    refine J_ild S_X0_payOne rfl rfl ?_
    refine J_retI S_X0_payOne rfl ?_
    refine ⟨_, rfl, by rw [nI_add], S4', ?_, ?_⟩
    · rw [← hI1]; exact fr_up (fr_up (fr_up (fr_up (fr_up (fr_up (fr_up (fr_up fr_rf (by omega) (by omega)) (by omega) (by omega)) (by omega) (by omega)) (by omega) (by omega)) (by omega) (by omega)) (by omega) (by omega)) (by omega) (by omega)) (by omega) (by omega)
    · simp only [mj_up_ne (show b + 6 ≠ b by omega), mj_up_ne (show b + 6 ≠ b + 7 + k by omega)]; rw [← hI1]; simp only [mj_up_ne (show b + 6 ≠ b by omega), mj_up_ne (show b + 6 ≠ b + 7 + k by omega)]
  · have eD : pyD v k m = min (m - pyA v k m) (tn (vk v k 7)) := by unfold pyA pyS; rw [if_neg ho]; exact if_neg ho
    have eS : pyS v k m = stl v k m := if_neg ho
    have eA : stl v k m * prN v k = pyA v k m := by unfold pyA; rw [eS]
    have c1 := C_X0_payArrears (c := m) hB' hR hI hk he hz hmc
    rw [eA, ← eS, e5, e2, r10] at c1
    have R1 := RB_vw (f := 6) (x := nI (plc v k (pyS v k m))) hl0 hR hk (by decide) (fun h => absurd h (by decide))
    have R2 := RB_ac (i := 4) (x := v 5 + nI (pyA v k m)) (by rw [up_n (by omega)]; exact hl0) R1 (by decide)
    have R3 := RB_ac (i := 1) (x := v 2 - nI (pyA v k m)) (by rw [up_n (by omega), up_n (by omega)]; exact hl0) R2 (by decide)
    have R4 := RB_vw (f := 8) (x := vk v k 8 + nI (pyA v k m)) (by rw [up_n (by omega), up_n (by omega), up_n (by omega)]; exact hl0) R3 hk (by decide) (fun h => absurd h (by decide))
    generalize hI1 : mj_up (mj_up (mj_up (mj_up I (b + 7 + k) 8 (nI (plc v k (pyS v k m)))) b 8 (v 5 + nI (pyA v k m))) b 5 (v 2 - nI (pyA v k m))) (b + 7 + k) 10 (vk v k 8 + nI (pyA v k m)) = I1 at c1
    have R4' : RB I1 b (upd (upd (upd (upd v (615 + 9 * k + 6) (nI (plc v k (pyS v k m)))) 5 (v 5 + nI (pyA v k m))) 2 (v 2 - nI (pyA v k m))) (615 + 9 * k + 8) (vk v k 8 + nI (pyA v k m))) := by rw [← hI1]; exact R4
    generalize hv1 : upd (upd (upd (upd v (615 + 9 * k + 6) (nI (plc v k (pyS v k m)))) 5 (v 5 + nI (pyA v k m))) 2 (v 2 - nI (pyA v k m))) (615 + 9 * k + 8) (vk v k 8 + nI (pyA v k m)) = v1 at R4'
    have ev : ∀ i, i ≠ 2 → i ≠ 5 → i ≠ 615 + 9 * k + 6 → i ≠ 615 + 9 * k + 8 → v1 i = v i := by
      intro i g1 g2 g3 g4
      rw [← hv1, up_n g4, up_n g1, up_n g2, up_n g3]
    have ev2 : v1 2 = v 2 - nI (pyA v k m) := by rw [← hv1, up_n (by omega), up_s]
    have ev8 : vk v1 k 8 = vk v k 8 + nI (pyA v k m) := by rw [← hv1, vk_us]
    have evk : ∀ f, f < 9 → f ≠ 6 → f ≠ 8 → vk v1 k f = vk v k f := fun f g1 g2 g3 => ev _ (by omega) (by omega) (by omega) (by omega)
    have hl1 : tn (v1 0) ≤ 200 := by rw [ev 0 (by omega) (by omega) (by omega) (by omega)]; exact hl0
    have g9 : I1 (b + 7 + k) 9 = nI (tn (vk v k 7)) := by
      have h := ((R4'.2.2.2.2 k hk).2.2 (by rw [evk 4 (by decide) (by decide) (by decide)]; exact he)).2.2.2.2.2.2.2.2.1
      rw [h, evk 7 (by decide) (by decide) (by decide)]
      exact w7.1
    have hmn : minI (nI (m - pyA v k m)) (I1 (b + 7 + k) 9) = nI (pyD v k m) := by rw [g9, eD, minI_N (by omega) (by omega)]
    have c2 := C_X0_payDebt hB' hk hmn
    have g5 : I1 b 5 = v1 2 := R4'.2.1 1 (by decide)
    have g7 : I1 b 7 = v1 4 := R4'.2.1 3 (by decide)
    have g10 : I1 (b + 7 + k) 10 = vk v1 k 8 := ((R4'.2.2.2.2 k hk).2.2 (by rw [evk 4 (by decide) (by decide) (by decide)]; exact he)).2.2.2.2.2.2.2.2.2
    rw [g5, g7, g10, g9, ← w7.1] at c2
    have hkd1 : k < tn (v1 1) := by rw [ev 1 (by omega) (by omega) (by omega) (by omega)]; exact hkd
    have S1 := RB_vw (f := 7) (x := vk v k 7 - nI (pyD v k m)) hl1 R4' hk (by decide) (fun h => absurd h (by decide))
    have S2 := RB_ac (i := 3) (x := v1 4 + nI (pyD v k m)) (by rw [up_n (by omega)]; exact hl1) S1 (by decide)
    have S3 := RB_ac (i := 1) (x := v1 2 - nI (pyD v k m)) (by rw [up_n (by omega), up_n (by omega)]; exact hl1) S2 (by decide)
    have S4 := RB_vw (f := 8) (x := vk v1 k 8 + nI (pyD v k m)) (by rw [up_n (by omega), up_n (by omega), up_n (by omega)]; exact hl1) S3 hk (by decide) (fun h => absurd h (by decide))
    have efin : upd (upd (upd (upd v1 (615 + 9 * k + 7) (vk v k 7 - nI (pyD v k m))) 4 (v1 4 + nI (pyD v k m))) 2 (v1 2 - nI (pyD v k m))) (615 + 9 * k + 8) (vk v1 k 8 + nI (pyD v k m)) = payV v k m := by
      have ev4 : v1 4 = v 4 := ev 4 (by omega) (by omega) (by omega) (by omega)
      rw [ev2, ev8, ev4, i32_ss, Int32.add_assoc, nI_add, Nat.add_comm (pyA v k m), ← hv1]
      funext j
      unfold payV
      simp only [upd]
      by_cases j1 : j = 615 + 9 * k + 8
      · subst j1; simp only [if_true]; rw [if_neg (by omega), if_neg (by omega), if_neg (by omega)]
      · by_cases j2 : j = 2
        · subst j2; simp only [if_true, if_neg j1]; rw [if_neg (by omega), if_neg (by omega)]
        · by_cases j4 : j = 4
          · subst j4; simp only [if_true, if_neg j1, if_neg j2]; rw [if_neg (by omega)]
          · by_cases j5 : j = 615 + 9 * k + 7
            · subst j5; simp only [if_true, if_neg j1, if_neg j2, if_neg j4]; rw [if_neg (by omega)]
            · simp only [if_neg j1, if_neg j2, if_neg j4, if_neg j5]
    rw [show (4 : Nat) = 1 + 3 from rfl, show (2 : Nat) = 1 + 1 from rfl] at efin
    have S4' := efin ▸ S4
    refine J_ild S_X0_payOne rfl rfl ?_
    refine J_ald S_X0_payOne rfl rfl ?_
    refine J_getI S_X0_payOne rfl (by assumption) (by omega) ?_
    refine J_min S_X0_payOne rfl (by decide) ?_
    rw [hmin]
    refine J_ist S_X0_payOne rfl rfl ?_
    refine J_ald S_X0_payOne rfl rfl ?_
    refine J_C S_X0_payOne rfl ?_
    refine J_CVx S_X0_payOne rfl rfl (by assumption) (by omega) (by simp) (hs) rfl ?_
    refine J_if S_X0_payOne rfl (fun c14 => ?_) (fun c14 => False.elim (ho c14))
    refine J_ald S_X0_payOne rfl rfl ?_
    refine J_ald S_X0_payOne rfl rfl ?_
    refine J_ild S_X0_payOne rfl rfl ?_
    refine J_CVx S_X0_payOne rfl rfl (by assumption) (by omega) (by simp) (c1) rfl ?_
    refine J_ist S_X0_payOne rfl rfl ?_
    refine J_ild S_X0_payOne rfl rfl ?_
    refine J_ald S_X0_payOne rfl rfl ?_
    refine J_ald S_X0_payOne rfl rfl ?_
    refine J_ild S_X0_payOne rfl rfl ?_
    refine J_ild S_X0_payOne rfl rfl ?_
    refine J_bin S_X0_payOne rfl ?_
    rw [pk_sub (by omega)]
    refine J_CVx S_X0_payOne rfl rfl (by assumption) (by omega) (by simp) (c2) rfl ?_
    refine J_bin S_X0_payOne rfl ?_
    refine J_ist S_X0_payOne rfl rfl ?_
    refine J_ild S_X0_payOne rfl rfl ?_
    refine J_retI S_X0_payOne rfl ?_
    refine ⟨_, rfl, by rw [nI_add, Nat.add_comm], S4', ?_, ?_⟩
    · rw [← hI1]; exact fr_up (fr_up (fr_up (fr_up (fr_up (fr_up (fr_up (fr_up fr_rf (by omega) (by omega)) (by omega) (by omega)) (by omega) (by omega)) (by omega) (by omega)) (by omega) (by omega)) (by omega) (by omega)) (by omega) (by omega)) (by omega) (by omega)
    · simp only [mj_up_ne (show b + 6 ≠ b by omega), mj_up_ne (show b + 6 ≠ b + 7 + k by omega)]; rw [← hI1]; simp only [mj_up_ne (show b + 6 ≠ b by omega), mj_up_ne (show b + 6 ≠ b + 7 + k by omega)]
end On
