theorem IV_set {v : mv} (h : IV v) {i : Nat} {x : Int32} (hi : i < 6) (hx : rg x (hiS i)) (hl : loS i ≤ tn x) : IV (upd v (9 + i) x) := by
  obtain ⟨a0, a1, a2, a3, a4, a5, a6⟩ := h
  have e : ∀ j, j ≠ 9 + i → upd v (9 + i) x j = v j := fun j hj => up_n hj
  have ek : ∀ k f, vk (upd v (9 + i) x) k f = vk v k f := fun k f => vk_up (by omega)
  refine ⟨by rw [e 0 (by omega)]; exact a0, by rw [e 1 (by omega)]; exact a1, by rw [e 2 (by omega)]; exact a2, fun j hj => ?_, fun j hj => ?_, fun k hk => ?_, fun k g1 g2 => ?_⟩
  · by_cases g : j = i
    · rw [g, up_s]; exact ⟨hx, hl⟩
    · rw [e _ (by omega)]; exact a3 j hj
  · rw [e 0 (by omega)] at hj
    rw [e _ (by omega), e _ (by omega), e _ (by omega)]
    exact a4 j hj
  · rw [e 1 (by omega)] at hk
    unfold WV
    simp only [ek]
    rw [e 0 (by omega)]
    exact a5 k hk
  · rw [e 1 (by omega)] at g1
    rw [ek]
    exact a6 k g1 g2
theorem IV_tre {v : mv} (h : IV v) {x : Int32} (hx : rg x 9999) : IV (upd v 2 x) := by
  obtain ⟨a0, a1, a2, a3, a4, a5, a6⟩ := h
  have e : ∀ j, j ≠ 2 → upd v 2 x j = v j := fun j hj => up_n hj
  have ek : ∀ k f, vk (upd v 2 x) k f = vk v k f := fun k f => vk_up (by omega)
  refine ⟨by rw [e 0 (by omega)]; exact a0, by rw [e 1 (by omega)]; exact a1, by rw [up_s]; exact hx, fun j hj => ?_, fun j hj => ?_, fun k hk => ?_, fun k g1 g2 => ?_⟩
  · rw [e _ (by omega)]; exact a3 j hj
  · rw [e 0 (by omega)] at hj
    rw [e _ (by omega), e _ (by omega), e _ (by omega)]
    exact a4 j hj
  · rw [e 1 (by omega)] at hk
    unfold WV
    simp only [ek]
    rw [e 0 (by omega)]
    exact a5 k hk
  · rw [e 1 (by omega)] at g1
    rw [ek]
    exact a6 k g1 g2
theorem pv_q {v : mv} {t : Nat → Nat} : ∀ i k f, f < 6 → vk (pvV v t i) k f = vk v k f
  | 0, _, _, _ => rfl
  | i + 1, k, f, hf => by
    show payV _ _ _ _ = _
    rw [payV_o (by omega) (by omega) (by omega) (by omega) (by omega) (by omega)]
    exact pv_q i k f hf
theorem sq_pv {v : mv} {t : Nat → Nat} (ht : ∀ i, t i < 8) (i : Nat) : SQ v (pvV v t i) := ⟨fun j h1 h2 => pv_s ht i j (by omega) (by omega) (by omega) h2, fun k f hf => pv_q i k f (by omega)⟩
theorem py_to {v v' : mv} (hI : IV v) (hq : SQ v v') (h0 : v' 0 = v 0) (h10 : v' 10 = v 10) (h13 : v' 13 = v 13) {k : Nat} (h5 : vk v' k 5 = vk v k 5) (h6 : vk v' k 6 = vk v k 6) (h7 : vk v' k 7 = vk v k 7) (c : Nat) : pyD v' k c = pyD v k c ∧ pyA v' k c = pyA v k c ∧ needN v' k = needN v k := by
  have e := fun c => stl_to hI hq h0 h10 (c := c) h5 h6
  have ep := prN_to hq h10 (k := k)
  refine ⟨?_, ?_, ?_⟩
  · unfold pyD; rw [h13, h7, e, ep]
  · unfold pyA pyS; rw [h13, h7, e, e, ep]
  · unfold needN; rw [h7, arr_to hI hq h0 h5 h6, ep]
theorem cnt_add (p : Nat → Bool) (a x : Nat) : ∀ y, cnt p a (x + y) = cnt p a x + cnt p (a + x) y
  | 0 => rfl
  | y + 1 => by
    rw [← Nat.add_assoc, cnt, cnt_add p a x y, cnt, Nat.add_assoc, Nat.add_assoc a x y]
theorem payV_e {v : mv} {k c : Nat} : vk (payV v k c) k 6 = nI (plc v k (pyS v k c)) ∧ vk (payV v k c) k 7 = vk v k 7 - nI (pyD v k c) := by
  constructor
  · unfold payV
    rw [vk_up (by omega), vk_up (by omega), vk_up (by omega), vk_up (by omega), vk_up (by omega), vk_us]
  · unfold payV
    rw [vk_up (by omega), vk_up (by omega), vk_up (by omega), vk_up (by omega), vk_us]
theorem sq_py {v : mv} {k c : Nat} : SQ v (payV v k c) := ⟨fun j h1 h2 => payV_o (by omega) (by omega) (by omega) (by omega) (by omega) (by omega), fun q f hf => payV_o (by omega) (by omega) (by omega) (by omega) (by omega) (by omega)⟩
theorem need_pay {v : mv} (hI : IV v) {k c : Nat} (hk : k < 8) (he : vk v k 4 = 1) (hz : vk v k 5 = 0) : needN (payV v k c) k + (pyD v k c + pyA v k c) = needN v k := by
  obtain ⟨-, -, -, -, -, -, -, -, -, w5, w6, w7, -⟩ := hI.wv hk he
  have hq : SQ v (payV v k c) := sq_py
  obtain ⟨e6, e7⟩ := payV_e (v := v) (k := k) (c := c)
  have e0 : payV v k c 0 = v 0 := payV_o (by omega) (by omega) (by omega) (by omega) (by omega) (by omega)
  have e10 : payV v k c 10 = v 10 := payV_o (by omega) (by omega) (by omega) (by omega) (by omega) (by omega)
  have e5 : vk (payV v k c) k 5 = vk v k 5 := payV_o (by omega) (by omega) (by omega) (by omega) (by omega) (by omega)
  have hD := pyD_le v k c
  have hl := hI.1.2
  have b6 := w6.2
  have hS : pyS v k c ≤ arr v k := by
    unfold pyS
    split <;> exact Nat.min_le_right _ _
  have ha : arr v k = cnt (cq v k) (tn (vk v k 6)) (tn (v 0) - tn (vk v k 6)) := by unfold arr; rw [if_neg (by rw [hz]; decide)]; rfl
  have hle := pl_le (cq v k) (tn (v 0) - tn (vk v k 6)) (tn (vk v k 6)) (pyS v k c)
  have hge := pl_ge (cq v k) (tn (v 0) - tn (vk v k 6)) (tn (vk v k 6)) (pyS v k c)
  have ha' : arr (payV v k c) k = cnt (cq v k) (plc v k (pyS v k c)) (tn (v 0) - plc v k (pyS v k c)) := by
    unfold arr
    rw [if_neg (by rw [e5, hz]; decide), e6, e0, tn_nI (by unfold plc; omega)]
    refine cnt_ext (fun j g1 g2 => ?_)
    unfold plc at g2
    show cs (payV v k c) k (cl (payV v k c) j) = cs v k (cl v j)
    rw [sq_cs hq, sq_cl hq (by omega)]
  have hsp : arr (payV v k c) k + pyS v k c = arr v k := by
    rw [ha']
    by_cases g : pyS v k c < arr v k
    · rw [ha] at g
      obtain ⟨g1, g2, -⟩ := pl_cnt (cq v k) (tn (v 0) - tn (vk v k 6)) (tn (vk v k 6)) (pyS v k c) g
      have h := cnt_add (cq v k) (tn (vk v k 6)) (plc v k (pyS v k c) - tn (vk v k 6)) (tn (v 0) - plc v k (pyS v k c))
      unfold plc at h ⊢
      rw [g1, show pl (cq v k) (tn (vk v k 6)) (tn (v 0) - tn (vk v k 6)) (pyS v k c) - tn (vk v k 6) + (tn (v 0) - pl (cq v k) (tn (vk v k 6)) (tn (v 0) - tn (vk v k 6)) (pyS v k c)) = tn (v 0) - tn (vk v k 6) by omega, ← ha, show tn (vk v k 6) + (pl (cq v k) (tn (vk v k 6)) (tn (v 0) - tn (vk v k 6)) (pyS v k c) - tn (vk v k 6)) = pl (cq v k) (tn (vk v k 6)) (tn (v 0) - tn (vk v k 6)) (pyS v k c) by omega] at h
      omega
    · have e := pl_end (cq v k) (tn (v 0) - tn (vk v k 6)) (tn (vk v k 6)) (pyS v k c) (by rw [← ha]; omega)
      unfold plc
      rw [e, show tn (v 0) - (tn (vk v k 6) + (tn (v 0) - tn (vk v k 6))) = 0 by omega]
      show 0 + _ = _
      omega
  have e7' : tn (vk (payV v k c) k 7) = tn (vk v k 7) - pyD v k c := by
    have h7 : vk v k 7 = nI (tn (vk v k 7)) := w7.1
    have b7 := w7.2
    rw [e7, h7, tn_nI (by omega), pk_sub hD, tn_nI (by omega)]
  have hm : arr (payV v k c) k * prN v k + pyS v k c * prN v k = arr v k * prN v k := by rw [← Nat.add_mul, hsp]
  unfold needN
  rw [e7', prN_to hq e10]
  show _ + (_ + pyS v k c * prN v k) = _
  omega
theorem bit_or : ∀ m, m < 256 → ∀ k, k < 8 → nI m ||| (1 <<< (nI k &&& 31)) = nI (m ||| 2 ^ k) := by decide +kernel
theorem msk_one {k : Nat} : ∀ n, msk (fun q => decide (q = k)) n = if k < n then 2 ^ k else 0
  | 0 => by rw [if_neg (Nat.not_lt_zero k)]; rfl
  | n + 1 => by
    rw [msk, msk_one n]
    by_cases e : n = k
    · subst e; simp
    · by_cases g : k < n
      · simp [g, e, show k < n + 1 by omega]
      · simp [g, e, show ¬ k < n + 1 by omega]
theorem msk_ins (p : Nat → Bool) {k : Nat} (hk : k < 8) : nI (msk p 8) ||| (1 <<< (nI k &&& 31)) = nI (msk (fun q => p q || decide (q = k)) 8) := by
  rw [bit_or _ (msk_lt p 8) _ hk, ← msk_or, msk_one, if_pos hk]
