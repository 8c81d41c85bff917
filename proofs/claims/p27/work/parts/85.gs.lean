/-! actions on the state that the law keeps to -/
theorem AK_at {w : mv} {a b c d e : Int32} (h3 : w 3 = a) (h2 : w 2 = b) (h4 : w 4 = c) (h5 : w 5 = d) (h6 : w 6 = e) (h : a = b + c + d + e) : AK w := by
  unfold AK
  rw [h3, h2, h4, h5, h6, h]
theorem AK_tick {w : mv} (h : AK w) : AK (tkE (tkV w 8)) := by
  have o : ∀ i, 2 ≤ i → i < 15 → i ≠ 7 → tkV w 8 i = w i := fun i h1 h2 h7 => tkV_o h7 (fun k => by omega) 8
  have e3 : tkE (tkV w 8) 3 = w 3 + w 12 := by
    unfold tkE
    rw [up_n (by decide), up_s, o 3 (by decide) (by decide) (by decide), o 12 (by decide) (by decide) (by decide)]
  have e2 : tkE (tkV w 8) 2 = w 2 + w 12 := by
    unfold tkE
    rw [up_n (by decide), up_n (by decide), up_s, o 2 (by decide) (by decide) (by decide), o 12 (by decide) (by decide) (by decide)]
  have e : ∀ i, 4 ≤ i → i < 7 → tkE (tkV w 8) i = w i := fun i h1 h2 => by
    unfold tkE
    rw [up_n (by omega), up_n (by omega), up_n (by omega), o i (by omega) (by omega) (by omega)]
  refine AK_at e3 e2 (e 4 (by decide) (by decide)) (e 5 (by decide) (by decide)) (e 6 (by decide) (by decide)) ?_
  unfold AK at h
  rw [h]
  ac_rfl
theorem KV_tick {w : mv} : KV w (tkE (tkV w 8)) := by
  have o : ∀ i, i ≠ 7 → (∀ k, i ≠ 615 + 9 * k + 5 ∧ i ≠ 615 + 9 * k + 7) → i ≠ 2 → i ≠ 3 → i ≠ 8 → tkE (tkV w 8) i = w i := fun i h7 hg a b c => by
    unfold tkE
    rw [up_n c, up_n b, up_n a, tkV_o h7 hg 8]
  exact ⟨o 0 (by decide) (fun k => by omega) (by decide) (by decide) (by decide), o 1 (by decide) (fun k => by omega) (by decide) (by decide) (by decide), fun k hk q hq => o _ (by omega) (fun k' => by omega) (by omega) (by omega) (by omega)⟩
theorem payV_q {v : mv} {k c : Nat} : payV v k c 2 = v 2 - nI (pyD v k c + pyA v k c) ∧ payV v k c 4 = v 4 + nI (pyD v k c) ∧ payV v k c 5 = v 5 + nI (pyA v k c) ∧ vk (payV v k c) k 6 = nI (plc v k (pyS v k c)) ∧ vk (payV v k c) k 7 = vk v k 7 - nI (pyD v k c) ∧ vk (payV v k c) k 8 = vk v k 8 + nI (pyD v k c + pyA v k c) := by
  unfold payV vk
  refine ⟨?_, ?_, ?_, ?_, ?_, ?_⟩
  · rw [up_n (by omega), up_n (by omega), up_s]
  · rw [up_n (by omega), up_s]
  · rw [up_s]
  · rw [up_n (by omega), up_n (by omega), up_n (by omega), up_n (by omega), up_n (by omega), up_s]
  · rw [up_n (by omega), up_n (by omega), up_n (by omega), up_n (by omega), up_s]
  · rw [up_n (by omega), up_n (by omega), up_n (by omega), up_s]
theorem i32_mv (x s a b c : Int32) : x + a + b + c = x - s + a + b + (c + s) := by
  rw [Int32.sub_eq_add_neg]
  have h : x + -s + a + b + (c + s) = x + a + b + c + (s + -s) := by ac_rfl
  rw [h, ← Int32.sub_eq_add_neg, Int32.sub_self, Int32.add_zero]
theorem i32_mv2 (x a b c d e : Int32) : x + a + b + c = x - (d + e) + (a + d) + (b + e) + c := by
  rw [Int32.sub_eq_add_neg]
  have h : x + -(d + e) + (a + d) + (b + e) + c = x + a + b + c + ((d + e) + -(d + e)) := by ac_rfl
  rw [h, ← Int32.sub_eq_add_neg, Int32.sub_self, Int32.add_zero]
theorem AK_pay {w : mv} {k c : Nat} (h : AK w) : AK (payV w k c) := by
  obtain ⟨e2, e4, e5, -⟩ := payV_q (v := w) (k := k) (c := c)
  refine AK_at (payV_o (by decide) (by decide) (by decide) (by omega) (by omega) (by omega)) e2 e4 e5 (payV_o (by decide) (by decide) (by decide) (by omega) (by omega) (by omega)) ?_
  unfold AK at h
  rw [h, ← nI_add]
  exact i32_mv2 _ _ _ _ _ _
theorem KV_pay {w : mv} {k c : Nat} : KV w (payV w k c) :=
  ⟨payV_o (by decide) (by decide) (by decide) (by omega) (by omega) (by omega), payV_o (by decide) (by decide) (by decide) (by omega) (by omega) (by omega), fun q hq f hf => payV_o (by omega) (by omega) (by omega) (by omega) (by omega) (by omega)⟩
theorem AK_found {w : mv} {k : Nat} {c : Int32} (h : AK w) : AK (foundV w k c) := by
  obtain ⟨e2, e6, -⟩ := found_e (v := w) (k := k) (c := c)
  refine AK_at (found_o (by decide) (by decide) (by omega) (by omega) (by omega)) e2 (found_o (by decide) (by decide) (by omega) (by omega) (by omega)) (found_o (by decide) (by decide) (by omega) (by omega) (by omega)) e6 ?_
  unfold AK at h
  rw [h]
  exact i32_mv _ _ _ _ _
theorem KV_found {w : mv} {k : Nat} {c : Int32} : KV w (foundV w k c) :=
  ⟨found_o (by decide) (by decide) (by omega) (by omega) (by omega), found_o (by decide) (by decide) (by omega) (by omega) (by omega), fun q hq f hf => found_o (by omega) (by omega) (by omega) (by omega) (by omega)⟩
theorem AK_grant {w : mv} {a : Int32} (h : AK w) : AK (upd (upd w 2 (w 2 + a)) 3 (w 3 + a)) := by
  refine AK_at up_s (by rw [up_n (by decide), up_s]) (by rw [up_n (by decide), up_n (by decide)]) (by rw [up_n (by decide), up_n (by decide)]) (by rw [up_n (by decide), up_n (by decide)]) ?_
  unfold AK at h
  rw [h]
  ac_rfl
theorem AK_same {w w' : mv} (h : AK w) (e : ∀ i, 2 ≤ i → i < 7 → w' i = w i) : AK w' := by
  unfold AK at *
  rw [e 2 (by decide) (by decide), e 3 (by decide) (by decide), e 4 (by decide) (by decide), e 5 (by decide) (by decide), e 6 (by decide) (by decide)]
  exact h
section Gs
variable {I : mj_I} {w : mv}
theorem G_tick (h : GS I w) (ha : AK w) (hs : tn (w 2) + tn (w 12) ≤ 9999) : mj_R D_X9_tick [.inr (some 0)] (mj_w I) (mj_px (fun r I2 => r = some (.inl (nI (msk (fun q => tkB (tkV w q) q) 8))) ∧ GS I2 (tkE (tkV w 8)))) := by
  obtain ⟨p, o, n, L, f, hc, -⟩ := h
  obtain ⟨hR, hI, hZ, -⟩ := hc.1
  have et : I 5 5 = w 2 := hR.2.1 1 (by decide)
  have e3 : I (5 + 5) 3 = w 12 := hR.2.2.1 3 (by decide)
  have hf : w 2 + w 12 ≤ 9999 := by
    rw [hI.2.2.1.1, (hI.2.2.2.1 3 (by decide)).1.1, nI_add]
    exact nI_le (b := 9999) hs (by decide)
  refine R_imp (X9_tick_ok hc (by rw [et, e3]; exact hf)) ?_
  rintro r I2 ⟨g0, I1, hr, g1, g2⟩
  have g := RC_B hc hr g1 g2 (tk_w hI hs) (tk_Z hZ) (fun i hi => tk_h hi)
  exact ⟨g0, GS_rec ha g.1⟩
theorem G_tick_full (h : GS I w) (hs : ¬ tn (w 2) + tn (w 12) ≤ 9999) : mj_R D_X9_tick [.inr (some 0)] (mj_w I) (mj_ex (some (.inl (-100000003))) I) := by
  obtain ⟨hR, hI, hZ⟩ := GS_IV h
  have et : I 5 5 = w 2 := hR.2.1 1 (by decide)
  have e3 : I (5 + 5) 3 = w 12 := hR.2.2.1 3 (by decide)
  refine X9_tick_full ?_
  have h2 := hI.2.2.1
  have h12 : rg (w 12) 100 := (hI.2.2.2.1 3 (by decide)).1
  rw [et, e3, h2.1, h12.1, nI_add]
  exact nI_ge (b := tn (w 2) + tn (w 12)) (a := 9999) (by omega) (by have := h2.2; have := h12.2; omega)
theorem G_pay (h : GS I w) (ha : AK w) {k c : Nat} (hk : k < 8) (he : vk w k 4 = 1) (hz : vk w k 5 = 0) (hc1 : 1 ≤ c) (hc2 : c ≤ 999) (ht : ¬ w 2 = 0) : mj_R D_X9_pay [.inr (some 0), .inl (nI k), .inl (nI c)] (mj_w I) (mj_px (fun r I2 => r = some (.inl (nI (pyD w k (min c (tn (w 2))) + pyA w k (min c (tn (w 2)))))) ∧ GS I2 (payV w k (min c (tn (w 2)))))) := by
  obtain ⟨p, o, n, L, f, hc, -⟩ := h
  obtain ⟨hR, hI, hZ, -⟩ := hc.1
  refine R_imp (X9_pay_ok hc hk he hz hc1 hc2 ht) ?_
  rintro r I2 ⟨g0, I1, hr, g1, g2⟩
  have g := RC_B hc hr g1 g2 (payV_I hI hk he (Nat.min_le_right _ _)) (payV_Z hZ hz) (fun i hi => payV_h hk hi)
  exact ⟨g0, GS_rec ha g.1⟩
theorem G_found (h : GS I w) (ha : AK w) {k : Nat} (hk : k < 8) (he : vk w k 4 = 1) (hz : vk w k 5 = 1) (hf : fcost w k ≤ w 2) : mj_R D_X9_found [.inr (some 0), .inl (nI k)] (mj_w I) (mj_px (fun r I2 => r = some (.inl (fcost w k)) ∧ GS I2 (foundV w k (fcost w k)))) := by
  obtain ⟨p, o, n, L, f, hc, -⟩ := h
  obtain ⟨hR, hI, hZ, -⟩ := hc.1
  have hrg := fc_rg hI hk he hf
  refine R_imp (X9_found_ok hc hk he hz hf) ?_
  rintro r I2 ⟨g0, I1, hr, g1, g2⟩
  have g := RC_B hc hr g1 g2 (found_I hI hk hrg he) (found_Z hZ) (fun i hi => found_o (by omega) (by omega) (by omega) (by omega) (by omega))
  exact ⟨g0, GS_rec ha g.1⟩
theorem G_put (h : GS I w) (ha : AK w) {ja jb : Nat} {c : Int32} (hja : ja ≤ 1) (hjb : jb ≤ 11) (q3 : -1 ≤ c ∧ c ≤ 99) (hx : c = -1 ∨ rg c 99) (hl : tn (w 0) < 200) : mj_R D_X9_put [.inr (some 0), .inl (nI ja), .inl (nI jb), .inl c] (mj_w I) (mj_px (fun r I1 => r = some (.inl (nI (tn (w 0)))) ∧ GS I1 (putV w (nI ja) (nI jb) c))) := by
  obtain ⟨p, o, n, L, f, hc, -⟩ := h
  refine R_imp (X9_put_ok hc hja hjb q3 hx hl) ?_
  rintro r I2 ⟨g0, g⟩
  exact ⟨g0, GS_rec ha g⟩
theorem G_set (h : GS I w) (ha : AK w) {j k : Nat} (hj : j < 6) (h1 : loS j ≤ k) (h2 : k ≤ hiS j) : mj_R D_X9_set [.inr (some 0), .inl (nI j), .inl (nI k)] (mj_w I) (mj_px (fun r I1 => r = some (.inl (w (9 + j))) ∧ GS I1 (upd w (9 + j) (nI k)))) := by
  obtain ⟨p, o, n, L, f, hc, -⟩ := h
  refine R_imp (X9_set_ok hc hj h1 h2) ?_
  rintro r I2 ⟨g0, g⟩
  exact ⟨g0, GS_rec ha g⟩
theorem KV_set {j : Nat} (hj : j < 6) {x : Int32} : KV w (upd w (9 + j) x) :=
  ⟨up_n (by omega), up_n (by omega), fun k hk q hq => up_n (by omega)⟩
/-! counts -/
theorem G_c0 (h : LKS I w) : mj_R D_X9_count [.inr (some 0), .inl (nI 0)] (mj_w I) (mj_ex (some (.inl (w 0))) I) := by
  obtain ⟨p, o, n, L, f, hc⟩ := h
  exact X9_count_0 hc
theorem G_c1 (h : LKS I w) : mj_R D_X9_count [.inr (some 0), .inl (nI 1)] (mj_w I) (mj_ex (some (.inl (nI (nV w (tn (w 1)))))) I) := by
  obtain ⟨p, o, n, L, f, hc⟩ := h
  exact X9_count_1 hc
theorem G_c2 (h : LKS I w) : mj_R D_X9_count [.inr (some 0), .inl (nI 2)] (mj_w I) (mj_ex (some (.inl (w 1))) I) := by
  obtain ⟨p, o, n, L, f, hc⟩ := h
  exact X9_count_2 hc
theorem G_c3 (h : LKS I w) : mj_R D_X9_count [.inr (some 0), .inl (nI 3)] (mj_w I) (mj_ex (some (.inl (nI (msk (fun k => ex w k && bel w 0 k) 8)))) I) := by
  obtain ⟨p, o, n, L, f, hc⟩ := h
  exact X9_count_3 hc
theorem G_c4 (h : LKS I w) : mj_R D_X9_count [.inr (some 0), .inl (nI 4)] (mj_w I) (mj_ex (some (.inl (nI (msk (fun k => ex w k && bel w 1 k) 8)))) I) := by
  obtain ⟨p, o, n, L, f, hc⟩ := h
  exact X9_count_4 hc
theorem G_c5 (h : LKS I w) : mj_R D_X9_count [.inr (some 0), .inl (nI 5)] (mj_w I) (mj_ex (some (.inl (nI (msk (fun k => ex w k && bel w 3 k) 8)))) I) := by
  obtain ⟨p, o, n, L, f, hc⟩ := h
  exact X9_count_5 hc
theorem G_c6 (h : LKS I w) : mj_R D_X9_count [.inr (some 0), .inl (nI 6)] (mj_w I) (mj_ex (some (.inl (w 2))) I) := by
  obtain ⟨p, o, n, L, f, hc⟩ := h
  exact X9_count_6 hc
theorem G_c7 (h : LKS I w) : mj_R D_X9_count [.inr (some 0), .inl (nI 7)] (mj_w I) (mj_ex (some (.inl (w 3))) I) := by
  obtain ⟨p, o, n, L, f, hc⟩ := h
  exact X9_count_7 hc
theorem G_c8 (h : LKS I w) : mj_R D_X9_count [.inr (some 0), .inl (nI 8)] (mj_w I) (mj_ex (some (.inl (w 4))) I) := by
  obtain ⟨p, o, n, L, f, hc⟩ := h
  exact X9_count_8 hc
theorem G_c9 (h : LKS I w) : mj_R D_X9_count [.inr (some 0), .inl (nI 9)] (mj_w I) (mj_ex (some (.inl (w 5))) I) := by
  obtain ⟨p, o, n, L, f, hc⟩ := h
  exact X9_count_9 hc
theorem G_c10 (h : LKS I w) : mj_R D_X9_count [.inr (some 0), .inl (nI 10)] (mj_w I) (mj_ex (some (.inl (w 6))) I) := by
  obtain ⟨p, o, n, L, f, hc⟩ := h
  exact X9_count_10 hc
theorem G_c11 (h : LKS I w) : mj_R D_X9_count [.inr (some 0), .inl (nI 11)] (mj_w I) (mj_ex (some (.inl (w 7))) I) := by
  obtain ⟨p, o, n, L, f, hc⟩ := h
  exact X9_count_11 hc
theorem G_c12 (h : LKS I w) : mj_R D_X9_count [.inr (some 0), .inl (nI 12)] (mj_w I) (mj_ex (some (.inl (sm (ex w) (fun k => vk w k 7) 8))) I) := by
  obtain ⟨p, o, n, L, f, hc⟩ := h
  exact X9_count_12 hc
theorem G_c17 (h : LKS I w) : mj_R D_X9_count [.inr (some 0), .inl (nI 17)] (mj_w I) (mj_ex (some (.inl (w 9))) I) := by
  obtain ⟨p, o, n, L, f, hc⟩ := h
  exact X9_count_17 hc
theorem G_c18 (h : LKS I w) : mj_R D_X9_count [.inr (some 0), .inl (nI 18)] (mj_w I) (mj_ex (some (.inl (w 10))) I) := by
  obtain ⟨p, o, n, L, f, hc⟩ := h
  exact X9_count_18 hc
theorem G_c20 (h : LKS I w) : mj_R D_X9_count [.inr (some 0), .inl (nI 20)] (mj_w I) (mj_ex (some (.inl (w 12))) I) := by
  obtain ⟨p, o, n, L, f, hc⟩ := h
  exact X9_count_20 hc
end Gs
