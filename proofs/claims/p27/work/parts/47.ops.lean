section Op
variable {I : mj_I} {b : Nat} {v : mv}
theorem RS_bk {s : Nat} {w w' : mv} {I' : mj_I} (h : RS I s w) (h1 : RB I' (s + 1) w') (h2 : IV w') (h3 : ZB w') (h4 : ∀ i, 687 ≤ i → w' i = w i) (h5 : Fr (s + 1) I I') : RS I' s w' := by
  obtain ⟨-, -, -, g⟩ := h
  refine ⟨h1, h2, h3, fun q hq => ?_⟩
  obtain ⟨x, y, z⟩ := g q hq
  have e : sl w' q = sl w q := funext fun j => h4 _ (by omega)
  rw [h4 _ (by omega), e]
  exact ⟨by rw [h5 _ (by omega)]; exact x, y, fun c => ⟨RB_fr (fun o g1 g2 => h5 o (by omega)) (z c).1, (z c).2⟩⟩
theorem ZB_to {v v' : mv} (h : ZB v) (h4 : ∀ k, k < 8 → vk v' k 4 = vk v k 4) (h5 : ∀ k, k < 8 → vk v' k 5 = vk v k 5) (h7 : ∀ k, k < 8 → vk v k 4 = 1 → vk v k 5 = 1 → vk v' k 7 = vk v k 7) : ZB v' := fun k hk g4 g5 => by
  rw [h4 k hk] at g4
  rw [h5 k hk] at g5
  rw [h7 k hk g4 g5]
  exact h k hk g4 g5
theorem ZB_up {v : mv} (h : ZB v) {i : Nat} {x : Int32} (hi : i < 615) : ZB (upd v i x) :=
  ZB_to h (fun k _ => vk_up (by omega)) (fun k _ => vk_up (by omega)) (fun k _ _ _ => vk_up (by omega))
theorem payV_Z (h : ZB v) {k c : Nat} (hz : vk v k 5 = 0) : ZB (payV v k c) := by
  refine ZB_to h (fun q _ => payV_o (by omega) (by omega) (by omega) (by omega) (by omega) (by omega)) (fun q _ => payV_o (by omega) (by omega) (by omega) (by omega) (by omega) (by omega)) (fun q _ _ g => ?_)
  by_cases e : q = k
  · rw [e, hz] at g; exact absurd g (by decide)
  · exact payV_o (by omega) (by omega) (by omega) (by omega) (by omega) (by omega)
theorem payV_h {k c i : Nat} (hk : k < 8) (hi : 687 ≤ i) : payV v k c i = v i := payV_o (by omega) (by omega) (by omega) (by omega) (by omega) (by omega)
theorem pvV_Z {t : Nat → Nat} (h : ZB v) {n : Nat} (hn : ∀ i, i < n → vk v (t i) 5 = 0) : ∀ i, i ≤ n → ZB (pvV v t i)
  | 0, _ => h
  | i + 1, hi => payV_Z (pvV_Z h hn i (by omega)) (by rw [pv_q i _ 5 (by decide)]; exact hn i (by omega))
theorem pvV_h {t : Nat → Nat} (ht : ∀ i, t i < 8) {j : Nat} (hj : 687 ≤ j) : ∀ i, pvV v t i j = v j
  | 0 => rfl
  | i + 1 => by
    show payV _ _ _ _ = _
    rw [payV_h (ht i) hj]
    exact pvV_h ht hj i
/-- accounts other than the treasury are free -/
theorem IV_acc (h : IV v) {i : Nat} {x : Int32} (hi : 3 ≤ i ∧ i < 9) : IV (upd v i x) := by
  obtain ⟨a0, a1, a2, a3, a4, a5, a6⟩ := h
  have e : ∀ j, j ≠ i → upd v i x j = v j := fun j hj => up_n hj
  have ek : ∀ k f, vk (upd v i x) k f = vk v k f := fun k f => vk_up (by omega)
  refine ⟨by rw [e 0 (by omega)]; exact a0, by rw [e 1 (by omega)]; exact a1, by rw [e 2 (by omega)]; exact a2, fun j hj => by rw [e _ (by omega)]; exact a3 j hj, fun j hj => ?_, fun k hk => ?_, fun k g1 g2 => ?_⟩
  · rw [e 0 (by omega)] at hj
    rw [e _ (by omega), e _ (by omega), e _ (by omega)]
    exact a4 j hj
  · rw [e 1 (by omega)] at hk
    unfold WV
    simp only [ek]
    rw [e 0 (by omega)]
    exact a5 k hk
  · rw [e 1 (by omega)] at g1
    rw [ek]
    exact a6 k g1 g2
/-! put -/
def putV (v : mv) (a c x : Int32) : mv := upd (upd (upd (upd v (15 + 3 * tn (v 0)) a) (15 + 3 * tn (v 0) + 1) c) (15 + 3 * tn (v 0) + 2) x) 0 (v 0 + 1)
theorem put_o {a c x : Int32} {i : Nat} (h0 : i ≠ 0) (h1 : i < 15 + 3 * tn (v 0) ∨ 18 + 3 * tn (v 0) ≤ i) : putV v a c x i = v i := by
  unfold putV
  rw [up_n h0, up_n (by omega), up_n (by omega), up_n (by omega)]
theorem put_e {a c x : Int32} : putV v a c x 0 = v 0 + 1 ∧ putV v a c x (15 + 3 * tn (v 0)) = a ∧ putV v a c x (16 + 3 * tn (v 0)) = c ∧ putV v a c x (17 + 3 * tn (v 0)) = x := by
  unfold putV
  refine ⟨up_s, ?_, ?_, ?_⟩
  · rw [up_n (by omega), up_n (by omega), up_n (by omega), up_s]
  · rw [up_n (by omega), up_n (by omega), show 16 + 3 * tn (v 0) = 15 + 3 * tn (v 0) + 1 by omega, up_s]
  · rw [up_n (by omega), show 17 + 3 * tn (v 0) = 15 + 3 * tn (v 0) + 2 by omega, up_s]
theorem put_n (hI : IV v) (hl : tn (v 0) < 200) {a c x : Int32} : putV v a c x 0 = nI (tn (v 0) + 1) ∧ tn (putV v a c x 0) = tn (v 0) + 1 := by
  have h0 := hI.1.1
  have e : putV v a c x 0 = nI (tn (v 0) + 1) := by
    rw [put_e.1, nI_succ, ← h0]
  exact ⟨e, by rw [e, tn_nI (by omega)]⟩
theorem put_k (hl : tn (v 0) < 200) {a c x : Int32} (k f : Nat) : vk (putV v a c x) k f = vk v k f := put_o (by omega) (by omega)
theorem put_I (hI : IV v) (hl : tn (v 0) < 200) {a c x : Int32} (ha : rg a 1) (hc : rg c 11) (hx : x = -1 ∨ rg x 99) : IV (putV v a c x) := by
  obtain ⟨n1, n2⟩ := put_n hI hl (a := a) (c := c) (x := x)
  obtain ⟨-, e1, e2, e3⟩ := put_e (v := v) (a := a) (c := c) (x := x)
  obtain ⟨a0, a1, a2, a3, a4, a5, a6⟩ := hI
  refine ⟨by rw [n1]; exact rg_nI (by omega) (by decide), by rw [put_o (by omega) (by omega)]; exact a1, by rw [put_o (by omega) (by omega)]; exact a2, fun j hj => by rw [put_o (by omega) (by omega)]; exact a3 j hj, fun j hj => ?_, fun k hk => ?_, fun k g1 g2 => ?_⟩
  · rw [n2] at hj
    by_cases e : j = tn (v 0)
    · subst e
      rw [e1, e2, e3]
      exact ⟨ha, hc, hx⟩
    · rw [put_o (by omega) (by omega), put_o (by omega) (by omega), put_o (by omega) (by omega)]
      exact a4 j (by omega)
  · rw [put_o (by omega) (by omega)] at hk
    obtain ⟨b1, b2, b3, b4, b5, b6, b7, b8, b9, b10, b11, b12, b13⟩ := a5 k hk
    unfold WV
    simp only [put_k hl]
    exact ⟨b1, b2, b3, b4, b5, b6, b7, b8, b9, b10, ⟨b11.1, by rw [n2]; have := b11.2; omega⟩, b12, b13⟩
  · rw [put_o (by omega) (by omega)] at g1
    rw [put_k hl]
    exact a6 k g1 g2
theorem put_Z (h : ZB v) (hl : tn (v 0) < 200) {a c x : Int32} : ZB (putV v a c x) :=
  ZB_to h (fun k _ => put_k hl k 4) (fun k _ => put_k hl k 5) (fun k _ _ _ => put_k hl k 7)
theorem put_h (hl : tn (v 0) < 200) {a c x : Int32} {i : Nat} (hi : 687 ≤ i) : putV v a c x i = v i := put_o (by omega) (by omega)
theorem put_q (hl : tn (v 0) < 200) {a c x : Int32} : cs (putV v a c x) = cs v ∧ ks (putV v a c x) = ks v := by
  have e : ∀ g k, cs_s (putV v a c x) g k = cs_s v g k := by
    intro g k
    unfold cs_s
    rw [put_k hl, put_k hl, put_k hl, put_k hl]
  have e2 : ∀ g k, ks_s (putV v a c x) g k = ks_s v g k := by
    intro g k
    unfold ks_s
    rw [put_k hl, put_k hl, put_k hl]
  constructor
  · funext k
    unfold cs tb_v
    rw [tb_n_congr e, e]
  · funext k
    unfold ks tb_v
    rw [tb_n_congr e2, e2]
theorem put_R (hR : RB I b v) (hI : IV v) (hl : tn (v 0) < 200) {a c x : Int32} (ha : rg a 1) (hc : rg c 11) : RB (mj_up (mj_up (mj_up I (b + 2) (tn (v 0)) (nI (12 * tn a + tn c))) (b + 3) (tn (v 0)) x) (b + 1) 2 (nI (tn (v 0) + 1))) b (putV v a c x) := by
  obtain ⟨n1, n2⟩ := put_n hI hl (a := a) (c := c) (x := x)
  obtain ⟨-, e1, e2, e3⟩ := put_e (v := v) (a := a) (c := c) (x := x)
  obtain ⟨q1, q2⟩ := put_q (v := v) hl (a := a) (c := c) (x := x)
  obtain ⟨h1, h2, h3, h4, h5⟩ := hR
  refine ⟨by rw [mj_up_eq, up_s, n1], fun i hi => ?_, fun i hi => ?_, fun j hj => ?_, fun k hk => ?_⟩
  · rw [mj_up_ne (by omega), mj_up_ne (by omega), mj_up_ne (by omega), put_o (by omega) (by omega)]; exact h2 i hi
  · rw [mj_up_ne (by omega), mj_up_ne (by omega), mj_up_ne (by omega), put_o (by omega) (by omega)]; exact h3 i hi
  · rw [n2] at hj
    rw [mj_up_ne (by omega), mj_up_ne (by omega), mj_up_eq, mj_up_ne (by omega), mj_up_eq, mj_up_ne (by omega)]
    unfold cl
    by_cases e : j = tn (v 0)
    · subst e
      rw [up_s, up_s, e1, e2, e3]
      exact ⟨rfl, rfl⟩
    · rw [up_n e, up_n e, put_o (by omega) (by omega), put_o (by omega) (by omega), put_o (by omega) (by omega)]
      exact h4 j (by omega)
  · rw [mj_up_ne (by omega), mj_up_ne (by omega), mj_up_ne (by omega)]
    obtain ⟨g1, g2, g3⟩ := h5 k hk
    refine ⟨by rw [put_k hl]; exact g1, ⟨g2.1, fun hh => g2.2 (by rw [put_o (by omega) (by omega)] at hh; exact hh)⟩, fun he => ?_⟩
    rw [put_k hl] at he
    unfold RV cm
    simp only [put_k hl, q1, q2]
    exact g3 he
/-! drop -/
def dropV (v : mv) (k : Nat) : mv := upd (upd v (615 + 9 * k + 4) 0) (615 + 9 * k + 7) 0
theorem drop_o {k i : Nat} (h : i ≠ 615 + 9 * k + 4) (h' : i ≠ 615 + 9 * k + 7) : dropV v k i = v i := by
  unfold dropV
  rw [up_n h', up_n h]
theorem drop_e {k : Nat} : vk (dropV v k) k 4 = 0 ∧ vk (dropV v k) k 7 = 0 := by
  unfold dropV
  exact ⟨by rw [vk_up (by omega), vk_us], by rw [vk_us]⟩
theorem sq_drop {k : Nat} : SQ v (dropV v k) := ⟨fun i h1 h2 => drop_o (by omega) (by omega), fun q f hf => drop_o (by omega) (by omega)⟩
theorem drop_I (hI : IV v) {k : Nat} (hk : k < 8) (hp : ∀ q, q < 8 → made v (nI k) q = false) : IV (dropV v k) := by
  obtain ⟨d4, d7⟩ := drop_e (v := v) (k := k)
  obtain ⟨a0, a1, a2, a3, a4, a5, a6⟩ := hI
  have l1 := a1.2
  refine ⟨by rw [drop_o (by omega) (by omega)]; exact a0, by rw [drop_o (by omega) (by omega)]; exact a1, by rw [drop_o (by omega) (by omega)]; exact a2, fun j hj => by rw [drop_o (by omega) (by omega)]; exact a3 j hj, fun j hj => ?_, fun q hq => ?_, fun q g1 g2 => ?_⟩
  · rw [drop_o (by omega) (by omega)] at hj
    have := a0.2
    rw [drop_o (by omega) (by omega), drop_o (by omega) (by omega), drop_o (by omega) (by omega)]
    exact a4 j hj
  · rw [drop_o (by omega) (by omega)] at hq
    have hw := a5 q hq
    obtain ⟨b1, b2, b3, b4, b5, b6, b7, b8, b9, b10, b11, b12, b13⟩ := hw
    have ef : ∀ f, f ≠ 4 → f ≠ 7 → f < 9 → vk (dropV v k) q f = vk v q f := fun f g1 g2 g3 => drop_o (by omega) (by omega)
    unfold WV
    rw [ef 0 (by decide) (by decide) (by decide), ef 1 (by decide) (by decide) (by decide), ef 2 (by decide) (by decide) (by decide), ef 3 (by decide) (by decide) (by decide), ef 5 (by decide) (by decide) (by decide), ef 6 (by decide) (by decide) (by decide), drop_o (i := 0) (by omega) (by omega)]
    by_cases e : q = k
    · subst e
      rw [d4, d7]
      exact ⟨Or.inl rfl, b2, b3, b4, b5, b6, b7, b8, fun h => absurd h (by decide), b10, b11, rg_nI (n := 0) (by decide) (by decide), fun _ => rfl⟩
    · have e4 : vk (dropV v k) q 4 = vk v q 4 := drop_o (by omega) (by omega)
      have e7 : vk (dropV v k) q 7 = vk v q 7 := drop_o (by omega) (by omega)
      rw [e4, e7]
      refine ⟨b1, b2, b3, b4, b5, b6, b7, b8, fun h h' => ?_, b10, b11, b12, b13⟩
      obtain ⟨p1, p2⟩ := b9 h h'
      have hm := hp q (by omega)
      unfold made at hm
      rw [ex_t h, decide_eq_true h'] at hm
      simp only [Bool.true_and, Bool.or_eq_false_iff, decide_eq_false_iff_not] at hm
      have n2 : tn (vk v q 2) ≠ k := fun c => hm.1 (by rw [← c]; exact b5.1)
      have n3 : tn (vk v q 3) ≠ k := fun c => hm.2 (by rw [← c]; exact b6.1)
      have t2 : vk (dropV v k) (tn (vk v q 2)) 4 = vk v (tn (vk v q 2)) 4 := drop_o (by omega) (by omega)
      have t3 : vk (dropV v k) (tn (vk v q 3)) 4 = vk v (tn (vk v q 3)) 4 := drop_o (by omega) (by omega)
      rw [t2, t3]
      exact ⟨p1, p2⟩
  · rw [drop_o (by omega) (by omega)] at g1
    by_cases e : q = k
    · subst e; exact d4
    · rw [show vk (dropV v k) q 4 = vk v q 4 from drop_o (by omega) (by omega)]
      exact a6 q g1 g2
theorem drop_Z (h : ZB v) {k : Nat} : ZB (dropV v k) := fun q hq g4 g5 => by
  by_cases e : q = k
  · subst e; exact drop_e.2
  · rw [show vk (dropV v k) q 4 = vk v q 4 from drop_o (by omega) (by omega)] at g4
    rw [show vk (dropV v k) q 5 = vk v q 5 from drop_o (by omega) (by omega)] at g5
    rw [show vk (dropV v k) q 7 = vk v q 7 from drop_o (by omega) (by omega)]
    exact h q hq g4 g5
theorem drop_R (hI : IV v) (hR : RB I b v) {k : Nat} (hk : k < 8) : RB (mj_up I (b + 7 + k) 0 0) b (dropV v k) := by
  obtain ⟨h1, h2, h3, h4, h5⟩ := hR
  have hl0 := hI.1.2
  have hq : SQ v (dropV v k) := sq_drop
  have e0 : dropV v k 0 = v 0 := drop_o (by omega) (by omega)
  refine ⟨by rw [mj_up_ne (by omega), e0]; exact h1, fun i hi => by rw [mj_up_ne (by omega), drop_o (by omega) (by omega)]; exact h2 i hi, fun i hi => by rw [mj_up_ne (by omega), drop_o (by omega) (by omega)]; exact h3 i hi, fun j hj => ?_, fun q hq8 => ?_⟩
  · rw [e0] at hj
    rw [mj_up_ne (by omega), mj_up_ne (by omega), sq_cl hq (by omega), drop_o (by omega) (by omega)]
    exact h4 j hj
  · obtain ⟨g1, g2, g3⟩ := h5 q hq8
    by_cases e : q = k
    · subst e
      rw [drop_e.1, mj_up_eq, up_s, up_n (by decide), up_n (by decide)]
      exact ⟨rfl, ⟨g2.1, fun hh => g2.2 (by rw [drop_o (by omega) (by omega)] at hh; exact hh)⟩, fun h => absurd h (by decide)⟩
    · rw [mj_up_ne (by omega), show vk (dropV v k) q 4 = vk v q 4 from drop_o (by omega) (by omega)]
      exact ⟨g1, ⟨g2.1, fun hh => g2.2 (by rw [drop_o (by omega) (by omega)] at hh; exact hh)⟩, fun he => RV_to hq (fun f _ _ => drop_o (by omega) (by omega)) (g3 he)⟩
end Op
