theorem up_s {f : Nat → Int32} {i : Nat} {x : Int32} : upd f i x i = x := if_pos rfl
theorem up_n {f : Nat → Int32} {i j : Nat} {x : Int32} (h : j ≠ i) : upd f i x j = f j := if_neg h
/-- two vectors tell the same of the log's cells and of the views' questions -/
def SQ (v v' : mv) : Prop := (∀ i, 15 ≤ i → i < 615 → v' i = v i) ∧ ∀ k f, f < 4 → vk v' k f = vk v k f
theorem sq_rf {v : mv} : SQ v v := ⟨fun _ _ _ => rfl, fun _ _ _ => rfl⟩
theorem sq_tr {v v' v'' : mv} (h : SQ v v') (h' : SQ v' v'') : SQ v v'' := ⟨fun i h1 h2 => (h'.1 i h1 h2).trans (h.1 i h1 h2), fun k f hf => (h'.2 k f hf).trans (h.2 k f hf)⟩
theorem sq_cl {v v' : mv} (h : SQ v v') {j : Nat} (hj : j < 200) : cl v' j = cl v j := by
  unfold cl
  rw [h.1 _ (by omega) (by omega), h.1 _ (by omega) (by omega)]
theorem tb_n_congr {α : Type} {d : α} {s s' : (Nat → α) → Nat → α} (h : ∀ g k, s g k = s' g k) : ∀ n, tb_n d s n = tb_n d s' n
  | 0 => rfl
  | n + 1 => by
    funext k
    show (if k = n then s (tb_n d s n) n else tb_n d s n k) = (if k = n then s' (tb_n d s' n) n else tb_n d s' n k)
    rw [tb_n_congr h n, h]
theorem tb_n_congr2 {α : Type} {d : α} {s s' : (Nat → α) → Nat → α} {N : Nat} (h : ∀ g k, k < N → s g k = s' g k) : ∀ n, n ≤ N → tb_n d s n = tb_n d s' n
  | 0, _ => rfl
  | n + 1, hn => by
    funext k
    show (if k = n then s (tb_n d s n) n else tb_n d s n k) = (if k = n then s' (tb_n d s' n) n else tb_n d s' n k)
    rw [tb_n_congr2 h n (by omega), h _ _ (by omega)]
theorem sq_cs {v v' : mv} (h : SQ v v') : cs v' = cs v := by
  have e : ∀ g k, cs_s v' g k = cs_s v g k := by
    intro g k
    unfold cs_s
    rw [h.2 k 0 (by decide), h.2 k 1 (by decide), h.2 k 2 (by decide), h.2 k 3 (by decide)]
  funext k
  unfold cs tb_v
  rw [tb_n_congr e, e]
theorem sq_ks {v v' : mv} (h : SQ v v') : ks v' = ks v := by
  have e : ∀ g k, ks_s v' g k = ks_s v g k := by
    intro g k
    unfold ks_s
    rw [h.2 k 0 (by decide), h.2 k 2 (by decide), h.2 k 3 (by decide)]
  funext k
  unfold ks tb_v
  rw [tb_n_congr e, e]
theorem sq_cm {v v' : mv} (h : SQ v v') (k : Nat) : cm v' k = cm v k := by
  unfold cm
  rw [sq_cs h]
theorem sq_up {v : mv} {i : Nat} {x : Int32} (h1 : i < 15 ∨ 615 ≤ i) (h2 : ∀ k f, f < 4 → 615 + 9 * k + f ≠ i) : SQ v (upd v i x) :=
  ⟨fun j h3 h4 => up_n (by omega), fun k f hf => up_n (h2 k f hf)⟩
theorem vk_up {v : mv} {k f i : Nat} {x : Int32} (h : 615 + 9 * k + f ≠ i) : vk (upd v i x) k f = vk v k f := up_n h
theorem vk_us {v : mv} {k f : Nat} {x : Int32} : vk (upd v (615 + 9 * k + f) x) k f = x := up_s
theorem RV_to {g : Nat → Int32} {v v' : mv} {k : Nat} (hq : SQ v v') (hf : ∀ f, 4 ≤ f → f < 9 → vk v' k f = vk v k f) (h : RV g v k) : RV g v' k := by
  obtain ⟨r1, r2, r3, r4, r5, r6, r7, r8, r9, r10⟩ := h
  refine ⟨r1.trans (hq.2 k 0 (by decide)).symm, r2.trans (hq.2 k 1 (by decide)).symm, r3.trans (hq.2 k 2 (by decide)).symm, r4.trans (hq.2 k 3 (by decide)).symm, ?_, ?_, r7.trans (hf 5 (by decide) (by decide)).symm, r8.trans (hf 6 (by decide) (by decide)).symm, r9.trans (hf 7 (by decide) (by decide)).symm, r10.trans (hf 8 (by decide) (by decide)).symm⟩
  · rw [r5, sq_cm hq]
  · rw [r6, sq_ks hq]
section U
variable {I : mj_I} {b : Nat} {v : mv}
theorem RB_ext {v' : mv} (hen : tn (v 0) ≤ 200) (hR : RB I b v) (h : ∀ i, i < 687 → v' i = v i) : RB I b v' := by
  have hvk : ∀ k f, k < 8 → f < 9 → vk v' k f = vk v k f := fun k f hk hf => h _ (by omega)
  obtain ⟨h1, h2, h3, h4, h5⟩ := hR
  have hcs : ∀ k, k < 8 → cs v' k = cs v k := by
    have e : ∀ g k, k < 8 → cs_s v' g k = cs_s v g k := by
      intro g k hk
      unfold cs_s
      rw [hvk k 0 hk (by decide), hvk k 1 hk (by decide), hvk k 2 hk (by decide), hvk k 3 hk (by decide)]
    intro k hk
    unfold cs tb_v
    rw [tb_n_congr2 e k (by omega), e _ k hk]
  have hks : ∀ k, k < 8 → ks v' k = ks v k := by
    have e : ∀ g k, k < 8 → ks_s v' g k = ks_s v g k := by
      intro g k hk
      unfold ks_s
      rw [hvk k 0 hk (by decide), hvk k 2 hk (by decide), hvk k 3 hk (by decide)]
    intro k hk
    unfold ks tb_v
    rw [tb_n_congr2 e k (by omega), e _ k hk]
  have e0 : v' 0 = v 0 := h 0 (by decide)
  refine ⟨by rw [h1, e0], fun i hi => by rw [h2 i hi, h _ (by omega)], fun i hi => by rw [h3 i hi, h _ (by omega)], fun j hj => ?_, fun k hk => ?_⟩
  · rw [e0] at hj
    obtain ⟨g1, g2⟩ := h4 j hj
    refine ⟨?_, by rw [g2, h _ (by omega)]⟩
    rw [g1]
    unfold cl
    rw [h _ (by omega), h _ (by omega)]
  · obtain ⟨g1, g2, g3⟩ := h5 k hk
    refine ⟨by rw [g1, hvk k 4 hk (by decide)], ⟨g2.1, fun hh => g2.2 (by rw [h 1 (by decide)] at hh; exact hh)⟩, fun he => ?_⟩
    rw [hvk k 4 hk (by decide)] at he
    obtain ⟨r1, r2, r3, r4, r5, r6, r7, r8, r9, r10⟩ := g3 he
    refine ⟨r1.trans (hvk k 0 hk (by decide)).symm, r2.trans (hvk k 1 hk (by decide)).symm, r3.trans (hvk k 2 hk (by decide)).symm, r4.trans (hvk k 3 hk (by decide)).symm, ?_, ?_, r7.trans (hvk k 5 hk (by decide)).symm, r8.trans (hvk k 6 hk (by decide)).symm, r9.trans (hvk k 7 hk (by decide)).symm, r10.trans (hvk k 8 hk (by decide)).symm⟩
    · rw [r5]; unfold cm; rw [hcs k hk]
    · rw [r6, hks k hk]
/-- an account of the books -/
theorem RB_ac {i : Nat} {x : Int32} (hen : tn (v 0) ≤ 200) (hR : RB I b v) (hi : 1 ≤ i ∧ i < 8) : RB (mj_up I b (4 + i) x) b (upd v (1 + i) x) := by
  obtain ⟨h1, h2, h3, h4, h5⟩ := hR
  have hq : SQ v (upd v (1 + i) x) := sq_up (Or.inl (by omega)) (fun k f _ => by omega)
  have e0 : upd v (1 + i) x 0 = v 0 := up_n (by omega)
  refine ⟨by rw [mj_up_ne (by omega), e0, h1], fun q hq' => ?_, fun q hq' => by rw [mj_up_ne (by omega), up_n (by omega), h3 q hq'], fun j hj => ?_, fun k hk => ?_⟩
  · rw [mj_up_eq]
    by_cases e : q = i
    · subst e; rw [up_s, up_s]
    · rw [up_n (by omega), up_n (by omega), h2 q hq']
  · rw [e0] at hj
    rw [mj_up_ne (by omega), mj_up_ne (by omega), sq_cl hq (by omega), up_n (by omega)]
    exact h4 j hj
  · rw [mj_up_ne (by omega), vk_up (by omega)]
    exact ⟨(h5 k hk).1, ⟨(h5 k hk).2.1.1, fun hh => (h5 k hk).2.1.2 (by rw [up_n (by omega)] at hh; exact hh)⟩, fun he => RV_to hq (fun f _ _ => vk_up (by omega)) ((h5 k hk).2.2 he)⟩
theorem RB_st {i : Nat} {x : Int32} (hen : tn (v 0) ≤ 200) (hR : RB I b v) (hi : i < 6) : RB (mj_up I (b + 5) i x) b (upd v (9 + i) x) := by
  obtain ⟨h1, h2, h3, h4, h5⟩ := hR
  have hq : SQ v (upd v (9 + i) x) := sq_up (Or.inl (by omega)) (fun k f _ => by omega)
  have e0 : upd v (9 + i) x 0 = v 0 := up_n (by omega)
  refine ⟨by rw [mj_up_ne (by omega), e0, h1], fun q hq' => by rw [mj_up_ne (by omega), up_n (by omega), h2 q hq'], fun q hq' => ?_, fun j hj => ?_, fun k hk => ?_⟩
  · rw [mj_up_eq]
    by_cases e : q = i
    · subst e; rw [up_s, up_s]
    · rw [up_n (by omega), up_n (by omega), h3 q hq']
  · rw [e0] at hj
    rw [mj_up_ne (by omega), mj_up_ne (by omega), sq_cl hq (by omega), up_n (by omega)]
    exact h4 j hj
  · rw [mj_up_ne (by omega), vk_up (by omega)]
    exact ⟨(h5 k hk).1, ⟨(h5 k hk).2.1.1, fun hh => (h5 k hk).2.1.2 (by rw [up_n (by omega)] at hh; exact hh)⟩, fun he => RV_to hq (fun f _ _ => vk_up (by omega)) ((h5 k hk).2.2 he)⟩
/-- a number of view k that changes: bankrupt (5), place (6), debt (7), spent (8) -/
theorem RB_vw {k f : Nat} {x : Int32} (hen : tn (v 0) ≤ 200) (hR : RB I b v) (hk : k < 8) (hf : 5 ≤ f ∧ f < 9) (hx : f = 5 → x = 0 ∨ x = 1) (hkd : k < tn (v 1) := by (repeat rw [up_n (by omega)]); assumption) : RB (mj_up I (b + 7 + k) (f + 2) x) b (upd v (615 + 9 * k + f) x) := by
  obtain ⟨h1, h2, h3, h4, h5⟩ := hR
  have hq : SQ v (upd v (615 + 9 * k + f) x) := sq_up (Or.inr (by omega)) (fun k' f' _ => by omega)
  have e0 : upd v (615 + 9 * k + f) x 0 = v 0 := up_n (by omega)
  refine ⟨by rw [mj_up_ne (by omega), e0, h1], fun q hq' => by rw [mj_up_ne (by omega), up_n (by omega), h2 q hq'], fun q hq' => by rw [mj_up_ne (by omega), up_n (by omega), h3 q hq'], fun j hj => ?_, fun q hq8 => ?_⟩
  · rw [e0] at hj
    rw [mj_up_ne (by omega), mj_up_ne (by omega), sq_cl hq (by omega), up_n (by omega)]
    exact h4 j hj
  · by_cases e : q = k
    · subst e
      rw [mj_up_eq, vk_up (by omega), up_n (show (0 : Nat) ≠ f + 2 by omega)]
      refine ⟨(h5 q hq8).1, ⟨?_, fun hh => by rw [up_n (by omega)] at hh; omega⟩, fun he => ?_⟩
      · by_cases e5 : f = 5
        · subst e5; rw [up_s]; exact hx rfl
        · rw [up_n (by omega)]; exact (h5 q hq8).2.1.1
      · obtain ⟨r1, r2, r3, r4, r5, r6, r7, r8, r9, r10⟩ := (h5 q hq8).2.2 he
        have g : ∀ f', 5 ≤ f' → f' < 9 → I (b + 7 + q) (f' + 2) = vk v q f' → upd (I (b + 7 + q)) (f + 2) x (f' + 2) = vk (upd v (615 + 9 * q + f) x) q f' := by
          intro f' g1 g2 g3
          by_cases ef : f' = f
          · subst ef; rw [up_s, vk_us]
          · rw [up_n (by omega), vk_up (by omega), g3]
        refine ⟨?_, ?_, ?_, ?_, ?_, ?_, g 5 (by decide) (by decide) r7, g 6 (by decide) (by decide) r8, g 7 (by decide) (by decide) r9, g 8 (by decide) (by decide) r10⟩
        · rw [up_n (by omega), vk_up (by omega), r1]
        · rw [up_n (by omega), vk_up (by omega), r2]
        · rw [up_n (by omega), vk_up (by omega), r3]
        · rw [up_n (by omega), vk_up (by omega), r4]
        · rw [up_n (by omega), sq_cm hq, r5]
        · rw [up_n (by omega), sq_ks hq, r6]
    · rw [mj_up_ne (by omega), vk_up (by omega)]
      exact ⟨(h5 q hq8).1, ⟨(h5 q hq8).2.1.1, fun hh => (h5 q hq8).2.1.2 (by rw [up_n (by omega)] at hh; exact hh)⟩, fun he => RV_to hq (fun f' _ _ => vk_up (by omega)) ((h5 q hq8).2.2 he)⟩
/-- what isn't the books' stays -/
def Fr (b : Nat) (I I' : mj_I) : Prop := ∀ o, (o < b ∨ b + 15 ≤ o) → I' o = I o
theorem fr_rf : Fr b I I := fun _ _ => rfl
theorem fr_tr {I' I'' : mj_I} (h : Fr b I I') (h' : Fr b I' I'') : Fr b I I'' := fun o ho => (h' o ho).trans (h o ho)
theorem fr_up {I' : mj_I} (h : Fr b I I') {o k : Nat} {x : Int32} (h1 : b ≤ o) (h2 : o < b + 15) : Fr b I (mj_up I' o k x) := fun q hq => by rw [mj_up_ne (by omega)]; exact h q hq
end U
