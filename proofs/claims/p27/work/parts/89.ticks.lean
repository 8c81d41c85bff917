/-! ticks -/
theorem sm_up {p : Nat → Bool} {f f' : Nat → Int32} {j : Nat} (hp : p j = true) (hf : ∀ i, i ≠ j → f' i = f i) : ∀ n, sm p f' n = if j < n then sm p f n + (f' j - f j) else sm p f n
  | 0 => rfl
  | n + 1 => by
    rw [sm, sm, sm_up hp hf n]
    by_cases e : n = j
    · subst e
      rw [if_pos hp, if_pos hp, if_neg (Nat.lt_irrefl n), if_pos (Nat.lt_succ_self n)]
      have h : sm p f n + f n + (f' n - f n) = sm p f n + f' n + (f n + -f n) := by
        rw [Int32.sub_eq_add_neg]; ac_rfl
      rw [h, ← Int32.sub_eq_add_neg, Int32.sub_self, Int32.add_zero]
    · rw [hf n e]
      by_cases c : j < n
      · rw [if_pos c, if_pos (show j < n + 1 by omega)]
        split
        · ac_rfl
        · rfl
      · rw [if_neg c, if_neg (show ¬ j < n + 1 by omega)]
theorem sm_cg {p q : Nat → Bool} {f g : Nat → Int32} : ∀ n, (∀ i, i < n → p i = q i ∧ f i = g i) → sm p f n = sm q g n
  | 0, _ => rfl
  | n + 1, h => by
    rw [sm, sm, sm_cg n (fun i hi => h i (by omega)), (h n (by omega)).1, (h n (by omega)).2]
/-- debts and what is written off -/
def DS (v : mv) : Int32 := sm (ex v) (fun k => vk v k 7) 8 + v 7
def tkC (v : mv) (k : Nat) : Bool := ex v k && decide (vk v k 5 = 0)
def alN (v : mv) : Nat → Int32
  | 0 => 0
  | n + 1 => if tkC v n = true then alN v n + nI (arr v n) else alN v n
theorem tkS_k {v : mv} {k q f : Nat} (hf : f < 9) (hq : q ≠ k) : vk (tkS v k) q f = vk v q f := tkS_o (by omega) (by omega) (by omega)
theorem tkS_5 {v : mv} {k : Nat} : vk (tkS v k) k 5 = if tkB v k = true then 1 else vk v k 5 := by
  unfold tkS tkB ex
  by_cases c : vk v k 4 = 1 ∧ vk v k 5 = 0
  · rw [if_pos c, decide_eq_true c.1, decide_eq_true c.2, Bool.true_and, Bool.true_and]
    by_cases d : v 11 < tkD v k
    · rw [if_pos d, decide_eq_true d, if_pos rfl]
      exact vk_us
    · rw [if_neg d, decide_eq_false d, if_neg (by decide)]
      exact vk_up (by omega)
  · rw [if_neg c]
    have e : (decide (vk v k 4 = 1) && (decide (vk v k 5 = 0) && decide (v 11 < tkD v k))) = false := by
      by_cases c1 : vk v k 4 = 1
      · rw [decide_eq_false (fun c2 => c ⟨c1, c2⟩), Bool.false_and, Bool.and_false]
      · rw [decide_eq_false c1, Bool.false_and]
    rw [e, if_neg (by decide)]
theorem tkS_4 {v : mv} {k q : Nat} : vk (tkS v k) q 4 = vk v q 4 := tkS_o (by omega) (by omega) (by omega)
theorem DS_tk {v : mv} {k : Nat} (hk : k < 8) : DS (tkS v k) = if tkC v k = true then DS v + v 9 * nI (arr v k) else DS v := by
  have hex : ex (tkS v k) = ex v := funext fun q => by unfold ex; rw [tkS_4]
  unfold DS tkC
  rw [hex]
  by_cases c : vk v k 4 = 1 ∧ vk v k 5 = 0
  · have xe : ex v k = true := ex_t c.1
    rw [xe, decide_eq_true c.2, Bool.and_true, if_pos rfl]
    rw [sm_up (f := fun q => vk v q 7) (f' := fun q => vk (tkS v k) q 7) (j := k) xe (fun i hi => tkS_k (by decide) hi) 8, if_pos hk]
    show _ + (vk (tkS v k) k 7 - vk v k 7) + tkS v k 7 = _
    unfold tkS
    rw [if_pos c]
    by_cases d : v 11 < tkD v k
    · rw [if_pos d, vk_up (by omega), vk_us, up_n (by omega), up_n (by omega), up_s]
      unfold tkD
      have h : sm (ex v) (fun q => vk v q 7) 8 + (0 - vk v k 7) + (v 7 + (vk v k 7 + v 9 * nI (arr v k))) = sm (ex v) (fun q => vk v q 7) 8 + v 7 + v 9 * nI (arr v k) + (vk v k 7 + -vk v k 7) := by
        rw [Int32.sub_eq_add_neg, Int32.zero_add]; ac_rfl
      rw [h, ← Int32.sub_eq_add_neg (vk v k 7), Int32.sub_self, Int32.add_zero]
    · rw [if_neg d, vk_us, up_n (by omega)]
      unfold tkD
      have h : sm (ex v) (fun q => vk v q 7) 8 + (vk v k 7 + v 9 * nI (arr v k) - vk v k 7) + v 7 = sm (ex v) (fun q => vk v q 7) 8 + v 7 + v 9 * nI (arr v k) + (vk v k 7 + -vk v k 7) := by
        rw [Int32.sub_eq_add_neg]; ac_rfl
      rw [h, ← Int32.sub_eq_add_neg (vk v k 7), Int32.sub_self, Int32.add_zero]
  · have e : (ex v k && decide (vk v k 5 = 0)) = false := by
      unfold ex
      by_cases c1 : vk v k 4 = 1
      · rw [decide_eq_false (fun c2 => c ⟨c1, c2⟩), Bool.and_false]
      · rw [decide_eq_false c1, Bool.false_and]
    rw [e, if_neg (by decide)]
    have et : tkS v k = v := if_neg c
    rw [et]
theorem sq_tkV {v : mv} : ∀ n, SQ v (tkV v n)
  | 0 => sq_rf
  | n + 1 => sq_tr (sq_tkV n) sq_tk
theorem tkV_c {v : mv} {i : Nat} (hi : i < 15) (h7 : i ≠ 7) (n : Nat) : tkV v n i = v i := tkV_o h7 (fun k => by omega) n
theorem tkV_4 {v : mv} {k f : Nat} (hf : f < 9) (h5 : f ≠ 5) (h7 : f ≠ 7) (n : Nat) : vk (tkV v n) k f = vk v k f := tkV_o (by omega) (fun q => by omega) n
theorem tkV_a {v : mv} (hI : IV v) (n : Nat) : arr (tkV v n) n = arr v n :=
  arr_to hI (sq_tkV n) (tkV_c (by decide) (by decide) n) (tkV_k (by decide) n (Nat.le_refl n)) (tkV_k (by decide) n (Nat.le_refl n))
theorem tkV_d {v : mv} (hI : IV v) (n : Nat) : tkD (tkV v n) n = tkD v n := by
  unfold tkD
  rw [tkV_a hI, tkV_k (by decide) n (Nat.le_refl n), tkV_c (by decide) (by decide)]
theorem tkV_b {v : mv} (hI : IV v) (n : Nat) : tkB (tkV v n) n = tkB v n := by
  unfold tkB ex
  rw [tkV_d hI, tkV_k (by decide) n (Nat.le_refl n), tkV_k (by decide) n (Nat.le_refl n), tkV_c (by decide) (by decide)]
theorem tkV_5 {v : mv} (hI : IV v) : ∀ n k, k < n → vk (tkV v n) k 5 = if tkB v k = true then 1 else vk v k 5
  | 0, k, h => absurd h (Nat.not_lt_zero k)
  | n + 1, k, h => by
    rw [tkV]
    by_cases e : k = n
    · subst e
      rw [tkS_5, tkV_b hI, tkV_k (by decide) k (Nat.le_refl k)]
    · rw [tkS_k (by decide) e, tkV_5 hI n k (by omega)]
theorem DS_V {v : mv} (hI : IV v) : ∀ n, n ≤ 8 → DS (tkV v n) = DS v + v 9 * alN v n
  | 0, _ => by
    show DS v = DS v + v 9 * 0
    rw [Int32.mul_zero, Int32.add_zero]
  | n + 1, h => by
    rw [tkV, DS_tk (by omega), DS_V hI n (by omega), tkV_a hI, tkV_c (by decide) (by decide)]
    have e : tkC (tkV v n) n = tkC v n := by
      unfold tkC ex
      rw [tkV_k (by decide) n (Nat.le_refl n), tkV_k (by decide) n (Nat.le_refl n)]
    rw [e, alN]
    split
    · rw [Int32.mul_add, Int32.add_assoc]
    · rfl
theorem alN_tl {v : mv} (hI : IV v) : alN v 8 = alN v (tn (v 1)) := by
  have h8 : ∀ m, tn (v 1) + m ≤ 8 → alN v (tn (v 1) + m) = alN v (tn (v 1)) := by
    intro m
    induction m with
    | zero => intro _; rfl
    | succ m ih =>
      intro hm
      rw [← Nat.add_assoc, alN, if_neg, ih (by omega)]
      unfold tkC
      rw [ex_f (hI.2.2.2.2.2.2 (tn (v 1) + m) (by omega) (by omega)), Bool.false_and]
      decide
  have h := h8 (8 - tn (v 1)) (by have := hI.2.1.2; omega)
  rw [show tn (v 1) + (8 - tn (v 1)) = 8 by have := hI.2.1.2; omega] at h
  exact h
theorem tkE_k {v : mv} {k f : Nat} : vk (tkE v) k f = vk v k f := by
  unfold tkE vk
  rw [up_n (by omega), up_n (by omega), up_n (by omega)]
theorem DS_E {v : mv} : DS (tkE v) = DS v := by
  unfold DS
  have e7 : tkE v 7 = v 7 := by
    unfold tkE
    rw [up_n (by decide), up_n (by decide), up_n (by decide)]
  rw [e7, sm_cg (q := ex v) (g := fun k => vk v k 7) 8 (fun i _ => ⟨by unfold ex; rw [tkE_k], tkE_k⟩)]
theorem rn_1 {more lim d : Int32} : rnV more lim 1000 1 d = 1 ↔ lim < d + more := by
  have ge : ∀ n t d, 2 ≤ t → t + n < 2 ^ 30 → rnV more lim n t d ≠ 1 := by
    intro n
    induction n with
    | zero =>
      intro t d _ _
      rw [rnV]; decide
    | succ n ih =>
      intro t d h1 h2
      rw [rnV]
      split
      · exact fun e => absurd ((nI_eq (b := 1) (by omega) (by decide)).mp e) (by omega)
      · exact ih (t + 1) _ (by omega) (by omega)
  rw [show (1000 : Nat) = 999 + 1 from rfl, rnV]
  by_cases c : lim < d + more
  · rw [if_pos c]
    exact ⟨fun _ => c, fun _ => rfl⟩
  · rw [if_neg c]
    exact ⟨fun e => absurd e (ge 999 2 _ (by decide) (by decide)), fun e => absurd e c⟩
section Tt
variable {I : mj_I} {w : mv}
abbrev tkP (w : mv) : Option mj_V → mj_M → Prop := mj_px (fun r I1 => r = some (.inl 1) ∧ ∃ w', GS I1 w' ∧ AK w' ∧ KV w w')
theorem tick_ok {w' : mv} {T hd ds al x : Int32} (h : LKS I w) (ha : AK w') (kv : KV w w') (gt : mj_R D_X9_tick [.inr (some 0)] (mj_w I) (mj_px (fun r I2 => r = some (.inl T) ∧ GS I2 w'))) (f4 : ∀ J, GS J w' → mj_R D_X9_count [.inr (some 0), .inl (nI 4)] (mj_w J) (mj_ex (some (.inl (hd ||| T))) J)) (c12 c11 : Int32) (f12 : c12 + c11 = ds + w 9 * al)
    (k12 : ∀ J, GS J w' → mj_R D_X9_count [.inr (some 0), .inl (nI 12)] (mj_w J) (mj_ex (some (.inl c12)) J)) (k11 : ∀ J, GS J w' → mj_R D_X9_count [.inr (some 0), .inl (nI 11)] (mj_w J) (mj_ex (some (.inl c11)) J)) (k20 : ∀ J, GS J w' → mj_R D_X9_count [.inr (some 0), .inl (nI 20)] (mj_w J) (mj_ex (some (.inl (w 12))) J)) (k6 : ∀ J, GS J w' → mj_R D_X9_count [.inr (some 0), .inl (nI 6)] (mj_w J) (mj_ex (some (.inl (w 2 + w 12))) J)) (le : w 2 + w 12 ≤ 9999) :
    mj_J D_L_ticks (tkP w) 100 [some (.inr (some 0)), some (.inl al), some (.inl ds), some (.inl hd), some (.inl T), some (.inl x), none, none] [] (mj_w I) (0, 0) := by
  have m0 := s_0
  refine J_ald S_L_ticks rfl rfl ?_
  refine J_C S_L_ticks rfl ?_
  refine J_CVx S_L_ticks rfl rfl (by assumption) (by omega) (by simp) (G_c6 h) rfl ?_
  refine J_ist S_L_ticks rfl rfl ?_
  refine J_ald S_L_ticks rfl rfl ?_
  refine J_C S_L_ticks rfl ?_
  refine J_CVx S_L_ticks rfl rfl (by assumption) (by omega) (by simp) (G_c17 h) rfl ?_
  refine J_ist S_L_ticks rfl rfl ?_
  refine J_ald S_L_ticks rfl rfl ?_
  refine J_CV S_L_ticks rfl rfl (by assumption) (by omega) (by simp) (gt) ?_
  rintro _ _ ⟨J1, rfl, rfl, g1⟩
  refine J_ist S_L_ticks rfl rfl ?_
  refine J_ild S_L_ticks rfl rfl ?_
  refine J_ald S_L_ticks rfl rfl ?_
  refine J_C S_L_ticks rfl ?_
  refine J_CVx S_L_ticks rfl rfl (by assumption) (by omega) (by simp) (k20 _ g1) rfl ?_
  refine J_bin S_L_ticks rfl ?_
  refine J_C S_L_ticks rfl ?_
  refine J_cmp S_L_ticks rfl (fun c134 => ?_) (fun c134 => False.elim (c134 le))
  refine J_ild S_L_ticks rfl rfl ?_
  refine J_ild S_L_ticks rfl rfl ?_
  refine J_cmp S_L_ticks rfl (fun c165 => False.elim (c165 rfl)) (fun c165 => ?_)
  refine J_ald S_L_ticks rfl rfl ?_
  refine J_C S_L_ticks rfl ?_
  refine J_CVx S_L_ticks rfl rfl (by assumption) (by omega) (by simp) (f4 _ g1) rfl ?_
  refine J_ild S_L_ticks rfl rfl ?_
  refine J_ild S_L_ticks rfl rfl ?_
  refine J_bin S_L_ticks rfl ?_
  refine J_cmp S_L_ticks rfl (fun c177 => False.elim (c177 rfl)) (fun c177 => ?_)
  refine J_ald S_L_ticks rfl rfl ?_
  refine J_C S_L_ticks rfl ?_
  refine J_CVx S_L_ticks rfl rfl (by assumption) (by omega) (by simp) (k12 _ g1) rfl ?_
  refine J_ald S_L_ticks rfl rfl ?_
  refine J_C S_L_ticks rfl ?_
  refine J_CVx S_L_ticks rfl rfl (by assumption) (by omega) (by simp) (k11 _ g1) rfl ?_
  refine J_bin S_L_ticks rfl ?_
  refine J_ild S_L_ticks rfl rfl ?_
  refine J_ild S_L_ticks rfl rfl ?_
  refine J_ild S_L_ticks rfl rfl ?_
  refine J_bin S_L_ticks rfl ?_
  refine J_bin S_L_ticks rfl ?_
  refine J_cmp S_L_ticks rfl (fun c199 => False.elim (c199 f12)) (fun c199 => ?_)
  refine J_ald S_L_ticks rfl rfl ?_
  refine J_C S_L_ticks rfl ?_
  refine J_CVx S_L_ticks rfl rfl (by assumption) (by omega) (by simp) (k6 _ g1) rfl ?_
  refine J_ild S_L_ticks rfl rfl ?_
  refine J_ald S_L_ticks rfl rfl ?_
  refine J_C S_L_ticks rfl ?_
  refine J_CVx S_L_ticks rfl rfl (by assumption) (by omega) (by simp) (k20 _ g1) rfl ?_
  refine J_bin S_L_ticks rfl ?_
  refine J_cmp S_L_ticks rfl (fun c217 => False.elim (c217 rfl)) (fun c217 => ?_)
  refine J_C S_L_ticks rfl ?_
  refine J_goto S_L_ticks rfl ?_
  refine J_retZ S_L_ticks rfl (by decide) ?_
  exact ⟨_, rfl, rfl, _, g1, ha, kv⟩
theorem tick_no {T hd ds al x : Int32} (h : GS I w) (ha : AK w) (gt : mj_R D_X9_tick [.inr (some 0)] (mj_w I) (mj_ex (some (.inl (-100000003))) I)) (le : ¬ w 2 + w 12 ≤ 9999) :
    mj_J D_L_ticks (tkP w) 100 [some (.inr (some 0)), some (.inl al), some (.inl ds), some (.inl hd), some (.inl T), some (.inl x), none, none] [] (mj_w I) (0, 0) := by
  have m0 := s_0
  have hl := h.ls
  refine J_ald S_L_ticks rfl rfl ?_
  refine J_C S_L_ticks rfl ?_
  refine J_CVx S_L_ticks rfl rfl (by assumption) (by omega) (by simp) (G_c6 hl) rfl ?_
  refine J_ist S_L_ticks rfl rfl ?_
  refine J_ald S_L_ticks rfl rfl ?_
  refine J_C S_L_ticks rfl ?_
  refine J_CVx S_L_ticks rfl rfl (by assumption) (by omega) (by simp) (G_c17 hl) rfl ?_
  refine J_ist S_L_ticks rfl rfl ?_
  refine J_ald S_L_ticks rfl rfl ?_
  refine J_CVx S_L_ticks rfl rfl (by assumption) (by omega) (by simp) (gt) rfl ?_
  refine J_ist S_L_ticks rfl rfl ?_
  refine J_ild S_L_ticks rfl rfl ?_
  refine J_ald S_L_ticks rfl rfl ?_
  refine J_C S_L_ticks rfl ?_
  refine J_CVx S_L_ticks rfl rfl (by assumption) (by omega) (by simp) (G_c20 hl) rfl ?_
  refine J_bin S_L_ticks rfl ?_
  refine J_C S_L_ticks rfl ?_
  refine J_cmp S_L_ticks rfl (fun c134 => False.elim (le c134)) (fun c134 => ?_)
  refine J_ild S_L_ticks rfl rfl ?_
  refine J_C S_L_ticks rfl ?_
  refine J_cmp S_L_ticks rfl (fun c141 => False.elim (c141 rfl)) (fun c141 => ?_)
  refine J_ald S_L_ticks rfl rfl ?_
  refine J_C S_L_ticks rfl ?_
  refine J_CVx S_L_ticks rfl rfl (by assumption) (by omega) (by simp) (G_c6 hl) rfl ?_
  refine J_ild S_L_ticks rfl rfl ?_
  refine J_cmp S_L_ticks rfl (fun c152 => False.elim (c152 rfl)) (fun c152 => ?_)
  refine J_C S_L_ticks rfl ?_
  refine J_goto S_L_ticks rfl ?_
  refine J_retZ S_L_ticks rfl (by decide) ?_
  exact ⟨_, rfl, rfl, _, h, ha, KV_rf⟩
theorem T_ticks (h : GS I w) (ha : AK w) : mj_R D_L_ticks [.inr (some 0)] (mj_w I) (mj_px (fun r I1 => r = some (.inl 1) ∧ ∃ w', GS I1 w' ∧ AK w' ∧ KV w w')) := by
  have m0 := s_0
  have hl := h.ls
  obtain ⟨hR, hI, hZ⟩ := LKS_IV hl
  have n1 := hI.2.1
  have d8 : tn (w 1) ≤ 8 := n1.2
  have h2 := G_c2 hl
  rw [n1.1] at h2
  have h3 := G_c3 hl
  have h4 := G_c4 hl
  have e2 := hI.2.2.1
  have e12 : rg (w 12) 100 := (hI.2.2.2.1 3 (by decide)).1
  -- behind the tick
  have fin : mj_J D_L_ticks (mj_px (fun r I1 => r = some (.inl 1) ∧ ∃ w', GS I1 w' ∧ AK w' ∧ KV w w')) 100 [some (.inr (some 0)), some (.inl (alN w (tn (w 1)))), some (.inl (DS w)), some (.inl (nI (msk (fun k => ex w k && bel w 1 k) 8))), some (.inl (nI (msk (tkB w) (tn (w 1))))), some (.inl (nI (tn (w 1)))), none, none] [] (mj_w I) (0, 0) := by
    by_cases hs : tn (w 2) + tn (w 12) ≤ 9999
    · have gt := G_tick h ha hs
      have f1 : nI (msk (fun q => tkB (tkV w q) q) 8) = nI (msk (tkB w) (tn (w 1))) := by
        rw [tk_ans hI]
        exact congrArg nI (msk_ext (fun i _ => tkV_b hI i))
      have tB8 : msk (tkB w) 8 = msk (tkB w) (tn (w 1)) := msk_zero d8 (fun i h1 h2 => by
        unfold tkB
        rw [ex_f (hI.2.2.2.2.2.2 i h1 h2), Bool.false_and])
      have f4 : nI (msk (fun k => ex (tkE (tkV w 8)) k && bel (tkE (tkV w 8)) 1 k) 8) = nI (msk (fun k => ex w k && bel w 1 k) 8) ||| nI (msk (tkB w) (tn (w 1))) := by
        rw [fa_or, ← tB8, msk_or]
        refine congrArg nI (msk_ext (fun i hi => ?_))
        have a1 : ex (tkE (tkV w 8)) i = ex w i := by
          unfold ex
          rw [tkE_k, tkV_4 (by decide) (by decide) (by decide)]
        have a2 : vk (tkE (tkV w 8)) i 5 = if tkB w i = true then 1 else vk w i 5 := by
          rw [tkE_k, tkV_5 hI 8 i hi]
        show (ex (tkE (tkV w 8)) i && decide (vk (tkE (tkV w 8)) i 5 = 1)) = ((ex w i && decide (vk w i 5 = 1)) || tkB w i)
        rw [a1, a2]
        by_cases c : tkB w i = true
        · have c' := c
          unfold tkB at c'
          rw [Bool.and_eq_true] at c'
          rw [if_pos c, c, c'.1, Bool.or_true]
          rfl
        · rw [if_neg c, Bool.eq_false_iff.mpr c, Bool.or_false]
      have f12 : sm (ex (tkE (tkV w 8))) (fun k => vk (tkE (tkV w 8)) k 7) 8 + tkE (tkV w 8) 7 = DS w + w 9 * alN w (tn (w 1)) := by
        have g := DS_V hI 8 (Nat.le_refl 8)
        rw [← DS_E, alN_tl hI] at g
        exact g
      have f2 : tkE (tkV w 8) 2 = w 2 + w 12 := by
        unfold tkE
        rw [up_n (by decide), up_n (by decide), up_s, tkV_c (by decide) (by decide), tkV_c (by decide) (by decide)]
      have fi : tkE (tkV w 8) 12 = w 12 := by
        unfold tkE
        rw [up_n (by decide), up_n (by decide), up_n (by decide), tkV_c (by decide) (by decide)]
      have k20 : ∀ J, GS J (tkE (tkV w 8)) → mj_R D_X9_count [.inr (some 0), .inl (nI 20)] (mj_w J) (mj_ex (some (.inl (w 12))) J) := by
        intro J hJ
        have g := G_c20 hJ.ls
        rw [fi] at g
        exact g
      have k6 : ∀ J, GS J (tkE (tkV w 8)) → mj_R D_X9_count [.inr (some 0), .inl (nI 6)] (mj_w J) (mj_ex (some (.inl (w 2 + w 12))) J) := by
        intro J hJ
        have g := G_c6 hJ.ls
        rw [f2] at g
        exact g
      have le : w 2 + w 12 ≤ 9999 := by
        rw [e2.1, e12.1, nI_add]
        exact nI_le (b := 9999) hs (by decide)
      rw [f1] at gt
      refine tick_ok hl (AK_tick ha) KV_tick gt (fun J hJ => ?_) _ _ f12 (fun J hJ => G_c12 hJ.ls) (fun J hJ => G_c11 hJ.ls) k20 k6 le
      rw [← f4]
      exact G_c4 hJ.ls
    · have gt := G_tick_full h hs
      have le : ¬ w 2 + w 12 ≤ 9999 := by
        rw [e2.1, e12.1, nI_add]
        exact nI_ge (a := 9999) (by omega) (by have := e2.2; have := e12.2; omega)
      exact tick_no h ha gt le
  have key : ∀ (s k : Nat), k + s = tn (w 1) → mj_J D_L_ticks (mj_px (fun r I1 => r = some (.inl 1) ∧ ∃ w', GS I1 w' ∧ AK w' ∧ KV w w')) 28 [some (.inr (some 0)), some (.inl (alN w k)), some (.inl (DS w)), some (.inl (nI (msk (fun k => ex w k && bel w 1 k) 8))), some (.inl (nI (msk (tkB w) k))), some (.inl (nI k)), none, none] [] (mj_w I) (0, 0) := by
    intro s
    induction s with
    | zero =>
      intro k hk
      obtain rfl : k = tn (w 1) := by omega
      refine J_ild S_L_ticks rfl rfl ?_
      refine J_ald S_L_ticks rfl rfl ?_
      refine J_C S_L_ticks rfl ?_
      refine J_CVx S_L_ticks rfl rfl (by assumption) (by omega) (by simp) (h2) rfl ?_
      refine J_cmp S_L_ticks rfl (fun c35 => ?_) (fun c35 => False.elim (c35 (Int32.le_refl _)))
      exact fin
    | succ s ih =>
      intro k hks
      have hk : k < 8 := by omega
      have hlt : k < tn (w 1) := by omega
      have hm3 : msk (fun q => ex w q && bel w 0 q) 8 < 2 ^ 31 := Nat.lt_trans (msk_lt _ 8) (by decide)
      have hh3 := C_L_has (I := I) hm3 (i := k) (by omega)
      rw [msk_bit, decide_eq_true hk, Bool.true_and, show bel w 0 k = true from rfl, Bool.and_true] at hh3
      have hm4 : msk (fun q => ex w q && bel w 1 q) 8 < 2 ^ 31 := Nat.lt_trans (msk_lt _ 8) (by decide)
      have hh4 := C_L_has (I := I) hm4 (i := k) (by omega)
      rw [msk_bit, decide_eq_true hk, Bool.true_and, show bel w 1 k = decide (vk w k 5 = 1) from rfl] at hh4
      have eI : nI k + 1 = nI (k + 1) := nI_add k 1
      have tB := tk_msk (tkB w) (k := k) (by omega)
      have g := ih (k + 1) (by omega)
      rw [alN, ← tB] at g
      rcases hI.b01 hk with he | he
      · have xe := ex_f he
        rw [xe] at hh3
        have e1 : tkC w k = false := by unfold tkC; rw [xe, Bool.false_and]
        have e2 : tkB w k = false := by unfold tkB; rw [xe, Bool.false_and]
        rw [e1, e2, if_neg (show ¬ false = true by decide), if_neg (show ¬ false = true by decide), or_0] at g
        refine J_ild S_L_ticks rfl rfl ?_
        refine J_ald S_L_ticks rfl rfl ?_
        refine J_C S_L_ticks rfl ?_
        refine J_CVx S_L_ticks rfl rfl (by assumption) (by omega) (by simp) (h2) rfl ?_
        refine J_cmp S_L_ticks rfl (fun c35 => False.elim (nI_ge hlt (by omega) c35)) (fun c35 => ?_)
        refine J_ald S_L_ticks rfl rfl ?_
        refine J_C S_L_ticks rfl ?_
        refine J_CVx S_L_ticks rfl rfl (by assumption) (by omega) (by simp) (h3) rfl ?_
        refine J_ild S_L_ticks rfl rfl ?_
        refine J_CSx S_L_ticks rfl rfl (by simp) (hh3) rfl ?_
        refine J_if S_L_ticks rfl (fun c48 => ?_) (fun c48 => False.elim (c48 rfl))
        refine J_inc S_L_ticks rfl rfl rfl ?_
        refine J_goto S_L_ticks rfl ?_
        rw [eI]
        exact g
      · have xe := ex_t he
        rw [xe] at hh3 hh4
        rcases rg_01 (hI.wv hk he).2.2.2.2.2.2.2.2.2.1 with h5 | h5
        · rw [decide_eq_false (by rw [h5]; decide), Bool.and_false] at hh4
          have e1 : tkC w k = true := by unfold tkC; rw [xe, decide_eq_true h5]; rfl
          have v6 := G_v hl hk he (j := 6) (by decide)
          rw [show vwV w k 6 = nI (arr w k) from rfl] at v6
          have hr := X9_ruin_ok (I := I) hR hI hk he h5 (N := 1000) rfl
          have hit := rn_1 (more := w 9 * nI (arr w k)) (lim := w 11) (d := vk w k 7)
          rw [e1, if_pos (show true = true from rfl)] at g
          by_cases c : w 11 < tkD w k
          · have e2 : tkB w k = true := by unfold tkB; rw [xe, decide_eq_true h5, decide_eq_true c]; rfl
            rw [e2, if_pos (show true = true from rfl)] at g
            refine J_ild S_L_ticks rfl rfl ?_
            refine J_ald S_L_ticks rfl rfl ?_
            refine J_C S_L_ticks rfl ?_
            refine J_CVx S_L_ticks rfl rfl (by assumption) (by omega) (by simp) (h2) rfl ?_
            refine J_cmp S_L_ticks rfl (fun c35 => False.elim (nI_ge hlt (by omega) c35)) (fun c35 => ?_)
            refine J_ald S_L_ticks rfl rfl ?_
            refine J_C S_L_ticks rfl ?_
            refine J_CVx S_L_ticks rfl rfl (by assumption) (by omega) (by simp) (h3) rfl ?_
            refine J_ild S_L_ticks rfl rfl ?_
            refine J_CSx S_L_ticks rfl rfl (by simp) (hh3) rfl ?_
            refine J_if S_L_ticks rfl (fun c48 => False.elim (absurd c48 (by decide))) (fun c48 => ?_)
            refine J_ild S_L_ticks rfl rfl ?_
            refine J_ild S_L_ticks rfl rfl ?_
            refine J_CSx S_L_ticks rfl rfl (by simp) (hh4) rfl ?_
            refine J_if S_L_ticks rfl (fun c57 => False.elim (c57 rfl)) (fun c57 => ?_)
            refine J_ild S_L_ticks rfl rfl ?_
            refine J_ald S_L_ticks rfl rfl ?_
            refine J_ild S_L_ticks rfl rfl ?_
            refine J_C S_L_ticks rfl ?_
            refine J_CVx S_L_ticks rfl rfl (by assumption) (by omega) (by simp) (v6) rfl ?_
            refine J_bin S_L_ticks rfl ?_
            refine J_ist S_L_ticks rfl rfl ?_
            refine J_ild S_L_ticks rfl rfl ?_
            refine J_ald S_L_ticks rfl rfl ?_
            refine J_ild S_L_ticks rfl rfl ?_
            refine J_CVx S_L_ticks rfl rfl (by assumption) (by omega) (by simp) (hr) rfl ?_
            refine J_C S_L_ticks rfl ?_
            refine J_cmp S_L_ticks rfl (fun c80 => False.elim (c80 (hit.mpr c))) (fun c80 => ?_)
            refine J_C S_L_ticks rfl ?_
            refine J_ild S_L_ticks rfl rfl ?_
            refine J_bin S_L_ticks rfl ?_
            refine J_goto S_L_ticks rfl ?_
            refine J_bin S_L_ticks rfl ?_
            refine J_ist S_L_ticks rfl rfl ?_
            refine J_inc S_L_ticks rfl rfl rfl ?_
            refine J_goto S_L_ticks rfl ?_
            rw [eI]
            exact g
          · have e2 : tkB w k = false := by unfold tkB; rw [decide_eq_false c, Bool.and_false, Bool.and_false]
            rw [e2, if_neg (show ¬ false = true by decide)] at g
            refine J_ild S_L_ticks rfl rfl ?_
            refine J_ald S_L_ticks rfl rfl ?_
            refine J_C S_L_ticks rfl ?_
            refine J_CVx S_L_ticks rfl rfl (by assumption) (by omega) (by simp) (h2) rfl ?_
            refine J_cmp S_L_ticks rfl (fun c35 => False.elim (nI_ge hlt (by omega) c35)) (fun c35 => ?_)
            refine J_ald S_L_ticks rfl rfl ?_
            refine J_C S_L_ticks rfl ?_
            refine J_CVx S_L_ticks rfl rfl (by assumption) (by omega) (by simp) (h3) rfl ?_
            refine J_ild S_L_ticks rfl rfl ?_
            refine J_CSx S_L_ticks rfl rfl (by simp) (hh3) rfl ?_
            refine J_if S_L_ticks rfl (fun c48 => False.elim (absurd c48 (by decide))) (fun c48 => ?_)
            refine J_ild S_L_ticks rfl rfl ?_
            refine J_ild S_L_ticks rfl rfl ?_
            refine J_CSx S_L_ticks rfl rfl (by simp) (hh4) rfl ?_
            refine J_if S_L_ticks rfl (fun c57 => False.elim (c57 rfl)) (fun c57 => ?_)
            refine J_ild S_L_ticks rfl rfl ?_
            refine J_ald S_L_ticks rfl rfl ?_
            refine J_ild S_L_ticks rfl rfl ?_
            refine J_C S_L_ticks rfl ?_
            refine J_CVx S_L_ticks rfl rfl (by assumption) (by omega) (by simp) (v6) rfl ?_
            refine J_bin S_L_ticks rfl ?_
            refine J_ist S_L_ticks rfl rfl ?_
            refine J_ild S_L_ticks rfl rfl ?_
            refine J_ald S_L_ticks rfl rfl ?_
            refine J_ild S_L_ticks rfl rfl ?_
            refine J_CVx S_L_ticks rfl rfl (by assumption) (by omega) (by simp) (hr) rfl ?_
            refine J_C S_L_ticks rfl ?_
            refine J_cmp S_L_ticks rfl (fun c80 => ?_) (fun c80 => False.elim (c (hit.mp c80)))
            refine J_C S_L_ticks rfl ?_
            refine J_bin S_L_ticks rfl ?_
            refine J_ist S_L_ticks rfl rfl ?_
            refine J_inc S_L_ticks rfl rfl rfl ?_
            refine J_goto S_L_ticks rfl ?_
            rw [eI]
            exact g
        · rw [decide_eq_true h5, Bool.and_true] at hh4
          have e1 : tkC w k = false := by unfold tkC; rw [decide_eq_false (by rw [h5]; decide), Bool.and_false]
          have e2 : tkB w k = false := by unfold tkB; rw [decide_eq_false (show ¬ vk w k 5 = 0 by rw [h5]; decide), Bool.false_and, Bool.and_false]
          rw [e1, e2, if_neg (show ¬ false = true by decide), if_neg (show ¬ false = true by decide), or_0] at g
          refine J_ild S_L_ticks rfl rfl ?_
          refine J_ald S_L_ticks rfl rfl ?_
          refine J_C S_L_ticks rfl ?_
          refine J_CVx S_L_ticks rfl rfl (by assumption) (by omega) (by simp) (h2) rfl ?_
          refine J_cmp S_L_ticks rfl (fun c35 => False.elim (nI_ge hlt (by omega) c35)) (fun c35 => ?_)
          refine J_ald S_L_ticks rfl rfl ?_
          refine J_C S_L_ticks rfl ?_
          refine J_CVx S_L_ticks rfl rfl (by assumption) (by omega) (by simp) (h3) rfl ?_
          refine J_ild S_L_ticks rfl rfl ?_
          refine J_CSx S_L_ticks rfl rfl (by simp) (hh3) rfl ?_
          refine J_if S_L_ticks rfl (fun c48 => False.elim (absurd c48 (by decide))) (fun c48 => ?_)
          refine J_ild S_L_ticks rfl rfl ?_
          refine J_ild S_L_ticks rfl rfl ?_
          refine J_CSx S_L_ticks rfl rfl (by simp) (hh4) rfl ?_
          refine J_if S_L_ticks rfl (fun c57 => ?_) (fun c57 => False.elim (absurd c57 (by decide)))
          refine J_inc S_L_ticks rfl rfl rfl ?_
          refine J_goto S_L_ticks rfl ?_
          rw [eI]
          exact g
  refine mj_enter (by decide +kernel) (Nat.le_of_ble_eq_true rfl) ?_
  refine J_C S_L_ticks rfl ?_
  refine J_ist S_L_ticks rfl rfl ?_
  refine J_ald S_L_ticks rfl rfl ?_
  refine J_C S_L_ticks rfl ?_
  refine J_CVx S_L_ticks rfl rfl (by assumption) (by omega) (by simp) (G_c12 hl) rfl ?_
  refine J_ald S_L_ticks rfl rfl ?_
  refine J_C S_L_ticks rfl ?_
  refine J_CVx S_L_ticks rfl rfl (by assumption) (by omega) (by simp) (G_c11 hl) rfl ?_
  refine J_bin S_L_ticks rfl ?_
  refine J_ist S_L_ticks rfl rfl ?_
  refine J_ald S_L_ticks rfl rfl ?_
  refine J_C S_L_ticks rfl ?_
  refine J_CVx S_L_ticks rfl rfl (by assumption) (by omega) (by simp) (h4) rfl ?_
  refine J_ist S_L_ticks rfl rfl ?_
  refine J_C S_L_ticks rfl ?_
  refine J_ist S_L_ticks rfl rfl ?_
  refine J_C S_L_ticks rfl ?_
  refine J_ist S_L_ticks rfl rfl ?_
  exact key (tn (w 1)) 0 (by omega)
end Tt
