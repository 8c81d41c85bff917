def lR (f : Nat → Int32) (L s : Nat) : Nat := rnE (fun j => isL (f j)) (L - s) s
def dR (f : Nat → Int32) (L s : Nat) : Nat := rnE (fun j => isD (f j)) (L - s) s
def wf (f : Nat → Int32) (s : Nat) : Nat → Int32
  | 0 => 0
  | m + 1 => 32 * wf f s m + f (s + m) - 96
def nf (f : Nat → Int32) (s : Nat) : Nat → Int32
  | 0 => 0
  | m + 1 => if m < 2 then 10 * nf f s m + f (s + m) - 48 else nf f s m
def wv (f : Nat → Int32) (L s : Nat) : Int32 := if lR f L s - s < 6 then wf f s (lR f L s - s) else 0
def okd (f : Nat → Int32) (L s : Nat) : Bool := decide (dR f L s - s = 1) || (decide (dR f L s - s = 2) && !decide (f s = 48))
theorem lR_le (f : Nat → Int32) {L s : Nat} (h : s ≤ L) : s ≤ lR f L s ∧ lR f L s ≤ L := by
  have := rnE_le (fun j => isL (f j)) (L - s) s
  unfold lR
  omega
theorem dR_le (f : Nat → Int32) {L s : Nat} (h : s ≤ L) : s ≤ dR f L s ∧ dR f L s ≤ L := by
  have := rnE_le (fun j => isD (f j)) (L - s) s
  unfold dR
  omega
/-! letters and digits -/
theorem isL_n {x : Int32} (h : isL x = true) : x = nI (tn x) ∧ 97 ≤ tn x ∧ tn x ≤ 122 := by
  unfold isL at h
  rw [Bool.and_eq_true, decide_eq_true_eq, decide_eq_true_eq] at h
  have h0 : ¬ x < 0 := by
    intro c
    have h1 := fa_trans c (show (0 : Int32) ≤ 97 by decide)
    exact absurd h.1 (Int32.not_le.mpr h1)
  have e := nn_tn h0
  have hb := tn_lt x
  refine ⟨e, ?_, ?_⟩
  · have h1 := h.1
    rw [e] at h1
    exact (nI_leI (a := 97) (by decide) hb).mp h1
  · have h1 := h.2
    rw [e] at h1
    exact (nI_leI (b := 122) hb (by decide)).mp h1
theorem LD_no {x : Int32} (h : isD x = true) : isL x = false := by
  cases c : isL x
  · rfl
  · have h1 := isL_n c
    unfold isD at h
    rw [Bool.and_eq_true, decide_eq_true_eq, decide_eq_true_eq] at h
    have h2 := h.2
    rw [h1.1] at h2
    have := (nI_leI (b := 57) (tn_lt x) (by decide)).mp h2
    omega
theorem SR_d {x y : Int32} (h : isD x = true) : isSR x y = isD y := by
  unfold isSR
  rw [h, LD_no h]
  simp
theorem SR_l {x y : Int32} (h : isL x = true) : isSR x y = isL y := by
  unfold isSR
  have : isD x = false := by
    cases c : isD x
    · rfl
    · rw [LD_no c] at h; cases h
  rw [h, this]
  simp
theorem run_d {f : Nat → Int32} {L s : Nat} (hs : s < L) (h : isD (f s) = true) : dR f L s = tkn f L s := by
  unfold dR tkn
  rw [if_pos hs, show L - s = (L - (s + 1)) + 1 by omega, rnE, if_pos h]
  exact rnE_cg _ _ (fun j _ _ => (SR_d h).symm)
theorem run_l {f : Nat → Int32} {L s : Nat} (hs : s < L) (h : isL (f s) = true) : lR f L s = tkn f L s := by
  unfold lR tkn
  rw [if_pos hs, show L - s = (L - (s + 1)) + 1 by omega, rnE, if_pos h]
  exact rnE_cg _ _ (fun j _ _ => (SR_l h).symm)
theorem run_n {p : Nat → Bool} {L s : Nat} (h : s < L → p s = false) : rnE p (L - s) s = s := by
  cases c : L - s with
  | zero => rfl
  | succ n => rw [rnE, if_neg (by rw [h (by omega)]; decide)]
theorem num_ok (f : Nat → Int32) {L s : Nat} (hs : s ≤ L) : okd f L s = nmOk f L s (tkn f L s) ∧ (okd f L s = true → dR f L s = tkn f L s ∧ nf f s (dR f L s - s) = nmV f s (tkn f L s)) := by
  by_cases h : s < L ∧ isD (f s) = true
  · have e := run_d h.1 h.2
    have hg := tkn_gt f h.1
    unfold okd nmOk
    rw [e, decide_eq_true h.1, h.2]
    generalize hm : tkn f L s - s = m
    have hm1 : 1 ≤ m := by omega
    rcases (show m = 1 ∨ m = 2 ∨ 3 ≤ m by omega) with rfl | rfl | h3
    · refine ⟨by simp, fun _ => ⟨rfl, ?_⟩⟩
      unfold nmV
      rw [if_pos hm, nf, if_pos (by decide), nf, Nat.add_zero, Int32.mul_zero, Int32.zero_add]
    · refine ⟨by simp, fun _ => ⟨rfl, ?_⟩⟩
      unfold nmV
      rw [if_neg (by omega), nf, if_pos (by decide), nf, if_pos (by decide), nf, Nat.add_zero, Int32.mul_zero, Int32.zero_add, Int32.mul_comm]
    · rw [decide_eq_false (show ¬ m = 1 by omega), decide_eq_false (show ¬ m = 2 by omega), decide_eq_false (show ¬ m ≤ 2 by omega)]
      refine ⟨rfl, fun c => by simp at c⟩
  · have e : dR f L s = s := run_n (fun c => by
      cases d : isD (f s)
      · rfl
      · exact absurd ⟨c, d⟩ h)
    have e2 : nmOk f L s (tkn f L s) = false := by
      unfold nmOk
      by_cases c : s < L
      · cases d : isD (f s)
        · rw [Bool.false_and, Bool.and_false]
        · exact absurd ⟨c, d⟩ h
      · rw [decide_eq_false c, Bool.false_and]
    unfold okd
    rw [e, e2, Nat.sub_self]
    exact ⟨rfl, fun c => by simp at c⟩
/-! words as numbers -/
def vN (g : Nat → Nat) : Nat → Nat
  | 0 => 0
  | m + 1 => 32 * vN g m + g m
theorem vN_lt {g : Nat → Nat} : ∀ m, (∀ j, j < m → g j ≤ 26) → vN g m < 32 ^ m
  | 0, _ => Nat.one_pos
  | m + 1, h => by
    have h1 := vN_lt m (fun j hj => h j (by omega))
    have h2 := h m (by omega)
    rw [vN, Nat.pow_succ]
    omega
theorem vN_b {g : Nat → Nat} {m : Nat} (hm : m < 6) (h : ∀ j, j < m → g j ≤ 26) : vN g m < 2 ^ 31 := by
  have hlt := vN_lt m h
  have h32 : 32 ^ m ≤ 32 ^ 5 := Nat.pow_le_pow_right (by decide) (by omega)
  have h5 : 32 ^ 5 ≤ 2 ^ 31 := Nat.le_of_ble_eq_true rfl
  exact Nat.lt_of_lt_of_le hlt (Nat.le_trans h32 h5)
theorem vN_one {g h : Nat → Nat} : ∀ m n, (∀ j, j < m → 1 ≤ g j ∧ g j ≤ 26) → (∀ j, j < n → 1 ≤ h j ∧ h j ≤ 26) → vN g m = vN h n → m = n ∧ ∀ j, j < m → g j = h j
  | 0, 0, _, _, _ => ⟨rfl, fun j hj => absurd hj (Nat.not_lt_zero j)⟩
  | 0, n + 1, _, hh, e => by
    have := hh n (by omega)
    rw [vN, vN] at e
    omega
  | m + 1, 0, hg, _, e => by
    have := hg m (by omega)
    rw [vN, vN] at e
    omega
  | m + 1, n + 1, hg, hh, e => by
    have h1 := hg m (by omega)
    have h2 := hh n (by omega)
    rw [vN, vN] at e
    obtain ⟨e1, e2⟩ := vN_one m n (fun j hj => hg j (by omega)) (fun j hj => hh j (by omega)) (by omega)
    subst e1
    refine ⟨rfl, fun j hj => ?_⟩
    by_cases c : j = m
    · rw [c]; omega
    · exact e2 j (by omega)
theorem wf_vN {f : Nat → Int32} {s : Nat} : ∀ m, (∀ j, j < m → isL (f (s + j)) = true) → wf f s m = nI (vN (fun j => tn (f (s + j)) - 96) m)
  | 0, _ => rfl
  | m + 1, h => by
    have h1 := isL_n (h m (by omega))
    rw [wf, wf_vN m (fun j hj => h j (by omega)), vN]
    generalize vN (fun j => tn (f (s + j)) - 96) m = a
    rw [h1.1, show (32 : Int32) = nI 32 from rfl, show (96 : Int32) = nI 96 from rfl, pk_mul, nI_add, pk_sub (by omega), tn_nI (tn_lt _)]
    exact congrArg nI (by omega)
def cW (i : Nat) : Nat := vN (fun j => tn ((mj_sb.getD i []).getD j 0) - 96) (mj_sn.getD i 0)
theorem cW_lt : ∀ i, i < 7 → 0 < cW i ∧ cW i < 2 ^ 31 := by decide +kernel
theorem sb_l : ∀ i, i < 7 → ∀ j, j < mj_sn.getD i 0 → isL ((mj_sb.getD i []).getD j 0) = true := by decide +kernel
theorem sn_0 : ∀ i, i < 8 → 0 < mj_sn.getD i 0 := by decide
theorem cW_n0 {i : Nat} (hi : i < 7) : ¬ (0 : Int32) = nI (cW i) := by
  intro ev
  have hc := cW_lt i hi
  have h := (nI_eq (a := 0) (b := cW i) (by decide) hc.2).mp (nI_0.trans ev)
  omega
theorem wv_A1 {f : Nat → Int32} {s m i : Nat} (hi : i < 7) (h6 : m < 6) (hin : ∀ j, j < m → isL (f (s + j)) = true) (ev : wf f s m = nI (cW i)) : m = mj_sn.getD i 0 ∧ ∀ j, j < mj_sn.getD i 0 → f (s + j) = (mj_sb.getD i []).getD j 0 := by
  have hc := cW_lt i hi
  have hsb := sb_l i hi
  have hg : ∀ j, j < m → 1 ≤ tn (f (s + j)) - 96 ∧ tn (f (s + j)) - 96 ≤ 26 := fun j hj => by have := isL_n (hin j hj); omega
  have hh : ∀ j, j < mj_sn.getD i 0 → 1 ≤ tn ((mj_sb.getD i []).getD j 0) - 96 ∧ tn ((mj_sb.getD i []).getD j 0) - 96 ≤ 26 := fun j hj => by have := isL_n (hsb j hj); omega
  have hlt' := vN_b h6 (fun j hj => (hg j hj).2)
  rw [wf_vN m hin] at ev
  have ev2 := (nI_eq hlt' hc.2).mp ev
  unfold cW at ev2
  obtain ⟨e1, e2⟩ := vN_one _ _ hg hh ev2
  refine ⟨e1, fun j hj => ?_⟩
  have h1 := isL_n (hin j (by omega))
  have h2 := isL_n (hsb j hj)
  have h3 := e2 j (by omega)
  rw [h1.1, h2.1]
  exact congrArg nI (by omega)
theorem vN_cg {g h : Nat → Nat} : ∀ m, (∀ j, j < m → g j = h j) → vN g m = vN h m
  | 0, _ => rfl
  | m + 1, e => by
    have h1 := vN_cg m (fun j hj => e j (by omega))
    have h2 := e m (by omega)
    rw [vN, vN, h1, h2]
theorem wv_A2 {f : Nat → Int32} {s m i : Nat} (hin : ∀ j, j < m → isL (f (s + j)) = true) (e1 : m = mj_sn.getD i 0) (e2 : ∀ j, j < mj_sn.getD i 0 → f (s + j) = (mj_sb.getD i []).getD j 0) : wf f s m = nI (cW i) := by
  have h0 := wf_vN m hin
  have h1 : vN (fun j => tn (f (s + j)) - 96) m = vN (fun j => tn ((mj_sb.getD i []).getD j 0) - 96) m := vN_cg m (fun j hj => congrArg (fun x => tn x - 96) (e2 j (by omega)))
  rw [h0, h1, e1]
  exact congrArg nI rfl
theorem wv_B {f : Nat → Int32} {L s i : Nat} (hi : i < 7) (h : ¬ (s < L ∧ isL (f s) = true)) : lR f L s = s ∧ tq f s (tkn f L s) i = false := by
  have hl0 := sn_0 i (by omega)
  have hsb := sb_l i hi
  refine ⟨run_n (fun c => ?_), ?_⟩
  · cases d : isL (f s)
    · rfl
    · exact absurd ⟨c, d⟩ h
  · unfold tq
    by_cases c : s < L
    · rw [Bool.and_eq_false_iff]
      right
      rw [decide_eq_false_iff_not]
      intro g
      have g0 := g 0 hl0
      rw [Nat.add_zero] at g0
      exact h ⟨c, by rw [g0]; exact hsb 0 hl0⟩
    · have : tkn f L s = s := by unfold tkn; rw [if_neg c]
      rw [this, Nat.sub_self, decide_eq_false (by omega), Bool.false_and]
theorem wv_iff {f : Nat → Int32} {L s i : Nat} (hs : s ≤ L) (hi : i < 7) : (wv f L s = nI (cW i) ↔ tq f s (tkn f L s) i = true) ∧ (tq f s (tkn f L s) i = true → lR f L s = tkn f L s) := by
  have hl5 := st_l i (by omega)
  have hc0 := cW_n0 hi
  by_cases h : s < L ∧ isL (f s) = true
  · have e := run_l h.1 h.2
    refine ⟨?_, fun _ => e⟩
    have hin : ∀ j, j < lR f L s - s → isL (f (s + j)) = true := fun j hj => rnE_in (fun j => isL (f j)) (L - s) s (s + j) (by omega) (by unfold lR at hj; omega)
    unfold wv tq
    rw [e] at hin ⊢
    generalize tkn f L s - s = m at *
    by_cases h6 : m < 6
    · rw [if_pos h6, Bool.and_eq_true, decide_eq_true_eq, decide_eq_true_eq]
      exact ⟨fun ev => wv_A1 hi h6 hin ev, fun ev => wv_A2 hin ev.1 ev.2⟩
    · rw [if_neg h6, Bool.and_eq_true, decide_eq_true_eq, decide_eq_true_eq]
      exact ⟨fun ev => absurd ev hc0, fun ev => absurd ev.1 (by omega)⟩
  · obtain ⟨e, hf⟩ := wv_B (f := f) (L := L) (s := s) hi h
    rw [hf]
    refine ⟨⟨fun ev => ?_, fun c => by cases c⟩, fun c => by cases c⟩
    unfold wv at ev
    rw [e, Nat.sub_self, if_pos (by decide)] at ev
    exact absurd ev hc0
def kW (w : Int32) : Int32 := if w = 20141 then 0 else if w = 343342 then 3 else if w = 398963 then 4 else if w = 441972 then 2 else if w = 3659220 then 1 else -1
theorem cW_e : nI (cW 0) = 20141 ∧ nI (cW 1) = 3659220 ∧ nI (cW 2) = 441972 ∧ nI (cW 3) = 343342 ∧ nI (cW 4) = 398963 ∧ nI (cW 5) = 1 ∧ nI (cW 6) = 2 := by decide +kernel
theorem kW_ok {f : Nat → Int32} {L s : Nat} (hs : s ≤ L) : kW (wv f L s) = if kdN f s (tkn f L s) = 5 then -1 else nI (kdN f s (tkn f L s)) := by
  have h0 := (wv_iff (f := f) (i := 0) hs (by decide)).1
  have h1 := (wv_iff (f := f) (i := 1) hs (by decide)).1
  have h2 := (wv_iff (f := f) (i := 2) hs (by decide)).1
  have h3 := (wv_iff (f := f) (i := 3) hs (by decide)).1
  have h4 := (wv_iff (f := f) (i := 4) hs (by decide)).1
  obtain ⟨e0, e1, e2, e3, e4, -, -⟩ := cW_e
  rw [e0] at h0
  rw [e1] at h1
  rw [e2] at h2
  rw [e3] at h3
  rw [e4] at h4
  unfold kdN kW
  simp only [kdR, ← h0, ← h1, ← h2, ← h3, ← h4]
  generalize wv f L s = w
  by_cases c0 : w = 20141
  · subst c0; decide
  · by_cases c1 : w = 3659220
    · subst c1; decide
    · by_cases c2 : w = 441972
      · subst c2; decide
      · by_cases c3 : w = 343342
        · subst c3; decide
        · by_cases c4 : w = 398963
          · subst c4; decide
          · simp only [if_neg c0, if_neg c1, if_neg c2, if_neg c3, if_neg c4]
            rfl
theorem kd_run {f : Nat → Int32} {L s : Nat} (hs : s ≤ L) (h : ¬ kdN f s (tkn f L s) = 5) : lR f L s = tkn f L s := by
  have h0 := (wv_iff (f := f) (i := 0) hs (by decide)).2
  have h1 := (wv_iff (f := f) (i := 1) hs (by decide)).2
  have h2 := (wv_iff (f := f) (i := 2) hs (by decide)).2
  have h3 := (wv_iff (f := f) (i := 3) hs (by decide)).2
  have h4 := (wv_iff (f := f) (i := 4) hs (by decide)).2
  by_cases c0 : tq f s (tkn f L s) 0 = true
  · exact h0 c0
  · by_cases c1 : tq f s (tkn f L s) 1 = true
    · exact h1 c1
    · by_cases c2 : tq f s (tkn f L s) 2 = true
      · exact h2 c2
      · by_cases c3 : tq f s (tkn f L s) 3 = true
        · exact h3 c3
        · by_cases c4 : tq f s (tkn f L s) 4 = true
          · exact h4 c4
          · refine absurd ?_ h
            unfold kdN
            simp only [kdR, if_neg c0, if_neg c1, if_neg c2, if_neg c3, if_neg c4]
theorem dash_ok {f : Nat → Int32} {L s : Nat} : (s < L ∧ f s = 45 ↔ tq f s (tkn f L s) 7 = true) ∧ (s < L ∧ f s = 45 → tkn f L s = s + 1) := by
  have hb : s < L ∧ f s = 45 → tkn f L s = s + 1 := by
    intro h
    unfold tkn
    rw [if_pos h.1]
    exact run_n (p := fun j => isSR (f s) (f j)) (fun _ => by rw [h.2]; unfold isSR; rw [show isL 45 = false by decide, show isD 45 = false by decide]; simp)
  refine ⟨⟨fun h => ?_, fun h => ?_⟩, hb⟩
  · unfold tq
    rw [hb h, show s + 1 - s = 1 by omega]
    rw [Bool.and_eq_true]
    refine ⟨by decide, decide_eq_true (fun j hj => ?_)⟩
    obtain rfl : j = 0 := by
      have : mj_sn.getD 7 0 = 1 := by decide
      omega
    rw [Nat.add_zero, h.2]
    decide
  · unfold tq at h
    rw [Bool.and_eq_true, decide_eq_true_eq, decide_eq_true_eq] at h
    have e1 : mj_sn.getD 7 0 = 1 := by decide
    rw [e1] at h
    have hs : s < L := by
      rcases Nat.lt_or_ge s L with c | c
      · exact c
      · have : tkn f L s = s := by unfold tkn; rw [if_neg (by omega)]
        rw [this] at h
        omega
    have h2 := h.2 0 (by decide)
    rw [Nat.add_zero] at h2
    exact ⟨hs, h2.trans (by decide)⟩
