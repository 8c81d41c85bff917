theorem skp_le (f : Nat → Int32) {L p : Nat} (h : p ≤ L) : p ≤ skp f L p ∧ skp f L p ≤ L := by
  have := rnE_le (fun j => decide (f j = 32)) (L - p) p
  unfold skp
  omega
theorem tkn_le (f : Nat → Int32) {L s : Nat} (h : s ≤ L) : s ≤ tkn f L s ∧ tkn f L s ≤ L := by
  unfold tkn
  split
  · have := rnE_le (fun j => isSR (f s) (f j)) (L - (s + 1)) (s + 1)
    omega
  · omega
theorem tkn_gt (f : Nat → Int32) {L s : Nat} (h : s < L) : s < tkn f L s := by
  unfold tkn
  rw [if_pos h]
  have := rnE_le (fun j => isSR (f s) (f j)) (L - (s + 1)) (s + 1)
  omega
/-- is the token from s to t the i-th text -/
def tq (f : Nat → Int32) (s t i : Nat) : Bool := decide (t - s = mj_sn.getD i 0) && decide (∀ j, j < mj_sn.getD i 0 → f (s + j) = (mj_sb.getD i []).getD j 0)
def kdR (f : Nat → Int32) (s t : Nat) : Nat → Nat → Nat
  | 0, c => c
  | n + 1, c => if tq f s t c = true then c else kdR f s t n (c + 1)
def kdN (f : Nat → Int32) (s t : Nat) : Nat := kdR f s t 5 0
theorem kdR_le (f : Nat → Int32) (s t : Nat) : ∀ n c, c ≤ kdR f s t n c ∧ kdR f s t n c ≤ c + n
  | 0, c => ⟨Nat.le_refl c, Nat.le_refl c⟩
  | n + 1, c => by
    rw [kdR]
    have := kdR_le f s t n (c + 1)
    split <;> omega
def nmOk (f : Nat → Int32) (L s t : Nat) : Bool := decide (s < L) && (isD (f s) && (decide (t - s ≤ 2) && !(decide (t - s = 2) && decide (f s = 48))))
def nmV (f : Nat → Int32) (s t : Nat) : Int32 := if t - s = 1 then f s - 48 else (f s - 48) * 10 + f (s + 1) - 48
def flt (e : Int32) (ok : Bool) (s : Nat) : Int32 := if ok = true then e else if e = -1 then nI s else e
theorem flt_n {s s' : Nat} (hs : s ≤ 40) (ok : Bool) : flt (nI s) ok s' = nI s := by
  unfold flt
  rw [if_neg (c := nI s = -1) (fun h => nI_pos (n := s) (by omega) (by rw [h]; decide)), ite_self]
theorem flt_t (e : Int32) (s : Nat) : flt e true s = e := if_pos rfl
theorem flt_f (s : Nat) : flt (-1) false s = nI s := by unfold flt; rw [if_neg (by decide), if_pos rfl]
def RX (I I' : mj_I) (s t : Nat) (e : Int32) : Prop := (∀ o, o ≠ 1 → I' o = I o) ∧ I' 1 1 = nI s ∧ I' 1 2 = nI t ∧ I' 1 3 = e ∧ ∀ k, 4 ≤ k → I' 1 k = I 1 k
theorem rx_tr {I I' I'' : mj_I} {s t s' t' : Nat} {e e' : Int32} (h : RX I I' s t e) (h' : RX I' I'' s' t' e') : RX I I'' s' t' e' := ⟨fun o ho => (h'.1 o ho).trans (h.1 o ho), h'.2.1, h'.2.2.1, h'.2.2.2.1, fun k hk => (h'.2.2.2.2 k hk).trans (h.2.2.2.2 k hk)⟩
section Cr
variable {I : mj_I}
theorem C_X3_advance {L p : Nat} (hL : L ≤ 40) (h21 : I 2 1 = nI L) (hp : p ≤ L) (h12 : I 1 2 = nI p) : mj_R D_X3_advance [.inr (some 1)] (mj_w I) (mj_px (fun r I' => r = none ∧ RX I I' (skp (I 3) L p) (tkn (I 3) L (skp (I 3) L p)) (I 1 3))) := by
  have m0 := s_1
  have m1 := s_2
  obtain ⟨hs1, hs2⟩ := skp_le (I 3) hp
  refine mj_enter (by decide +kernel) (Nat.le_of_ble_eq_true rfl) ?_
  generalize hS : skp (I 3) L p = S at *
  generalize hT : tkn (I 3) L S = T
  have hat := fun (J : mj_I) (hJ : ∀ o, o ≠ 1 → J o = I o) (i : Nat) (hi : i < L) => (show mj_R D_X7_at [.inr (some 2), .inl (nI i)] (mj_w J) (mj_ex (some (.inl (I 3 i))) J) from by
    have h := C_X7_at (I := J) (n := L) (i := i) hL (by rw [hJ 2 (by decide)]; exact h21) (by omega)
    rw [if_pos hi, hJ 3 (by decide)] at h
    exact h)
  have k2 : ∀ (n b : Nat) (J : mj_I), S < L → b + n = L → rnE (fun j => isSR (I 3 S) (I 3 j)) n b = T → (∀ o, o ≠ 1 → J o = I o) → J 1 1 = nI S → J 1 2 = nI b → J 1 3 = I 1 3 → (∀ k, 4 ≤ k → J 1 k = I 1 k) →
      mj_J D_X3_advance (mj_px (fun r I' => r = none ∧ RX I I' S T (I 1 3))) 83 [some (.inr (some 1))] [] (mj_w J) (0, 0) := by
    intro n
    induction n with
    | zero =>
      intro b J hSL hb hr hJ g1 g2 g3 g4
      obtain rfl : b = L := by omega
      rw [rnE] at hr
      refine J_ald S_X3_advance rfl rfl ?_
      refine J_getI S_X3_advance rfl (by assumption) (by omega) ?_
      refine J_ald S_X3_advance rfl rfl ?_
      refine J_getR S_X3_advance rfl (o' := 2) (by assumption) (by omega) rfl ?_
      refine J_getI S_X3_advance rfl (by assumption) (by omega) ?_
      rw [g2, hJ 2 (by decide), h21]
      refine J_cmp S_X3_advance rfl (fun c94 => ?_) (fun c94 => False.elim (c94 (Int32.le_refl _)))
      refine J_retV S_X3_advance rfl ?_
      exact ⟨J, rfl, rfl, hJ, g1, by rw [g2, hr], g3, g4⟩
    | succ n ih =>
      intro b J hSL hb hr hJ g1 g2 g3 g4
      have hbl : b < L := by omega
      have hsr := C_X3_isSameRun (I := J) (x := I 3 S) (y := I 3 b)
      rw [rnE] at hr
      cases hc : isSR (I 3 S) (I 3 b)
      · rw [hc] at hr hsr
        refine J_ald S_X3_advance rfl rfl ?_
        refine J_getI S_X3_advance rfl (by assumption) (by omega) ?_
        refine J_ald S_X3_advance rfl rfl ?_
        refine J_getR S_X3_advance rfl (o' := 2) (by assumption) (by omega) rfl ?_
        refine J_getI S_X3_advance rfl (by assumption) (by omega) ?_
        rw [g2, hJ 2 (by decide), h21]
        refine J_cmp S_X3_advance rfl (fun c94 => False.elim (nI_ge hbl (by omega) c94)) (fun c94 => ?_)
        refine J_ald S_X3_advance rfl rfl ?_
        refine J_getR S_X3_advance rfl (o' := 2) (by assumption) (by omega) rfl ?_
        refine J_ald S_X3_advance rfl rfl ?_
        refine J_getI S_X3_advance rfl (by assumption) (by omega) ?_
        rw [g1]
        refine J_CVx S_X3_advance rfl rfl (by assumption) (by omega) (by simp) (hat J hJ S hSL) rfl ?_
        refine J_ald S_X3_advance rfl rfl ?_
        refine J_getR S_X3_advance rfl (o' := 2) (by assumption) (by omega) rfl ?_
        refine J_ald S_X3_advance rfl rfl ?_
        refine J_getI S_X3_advance rfl (by assumption) (by omega) ?_
        rw [g2]
        refine J_CVx S_X3_advance rfl rfl (by assumption) (by omega) (by simp) (hat J hJ b hbl) rfl ?_
        refine J_CSx S_X3_advance rfl rfl (by simp) (hsr) rfl ?_
        refine J_if S_X3_advance rfl (fun c122 => ?_) (fun c122 => False.elim (c122 rfl))
        refine J_retV S_X3_advance rfl ?_
        exact ⟨J, rfl, rfl, hJ, g1, by rw [g2, ← hr]; rfl, g3, g4⟩
      · rw [hc] at hr hsr
        refine J_ald S_X3_advance rfl rfl ?_
        refine J_getI S_X3_advance rfl (by assumption) (by omega) ?_
        refine J_ald S_X3_advance rfl rfl ?_
        refine J_getR S_X3_advance rfl (o' := 2) (by assumption) (by omega) rfl ?_
        refine J_getI S_X3_advance rfl (by assumption) (by omega) ?_
        rw [g2, hJ 2 (by decide), h21]
        refine J_cmp S_X3_advance rfl (fun c94 => False.elim (nI_ge hbl (by omega) c94)) (fun c94 => ?_)
        refine J_ald S_X3_advance rfl rfl ?_
        refine J_getR S_X3_advance rfl (o' := 2) (by assumption) (by omega) rfl ?_
        refine J_ald S_X3_advance rfl rfl ?_
        refine J_getI S_X3_advance rfl (by assumption) (by omega) ?_
        rw [g1]
        refine J_CVx S_X3_advance rfl rfl (by assumption) (by omega) (by simp) (hat J hJ S hSL) rfl ?_
        refine J_ald S_X3_advance rfl rfl ?_
        refine J_getR S_X3_advance rfl (o' := 2) (by assumption) (by omega) rfl ?_
        refine J_ald S_X3_advance rfl rfl ?_
        refine J_getI S_X3_advance rfl (by assumption) (by omega) ?_
        rw [g2]
        refine J_CVx S_X3_advance rfl rfl (by assumption) (by omega) (by simp) (hat J hJ b hbl) rfl ?_
        refine J_CSx S_X3_advance rfl rfl (by simp) (hsr) rfl ?_
        refine J_if S_X3_advance rfl (fun c122 => False.elim (absurd c122 (by decide))) (fun c122 => ?_)
        refine J_ald S_X3_advance rfl rfl ?_
        refine J_dup S_X3_advance rfl ?_
        refine J_getI S_X3_advance rfl (by assumption) (by omega) ?_
        refine J_C S_X3_advance rfl ?_
        refine J_bin S_X3_advance rfl ?_
        rw [g2, ← nI_succ]
        refine J_putI S_X3_advance rfl (by assumption) (by omega) ?_
        refine J_goto S_X3_advance rfl ?_
        exact ih (b + 1) _ hSL (by omega) hr (fun o ho => by rw [mj_up_ne ho]; exact hJ o ho) (by rw [mj_up_eq, up_n (by decide)]; exact g1) (by rw [mj_up_eq, up_s]) (by rw [mj_up_eq, up_n (by decide)]; exact g3) (fun k hk => by rw [mj_up_eq, up_n (by omega)]; exact g4 k hk)
  have k51 : ∀ (J : mj_I), (∀ o, o ≠ 1 → J o = I o) → J 1 1 = nI S → J 1 3 = I 1 3 → (∀ k, 4 ≤ k → J 1 k = I 1 k) →
      mj_J D_X3_advance (mj_px (fun r I' => r = none ∧ RX I I' S T (I 1 3))) 51 [some (.inr (some 1))] [] (mj_w J) (0, 0) := by
    intro J hJ g1 g3 g4
    unfold tkn at hT
    by_cases hSL : S < L
    · rw [if_pos hSL] at hT
      refine J_ald S_X3_advance rfl rfl ?_
      refine J_ald S_X3_advance rfl rfl ?_
      refine J_getI S_X3_advance rfl (by assumption) (by omega) ?_
      rw [g1]
      refine J_putI S_X3_advance rfl (by assumption) (by omega) ?_
      refine J_ald S_X3_advance rfl rfl ?_
      refine J_getI S_X3_advance rfl (by assumption) (by omega) ?_
      refine J_ald S_X3_advance rfl rfl ?_
      refine J_getR S_X3_advance rfl (o' := 2) (by assumption) (by omega) rfl ?_
      refine J_getI S_X3_advance rfl (by assumption) (by omega) ?_
      rw [mj_up_eq, mj_up_ne (show (2 : Nat) ≠ 1 by decide), up_n (show (1 : Nat) ≠ 2 by decide), g1, hJ 2 (by decide), h21]
      refine J_cmp S_X3_advance rfl (fun c70 => False.elim (nI_ge hSL (by omega) c70)) (fun c70 => ?_)
      refine J_ald S_X3_advance rfl rfl ?_
      refine J_ald S_X3_advance rfl rfl ?_
      refine J_getI S_X3_advance rfl (by assumption) (by omega) ?_
      refine J_C S_X3_advance rfl ?_
      refine J_bin S_X3_advance rfl ?_
      rw [mj_up_eq, up_n (show (1 : Nat) ≠ 2 by decide), g1, ← nI_succ]
      refine J_putI S_X3_advance rfl (by assumption) (by omega) ?_
      exact k2 (L - (S + 1)) (S + 1) _ hSL (by omega) hT (fun o ho => by rw [mj_up_ne ho, mj_up_ne ho]; exact hJ o ho) (by rw [mj_up_eq, up_n (by decide), mj_up_eq, up_n (by decide)]; exact g1) (by rw [mj_up_eq, up_s]) (by rw [mj_up_eq, up_n (by decide), mj_up_eq, up_n (by decide)]; exact g3) (fun k hk => by rw [mj_up_eq, up_n (by omega), mj_up_eq, up_n (by omega)]; exact g4 k hk)
    · rw [if_neg hSL] at hT
      subst hT
      refine J_ald S_X3_advance rfl rfl ?_
      refine J_ald S_X3_advance rfl rfl ?_
      refine J_getI S_X3_advance rfl (by assumption) (by omega) ?_
      rw [g1]
      refine J_putI S_X3_advance rfl (by assumption) (by omega) ?_
      refine J_ald S_X3_advance rfl rfl ?_
      refine J_getI S_X3_advance rfl (by assumption) (by omega) ?_
      refine J_ald S_X3_advance rfl rfl ?_
      refine J_getR S_X3_advance rfl (o' := 2) (by assumption) (by omega) rfl ?_
      refine J_getI S_X3_advance rfl (by assumption) (by omega) ?_
      rw [mj_up_eq, mj_up_ne (show (2 : Nat) ≠ 1 by decide), up_n (show (1 : Nat) ≠ 2 by decide), g1, hJ 2 (by decide), h21]
      refine J_cmp S_X3_advance rfl (fun c70 => ?_) (fun c70 => False.elim (c70 (nI_le (by omega) (by omega))))
      refine J_retV S_X3_advance rfl ?_
      exact ⟨_, rfl, rfl, fun o ho => by rw [mj_up_ne ho]; exact hJ o ho, by rw [mj_up_eq, up_n (by decide)]; exact g1, by rw [mj_up_eq, up_s], by rw [mj_up_eq, up_n (by decide)]; exact g3, fun k hk => by rw [mj_up_eq, up_n (by omega)]; exact g4 k hk⟩
  have k1 : ∀ (n a : Nat) (J : mj_I), a + n = L → rnE (fun j => decide (I 3 j = 32)) n a = S → (∀ o, o ≠ 1 → J o = I o) → J 1 1 = nI a → J 1 3 = I 1 3 → (∀ k, 4 ≤ k → J 1 k = I 1 k) →
      mj_J D_X3_advance (mj_px (fun r I' => r = none ∧ RX I I' S T (I 1 3))) 8 [some (.inr (some 1))] [] (mj_w J) (0, 0) := by
    intro n
    induction n with
    | zero =>
      intro a J ha hr hJ g1 g3 g4
      obtain rfl : a = L := by omega
      rw [rnE] at hr
      refine J_ald S_X3_advance rfl rfl ?_
      refine J_getI S_X3_advance rfl (by assumption) (by omega) ?_
      refine J_ald S_X3_advance rfl rfl ?_
      refine J_getR S_X3_advance rfl (o' := 2) (by assumption) (by omega) rfl ?_
      refine J_getI S_X3_advance rfl (by assumption) (by omega) ?_
      rw [g1, hJ 2 (by decide), h21]
      refine J_cmp S_X3_advance rfl (fun c19 => ?_) (fun c19 => False.elim (c19 (Int32.le_refl _)))
      exact k51 J hJ (by rw [g1, hr]) g3 g4
    | succ n ih =>
      intro a J ha hr hJ g1 g3 g4
      have hal : a < L := by omega
      rw [rnE] at hr
      by_cases hc : I 3 a = 32
      · rw [if_pos (decide_eq_true hc)] at hr
        refine J_ald S_X3_advance rfl rfl ?_
        refine J_getI S_X3_advance rfl (by assumption) (by omega) ?_
        refine J_ald S_X3_advance rfl rfl ?_
        refine J_getR S_X3_advance rfl (o' := 2) (by assumption) (by omega) rfl ?_
        refine J_getI S_X3_advance rfl (by assumption) (by omega) ?_
        rw [g1, hJ 2 (by decide), h21]
        refine J_cmp S_X3_advance rfl (fun c19 => False.elim (nI_ge hal (by omega) c19)) (fun c19 => ?_)
        refine J_ald S_X3_advance rfl rfl ?_
        refine J_getR S_X3_advance rfl (o' := 2) (by assumption) (by omega) rfl ?_
        refine J_ald S_X3_advance rfl rfl ?_
        refine J_getI S_X3_advance rfl (by assumption) (by omega) ?_
        rw [g1]
        refine J_CVx S_X3_advance rfl rfl (by assumption) (by omega) (by simp) (hat J hJ a hal) rfl ?_
        refine J_C S_X3_advance rfl ?_
        refine J_cmp S_X3_advance rfl (fun c35 => False.elim (c35 hc)) (fun c35 => ?_)
        refine J_ald S_X3_advance rfl rfl ?_
        refine J_dup S_X3_advance rfl ?_
        refine J_getI S_X3_advance rfl (by assumption) (by omega) ?_
        refine J_C S_X3_advance rfl ?_
        refine J_bin S_X3_advance rfl ?_
        rw [g1, ← nI_succ]
        refine J_putI S_X3_advance rfl (by assumption) (by omega) ?_
        refine J_goto S_X3_advance rfl ?_
        exact ih (a + 1) _ (by omega) hr (fun o ho => by rw [mj_up_ne ho]; exact hJ o ho) (by rw [mj_up_eq, up_s]) (by rw [mj_up_eq, up_n (by decide)]; exact g3) (fun k hk => by rw [mj_up_eq, up_n (by omega)]; exact g4 k hk)
      · rw [if_neg (by rw [decide_eq_false hc]; decide)] at hr
        refine J_ald S_X3_advance rfl rfl ?_
        refine J_getI S_X3_advance rfl (by assumption) (by omega) ?_
        refine J_ald S_X3_advance rfl rfl ?_
        refine J_getR S_X3_advance rfl (o' := 2) (by assumption) (by omega) rfl ?_
        refine J_getI S_X3_advance rfl (by assumption) (by omega) ?_
        rw [g1, hJ 2 (by decide), h21]
        refine J_cmp S_X3_advance rfl (fun c19 => False.elim (nI_ge hal (by omega) c19)) (fun c19 => ?_)
        refine J_ald S_X3_advance rfl rfl ?_
        refine J_getR S_X3_advance rfl (o' := 2) (by assumption) (by omega) rfl ?_
        refine J_ald S_X3_advance rfl rfl ?_
        refine J_getI S_X3_advance rfl (by assumption) (by omega) ?_
        rw [g1]
        refine J_CVx S_X3_advance rfl rfl (by assumption) (by omega) (by simp) (hat J hJ a hal) rfl ?_
        refine J_C S_X3_advance rfl ?_
        refine J_cmp S_X3_advance rfl (fun c35 => ?_) (fun c35 => False.elim (hc c35))
        exact k51 J hJ (by rw [g1, hr]) g3 g4
  refine J_ald S_X3_advance rfl rfl ?_
  refine J_ald S_X3_advance rfl rfl ?_
  refine J_getI S_X3_advance rfl (by assumption) (by omega) ?_
  rw [h12]
  refine J_putI S_X3_advance rfl (by assumption) (by omega) ?_
  exact k1 (L - p) p _ (by omega) hS (fun o ho => mj_up_ne ho) (by rw [mj_up_eq, up_s]) (by rw [mj_up_eq, up_n (by decide)]) (fun k hk => by rw [mj_up_eq, up_n (by omega)])
theorem C_X3_refuse {s t : Nat} (h11 : I 1 1 = nI s) (h12 : I 1 2 = nI t) : mj_R D_X3_refuse [.inr (some 1)] (mj_w I) (mj_px (fun r I' => r = none ∧ RX I I' s t (flt (I 1 3) false s))) := by
  have m0 := s_1
  refine mj_enter (by decide +kernel) (Nat.le_of_ble_eq_true rfl) ?_
  unfold flt
  rw [if_neg (by decide)]
  by_cases h : I 1 3 = -1
  · rw [if_pos h]
    refine J_ald S_X3_refuse rfl rfl ?_
    refine J_getI S_X3_refuse rfl (by assumption) (by omega) ?_
    refine J_C S_X3_refuse rfl ?_
    refine J_cmp S_X3_refuse rfl (fun c5 => False.elim (c5 h)) (fun c5 => ?_)
    refine J_ald S_X3_refuse rfl rfl ?_
    refine J_ald S_X3_refuse rfl rfl ?_
    refine J_getI S_X3_refuse rfl (by assumption) (by omega) ?_
    rw [h11]
    refine J_putI S_X3_refuse rfl (by assumption) (by omega) ?_
    refine J_retV S_X3_refuse rfl ?_
    exact ⟨_, rfl, rfl, fun o ho => mj_up_ne ho, by rw [mj_up_eq, up_n (by decide)]; exact h11, by rw [mj_up_eq, up_n (by decide)]; exact h12, by rw [mj_up_eq, up_s], fun k hk => by rw [mj_up_eq, up_n (by omega)]⟩
  · rw [if_neg h]
    refine J_ald S_X3_refuse rfl rfl ?_
    refine J_getI S_X3_refuse rfl (by assumption) (by omega) ?_
    refine J_C S_X3_refuse rfl ?_
    refine J_cmp S_X3_refuse rfl (fun c5 => ?_) (fun c5 => False.elim (h c5))
    refine J_retV S_X3_refuse rfl ?_
    exact ⟨_, rfl, rfl, fun o ho => rfl, h11, h12, rfl, fun k hk => rfl⟩
theorem C_X3_tokenIs {L s t i : Nat} (hi : i < 8) (hL : L ≤ 40) (h21 : I 2 1 = nI L) (h11 : I 1 1 = nI s) (h12 : I 1 2 = nI t) (hst : s ≤ t) (htL : t ≤ L) : mj_R D_X3_tokenIs [.inr (some 1), .inr (some (1010 + i))] (mj_w I) (mj_ex (some (.inl (bi (tq (I 3) s t i)))) I) := by
  have m0 := s_1
  have m1 := s_2
  have hl := st_l i hi
  have hlen := C_J0_length (I := I) hi
  have hch := fun j => C_J0_charAt (I := I) (j := j) hi
  have hat := fun (j : Nat) (hj : s + j < L) => (show mj_R D_X7_at [.inr (some 2), .inl (nI (s + j))] (mj_w I) (mj_ex (some (.inl (I 3 (s + j)))) I) from by
    have h := C_X7_at (I := I) (n := L) (i := s + j) hL h21 (by omega)
    rw [if_pos hj] at h
    exact h)
  refine mj_enter (by decide +kernel) (Nat.le_of_ble_eq_true rfl) ?_
  unfold tq
  by_cases hn : t - s = mj_sn.getD i 0
  · rw [decide_eq_true hn, Bool.true_and]
    generalize hN : mj_sn.getD i 0 = N at *
    have nx : ∀ k, (∀ j, j < k → I 3 (s + j) = (mj_sb.getD i []).getD j 0) → I 3 (s + k) = (mj_sb.getD i []).getD k 0 → ∀ j, j < k + 1 → I 3 (s + j) = (mj_sb.getD i []).getD j 0 := by
      intro k hj hc j hj2
      rcases Nat.lt_or_ge j k with g | g
      · exact hj j g
      · obtain rfl : j = k := by omega
        exact hc
    have key : ∀ (n k : Nat), k + n = N → (∀ j, j < k → I 3 (s + j) = (mj_sb.getD i []).getD j 0) → mj_J D_X3_tokenIs (mj_ex (some (.inl (bi (decide (∀ j, j < N → I 3 (s + j) = (mj_sb.getD i []).getD j 0))))) I) 20 [some (.inr (some 1)), some (.inr (some (1010 + i))), some (.inl (nI k))] [] (mj_w I) (0, 0) := by
      intro n
      induction n with
      | zero =>
        intro k hk hj
        obtain rfl : k = N := by omega
        rw [decide_eq_true hj]
        refine J_ild S_X3_tokenIs rfl rfl ?_
        refine J_ald S_X3_tokenIs rfl rfl ?_
        refine J_CJx S_X3_tokenIs rfl rfl hi (by simp) (hlen) rfl ?_
        refine J_cmp S_X3_tokenIs rfl (fun c25 => ?_) (fun c25 => False.elim (c25 (Int32.le_refl _)))
        refine J_C S_X3_tokenIs rfl ?_
        refine J_retZ S_X3_tokenIs rfl (by decide) ?_
        exact ⟨rfl, rfl⟩
      | succ n ih =>
        intro k hk hj
        by_cases hc : I 3 (s + k) = (mj_sb.getD i []).getD k 0
        · refine J_ild S_X3_tokenIs rfl rfl ?_
          refine J_ald S_X3_tokenIs rfl rfl ?_
          refine J_CJx S_X3_tokenIs rfl rfl hi (by simp) (hlen) rfl ?_
          refine J_cmp S_X3_tokenIs rfl (fun c25 => False.elim (nI_ge (show k < N by omega) (by omega) c25)) (fun c25 => ?_)
          refine J_ald S_X3_tokenIs rfl rfl ?_
          refine J_getR S_X3_tokenIs rfl (o' := 2) (by assumption) (by omega) rfl ?_
          refine J_ald S_X3_tokenIs rfl rfl ?_
          refine J_getI S_X3_tokenIs rfl (by assumption) (by omega) ?_
          refine J_ild S_X3_tokenIs rfl rfl ?_
          refine J_bin S_X3_tokenIs rfl ?_
          rw [h11, nI_add]
          refine J_CVx S_X3_tokenIs rfl rfl (by assumption) (by omega) (by simp) (hat k (by omega)) rfl ?_
          refine J_ald S_X3_tokenIs rfl rfl ?_
          refine J_ild S_X3_tokenIs rfl rfl ?_
          refine J_CJx S_X3_tokenIs rfl rfl hi (by simp) (hch k (by omega)) rfl ?_
          refine J_cmp S_X3_tokenIs rfl (fun c46 => ?_) (fun c46 => False.elim (c46 hc))
          refine J_inc S_X3_tokenIs rfl rfl rfl ?_
          refine J_goto S_X3_tokenIs rfl ?_
          rw [← nI_succ]
          exact ih (k + 1) (by omega) (nx k hj hc)
        · rw [decide_eq_false (fun h => hc (h k (by omega)))]
          refine J_ild S_X3_tokenIs rfl rfl ?_
          refine J_ald S_X3_tokenIs rfl rfl ?_
          refine J_CJx S_X3_tokenIs rfl rfl hi (by simp) (hlen) rfl ?_
          refine J_cmp S_X3_tokenIs rfl (fun c25 => False.elim (nI_ge (show k < N by omega) (by omega) c25)) (fun c25 => ?_)
          refine J_ald S_X3_tokenIs rfl rfl ?_
          refine J_getR S_X3_tokenIs rfl (o' := 2) (by assumption) (by omega) rfl ?_
          refine J_ald S_X3_tokenIs rfl rfl ?_
          refine J_getI S_X3_tokenIs rfl (by assumption) (by omega) ?_
          refine J_ild S_X3_tokenIs rfl rfl ?_
          refine J_bin S_X3_tokenIs rfl ?_
          rw [h11, nI_add]
          refine J_CVx S_X3_tokenIs rfl rfl (by assumption) (by omega) (by simp) (hat k (by omega)) rfl ?_
          refine J_ald S_X3_tokenIs rfl rfl ?_
          refine J_ild S_X3_tokenIs rfl rfl ?_
          refine J_CJx S_X3_tokenIs rfl rfl hi (by simp) (hch k (by omega)) rfl ?_
          refine J_cmp S_X3_tokenIs rfl (fun c46 => False.elim (hc c46)) (fun c46 => ?_)
          refine J_C S_X3_tokenIs rfl ?_
          refine J_retZ S_X3_tokenIs rfl (by decide) ?_
          exact ⟨rfl, rfl⟩
    refine J_ald S_X3_tokenIs rfl rfl ?_
    refine J_getI S_X3_tokenIs rfl (by assumption) (by omega) ?_
    refine J_ald S_X3_tokenIs rfl rfl ?_
    refine J_getI S_X3_tokenIs rfl (by assumption) (by omega) ?_
    rw [h12, h11]
    refine J_bin S_X3_tokenIs rfl ?_
    rw [pk_sub hst]
    refine J_ald S_X3_tokenIs rfl rfl ?_
    refine J_CJx S_X3_tokenIs rfl rfl hi (by simp) (hlen) rfl ?_
    refine J_cmp S_X3_tokenIs rfl (fun c13 => ?_) (fun c13 => False.elim (c13 (by rw [hn])))
    refine J_C S_X3_tokenIs rfl ?_
    refine J_ist S_X3_tokenIs rfl rfl ?_
    exact key N 0 (by omega) (fun j hj => absurd hj (Nat.not_lt_zero j))
  · rw [decide_eq_false hn, Bool.false_and]
    refine J_ald S_X3_tokenIs rfl rfl ?_
    refine J_getI S_X3_tokenIs rfl (by assumption) (by omega) ?_
    refine J_ald S_X3_tokenIs rfl rfl ?_
    refine J_getI S_X3_tokenIs rfl (by assumption) (by omega) ?_
    rw [h12, h11]
    refine J_bin S_X3_tokenIs rfl ?_
    rw [pk_sub hst]
    refine J_ald S_X3_tokenIs rfl rfl ?_
    refine J_CJx S_X3_tokenIs rfl rfl hi (by simp) (hlen) rfl ?_
    refine J_cmp S_X3_tokenIs rfl (fun c13 => False.elim (hn ((nI_eq (by omega) (by omega)).mp c13))) (fun c13 => ?_)
    refine J_C S_X3_tokenIs rfl ?_
    refine J_retZ S_X3_tokenIs rfl (by decide) ?_
    exact ⟨rfl, rfl⟩
theorem C_X3_word {i : Nat} (hi : i < 5) : mj_R D_X3_word [.inl (nI i)] (mj_w I) (mj_ex (some (.inr (some (1010 + i)))) I) := by
  refine mj_enter (by decide +kernel) (Nat.le_of_ble_eq_true rfl) ?_
  rcases (show i = 0 ∨ i = 1 ∨ i = 2 ∨ i = 3 ∨ i = 4 by omega) with rfl | rfl | rfl | rfl | rfl
  · refine J_ild S_X3_word rfl rfl ?_
    refine J_sw S_X3_word rfl ⟨fun _ => ?_, fun c => False.elim (by revert c; decide)⟩
    refine J_ldcS S_X3_word rfl ?_
    refine J_retA S_X3_word rfl ?_
    exact ⟨rfl, rfl⟩
  · refine J_ild S_X3_word rfl rfl ?_
    refine J_sw S_X3_word rfl ⟨fun c => False.elim (by revert c; decide), fun _ => ⟨fun _ => ?_, fun c => False.elim (by revert c; decide)⟩⟩
    refine J_ldcS S_X3_word rfl ?_
    refine J_retA S_X3_word rfl ?_
    exact ⟨rfl, rfl⟩
  · refine J_ild S_X3_word rfl rfl ?_
    refine J_sw S_X3_word rfl ⟨fun c => False.elim (by revert c; decide), fun _ => ⟨fun c => False.elim (by revert c; decide), fun _ => ⟨fun _ => ?_, fun c => False.elim (by revert c; decide)⟩⟩⟩
    refine J_ldcS S_X3_word rfl ?_
    refine J_retA S_X3_word rfl ?_
    exact ⟨rfl, rfl⟩
  · refine J_ild S_X3_word rfl rfl ?_
    refine J_sw S_X3_word rfl ⟨fun c => False.elim (by revert c; decide), fun _ => ⟨fun c => False.elim (by revert c; decide), fun _ => ⟨fun c => False.elim (by revert c; decide), fun _ => ⟨fun _ => ?_, fun c => False.elim (by revert c; decide)⟩⟩⟩⟩
    refine J_ldcS S_X3_word rfl ?_
    refine J_retA S_X3_word rfl ?_
    exact ⟨rfl, rfl⟩
  · refine J_ild S_X3_word rfl rfl ?_
    refine J_sw S_X3_word rfl ⟨fun c => False.elim (by revert c; decide), fun _ => ⟨fun c => False.elim (by revert c; decide), fun _ => ⟨fun c => False.elim (by revert c; decide), fun _ => ⟨fun c => False.elim (by revert c; decide), fun _ => ?_⟩⟩⟩⟩
    refine J_ldcS S_X3_word rfl ?_
    refine J_retA S_X3_word rfl ?_
    exact ⟨rfl, rfl⟩
end Cr
