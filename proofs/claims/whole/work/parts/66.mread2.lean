/-- reading leaves all but the reader's own seven fields -/
def MB (I J : mj_I) : Prop := (∀ o, o ≠ 313 → J o = I o) ∧ ∀ k, k < 11 → J 313 k = I 313 k
def MS (I J : mj_I) (a : Nat) (e : Int32) : Prop := MB I J ∧ J 313 11 = nI a ∧ J 313 13 = e
def KQ (J J' : mj_I) : Prop := ∀ k, 14 ≤ k → J' 313 k = J 313 k
theorem mb_rf {I : mj_I} : MB I I := ⟨fun _ _ => rfl, fun _ _ => rfl⟩
theorem mb_up {I J : mj_I} {k : Nat} {x : Int32} (h : MB I J) (hk : 11 ≤ k) : MB I (mj_up J 313 k x) := ⟨fun o ho => by rw [mj_up_ne ho]; exact h.1 o ho, fun q hq => by rw [mj_up_eq, up_n (by omega)]; exact h.2 q hq⟩
theorem ms_u {I J : mj_I} {a k : Nat} {e x : Int32} (h : MS I J a e) (hk : 14 ≤ k) : MS I (mj_up J 313 k x) a e := ⟨mb_up h.1 (by omega), by rw [mj_up_eq, up_n (by omega)]; exact h.2.1, by rw [mj_up_eq, up_n (by omega)]; exact h.2.2⟩
section Mr
variable {I : mj_I}
theorem C_X10_next {L a : Nat} (hL : L ≤ 40) (h4 : I 313 4 = nI L) (h11 : I 313 11 = nI a) (ha : a < 2 ^ 31) : mj_R D_X10_next [.inr (some 313)] (mj_w I) (mj_ex (some (.inl (if a < L then I 316 a else -1))) I) := by
  have m0 := s_313
  have m1 := s_316
  refine mj_enter (by decide +kernel) (Nat.le_of_ble_eq_true rfl) ?_
  by_cases c : a < L
  · rw [if_pos c]
    refine J_ald S_X10_next rfl rfl ?_
    refine J_getI S_X10_next rfl (by assumption) (by omega) ?_
    refine J_ald S_X10_next rfl rfl ?_
    refine J_getI S_X10_next rfl (by assumption) (by omega) ?_
    rw [h11, h4]
    refine J_cmp S_X10_next rfl (fun c8 => False.elim (nI_ge c (by omega) c8)) (fun c8 => ?_)
    refine J_ald S_X10_next rfl rfl ?_
    refine J_getR S_X10_next rfl (o' := 316) (by assumption) (by omega) rfl ?_
    refine J_ald S_X10_next rfl rfl ?_
    refine J_getI S_X10_next rfl (by assumption) (by omega) ?_
    refine J_iald S_X10_next rfl (by assumption) (by omega) (j := a) h11 (by omega) (by decide) ?_
    refine J_goto S_X10_next rfl ?_
    refine J_retI S_X10_next rfl ?_
    exact ⟨rfl, rfl⟩
  · rw [if_neg c]
    refine J_ald S_X10_next rfl rfl ?_
    refine J_getI S_X10_next rfl (by assumption) (by omega) ?_
    refine J_ald S_X10_next rfl rfl ?_
    refine J_getI S_X10_next rfl (by assumption) (by omega) ?_
    rw [h11, h4]
    refine J_cmp S_X10_next rfl (fun c8 => ?_) (fun c8 => False.elim (c8 (nI_le (by omega) ha)))
    refine J_C S_X10_next rfl ?_
    refine J_retI S_X10_next rfl ?_
    exact ⟨rfl, rfl⟩
/-- next, from a reading state -/
theorem Y_next {L a : Nat} {J : mj_I} {e : Int32} (hL : L ≤ 40) (h4 : I 313 4 = nI L) (h : MS I J a e) (ha : a < 2 ^ 31) : mj_R D_X10_next [.inr (some 313)] (mj_w J) (mj_ex (some (.inl (if a < L then I 316 a else -1))) J) := by
  have g := C_X10_next (I := J) (a := a) hL (by rw [h.1.2 4 (by decide)]; exact h4) h.2.1 ha
  rw [h.1.1 316 (by decide)] at g
  exact g
theorem Y_begins {L a : Nat} {J : mj_I} {e : Int32} (hL : L ≤ 40) (h4 : I 313 4 = nI L) (h : MS I J a e) (ha : a ≤ L) : mj_R D_X10_begins [.inr (some 313)] (mj_w J) (mj_px (fun r J' => r = none ∧ MS I J' (sk (I 316) L a) e ∧ J' 313 12 = nI (sk (I 316) L a) ∧ KQ J J')) := by
  have m0 := s_313
  refine mj_enter (by decide +kernel) (Nat.le_of_ble_eq_true rfl) ?_
  obtain ⟨S, hS⟩ : ∃ S, sk (I 316) L a = S := ⟨_, rfl⟩
  rw [hS]
  unfold sk skp at hS
  have key : ∀ (n b : Nat) (J' : mj_I), b + n = L → rnE (fun j => decide (I 316 j = 32)) n b = S → MS I J' b e → KQ J J' →
      mj_J D_X10_begins (mj_px (fun r J' => r = none ∧ MS I J' S e ∧ J' 313 12 = nI S ∧ KQ J J')) 0 [some (.inr (some 313))] [] (mj_w J') (0, 0) := by
    intro n
    induction n with
    | zero =>
      intro b J' hb hr hM hK
      obtain rfl : b = L := by omega
      rw [rnE] at hr
      have hn := Y_next hL h4 hM (by omega)
      rw [if_neg (Nat.lt_irrefl _)] at hn
      refine J_ald S_X10_begins rfl rfl ?_
      refine J_CVx S_X10_begins rfl rfl (by assumption) (by omega) (by simp) (hn) rfl ?_
      refine J_C S_X10_begins rfl ?_
      refine J_cmp S_X10_begins rfl (fun c6 => ?_) (fun c6 => False.elim (absurd c6 (by decide)))
      refine J_ald S_X10_begins rfl rfl ?_
      refine J_ald S_X10_begins rfl rfl ?_
      refine J_getI S_X10_begins rfl (by assumption) (by omega) ?_
      refine J_putI S_X10_begins rfl (by assumption) (by omega) ?_
      refine J_retV S_X10_begins rfl ?_
      refine ⟨_, rfl, rfl, ⟨mb_up hM.1 (by decide), by rw [mj_up_eq, up_n (by decide), ← hr]; exact hM.2.1, by rw [mj_up_eq, up_n (by decide)]; exact hM.2.2⟩, by rw [mj_up_eq, up_s, ← hr]; exact hM.2.1, fun k hk => by rw [mj_up_eq, up_n (by omega)]; exact hK k hk⟩
    | succ n ih =>
      intro b J' hb hr hM hK
      rw [rnE] at hr
      have hn := Y_next hL h4 hM (by omega)
      rw [if_pos (show b < L by omega)] at hn
      by_cases hc : I 316 b = 32
      · rw [if_pos (decide_eq_true hc)] at hr
        refine J_ald S_X10_begins rfl rfl ?_
        refine J_CVx S_X10_begins rfl rfl (by assumption) (by omega) (by simp) (hn) rfl ?_
        refine J_C S_X10_begins rfl ?_
        refine J_cmp S_X10_begins rfl (fun c6 => False.elim (c6 hc)) (fun c6 => ?_)
        refine J_ald S_X10_begins rfl rfl ?_
        refine J_dup S_X10_begins rfl ?_
        refine J_getI S_X10_begins rfl (by assumption) (by omega) ?_
        refine J_C S_X10_begins rfl ?_
        refine J_bin S_X10_begins rfl ?_
        refine J_putI S_X10_begins rfl (by assumption) (by omega) ?_
        refine J_goto S_X10_begins rfl ?_
        refine ih (b + 1) _ (by omega) hr ⟨mb_up hM.1 (by decide), by rw [mj_up_eq, up_s, hM.2.1]; exact (nI_succ b).symm, by rw [mj_up_eq, up_n (by decide)]; exact hM.2.2⟩ (fun k hk => by rw [mj_up_eq, up_n (by omega)]; exact hK k hk)
      · rw [if_neg (by rw [decide_eq_false hc]; decide)] at hr
        refine J_ald S_X10_begins rfl rfl ?_
        refine J_CVx S_X10_begins rfl rfl (by assumption) (by omega) (by simp) (hn) rfl ?_
        refine J_C S_X10_begins rfl ?_
        refine J_cmp S_X10_begins rfl (fun c6 => ?_) (fun c6 => False.elim (hc c6))
        refine J_ald S_X10_begins rfl rfl ?_
        refine J_ald S_X10_begins rfl rfl ?_
        refine J_getI S_X10_begins rfl (by assumption) (by omega) ?_
        refine J_putI S_X10_begins rfl (by assumption) (by omega) ?_
        refine J_retV S_X10_begins rfl ?_
        refine ⟨_, rfl, rfl, ⟨mb_up hM.1 (by decide), by rw [mj_up_eq, up_n (by decide), ← hr]; exact hM.2.1, by rw [mj_up_eq, up_n (by decide)]; exact hM.2.2⟩, by rw [mj_up_eq, up_s, ← hr]; exact hM.2.1, fun k hk => by rw [mj_up_eq, up_n (by omega)]; exact hK k hk⟩
  exact key (L - a) a J (by omega) hS h (fun _ _ => rfl)
/-- a fault of a text not yet at fault -/
theorem Y_allows {a s : Nat} {J : mj_I} {ok : Bool} (h : MS I J a (-1)) (h12 : J 313 12 = nI s) : mj_R D_X10_allows [.inr (some 313), .inl (bi ok)] (mj_w J) (mj_px (fun r J' => r = none ∧ MS I J' a (if ok = true then -1 else nI s) ∧ KQ J J')) := by
  have m0 := s_313
  refine mj_enter (by decide +kernel) (Nat.le_of_ble_eq_true rfl) ?_
  cases ok
  · rw [if_neg (by decide)]
    refine J_ald S_X10_allows rfl rfl ?_
    refine J_getI S_X10_allows rfl (by assumption) (by omega) ?_
    rw [h.2.2]
    refine J_if S_X10_allows rfl (fun c4 => False.elim (absurd c4 (by decide))) (fun c4 => ?_)
    refine J_ild S_X10_allows rfl rfl ?_
    refine J_if S_X10_allows rfl (fun c8 => False.elim (c8 rfl)) (fun c8 => ?_)
    refine J_ald S_X10_allows rfl rfl ?_
    refine J_ald S_X10_allows rfl rfl ?_
    refine J_getI S_X10_allows rfl (by assumption) (by omega) ?_
    rw [h12]
    refine J_putI S_X10_allows rfl (by assumption) (by omega) ?_
    refine J_retV S_X10_allows rfl ?_
    exact ⟨_, rfl, rfl, ⟨mb_up h.1 (by decide), by rw [mj_up_eq, up_n (by decide)]; exact h.2.1, by rw [mj_up_eq, up_s]⟩, fun k hk => by rw [mj_up_eq, up_n (by omega)]⟩
  · rw [if_pos rfl]
    refine J_ald S_X10_allows rfl rfl ?_
    refine J_getI S_X10_allows rfl (by assumption) (by omega) ?_
    rw [h.2.2]
    refine J_if S_X10_allows rfl (fun c4 => False.elim (absurd c4 (by decide))) (fun c4 => ?_)
    refine J_ild S_X10_allows rfl rfl ?_
    refine J_if S_X10_allows rfl (fun c8 => ?_) (fun c8 => False.elim (absurd c8 (by decide)))
    refine J_retV S_X10_allows rfl ?_
    exact ⟨_, rfl, rfl, h, fun k hk => rfl⟩
theorem Y_word {L a : Nat} {J : mj_I} {e : Int32} (hL : L ≤ 40) (h4 : I 313 4 = nI L) (h : MS I J a e) (ha : a ≤ L) {S : Nat} (hS : sk (I 316) L a = S) : mj_R D_X10_word [.inr (some 313)] (mj_w J) (mj_px (fun r J' => r = some (.inl (wv (I 316) L S)) ∧ MS I J' (lR (I 316) L S) e ∧ J' 313 12 = nI S ∧ KQ J J')) := by
  have m0 := s_313
  have hb := Y_begins hL h4 h ha
  rw [hS] at hb
  have hs := sktk_le (I 316) ha
  rw [hS] at hs
  have hl := lR_le (I 316) hs.2.1
  refine mj_enter (by decide +kernel) (Nat.le_of_ble_eq_true rfl) ?_
  obtain ⟨R, hR⟩ : ∃ R, lR (I 316) L S = R := ⟨_, rfl⟩
  unfold wv
  rw [hR] at hl ⊢
  unfold lR at hR
  have key : ∀ (n m : Nat) (J' : mj_I), S + m + n = L → rnE (fun j => isL (I 316 j)) n (S + m) = R → MS I J' (S + m) e → J' 313 12 = nI S → KQ J J' →
      mj_J D_X10_word (mj_px (fun r J' => r = some (.inl (if R - S < 6 then wf (I 316) S (R - S) else 0)) ∧ MS I J' R e ∧ J' 313 12 = nI S ∧ KQ J J')) 6 [some (.inr (some 313)), some (.inl (if m < 6 then wf (I 316) S m else 0))] [] (mj_w J') (0, 0) := by
    have stop : ∀ (m : Nat) (J' : mj_I), S + m = R → MS I J' (S + m) e → J' 313 12 = nI S → KQ J J' → mj_J D_X10_word (mj_px (fun r J' => r = some (.inl (if R - S < 6 then wf (I 316) S (R - S) else 0)) ∧ MS I J' R e ∧ J' 313 12 = nI S ∧ KQ J J')) 63 [some (.inr (some 313)), some (.inl (if m < 6 then wf (I 316) S m else 0))] [] (mj_w J') (0, 0) := by
      intro m J' hm hM h12 hK
      rw [show R - S = m by omega]
      rw [hm] at hM
      by_cases h6 : m < 6
      · rw [if_pos h6]
        refine J_ald S_X10_word rfl rfl ?_
        refine J_getI S_X10_word rfl (by assumption) (by omega) ?_
        refine J_ald S_X10_word rfl rfl ?_
        refine J_getI S_X10_word rfl (by assumption) (by omega) ?_
        rw [hM.2.1, h12]
        refine J_bin S_X10_word rfl ?_
        rw [pk_sub (by omega), show R - S = m by omega]
        refine J_C S_X10_word rfl ?_
        refine J_cmp S_X10_word rfl (fun c74 => False.elim (nI_ge (show m < 6 from h6) (by omega) c74)) (fun c74 => ?_)
        refine J_ild S_X10_word rfl rfl ?_
        refine J_goto S_X10_word rfl ?_
        refine J_retI S_X10_word rfl ?_
        exact ⟨J', rfl, rfl, hM, h12, hK⟩
      · rw [if_neg h6]
        refine J_ald S_X10_word rfl rfl ?_
        refine J_getI S_X10_word rfl (by assumption) (by omega) ?_
        refine J_ald S_X10_word rfl rfl ?_
        refine J_getI S_X10_word rfl (by assumption) (by omega) ?_
        rw [hM.2.1, h12]
        refine J_bin S_X10_word rfl ?_
        rw [pk_sub (by omega), show R - S = m by omega]
        refine J_C S_X10_word rfl ?_
        refine J_cmp S_X10_word rfl (fun c74 => ?_) (fun c74 => False.elim (c74 (nI_le (a := 6) (by omega) (by omega))))
        refine J_C S_X10_word rfl ?_
        refine J_retI S_X10_word rfl ?_
        exact ⟨J', rfl, rfl, hM, h12, hK⟩
    intro n
    induction n with
    | zero =>
      intro m J' hm hr hM h12 hK
      rw [rnE] at hr
      have hn := Y_next hL h4 hM (by omega)
      rw [if_neg (by omega)] at hn
      refine J_ald S_X10_word rfl rfl ?_
      refine J_CVx S_X10_word rfl rfl (by assumption) (by omega) (by simp) (hn) rfl ?_
      refine J_C S_X10_word rfl ?_
      refine J_C S_X10_word rfl ?_
      refine J_CSx S_X10_word rfl rfl (by simp) (C_X10_in) rfl ?_
      refine J_if S_X10_word rfl (fun c17 => ?_) (fun c17 => False.elim (c17 (by decide)))
      exact stop m J' hr hM h12 hK
    | succ n ih =>
      intro m J' hm hr hM h12 hK
      rw [rnE] at hr
      have hn := Y_next hL h4 hM (by omega)
      rw [if_pos (by omega)] at hn
      have hin := C_X10_in (I := J') (x := I 316 (S + m)) (lo := 97) (hi := 122)
      cases hc : isL (I 316 (S + m))
      · rw [hc, if_neg (by decide)] at hr
        rw [show (decide (97 ≤ I 316 (S + m)) && decide (I 316 (S + m) ≤ 122)) = false from hc] at hin
        refine J_ald S_X10_word rfl rfl ?_
        refine J_CVx S_X10_word rfl rfl (by assumption) (by omega) (by simp) (hn) rfl ?_
        refine J_C S_X10_word rfl ?_
        refine J_C S_X10_word rfl ?_
        refine J_CSx S_X10_word rfl rfl (by simp) (hin) rfl ?_
        refine J_if S_X10_word rfl (fun c17 => ?_) (fun c17 => False.elim (c17 rfl))
        exact stop m J' hr hM h12 hK
      · rw [hc, if_pos rfl] at hr
        rw [show (decide (97 ≤ I 316 (S + m)) && decide (I 316 (S + m) ≤ 122)) = true from hc] at hin
        have nx : ∀ y, y = (if m + 1 < 6 then wf (I 316) S (m + 1) else 0) → mj_J D_X10_word (mj_px (fun r J' => r = some (.inl (if R - S < 6 then wf (I 316) S (R - S) else 0)) ∧ MS I J' R e ∧ J' 313 12 = nI S ∧ KQ J J')) 6 [some (.inr (some 313)), some (.inl y)] [] (mj_w (mj_up J' 313 11 (J' 313 11 + 1))) (0, 0) := by
          intro y hy
          rw [hy]
          exact ih (m + 1) _ (by omega) hr ⟨mb_up hM.1 (by decide), by rw [mj_up_eq, up_s, hM.2.1]; exact (nI_succ _).symm, by rw [mj_up_eq, up_n (by decide)]; exact hM.2.2⟩ (by rw [mj_up_eq, up_n (by decide)]; exact h12) (fun k hk => by rw [mj_up_eq, up_n (by omega)]; exact hK k hk)
        by_cases h5 : m < 5
        · rw [if_pos (show m < 6 by omega)]
          refine J_ald S_X10_word rfl rfl ?_
          refine J_CVx S_X10_word rfl rfl (by assumption) (by omega) (by simp) (hn) rfl ?_
          refine J_C S_X10_word rfl ?_
          refine J_C S_X10_word rfl ?_
          refine J_CSx S_X10_word rfl rfl (by simp) (hin) rfl ?_
          refine J_if S_X10_word rfl (fun c17 => False.elim (absurd c17 (by decide))) (fun c17 => ?_)
          refine J_ald S_X10_word rfl rfl ?_
          refine J_getI S_X10_word rfl (by assumption) (by omega) ?_
          refine J_ald S_X10_word rfl rfl ?_
          refine J_getI S_X10_word rfl (by assumption) (by omega) ?_
          rw [hM.2.1, h12]
          refine J_bin S_X10_word rfl ?_
          rw [pk_sub (by omega), show S + m - S = m by omega]
          refine J_C S_X10_word rfl ?_
          refine J_cmp S_X10_word rfl (fun c30 => False.elim (nI_ge (show m < 5 from h5) (by omega) c30)) (fun c30 => ?_)
          refine J_C S_X10_word rfl ?_
          refine J_ild S_X10_word rfl rfl ?_
          refine J_bin S_X10_word rfl ?_
          refine J_ald S_X10_word rfl rfl ?_
          refine J_CVx S_X10_word rfl rfl (by assumption) (by omega) (by simp) (hn) rfl ?_
          refine J_bin S_X10_word rfl ?_
          refine J_C S_X10_word rfl ?_
          refine J_bin S_X10_word rfl ?_
          refine J_goto S_X10_word rfl ?_
          refine J_ist S_X10_word rfl rfl ?_
          refine J_ald S_X10_word rfl rfl ?_
          refine J_dup S_X10_word rfl ?_
          refine J_getI S_X10_word rfl (by assumption) (by omega) ?_
          refine J_C S_X10_word rfl ?_
          refine J_bin S_X10_word rfl ?_
          refine J_putI S_X10_word rfl (by assumption) (by omega) ?_
          refine J_goto S_X10_word rfl ?_
          exact nx _ (by rw [if_pos (by omega), wf])
        · refine J_ald S_X10_word rfl rfl ?_
          refine J_CVx S_X10_word rfl rfl (by assumption) (by omega) (by simp) (hn) rfl ?_
          refine J_C S_X10_word rfl ?_
          refine J_C S_X10_word rfl ?_
          refine J_CSx S_X10_word rfl rfl (by simp) (hin) rfl ?_
          refine J_if S_X10_word rfl (fun c17 => False.elim (absurd c17 (by decide))) (fun c17 => ?_)
          refine J_ald S_X10_word rfl rfl ?_
          refine J_getI S_X10_word rfl (by assumption) (by omega) ?_
          refine J_ald S_X10_word rfl rfl ?_
          refine J_getI S_X10_word rfl (by assumption) (by omega) ?_
          rw [hM.2.1, h12]
          refine J_bin S_X10_word rfl ?_
          rw [pk_sub (by omega), show S + m - S = m by omega]
          refine J_C S_X10_word rfl ?_
          refine J_cmp S_X10_word rfl (fun c30 => ?_) (fun c30 => False.elim (c30 (nI_le (a := 5) (by omega) (by omega))))
          refine J_C S_X10_word rfl ?_
          refine J_ist S_X10_word rfl rfl ?_
          refine J_ald S_X10_word rfl rfl ?_
          refine J_dup S_X10_word rfl ?_
          refine J_getI S_X10_word rfl (by assumption) (by omega) ?_
          refine J_C S_X10_word rfl ?_
          refine J_bin S_X10_word rfl ?_
          refine J_putI S_X10_word rfl (by assumption) (by omega) ?_
          refine J_goto S_X10_word rfl ?_
          exact nx _ (by rw [if_neg (by omega)])
  refine J_ald S_X10_word rfl rfl ?_
  refine J_CV S_X10_word rfl rfl (by assumption) (by omega) (by simp) (hb) ?_
  rintro _ _ ⟨J1, rfl, rfl, g1, g2, g3⟩
  refine J_C S_X10_word rfl ?_
  refine J_ist S_X10_word rfl rfl ?_
  exact key (L - S) 0 J1 (by omega) hR g1 g2 g3
theorem Y_number {L a : Nat} {J : mj_I} (hL : L ≤ 40) (h4 : I 313 4 = nI L) (h : MS I J a (-1)) (ha : a ≤ L) {S : Nat} (hS : sk (I 316) L a = S) : mj_R D_X10_number [.inr (some 313)] (mj_w J) (mj_px (fun r J' => r = some (.inl (nf (I 316) S (dR (I 316) L S - S))) ∧ MS I J' (dR (I 316) L S) (if okd (I 316) L S = true then -1 else nI S) ∧ KQ J J')) := by
  have m0 := s_313
  have m1 := s_316
  have hb := Y_begins hL h4 h ha
  rw [hS] at hb
  have hs := sktk_le (I 316) ha
  rw [hS] at hs
  have hl := dR_le (I 316) hs.2.1
  refine mj_enter (by decide +kernel) (Nat.le_of_ble_eq_true rfl) ?_
  obtain ⟨R, hR⟩ : ∃ R, dR (I 316) L S = R := ⟨_, rfl⟩
  unfold okd
  rw [hR] at hl ⊢
  unfold dR at hR
  have key : ∀ (n m : Nat) (J' : mj_I), S + m + n = L → rnE (fun j => isD (I 316 j)) n (S + m) = R → MS I J' (S + m) (-1) → J' 313 12 = nI S → KQ J J' →
      mj_J D_X10_number (mj_px (fun r J' => r = some (.inl (nf (I 316) S (R - S))) ∧ MS I J' R (if (decide (R - S = 1) || (decide (R - S = 2) && !decide (I 316 S = 48))) = true then -1 else nI S) ∧ KQ J J')) 6 [some (.inr (some 313)), some (.inl (nf (I 316) S m)), none] [] (mj_w J') (0, 0) := by
    have stop : ∀ (m : Nat) (J' : mj_I), S + m = R → MS I J' (S + m) (-1) → J' 313 12 = nI S → KQ J J' → mj_J D_X10_number (mj_px (fun r J' => r = some (.inl (nf (I 316) S (R - S))) ∧ MS I J' R (if (decide (R - S = 1) || (decide (R - S = 2) && !decide (I 316 S = 48))) = true then -1 else nI S) ∧ KQ J J')) 63 [some (.inr (some 313)), some (.inl (nf (I 316) S m)), none] [] (mj_w J') (0, 0) := by
      intro m J' hm hM h12 hK
      have hRm : R - S = m := by omega
      rw [hRm]
      rw [hm] at hM
      have hal := fun ok => Y_allows (ok := ok) hM h12
      have fin : ∀ ok, ok = (decide (m = 1) || (decide (m = 2) && !decide (I 316 S = 48))) → ∀ J2, MS I J2 R (if ok = true then -1 else nI S) → KQ J' J2 → ∃ I', mj_w J2 = mj_w I' ∧ (some (.inl (nf (I 316) S m)) : Option mj_V) = some (.inl (nf (I 316) S m)) ∧ MS I I' R (if (decide (m = 1) || (decide (m = 2) && !decide (I 316 S = 48))) = true then -1 else nI S) ∧ KQ J I' := by
        intro ok hok J2 q1 q2
        rw [← hok]
        exact ⟨J2, rfl, rfl, q1, fun k hk => (q2 k hk).trans (hK k hk)⟩
      rcases (show m = 1 ∨ m = 2 ∨ (m ≠ 1 ∧ m ≠ 2) by omega) with rfl | rfl | ⟨n1, n2⟩
      · refine J_ald S_X10_number rfl rfl ?_
        refine J_getI S_X10_number rfl (by assumption) (by omega) ?_
        refine J_ald S_X10_number rfl rfl ?_
        refine J_getI S_X10_number rfl (by assumption) (by omega) ?_
        rw [hM.2.1, h12]
        refine J_bin S_X10_number rfl ?_
        rw [pk_sub (by omega), hRm]
        refine J_ist S_X10_number rfl rfl ?_
        refine J_ald S_X10_number rfl rfl ?_
        refine J_ild S_X10_number rfl rfl ?_
        refine J_C S_X10_number rfl ?_
        refine J_cmp S_X10_number rfl (fun c76 => ?_) (fun c76 => False.elim (absurd c76 (by decide)))
        refine J_C S_X10_number rfl ?_
        refine J_goto S_X10_number rfl ?_
        refine J_CV S_X10_number rfl rfl (by assumption) (by omega) (by simp) (hal true) ?_
        rintro _ _ ⟨J2, rfl, rfl, q1, q2⟩
        refine J_ild S_X10_number rfl rfl ?_
        refine J_retI S_X10_number rfl ?_
        exact fin true (by simp) J2 q1 q2
      · have h316 : J' 316 S = I 316 S := by rw [hM.1.1 316 (by decide)]
        by_cases h48 : I 316 S = 48
        · refine J_ald S_X10_number rfl rfl ?_
          refine J_getI S_X10_number rfl (by assumption) (by omega) ?_
          refine J_ald S_X10_number rfl rfl ?_
          refine J_getI S_X10_number rfl (by assumption) (by omega) ?_
          rw [hM.2.1, h12]
          refine J_bin S_X10_number rfl ?_
          rw [pk_sub (by omega), hRm]
          refine J_ist S_X10_number rfl rfl ?_
          refine J_ald S_X10_number rfl rfl ?_
          refine J_ild S_X10_number rfl rfl ?_
          refine J_C S_X10_number rfl ?_
          refine J_cmp S_X10_number rfl (fun c76 => False.elim (absurd c76 (by decide))) (fun c76 => ?_)
          refine J_ild S_X10_number rfl rfl ?_
          refine J_C S_X10_number rfl ?_
          refine J_cmp S_X10_number rfl (fun c81 => False.elim (absurd rfl c81)) (fun c81 => ?_)
          refine J_ald S_X10_number rfl rfl ?_
          refine J_getR S_X10_number rfl (o' := 316) (by assumption) (by omega) rfl ?_
          refine J_ald S_X10_number rfl rfl ?_
          refine J_getI S_X10_number rfl (by assumption) (by omega) ?_
          refine J_iald S_X10_number rfl (by assumption) (by omega) (j := S) h12 (by omega) (by decide) ?_
          refine J_C S_X10_number rfl ?_
          rw [h316]
          refine J_cmp S_X10_number rfl (fun c95 => ?_) (fun c95 => False.elim (c95 h48))
          refine J_C S_X10_number rfl ?_
          refine J_CV S_X10_number rfl rfl (by assumption) (by omega) (by simp) (hal false) ?_
          rintro _ _ ⟨J2, rfl, rfl, q1, q2⟩
          refine J_ild S_X10_number rfl rfl ?_
          refine J_retI S_X10_number rfl ?_
          exact fin false (by rw [decide_eq_true h48]; decide) J2 q1 q2
        · refine J_ald S_X10_number rfl rfl ?_
          refine J_getI S_X10_number rfl (by assumption) (by omega) ?_
          refine J_ald S_X10_number rfl rfl ?_
          refine J_getI S_X10_number rfl (by assumption) (by omega) ?_
          rw [hM.2.1, h12]
          refine J_bin S_X10_number rfl ?_
          rw [pk_sub (by omega), hRm]
          refine J_ist S_X10_number rfl rfl ?_
          refine J_ald S_X10_number rfl rfl ?_
          refine J_ild S_X10_number rfl rfl ?_
          refine J_C S_X10_number rfl ?_
          refine J_cmp S_X10_number rfl (fun c76 => False.elim (absurd c76 (by decide))) (fun c76 => ?_)
          refine J_ild S_X10_number rfl rfl ?_
          refine J_C S_X10_number rfl ?_
          refine J_cmp S_X10_number rfl (fun c81 => False.elim (absurd rfl c81)) (fun c81 => ?_)
          refine J_ald S_X10_number rfl rfl ?_
          refine J_getR S_X10_number rfl (o' := 316) (by assumption) (by omega) rfl ?_
          refine J_ald S_X10_number rfl rfl ?_
          refine J_getI S_X10_number rfl (by assumption) (by omega) ?_
          refine J_iald S_X10_number rfl (by assumption) (by omega) (j := S) h12 (by omega) (by decide) ?_
          refine J_C S_X10_number rfl ?_
          rw [h316]
          refine J_cmp S_X10_number rfl (fun c95 => False.elim (h48 c95)) (fun c95 => ?_)
          refine J_C S_X10_number rfl ?_
          refine J_goto S_X10_number rfl ?_
          refine J_CV S_X10_number rfl rfl (by assumption) (by omega) (by simp) (hal true) ?_
          rintro _ _ ⟨J2, rfl, rfl, q1, q2⟩
          refine J_ild S_X10_number rfl rfl ?_
          refine J_retI S_X10_number rfl ?_
          exact fin true (by rw [decide_eq_false h48]; decide) J2 q1 q2
      · refine J_ald S_X10_number rfl rfl ?_
        refine J_getI S_X10_number rfl (by assumption) (by omega) ?_
        refine J_ald S_X10_number rfl rfl ?_
        refine J_getI S_X10_number rfl (by assumption) (by omega) ?_
        rw [hM.2.1, h12]
        refine J_bin S_X10_number rfl ?_
        rw [pk_sub (by omega), hRm]
        refine J_ist S_X10_number rfl rfl ?_
        refine J_ald S_X10_number rfl rfl ?_
        refine J_ild S_X10_number rfl rfl ?_
        refine J_C S_X10_number rfl ?_
        refine J_cmp S_X10_number rfl (fun c76 => False.elim (n1 ((nI_eq (b := 1) (by omega) (by decide)).mp c76))) (fun c76 => ?_)
        refine J_ild S_X10_number rfl rfl ?_
        refine J_C S_X10_number rfl ?_
        refine J_cmp S_X10_number rfl (fun c81 => ?_) (fun c81 => False.elim (n2 ((nI_eq (b := 2) (by omega) (by decide)).mp c81)))
        refine J_C S_X10_number rfl ?_
        refine J_CV S_X10_number rfl rfl (by assumption) (by omega) (by simp) (hal false) ?_
        rintro _ _ ⟨J2, rfl, rfl, q1, q2⟩
        refine J_ild S_X10_number rfl rfl ?_
        refine J_retI S_X10_number rfl ?_
        exact fin false (by rw [decide_eq_false n1, decide_eq_false n2]; rfl) J2 q1 q2
    intro n
    induction n with
    | zero =>
      intro m J' hm hr hM h12 hK
      rw [rnE] at hr
      have hn := Y_next hL h4 hM (by omega)
      rw [if_neg (by omega)] at hn
      refine J_ald S_X10_number rfl rfl ?_
      refine J_CVx S_X10_number rfl rfl (by assumption) (by omega) (by simp) (hn) rfl ?_
      refine J_C S_X10_number rfl ?_
      refine J_C S_X10_number rfl ?_
      refine J_CSx S_X10_number rfl rfl (by simp) (C_X10_in) rfl ?_
      refine J_if S_X10_number rfl (fun c17 => ?_) (fun c17 => False.elim (c17 (by decide)))
      exact stop m J' hr hM h12 hK
    | succ n ih =>
      intro m J' hm hr hM h12 hK
      rw [rnE] at hr
      have hn := Y_next hL h4 hM (by omega)
      rw [if_pos (by omega)] at hn
      have hin := C_X10_in (I := J') (x := I 316 (S + m)) (lo := 48) (hi := 57)
      cases hc : isD (I 316 (S + m))
      · rw [hc, if_neg (by decide)] at hr
        rw [show (decide (48 ≤ I 316 (S + m)) && decide (I 316 (S + m) ≤ 57)) = false from hc] at hin
        refine J_ald S_X10_number rfl rfl ?_
        refine J_CVx S_X10_number rfl rfl (by assumption) (by omega) (by simp) (hn) rfl ?_
        refine J_C S_X10_number rfl ?_
        refine J_C S_X10_number rfl ?_
        refine J_CSx S_X10_number rfl rfl (by simp) (hin) rfl ?_
        refine J_if S_X10_number rfl (fun c17 => ?_) (fun c17 => False.elim (c17 rfl))
        exact stop m J' hr hM h12 hK
      · rw [hc, if_pos rfl] at hr
        rw [show (decide (48 ≤ I 316 (S + m)) && decide (I 316 (S + m) ≤ 57)) = true from hc] at hin
        have nx : ∀ y, y = nf (I 316) S (m + 1) → mj_J D_X10_number (mj_px (fun r J' => r = some (.inl (nf (I 316) S (R - S))) ∧ MS I J' R (if (decide (R - S = 1) || (decide (R - S = 2) && !decide (I 316 S = 48))) = true then -1 else nI S) ∧ KQ J J')) 6 [some (.inr (some 313)), some (.inl y), none] [] (mj_w (mj_up J' 313 11 (J' 313 11 + 1))) (0, 0) := by
          intro y hy
          rw [hy]
          exact ih (m + 1) _ (by omega) hr ⟨mb_up hM.1 (by decide), by rw [mj_up_eq, up_s, hM.2.1]; exact (nI_succ _).symm, by rw [mj_up_eq, up_n (by decide)]; exact hM.2.2⟩ (by rw [mj_up_eq, up_n (by decide)]; exact h12) (fun k hk => by rw [mj_up_eq, up_n (by omega)]; exact hK k hk)
        by_cases h5 : m < 2
        · refine J_ald S_X10_number rfl rfl ?_
          refine J_CVx S_X10_number rfl rfl (by assumption) (by omega) (by simp) (hn) rfl ?_
          refine J_C S_X10_number rfl ?_
          refine J_C S_X10_number rfl ?_
          refine J_CSx S_X10_number rfl rfl (by simp) (hin) rfl ?_
          refine J_if S_X10_number rfl (fun c17 => False.elim (absurd c17 (by decide))) (fun c17 => ?_)
          refine J_ald S_X10_number rfl rfl ?_
          refine J_getI S_X10_number rfl (by assumption) (by omega) ?_
          refine J_ald S_X10_number rfl rfl ?_
          refine J_getI S_X10_number rfl (by assumption) (by omega) ?_
          rw [hM.2.1, h12]
          refine J_bin S_X10_number rfl ?_
          rw [pk_sub (by omega), show S + m - S = m by omega]
          refine J_C S_X10_number rfl ?_
          refine J_cmp S_X10_number rfl (fun c30 => False.elim (nI_ge (show m < 2 from h5) (by omega) c30)) (fun c30 => ?_)
          refine J_C S_X10_number rfl ?_
          refine J_ild S_X10_number rfl rfl ?_
          refine J_bin S_X10_number rfl ?_
          refine J_ald S_X10_number rfl rfl ?_
          refine J_CVx S_X10_number rfl rfl (by assumption) (by omega) (by simp) (hn) rfl ?_
          refine J_bin S_X10_number rfl ?_
          refine J_C S_X10_number rfl ?_
          refine J_bin S_X10_number rfl ?_
          refine J_goto S_X10_number rfl ?_
          refine J_ist S_X10_number rfl rfl ?_
          refine J_ald S_X10_number rfl rfl ?_
          refine J_dup S_X10_number rfl ?_
          refine J_getI S_X10_number rfl (by assumption) (by omega) ?_
          refine J_C S_X10_number rfl ?_
          refine J_bin S_X10_number rfl ?_
          refine J_putI S_X10_number rfl (by assumption) (by omega) ?_
          refine J_goto S_X10_number rfl ?_
          exact nx _ (by rw [nf, if_pos h5])
        · refine J_ald S_X10_number rfl rfl ?_
          refine J_CVx S_X10_number rfl rfl (by assumption) (by omega) (by simp) (hn) rfl ?_
          refine J_C S_X10_number rfl ?_
          refine J_C S_X10_number rfl ?_
          refine J_CSx S_X10_number rfl rfl (by simp) (hin) rfl ?_
          refine J_if S_X10_number rfl (fun c17 => False.elim (absurd c17 (by decide))) (fun c17 => ?_)
          refine J_ald S_X10_number rfl rfl ?_
          refine J_getI S_X10_number rfl (by assumption) (by omega) ?_
          refine J_ald S_X10_number rfl rfl ?_
          refine J_getI S_X10_number rfl (by assumption) (by omega) ?_
          rw [hM.2.1, h12]
          refine J_bin S_X10_number rfl ?_
          rw [pk_sub (by omega), show S + m - S = m by omega]
          refine J_C S_X10_number rfl ?_
          refine J_cmp S_X10_number rfl (fun c30 => ?_) (fun c30 => False.elim (c30 (nI_le (a := 2) (by omega) (by omega))))
          refine J_ild S_X10_number rfl rfl ?_
          refine J_ist S_X10_number rfl rfl ?_
          refine J_ald S_X10_number rfl rfl ?_
          refine J_dup S_X10_number rfl ?_
          refine J_getI S_X10_number rfl (by assumption) (by omega) ?_
          refine J_C S_X10_number rfl ?_
          refine J_bin S_X10_number rfl ?_
          refine J_putI S_X10_number rfl (by assumption) (by omega) ?_
          refine J_goto S_X10_number rfl ?_
          exact nx _ (by rw [nf, if_neg h5])
  refine J_ald S_X10_number rfl rfl ?_
  refine J_CV S_X10_number rfl rfl (by assumption) (by omega) (by simp) (hb) ?_
  rintro _ _ ⟨J1, rfl, rfl, g1, g2, g3⟩
  refine J_C S_X10_number rfl ?_
  refine J_ist S_X10_number rfl rfl ?_
  exact key (L - S) 0 J1 (by omega) hR g1 g2 g3
end Mr
