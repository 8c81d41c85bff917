def sk (f : Nat → Int32) (L p : Nat) : Nat := skp f L p
def tk (f : Nat → Int32) (L p : Nat) : Nat := tkn f L (skp f L p)
theorem sktk_le (f : Nat → Int32) {L p : Nat} (h : p ≤ L) : p ≤ sk f L p ∧ sk f L p ≤ L ∧ tk f L p ≤ L := by
  have h1 := skp_le f h
  have h2 := tkn_le f h1.2
  exact ⟨h1.1, h1.2, h2.2⟩
def RDE (f : Nat → Int32) (L p : Nat) (e : Int32) : Prop := if sk f L p < L then e = nI (sk f L p) else e = -1
def RDM (f : Nat → Int32) (L p : Nat) (e y : Int32) : Prop := if nmOk f L (sk f L p) (tk f L p) = true then y = nmV f (sk f L p) (tk f L p) ∧ RDE f L (tk f L p) e else e = nI (sk f L p)
def RDD (f : Nat → Int32) (L k p : Nat) (e y : Int32) : Prop := if k = 4 then RDM f L p e y else if tq f (sk f L p) (tk f L p) 7 = true then RDM f L (tk f L p) e y else e = nI (sk f L p)
def RDN (f : Nat → Int32) (L k p : Nat) (e x y : Int32) : Prop := if nmOk f L (sk f L p) (tk f L p) = true then x = nmV f (sk f L p) (tk f L p) ∧ RDD f L k (tk f L p) e y else e = nI (sk f L p)
def RDT (f : Nat → Int32) (L k p : Nat) (e a x y : Int32) : Prop :=
  if k < 3 then (if (tq f (sk f L p) (tk f L p) 5 || tq f (sk f L p) (tk f L p) 6) = true then a = (if tq f (sk f L p) (tk f L p) 5 = true then 0 else 1) ∧ RDN f L k (tk f L p) e x y else e = nI (sk f L p))
  else a = 0 ∧ RDN f L k p e x y
/-- the text f of length L: fault e, kind k, table a, first number x, second number y -/
def RDS (f : Nat → Int32) (L : Nat) (e k a x y : Int32) : Prop := if kdN f (sk f L 0) (tk f L 0) = 5 then e = nI (sk f L 0) else k = nI (kdN f (sk f L 0) (tk f L 0)) ∧ RDT f L (kdN f (sk f L 0) (tk f L 0)) (tk f L 0) e a x y
theorem nI_nm1 {n : Nat} (h : n ≤ 40) : nI n ≠ -1 := fun c => nI_pos (n := n) (by omega) (by rw [c]; decide)
section Un
variable {f : Nat → Int32} {L : Nat}
theorem rde_one {p : Nat} {e e' : Int32} (h : RDE f L p e) (h' : RDE f L p e') : e = e' := by
  unfold RDE at *
  split at h <;> rename_i c
  · rw [if_pos c] at h'; rw [h, h']
  · rw [if_neg c] at h'; rw [h, h']
theorem rdm_one {p : Nat} {e e' y y' : Int32} (hL : L ≤ 40) (hp : p ≤ L) (h : RDM f L p e y) (h' : RDM f L p e' y') : e = e' ∧ (e = -1 → y = y') := by
  have hs := sktk_le f hp
  unfold RDM at *
  split at h <;> rename_i c
  · rw [if_pos c] at h'; exact ⟨rde_one h.2 h'.2, fun _ => by rw [h.1, h'.1]⟩
  · rw [if_neg c] at h'; exact ⟨by rw [h, h'], fun z => absurd (h.symm.trans z) (nI_nm1 (by omega))⟩
theorem rdd_one {k p : Nat} {e e' y y' : Int32} (hL : L ≤ 40) (hp : p ≤ L) (h : RDD f L k p e y) (h' : RDD f L k p e' y') : e = e' ∧ (e = -1 → y = y') := by
  have hs := sktk_le f hp
  unfold RDD at *
  split at h <;> rename_i c
  · rw [if_pos c] at h'; exact rdm_one hL hp h h'
  · rw [if_neg c] at h'
    split at h <;> rename_i d
    · rw [if_pos d] at h'; exact rdm_one hL hs.2.2 h h'
    · rw [if_neg d] at h'; exact ⟨by rw [h, h'], fun z => absurd (h.symm.trans z) (nI_nm1 (by omega))⟩
theorem rdn_one {k p : Nat} {e e' x x' y y' : Int32} (hL : L ≤ 40) (hp : p ≤ L) (h : RDN f L k p e x y) (h' : RDN f L k p e' x' y') : e = e' ∧ (e = -1 → x = x' ∧ y = y') := by
  have hs := sktk_le f hp
  unfold RDN at *
  split at h <;> rename_i c
  · rw [if_pos c] at h'
    have g := rdd_one hL hs.2.2 h.2 h'.2
    exact ⟨g.1, fun z => ⟨by rw [h.1, h'.1], g.2 z⟩⟩
  · rw [if_neg c] at h'; exact ⟨by rw [h, h'], fun z => absurd (h.symm.trans z) (nI_nm1 (by omega))⟩
theorem rdt_one {k p : Nat} {e e' a a' x x' y y' : Int32} (hL : L ≤ 40) (hp : p ≤ L) (h : RDT f L k p e a x y) (h' : RDT f L k p e' a' x' y') : e = e' ∧ (e = -1 → a = a' ∧ x = x' ∧ y = y') := by
  have hs := sktk_le f hp
  unfold RDT at *
  split at h <;> rename_i c
  · rw [if_pos c] at h'
    split at h <;> rename_i d
    · rw [if_pos d] at h'
      have g := rdn_one hL hs.2.2 h.2 h'.2
      exact ⟨g.1, fun z => ⟨by rw [h.1, h'.1], g.2 z⟩⟩
    · rw [if_neg d] at h'; exact ⟨by rw [h, h'], fun z => absurd (h.symm.trans z) (nI_nm1 (by omega))⟩
  · rw [if_neg c] at h'
    have g := rdn_one hL hp h.2 h'.2
    exact ⟨g.1, fun z => ⟨by rw [h.1, h'.1], g.2 z⟩⟩
theorem rds_one {e e' k k' a a' x x' y y' : Int32} (hL : L ≤ 40) (h : RDS f L e k a x y) (h' : RDS f L e' k' a' x' y') : e = e' ∧ (e = -1 → k = k' ∧ a = a' ∧ x = x' ∧ y = y') := by
  have hs := sktk_le f (Nat.zero_le L)
  unfold RDS at *
  split at h <;> rename_i c
  · rw [if_pos c] at h'; exact ⟨by rw [h, h'], fun z => absurd (h.symm.trans z) (nI_nm1 (by omega))⟩
  · rw [if_neg c] at h'
    have g := rdt_one hL hs.2.2 h.2 h'.2
    exact ⟨g.1, fun z => ⟨by rw [h.1, h'.1], g.2 z⟩⟩
end Un
def SR (I J : mj_I) (p : Nat) (e : Int32) : Prop := (∀ o, o ≠ 1 → J o = I o) ∧ J 1 2 = nI p ∧ J 1 3 = e
theorem sr_up {I J : mj_I} {p k : Nat} {e x : Int32} (h : SR I J p e) (hk : 4 ≤ k) : SR I (mj_up J 1 k x) p e := ⟨fun o ho => by rw [mj_up_ne ho]; exact h.1 o ho, by rw [mj_up_eq, up_n (by omega)]; exact h.2.1, by rw [mj_up_eq, up_n (by omega)]; exact h.2.2⟩
def KP (J J' : mj_I) : Prop := ∀ k, 4 ≤ k → J' 1 k = J 1 k
theorem sr_rx {I J J' : mj_I} {p s t : Nat} {e e' : Int32} (h : SR I J p e) (g : RX J J' s t e') : SR I J' t e' ∧ KP J J' := ⟨⟨fun o ho => (g.1 o ho).trans (h.1 o ho), g.2.2.1, g.2.2.2.1⟩, g.2.2.2.2⟩
section Rz
variable {I : mj_I}
theorem Z_kind {L : Nat} (hL : L ≤ 40) (h21 : I 2 1 = nI L) {J : mj_I} {p : Nat} {e : Int32} (h : SR I J p e) (hp : p ≤ L) : mj_R D_X3_readKind [.inr (some 1)] (mj_w J) (mj_px (fun r J' => r = some (.inl (if kdN (I 3) (sk (I 3) L p) (tk (I 3) L p) = 5 then 0 else nI (kdN (I 3) (sk (I 3) L p) (tk (I 3) L p)))) ∧ SR I J' (tk (I 3) L p) (flt e (!decide (kdN (I 3) (sk (I 3) L p) (tk (I 3) L p) = 5)) (sk (I 3) L p)) ∧ KP J J')) := by
  have g := C_X3_readKind (I := J) hL (by rw [h.1 2 (by decide)]; exact h21) hp h.2.1 rfl rfl
  rw [h.1 3 (by decide), h.2.2] at g
  refine g.mono ?_
  rintro r M ⟨J', e1, e2, e3⟩
  exact ⟨J', e1, e2, sr_rx h e3⟩
theorem Z_table {L : Nat} (hL : L ≤ 40) (h21 : I 2 1 = nI L) {J : mj_I} {p : Nat} {e : Int32} (h : SR I J p e) (hp : p ≤ L) : mj_R D_X3_readTable [.inr (some 1)] (mj_w J) (mj_px (fun r J' => r = some (.inl (if tq (I 3) (sk (I 3) L p) (tk (I 3) L p) 5 = true then 0 else 1)) ∧ SR I J' (tk (I 3) L p) (flt e (tq (I 3) (sk (I 3) L p) (tk (I 3) L p) 5 || tq (I 3) (sk (I 3) L p) (tk (I 3) L p) 6) (sk (I 3) L p)) ∧ KP J J')) := by
  have g := C_X3_readTable (I := J) hL (by rw [h.1 2 (by decide)]; exact h21) hp h.2.1 rfl rfl
  rw [h.1 3 (by decide), h.2.2] at g
  refine g.mono ?_
  rintro r M ⟨J', e1, e2, e3⟩
  exact ⟨J', e1, e2, sr_rx h e3⟩
theorem Z_dash {L : Nat} (hL : L ≤ 40) (h21 : I 2 1 = nI L) {J : mj_I} {p : Nat} {e : Int32} (h : SR I J p e) (hp : p ≤ L) : mj_R D_X3_readDash [.inr (some 1)] (mj_w J) (mj_px (fun r J' => r = none ∧ SR I J' (tk (I 3) L p) (flt e (tq (I 3) (sk (I 3) L p) (tk (I 3) L p) 7) (sk (I 3) L p)) ∧ KP J J')) := by
  have g := C_X3_readDash (I := J) hL (by rw [h.1 2 (by decide)]; exact h21) hp h.2.1 rfl rfl
  rw [h.1 3 (by decide), h.2.2] at g
  refine g.mono ?_
  rintro r M ⟨J', e1, e2, e3⟩
  exact ⟨J', e1, e2, sr_rx h e3⟩
theorem Z_end {L : Nat} (hL : L ≤ 40) (h21 : I 2 1 = nI L) {J : mj_I} {p : Nat} {e : Int32} (h : SR I J p e) (hp : p ≤ L) : mj_R D_X3_readEnd [.inr (some 1)] (mj_w J) (mj_px (fun r J' => r = none ∧ SR I J' (tk (I 3) L p) (flt e (decide (L ≤ sk (I 3) L p)) (sk (I 3) L p)) ∧ KP J J')) := by
  have g := C_X3_readEnd (I := J) hL (by rw [h.1 2 (by decide)]; exact h21) hp h.2.1 rfl rfl
  rw [h.1 3 (by decide), h.2.2] at g
  refine g.mono ?_
  rintro r M ⟨J', e1, e2, e3⟩
  exact ⟨J', e1, e2, sr_rx h e3⟩
theorem Z_num {L : Nat} (hL : L ≤ 40) (h21 : I 2 1 = nI L) {J : mj_I} {p : Nat} {e : Int32} (h : SR I J p e) (hp : p ≤ L) : mj_R D_X3_readNumber [.inr (some 1)] (mj_w J) (mj_px (fun r J' => r = some (.inl (if nmOk (I 3) L (sk (I 3) L p) (tk (I 3) L p) = true then nmV (I 3) (sk (I 3) L p) (tk (I 3) L p) else 0)) ∧ SR I J' (tk (I 3) L p) (flt e (nmOk (I 3) L (sk (I 3) L p) (tk (I 3) L p)) (sk (I 3) L p)) ∧ KP J J')) := by
  have g := C_X3_readNumber (I := J) hL (by rw [h.1 2 (by decide)]; exact h21) hp h.2.1 rfl rfl
  rw [h.1 3 (by decide), h.2.2] at g
  refine g.mono ?_
  rintro r M ⟨J', e1, e2, e3⟩
  exact ⟨J', e1, e2, sr_rx h e3⟩
/-! the fault, tests joined: e stands before, the rest of the text from p on -/
def cE (f : Nat → Int32) (L p : Nat) (e : Int32) : Int32 := flt e (decide (L ≤ sk f L p)) (sk f L p)
def cM (f : Nat → Int32) (L p : Nat) (e : Int32) : Int32 := cE f L (tk f L p) (flt e (nmOk f L (sk f L p) (tk f L p)) (sk f L p))
def cD (f : Nat → Int32) (L k p : Nat) (e : Int32) : Int32 := if k = 4 then cM f L p e else cM f L (tk f L p) (flt e (tq f (sk f L p) (tk f L p) 7) (sk f L p))
def cN (f : Nat → Int32) (L k p : Nat) (e : Int32) : Int32 := cD f L k (tk f L p) (flt e (nmOk f L (sk f L p) (tk f L p)) (sk f L p))
def cT (f : Nat → Int32) (L k p : Nat) (e : Int32) : Int32 := if k < 3 then cN f L k (tk f L p) (flt e (tq f (sk f L p) (tk f L p) 5 || tq f (sk f L p) (tk f L p) 6) (sk f L p)) else cN f L k p e
def yM (f : Nat → Int32) (L p : Nat) : Int32 := if nmOk f L (sk f L p) (tk f L p) = true then nmV f (sk f L p) (tk f L p) else 0
def yD (f : Nat → Int32) (L k p : Nat) : Int32 := if k = 4 then yM f L p else yM f L (tk f L p)
def aTb (f : Nat → Int32) (L k p : Nat) : Int32 := if k < 3 then (if tq f (sk f L p) (tk f L p) 5 = true then 0 else 1) else 0
def pT (f : Nat → Int32) (L k p : Nat) : Nat := if k < 3 then tk f L p else p
section Fe
variable {f : Nat → Int32} {L p s k : Nat}
theorem cM_n (hs : s ≤ 40) : cM f L p (nI s) = nI s := by unfold cM cE; rw [flt_n hs, flt_n hs]
theorem cD_n (hs : s ≤ 40) : cD f L k p (nI s) = nI s := by unfold cD; rw [flt_n hs, cM_n hs, cM_n hs, ite_self]
theorem cN_n (hs : s ≤ 40) : cN f L k p (nI s) = nI s := by unfold cN; rw [flt_n hs, cD_n hs]
theorem cT_n (hs : s ≤ 40) : cT f L k p (nI s) = nI s := by unfold cT; rw [flt_n hs, cN_n hs, cN_n hs, ite_self]
theorem fe_E : RDE f L p (cE f L p (-1)) := by
  unfold RDE cE
  by_cases c : sk f L p < L
  · rw [if_pos c, decide_eq_false (by omega), flt_f]
  · rw [if_neg c, decide_eq_true (by omega), flt_t]
theorem fe_M (hL : L ≤ 40) (hp : p ≤ L) : RDM f L p (cM f L p (-1)) (yM f L p) := by
  have hs := sktk_le f hp
  unfold RDM cM yM
  cases c : nmOk f L (sk f L p) (tk f L p)
  · rw [if_neg (by decide), flt_f]
    unfold cE
    rw [flt_n (by omega)]
  · rw [if_pos rfl, flt_t, if_pos rfl]
    exact ⟨rfl, fe_E⟩
theorem fe_D (hL : L ≤ 40) (hp : p ≤ L) : RDD f L k p (cD f L k p (-1)) (yD f L k p) := by
  have hs := sktk_le f hp
  unfold RDD cD yD
  by_cases h4 : k = 4
  · rw [if_pos h4, if_pos h4, if_pos h4]
    exact fe_M hL hp
  · rw [if_neg h4, if_neg h4, if_neg h4]
    cases c : tq f (sk f L p) (tk f L p) 7
    · rw [if_neg (by decide), flt_f, cM_n (by omega)]
    · rw [if_pos rfl, flt_t]
      exact fe_M hL hs.2.2
theorem fe_N (hL : L ≤ 40) (hp : p ≤ L) : RDN f L k p (cN f L k p (-1)) (yM f L p) (yD f L k (tk f L p)) := by
  have hs := sktk_le f hp
  unfold RDN cN yM
  cases c : nmOk f L (sk f L p) (tk f L p)
  · rw [if_neg (by decide), flt_f, cD_n (by omega)]
  · rw [if_pos rfl, flt_t, if_pos rfl]
    exact ⟨rfl, fe_D hL hs.2.2⟩
theorem fe_T (hL : L ≤ 40) (hp : p ≤ L) : RDT f L k p (cT f L k p (-1)) (aTb f L k p) (yM f L (pT f L k p)) (yD f L k (tk f L (pT f L k p))) := by
  have hs := sktk_le f hp
  unfold RDT cT aTb pT
  by_cases h3 : k < 3
  · simp only [if_pos h3]
    cases c : (tq f (sk f L p) (tk f L p) 5 || tq f (sk f L p) (tk f L p) 6)
    · rw [if_neg (by decide), flt_f, cN_n (by omega)]
    · rw [if_pos rfl, flt_t]
      exact ⟨trivial, fe_N hL hs.2.2⟩
  · simp only [if_neg h3]
    exact ⟨trivial, fe_N hL hp⟩
end Fe
theorem C_X3_read {L : Nat} (hL : L ≤ 40) (h21 : I 2 1 = nI L) : mj_R D_X3_read [.inr (some 1)] (mj_w I) (mj_px (fun r I' => r = none ∧ (∀ o, o ≠ 1 → I' o = I o) ∧ RDS (I 3) L (I' 1 3) (I' 1 4) (I' 1 5) (I' 1 6) (I' 1 7))) := by
  have m0 := s_1
  have h0 : SR I (mj_up (mj_up I 1 2 0) 1 3 (-1)) 0 (-1) := ⟨fun o ho => by rw [mj_up_ne ho, mj_up_ne ho], by rw [mj_up_eq, up_n (by decide), mj_up_eq, up_s]; exact nI_0.symm, by rw [mj_up_eq, up_s]⟩
  have hs1 := sktk_le (I 3) (Nat.zero_le L)
  have hk := kdR_le (I 3) (sk (I 3) L 0) (tk (I 3) L 0) 5 0
  have zk := Z_kind hL h21 h0 (Nat.zero_le L)
  obtain ⟨N, hN⟩ : ∃ N, kdN (I 3) (sk (I 3) L 0) (tk (I 3) L 0) = N := ⟨_, rfl⟩
  have hN5 : N ≤ 5 := by rw [← hN]; unfold kdN; omega
  obtain ⟨k, hkk⟩ : ∃ k, (if N = 5 then 0 else N) = k := ⟨_, rfl⟩
  have hk4 : k ≤ 4 := by rw [← hkk]; split <;> omega
  have hz : (if N = 5 then (0 : Int32) else nI N) = nI k := by
    rw [← hkk]
    by_cases h5 : N = 5
    · rw [if_pos h5, if_pos h5]; exact nI_0.symm
    · rw [if_neg h5, if_neg h5]
  rw [hN, hz] at zk
  have hS : ∀ e0, e0 = flt (-1) (!decide (N = 5)) (sk (I 3) L 0) → RDS (I 3) L (cT (I 3) L k (tk (I 3) L 0) e0) (nI k) (aTb (I 3) L k (tk (I 3) L 0)) (yM (I 3) L (pT (I 3) L k (tk (I 3) L 0))) (yD (I 3) L k (tk (I 3) L (pT (I 3) L k (tk (I 3) L 0)))) := by
    intro e0 he
    unfold RDS
    rw [hN]
    by_cases h5 : N = 5
    · rw [if_pos h5]
      rw [decide_eq_true h5, Bool.not_true, flt_f] at he
      rw [he, cT_n (by omega)]
    · rw [if_neg h5]
      rw [decide_eq_false h5, Bool.not_false, flt_t] at he
      rw [if_neg h5] at hkk
      rw [he, hkk]
      exact ⟨rfl, fe_T hL hs1.2.2⟩
  generalize he1 : flt (-1) (!decide (N = 5)) (sk (I 3) L 0) = e1 at *
  have hS := hS e1 rfl
  generalize ht1 : tk (I 3) L 0 = t1 at *
  have ht1L : t1 ≤ L := hs1.2.2
  have hend : ∀ (J : mj_I) (p : Nat) (e0 K A X : Int32), SR I J p e0 → p ≤ L → J 1 4 = K → J 1 5 = A → J 1 6 = X → RDS (I 3) L (cM (I 3) L p e0) K A X (yM (I 3) L p) →
      mj_J D_X3_read (mj_px (fun r I' => r = none ∧ (∀ o, o ≠ 1 → I' o = I o) ∧ RDS (I 3) L (I' 1 3) (I' 1 4) (I' 1 5) (I' 1 6) (I' 1 7))) 66 [some (.inr (some 1))] [] (mj_w J) (0, 0) := by
    intro J p e0 K A X hJ hp hK hA hX hf
    have hs := sktk_le (I 3) hp
    refine J_ald S_X3_read rfl rfl ?_
    refine J_ald S_X3_read rfl rfl ?_
    refine J_CV S_X3_read rfl rfl (by assumption) (by omega) (by simp) (Z_num hL h21 hJ hp) ?_
    rintro _ _ ⟨J2, rfl, rfl, g1, g2⟩
    refine J_putI S_X3_read rfl (by assumption) (by omega) ?_
    refine J_ald S_X3_read rfl rfl ?_
    refine J_CV S_X3_read rfl rfl (by assumption) (by omega) (by simp) (Z_end hL h21 (sr_up g1 (by decide)) hs.2.2) ?_
    rintro _ _ ⟨J3, rfl, rfl, g3, g4⟩
    refine J_retV S_X3_read rfl ?_
    refine ⟨J3, rfl, rfl, g3.1, ?_⟩
    rw [g3.2.2, g4 4 (by decide), g4 5 (by decide), g4 6 (by decide), g4 7 (by decide), mj_up_eq, up_s, up_n (by decide), up_n (by decide), up_n (by decide), g2 4 (by decide), g2 5 (by decide), g2 6 (by decide), hK, hA, hX]
    exact hf
  refine mj_enter (by decide +kernel) (Nat.le_of_ble_eq_true rfl) ?_
  unfold cT aTb pT at hS
  by_cases h3 : k < 3
  · simp only [if_pos h3] at hS
    unfold cN cD yD at hS
    have h4 : ¬ k = 4 := by omega
    simp only [if_neg h4] at hS
    have p1 := sktk_le (I 3) ht1L
    have p2 := sktk_le (I 3) p1.2.2
    have p3 := sktk_le (I 3) p2.2.2
    have n3 : ¬ nI k = 3 := fun c => by have := (nI_eq (a := k) (b := 3) (by omega) (by omega)).mp c; omega
    have n4 : ¬ nI k = 4 := fun c => by have := (nI_eq (a := k) (b := 4) (by omega) (by omega)).mp c; omega
    refine J_ald S_X3_read rfl rfl ?_
    refine J_C S_X3_read rfl ?_
    refine J_putI S_X3_read rfl (by assumption) (by omega) ?_
    refine J_ald S_X3_read rfl rfl ?_
    refine J_C S_X3_read rfl ?_
    refine J_putI S_X3_read rfl (by assumption) (by omega) ?_
    refine J_ald S_X3_read rfl rfl ?_
    refine J_ald S_X3_read rfl rfl ?_
    refine J_CV S_X3_read rfl rfl (by assumption) (by omega) (by simp) (zk) ?_
    rintro _ _ ⟨J1, rfl, rfl, g1, g2⟩
    refine J_putI S_X3_read rfl (by assumption) (by omega) ?_
    refine J_ald S_X3_read rfl rfl ?_
    refine J_ald S_X3_read rfl rfl ?_
    refine J_getI S_X3_read rfl (by assumption) (by omega) ?_
    refine J_C S_X3_read rfl ?_
    rw [mj_up_eq, up_s]
    refine J_cmp S_X3_read rfl (fun c24 => False.elim (n3 c24)) (fun c24 => ?_)
    refine J_ald S_X3_read rfl rfl ?_
    refine J_getI S_X3_read rfl (by assumption) (by omega) ?_
    refine J_C S_X3_read rfl ?_
    rw [mj_up_eq, up_s]
    refine J_cmp S_X3_read rfl (fun c32 => ?_) (fun c32 => False.elim (n4 c32))
    refine J_ald S_X3_read rfl rfl ?_
    refine J_CV S_X3_read rfl rfl (by assumption) (by omega) (by simp) (Z_table hL h21 (sr_up g1 (by decide)) ht1L) ?_
    rintro _ _ ⟨J2, rfl, rfl, g3, g4⟩
    refine J_putI S_X3_read rfl (by assumption) (by omega) ?_
    refine J_ald S_X3_read rfl rfl ?_
    refine J_ald S_X3_read rfl rfl ?_
    refine J_CV S_X3_read rfl rfl (by assumption) (by omega) (by simp) (Z_num hL h21 (sr_up g3 (by decide)) p1.2.2) ?_
    rintro _ _ ⟨J3, rfl, rfl, g5, g6⟩
    refine J_putI S_X3_read rfl (by assumption) (by omega) ?_
    refine J_ald S_X3_read rfl rfl ?_
    refine J_getI S_X3_read rfl (by assumption) (by omega) ?_
    refine J_C S_X3_read rfl ?_
    rw [mj_up_eq, up_n (show (4 : Nat) ≠ 6 by decide), g6 4 (by decide), mj_up_eq, up_n (show (4 : Nat) ≠ 5 by decide), g4 4 (by decide), mj_up_eq, up_s]
    refine J_cmp S_X3_read rfl (fun c59 => False.elim (n4 c59)) (fun c59 => ?_)
    refine J_ald S_X3_read rfl rfl ?_
    refine J_CV S_X3_read rfl rfl (by assumption) (by omega) (by simp) (Z_dash hL h21 (sr_up g5 (by decide)) p2.2.2) ?_
    rintro _ _ ⟨J4, rfl, rfl, g7, g8⟩
    exact hend J4 _ _ _ _ _ g7 p3.2.2 (by rw [g8 4 (by decide), mj_up_eq, up_n (by decide), g6 4 (by decide), mj_up_eq, up_n (by decide), g4 4 (by decide), mj_up_eq, up_s]) (by rw [g8 5 (by decide), mj_up_eq, up_n (by decide), g6 5 (by decide), mj_up_eq, up_s]) (by rw [g8 6 (by decide), mj_up_eq, up_s]; rfl) hS
  · simp only [if_neg h3] at hS
    unfold cN cD yD at hS
    have p1 := sktk_le (I 3) ht1L
    have p2 := sktk_le (I 3) p1.2.2
    by_cases h4 : k = 4
    · simp only [if_pos h4] at hS
      have e4 : nI k = 4 := by rw [h4]; rfl
      have n3 : ¬ nI k = 3 := fun c => by have := (nI_eq (a := k) (b := 3) (by omega) (by omega)).mp c; omega
      refine J_ald S_X3_read rfl rfl ?_
      refine J_C S_X3_read rfl ?_
      refine J_putI S_X3_read rfl (by assumption) (by omega) ?_
      refine J_ald S_X3_read rfl rfl ?_
      refine J_C S_X3_read rfl ?_
      refine J_putI S_X3_read rfl (by assumption) (by omega) ?_
      refine J_ald S_X3_read rfl rfl ?_
      refine J_ald S_X3_read rfl rfl ?_
      refine J_CV S_X3_read rfl rfl (by assumption) (by omega) (by simp) (zk) ?_
      rintro _ _ ⟨J1, rfl, rfl, g1, g2⟩
      refine J_putI S_X3_read rfl (by assumption) (by omega) ?_
      refine J_ald S_X3_read rfl rfl ?_
      refine J_ald S_X3_read rfl rfl ?_
      refine J_getI S_X3_read rfl (by assumption) (by omega) ?_
      refine J_C S_X3_read rfl ?_
      rw [mj_up_eq, up_s]
      refine J_cmp S_X3_read rfl (fun c24 => False.elim (n3 c24)) (fun c24 => ?_)
      refine J_ald S_X3_read rfl rfl ?_
      refine J_getI S_X3_read rfl (by assumption) (by omega) ?_
      refine J_C S_X3_read rfl ?_
      rw [mj_up_eq, up_s]
      refine J_cmp S_X3_read rfl (fun c32 => False.elim (c32 e4)) (fun c32 => ?_)
      refine J_C S_X3_read rfl ?_
      refine J_goto S_X3_read rfl ?_
      refine J_putI S_X3_read rfl (by assumption) (by omega) ?_
      refine J_ald S_X3_read rfl rfl ?_
      refine J_ald S_X3_read rfl rfl ?_
      refine J_CV S_X3_read rfl rfl (by assumption) (by omega) (by simp) (Z_num hL h21 (sr_up (sr_up g1 (by decide)) (by decide)) ht1L) ?_
      rintro _ _ ⟨J3, rfl, rfl, g5, g6⟩
      refine J_putI S_X3_read rfl (by assumption) (by omega) ?_
      refine J_ald S_X3_read rfl rfl ?_
      refine J_getI S_X3_read rfl (by assumption) (by omega) ?_
      refine J_C S_X3_read rfl ?_
      rw [mj_up_eq, up_n (show (4 : Nat) ≠ 6 by decide), g6 4 (by decide), mj_up_eq, up_n (show (4 : Nat) ≠ 5 by decide), mj_up_eq, up_s]
      refine J_cmp S_X3_read rfl (fun c59 => ?_) (fun c59 => False.elim (c59 e4))
      exact hend _ _ _ _ _ _ (sr_up g5 (by decide)) p1.2.2 (by rw [mj_up_eq, up_n (by decide), g6 4 (by decide), mj_up_eq, up_n (by decide), mj_up_eq, up_s]) (by rw [mj_up_eq, up_n (by decide), g6 5 (by decide), mj_up_eq, up_s]) (by rw [mj_up_eq, up_s]; rfl) hS
    · simp only [if_neg h4] at hS
      have e3 : nI k = 3 := by rw [show k = 3 by omega]; rfl
      have n4 : ¬ nI k = 4 := fun c => by have := (nI_eq (a := k) (b := 4) (by omega) (by omega)).mp c; omega
      refine J_ald S_X3_read rfl rfl ?_
      refine J_C S_X3_read rfl ?_
      refine J_putI S_X3_read rfl (by assumption) (by omega) ?_
      refine J_ald S_X3_read rfl rfl ?_
      refine J_C S_X3_read rfl ?_
      refine J_putI S_X3_read rfl (by assumption) (by omega) ?_
      refine J_ald S_X3_read rfl rfl ?_
      refine J_ald S_X3_read rfl rfl ?_
      refine J_CV S_X3_read rfl rfl (by assumption) (by omega) (by simp) (zk) ?_
      rintro _ _ ⟨J1, rfl, rfl, g1, g2⟩
      refine J_putI S_X3_read rfl (by assumption) (by omega) ?_
      refine J_ald S_X3_read rfl rfl ?_
      refine J_ald S_X3_read rfl rfl ?_
      refine J_getI S_X3_read rfl (by assumption) (by omega) ?_
      refine J_C S_X3_read rfl ?_
      rw [mj_up_eq, up_s]
      refine J_cmp S_X3_read rfl (fun c24 => ?_) (fun c24 => False.elim (c24 e3))
      refine J_C S_X3_read rfl ?_
      refine J_goto S_X3_read rfl ?_
      refine J_putI S_X3_read rfl (by assumption) (by omega) ?_
      refine J_ald S_X3_read rfl rfl ?_
      refine J_ald S_X3_read rfl rfl ?_
      refine J_CV S_X3_read rfl rfl (by assumption) (by omega) (by simp) (Z_num hL h21 (sr_up (sr_up g1 (by decide)) (by decide)) ht1L) ?_
      rintro _ _ ⟨J3, rfl, rfl, g5, g6⟩
      refine J_putI S_X3_read rfl (by assumption) (by omega) ?_
      refine J_ald S_X3_read rfl rfl ?_
      refine J_getI S_X3_read rfl (by assumption) (by omega) ?_
      refine J_C S_X3_read rfl ?_
      rw [mj_up_eq, up_n (show (4 : Nat) ≠ 6 by decide), g6 4 (by decide), mj_up_eq, up_n (show (4 : Nat) ≠ 5 by decide), mj_up_eq, up_s]
      refine J_cmp S_X3_read rfl (fun c59 => False.elim (n4 c59)) (fun c59 => ?_)
      refine J_ald S_X3_read rfl rfl ?_
      refine J_CV S_X3_read rfl rfl (by assumption) (by omega) (by simp) (Z_dash hL h21 (sr_up g5 (by decide)) p1.2.2) ?_
      rintro _ _ ⟨J4, rfl, rfl, g7, g8⟩
      exact hend J4 _ _ _ _ _ g7 p2.2.2 (by rw [g8 4 (by decide), mj_up_eq, up_n (by decide), g6 4 (by decide), mj_up_eq, up_n (by decide), mj_up_eq, up_s]) (by rw [g8 5 (by decide), mj_up_eq, up_n (by decide), g6 5 (by decide), mj_up_eq, up_s]) (by rw [g8 6 (by decide), mj_up_eq, up_s]; rfl) hS
end Rz
