def ntM (n : Nat) : Nat := if n < 5 then n else 4
def ntD (n : Nat) : Nat := if n < 5 then 0 else 1
def ntP (n : Nat) (p w : mv) : mv := fun j => if j < 2063 * ntM n then p (j + 2063 * ntD n) else w (j - 2063 * ntM n)
theorem ntP_ok {n : Nat} (hn : n ≤ 5) (p w : mv) : NT n (ntD n) (ntM n) p w (ntP n p w) := by
  refine ⟨?_, fun a ha j hj => ?_, fun j hj => ?_⟩
  · unfold ntM ntD
    by_cases c : n < 5
    · rw [if_pos c, if_pos c]; omega
    · rw [if_neg c, if_neg c]; omega
  · unfold ntP
    rw [if_pos (by omega)]
    exact congrArg p (by omega)
  · unfold ntP
    rw [if_neg (by omega)]
    exact congrArg w (by omega)
theorem nt_dm {n d m : Nat} {p w p' : mv} (h : NT n d m p w p') : d = ntD n ∧ m = ntM n := by
  have := h.1
  unfold ntD ntM
  by_cases c : n < 5
  · rw [if_pos c, if_pos c]; omega
  · rw [if_neg c, if_neg c]; omega
theorem RH_nt {I : mj_I} {o n d m : Nat} {p w p' p'' : mv} (h : RH I o (m + 1) p') (h1 : NT n d m p w p') (h2 : NT n d m p w p'') : RH I o (m + 1) p'' := by
  obtain ⟨a1, a2, a3, a4, a5⟩ := h
  refine ⟨a1, a2, a3, a4, fun a ha => RS_ext (a5 a ha) (fun j hj => ?_)⟩
  by_cases c : a = m
  · subst c
    rw [h2.2.2 j hj, h1.2.2 j hj]
  · rw [h2.2.1 a (by omega) j hj, h1.2.1 a (by omega) j hj]
theorem RH_fr {I I' : mj_I} {o n : Nat} {p : mv} (h : RH I o n p) (hF : ∀ q, 52 ≤ q → q < 294 → I' q = I q) : RH I' o n p := by
  obtain ⟨a1, a2, a3, a4, a5⟩ := h
  refine ⟨by rw [hF 52 (by decide) (by decide)]; exact a1, by rw [hF 52 (by decide) (by decide)]; exact a2, a3, a4, fun a ha => RS_fr (a5 a ha) (fun q g1 g2 => hF q (by omega) ?_)⟩
  have : (o + a) % 5 < 5 := Nat.mod_lt _ (by decide)
  omega
/-- the class's object stands at the vector w, past p of n states (from o on), text f of length L -/
def CR (I : mj_I) (w p : mv) (o n L : Nat) (f : Nat → Int32) : Prop := RS I 4 w ∧ RH I o n p ∧ L ≤ 40 ∧ I 2 1 = nI L ∧ I 3 = f
/-- both programs stand at the same -/
def Rl (I : mj_I) : Prop := ∃ o n L, CR I (I 314) (I 315) o n L (I 316) ∧ I 313 2 = nI n ∧ I 313 4 = nI L
/-- the class looked: its state stays -/
def SC (I I1 : mj_I) : Prop := (∀ q, q < 294 → q ≠ 1 → I1 q = I q) ∧ ∀ q, 313 ≤ q → I1 q = I q
theorem sc_rf {I : mj_I} : SC I I := ⟨fun _ _ _ => rfl, fun _ _ => rfl⟩
theorem CR_sc {I I1 : mj_I} {w p : mv} {o n L : Nat} {f : Nat → Int32} (h : CR I w p o n L f) (hs : SC I I1) : CR I1 w p o n L f := by
  obtain ⟨a, b, c, d, e⟩ := h
  exact ⟨RS_fr a (fun q g1 g2 => hs.1 q (by omega) (by omega)), RH_fr b (fun q g1 g2 => hs.1 q g2 (by omega)), c, by rw [hs.1 2 (by decide) (by decide)]; exact d, by rw [hs.1 3 (by decide) (by decide)]; exact e⟩
def UP (I I1 : mj_I) : Prop := ∀ q, 313 ≤ q → I1 q = I q
def PRI (dX dM : mj_D) (as : List mj_V) (I : mj_I) : Prop := ∃ (x : Int32) (Q : mj_I → Prop), mj_R dX (.inr (some 0) :: as) (mj_w I) (mj_px (fun r I1 => r = some (.inl x) ∧ Q I1)) ∧ ∀ I1, Q I1 → mj_R dM (.inr (some 313) :: as) (mj_w I1) (mj_px (fun r I2 => r = some (.inl x) ∧ Rl I2))
theorem R_imp {d : mj_D} {as : List mj_V} {I : mj_I} {P P' : Option mj_V → mj_I → Prop} (h : mj_R d as (mj_w I) (mj_px P)) (hp : ∀ r I', P r I' → P' r I') : mj_R d as (mj_w I) (mj_px P') := by
  refine h.mono ?_
  rintro r M ⟨I', e1, e2⟩
  exact ⟨I', e1, hp r I' e2⟩
theorem R_ex {d : mj_D} {as : List mj_V} {I I' : mj_I} {v : Option mj_V} {P : Option mj_V → mj_I → Prop} (h : mj_R d as (mj_w I) (mj_ex v I')) (hp : P v I') : mj_R d as (mj_w I) (mj_px P) := by
  refine h.mono ?_
  rintro r M ⟨rfl, rfl⟩
  exact ⟨I', rfl, hp⟩
theorem Rl_ms {I1 I2 : mj_I} (h : Rl I1) (hm : Ms I1 I2) : Rl I2 := by
  obtain ⟨o, n, L, hc, h2, h4⟩ := h
  refine ⟨o, n, L, ?_, by rw [hm.2.1]; exact h2, by rw [hm.2.2]; exact h4⟩
  have e : ∀ q, q < 313 → I2 q = I1 q := fun q hq => hm.1 q (by omega) (by omega) (by omega) (by omega) (by omega)
  rw [hm.1 314 (by decide) (by decide) (by decide) (by decide) (by decide), hm.1 315 (by decide) (by decide) (by decide) (by decide) (by decide), hm.1 316 (by decide) (by decide) (by decide) (by decide) (by decide)]
  obtain ⟨a, b, c, d, f⟩ := hc
  exact ⟨RS_fr a (fun q _ g => e q (by omega)), RH_fr b (fun q _ g => e q (by omega)), c, by rw [e 2 (by decide)]; exact d, by rw [e 3 (by decide)]; exact f⟩
theorem PR_look {dX dM : mj_D} {as : List mj_V} {I : mj_I} {x : Int32} (h : Rl I) (hX : mj_R dX (.inr (some 0) :: as) (mj_w I) (mj_px (fun r I1 => r = some (.inl x) ∧ SC I I1)))
    (hM : ∀ I1, UP I I1 → mj_R dM (.inr (some 313) :: as) (mj_w I1) (mj_px (fun r I2 => r = some (.inl x) ∧ Ms I1 I2))) : PRI dX dM as I := by
  refine ⟨x, fun I1 => SC I I1, hX, fun I1 hs => R_imp (hM I1 hs.2) (fun r I2 g => ⟨g.1, Rl_ms ?_ g.2⟩)⟩
  obtain ⟨o, n, L, hc, h2, h4⟩ := h
  have hc := CR_sc hc hs
  rw [← hs.2 314 (by decide), ← hs.2 315 (by decide), ← hs.2 316 (by decide)] at hc
  exact ⟨o, n, L, hc, by rw [hs.2 313 (by decide)]; exact h2, by rw [hs.2 313 (by decide)]; exact h4⟩
/-- refusals that change nothing on either side -/
theorem PR_no {dX dM : mj_D} {as : List mj_V} {I : mj_I} {x : Int32} (h : Rl I) (hX : mj_R dX (.inr (some 0) :: as) (mj_w I) (mj_ex (some (.inl x)) I)) (hM : ∀ I1, UP I I1 → mj_R dM (.inr (some 313) :: as) (mj_w I1) (mj_ex (some (.inl x)) I1)) : PRI dX dM as I :=
  PR_look h (R_ex hX ⟨rfl, sc_rf⟩) (fun I1 hu => R_ex (hM I1 hu) ⟨rfl, ms_rf⟩)
/-- the class recorded, and stands at w' -/
def AC (I I1 : mj_I) (n L : Nat) (w' : mv) : Prop := UP I I1 ∧ ∃ o', CR I1 w' (ntP n (I 315) (I 314)) o' (ntM n + 1) L (I 316)
theorem Rl_act {I I1 I2 : mj_I} {n L : Nat} {w' w'' : mv} (h1 : AC I I1 n L w') (f1 : ∀ q, q < 313 → I2 q = I1 q) (f2 : I2 314 = w'') (f3 : ∃ d m, NT n d m (I1 315) (I1 314) (I2 315) ∧ I2 313 2 = nI (m + 1)) (f4 : I2 313 4 = nI L) (f5 : I2 316 = I1 316) (hw : ∀ j, j < 2063 → w'' j = w' j) : Rl I2 := by
  obtain ⟨u, o', a, b, c, d, e⟩ := h1
  obtain ⟨d', m', hn, h2⟩ := f3
  rw [u 315 (by decide), u 314 (by decide)] at hn
  have hn5 : n ≤ 5 := by have := hn.1; omega
  obtain ⟨rfl, rfl⟩ := nt_dm hn
  refine ⟨o', ntM n + 1, L, ⟨?_, ?_, c, by rw [f1 2 (by decide)]; exact d, by rw [f1 3 (by decide), f5, u 316 (by decide)]; exact e⟩, h2, f4⟩
  · rw [f2]
    exact RS_ext (RS_fr a (fun q _ g => f1 q (by omega))) hw
  · exact RH_nt (RH_fr b (fun q _ g => f1 q (by omega))) (ntP_ok hn5 _ _) hn
theorem PR_act {dX dM : mj_D} {as : List mj_V} {I : mj_I} {x : Int32} {n L : Nat} {w' w'' : mv} (h4 : I 313 4 = nI L) (hX : mj_R dX (.inr (some 0) :: as) (mj_w I) (mj_px (fun r I1 => r = some (.inl x) ∧ AC I I1 n L w')))
    (hM : ∀ I1, UP I I1 → mj_R dM (.inr (some 313) :: as) (mj_w I1) (mj_px (fun r I2 => r = some (.inl x) ∧ MN n I1 I2 w''))) (hw : ∀ j, j < 2063 → w'' j = w' j) : PRI dX dM as I := by
  refine ⟨x, fun I1 => AC I I1 n L w', hX, fun I1 ha => R_imp (hM I1 ha.1) (fun r I2 g => ⟨g.1, ?_⟩)⟩
  obtain ⟨g1, g2, g3, g4⟩ := g.2
  exact Rl_act ha (fun q hq => g1 q (by omega) (by omega) (by omega) (by omega) (by omega) (by omega) (by omega)) g2 g3 (by rw [g4, ha.1 313 (by decide)]; exact h4) (g1 316 (by decide) (by decide) (by decide) (by decide) (by decide) (by decide) (by decide)) hw
/-! the class records -/
def RC (I I1 : mj_I) (w p : mv) (o n : Nat) : Prop := (∀ q, (q < 52 ∨ 294 ≤ q) → I1 q = I q) ∧ RH I1 ((o + ntD n) % 5) (ntM n + 1) (ntP n p w)
theorem Z_rec {I : mj_I} {w p : mv} {o n L : Nat} {f : Nat → Int32} (h : CR I w p o n L f) : mj_R D_X1_record [.inr (some 52), .inr (some 4)] (mj_w I) (mj_px (fun r I1 => r = none ∧ RC I I1 w p o n)) :=
  C_X1_record h.1 h.2.1 (ntP_ok h.2.1.2.2.2.1 p w)
theorem RC_R {I I1 : mj_I} {w p : mv} {o n L : Nat} {f : Nat → Int32} (h : CR I w p o n L f) (hr : RC I I1 w p o n) : RS I1 4 w := RS_fr h.1 (fun q _ g => hr.1 q (by omega))
theorem RC_S {I I1 I2 : mj_I} {w p w' : mv} {o n L : Nat} {f : Nat → Int32} (h : CR I w p o n L f) (hr : RC I I1 w p o n) (hs : RS I2 4 w') (hf : ∀ q, (q < 4 ∨ 52 ≤ q) → I2 q = I1 q) : CR I2 w' (ntP n p w) ((o + ntD n) % 5) (ntM n + 1) L f ∧ UP I I2 :=
  ⟨⟨hs, RH_fr hr.2 (fun q g1 g2 => hf q (by omega)), h.2.2.1, by rw [hf 2 (by omega), hr.1 2 (by omega)]; exact h.2.2.2.1, by rw [hf 3 (by omega), hr.1 3 (by omega)]; exact h.2.2.2.2⟩, fun q hq => by rw [hf q (by omega), hr.1 q (by omega)]⟩
theorem RC_B {I I1 I2 : mj_I} {w p w' : mv} {o n L : Nat} {f : Nat → Int32} (h : CR I w p o n L f) (hr : RC I I1 w p o n) (hb : RB I2 5 w') (hf : Fr 5 I1 I2) (hI : IV w') (hZ : ZB w') (h687 : ∀ i, 687 ≤ i → w' i = w i) : CR I2 w' (ntP n p w) ((o + ntD n) % 5) (ntM n + 1) L f ∧ UP I I2 :=
  RC_S h hr (RS_bk (RC_R h hr) hb hI hZ h687 hf) (fun q hq => hf q (by omega))
theorem mj_B5 : mj_isB 5 := mj_S4.2.1
