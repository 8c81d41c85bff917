/-! cells that agree -/
def refy (q k : Nat) : Prop := 13 ≤ (mj_sh q).1 ∨ mj_rk (mj_sh q).1 k = true
theorem arrV_cg {c : ClassId} {N : Nat} {f g : Nat → Value} (h : ∀ j, j < N → f j = g j) : arrV c N f = arrV c N g := by
  unfold arrV
  congr 1
  apply congrArg
  funext j
  exact h j.val j.isLt
theorem mj_H_cg {E : mj_E} {n : Nat} {F F' : mj_F} {I I' : mj_I} {H : Heap} (hF : ∀ q, q < n → ∀ k, k < (mj_sh q).2 → refy q k → F' q k = F q k) (hI : ∀ q, q < n → I' q = I q) (h : mj_H E (n, F, I) H) : mj_H E (n, F', I') H := by
  refine ⟨fun k q hq => ?_, h.2.1, h.2.2⟩
  have hk : k < n := by
    have := (List.getElem?_eq_some_iff.mp hq).1
    simpa [mj_ws] using this
  rw [mj_ws_at (M := (n, F', I')) (show k < (n, F', I').1 from hk)] at hq
  cases hq
  have h0 := h.1 k _ (mj_ws_at (E := E) (M := (n, F, I)) (show k < (n, F, I).1 from hk))
  have hFk := hF k hk
  have hIk := hI k hk
  unfold refy at hFk
  unfold mj_ce at h0 ⊢
  by_cases c1 : (mj_sh k).1 < 11
  · rw [if_pos c1] at h0 ⊢
    have e : (List.range (mj_sh k).2).map (mj_fv E ((n, F', I').2.1 k) ((n, F', I').2.2 k) (mj_sh k).1) = (List.range (mj_sh k).2).map (mj_fv E ((n, F, I).2.1 k) ((n, F, I).2.2 k) (mj_sh k).1) := by
      apply List.map_congr_left
      intro j hj
      rw [List.mem_range] at hj
      unfold mj_fv
      by_cases cr : mj_rk (mj_sh k).1 j = true
      · rw [if_pos cr, if_pos cr]
        show va_rf ((F' k j).map _) = va_rf ((F k j).map _)
        rw [hFk j hj (Or.inr cr)]
      · rw [if_neg cr, if_neg cr]
        show Value.int (I' k j) = Value.int (I k j)
        rw [hIk]
    rw [e]
    exact h0
  · rw [if_neg c1] at h0 ⊢
    by_cases c2 : (mj_sh k).1 < 13
    · rw [if_pos c2] at h0 ⊢
      show va_at _ _ (_, .inl (_, _, .inl (I' k))) _
      rw [hIk]
      exact h0
    · rw [if_neg c2] at h0 ⊢
      show H[_]? = some (vp_cell _ _)
      have h1 : H[_]? = some (vp_cell _ _) := h0
      rw [h1]
      rw [vp_cell_q, vp_cell_q]
      exact congrArg some (arrV_cg (fun j hj => by
        show va_rf ((F k j).map _) = va_rf ((F' k j).map _)
        rw [hFk j hj (Or.inl (by omega))]))
theorem mj_J_cg {d : mj_D} {post : Option mj_V → mj_M → Prop} {pc n : Nat} {L : List (Option mj_V)} {st : List mj_V} {F F' : mj_F} {I I' : mj_I} {z : Nat × Nat} (hF : ∀ q, q < n → ∀ k, k < (mj_sh q).2 → refy q k → F' q k = F q k) (hI : ∀ q, q < n → I' q = I q) (h : mj_J d post pc L st (n, F', I') z) : mj_J d post pc L st (n, F, I) z :=
  fun p l e s m args below meth c E hC h1 h2 H locs ls hH hS hL => h p l e s m args below meth c E hC h1 h2 H locs ls (mj_H_cg hF hI hH) hS hL
/-! rows over any memory -/
section JO
variable {d : mj_D} {T : Nat → mj_O} {post : Option mj_V → mj_M → Prop} {pc n : Nat} {L : List (Option mj_V)} {st rest : List mj_V} {F : mj_F} {I : mj_I} {c s : Nat}
theorem JO_obj (hT : ∀ pc, mj_S d pc (T pc)) {o : Nat} (hp : T pc = oObj) (hr : rest.length ≤ 8) (h : mj_J d post (pc + 3) L rest (n, F, I) (c, s)) : mj_J d post pc L (.inr (some o) :: rest) (n, F, I) (c, s) := mj_op1 hT hp ⟨hr, h⟩
theorem JO_new (hT : ∀ pc, mj_S d pc (T pc)) {t N bc bs : Nat} (hp : T pc = oNew (t, N) bc bs) (hs : mj_sh n = (t, N)) (hn : n < 313) (h1 : c + 1 ≤ bc) (h2 : s + N ≤ bs) (h : mj_J d post (pc + 3) L (.inr (some n) :: st) (n + 1, mj_nF F n, mj_nI I n) (c + 1, s + N)) : mj_J d post pc L st (n, F, I) (c, s) :=
  mj_op1 hT hp ⟨hs, (show n + 1 ≤ 1000 by omega), h1, h2, h⟩
theorem JO_newR (hT : ∀ pc, mj_S d pc (T pc)) {t N w bc bs : Nat} {x : Int32} (hp : T pc = oNewR t w bc bs) (hs : mj_sh n = (t, N)) (hn : n < 313) (hx : ¬ x < 0 ∧ x.toNatClampNeg = N ∧ N ≤ 100000) (h1 : c + 1 ≤ bc) (h2 : s + N ≤ bs) (h : mj_J d post (pc + w) L (.inr (some n) :: rest) (n + 1, mj_nF F n, mj_nI I n) (c + 1, s + N)) : mj_J d post pc L (.inl x :: rest) (n, F, I) (c, s) := by
  have e : (mj_sh n).2 = N := by rw [hs]
  refine mj_op1 hT hp ⟨by rw [hs], (show n + 1 ≤ 1000 by omega), hx.1, hx.2.1.trans e.symm, ?_, h1, ?_, ?_⟩
  · show (mj_sh n).2 ≤ 100000
    rw [e]; exact hx.2.2
  · show s + (mj_sh n).2 ≤ bs
    rw [e]; exact h2
  · show mj_J d post (pc + w) L (.inr (some n) :: rest) (n + 1, mj_nF F n, mj_nI I n) (c + 1, s + (mj_sh n).2)
    rw [e]; exact h
theorem JO_putR (hT : ∀ pc, mj_S d pc (T pc)) {t N k o r : Nat} (hp : T pc = oPutR (t, N) k) (hs : mj_sh o = (t, N)) (hn : o < n) (h : mj_J d post (pc + 3) L rest (n, mj_uF F o k (some r), I) (c, s)) : mj_J d post pc L (.inr (some r) :: .inr (some o) :: rest) (n, F, I) (c, s) := mj_op1 hT hp ⟨hs, hn, h⟩
theorem JO_putI (hT : ∀ pc, mj_S d pc (T pc)) {t N k o : Nat} {x : Int32} (hp : T pc = oPutI (t, N) k) (hs : mj_sh o = (t, N)) (hn : o < n) (h : mj_J d post (pc + 3) L rest (n, F, mj_up I o k x) (c, s)) : mj_J d post pc L (.inl x :: .inr (some o) :: rest) (n, F, I) (c, s) := mj_op1 hT hp ⟨hs, hn, h⟩
theorem JO_getR (hT : ∀ pc, mj_S d pc (T pc)) {t N k o r : Nat} (hp : T pc = oGetR (t, N) k) (hs : mj_sh o = (t, N)) (hn : o < n) (ho : F o k = some r) (h : mj_J d post (pc + 3) L (.inr (some r) :: rest) (n, F, I) (c, s)) : mj_J d post pc L (.inr (some o) :: rest) (n, F, I) (c, s) := mj_op1 hT hp ⟨hs, hn, by show mj_J d post (pc + 3) L (.inr (F o k) :: rest) (n, F, I) (c, s); rw [ho]; exact h⟩
theorem JO_len (hT : ∀ pc, mj_S d pc (T pc)) {t N o : Nat} (hp : T pc = oLen) (hs : mj_sh o = (t, N)) (hn : o < n) (ht : 11 ≤ t ∧ t < 16) (h : mj_J d post (pc + 1) L (.inl (nI N) :: rest) (n, F, I) (c, s)) : mj_J d post pc L (.inr (some o) :: rest) (n, F, I) (c, s) := mj_op1 hT hp ⟨by rw [hs]; exact ht.1, by rw [hs]; exact ht.2, hn, by rw [hs]; exact h⟩
theorem JO_iast (hT : ∀ pc, mj_S d pc (T pc)) {o N j : Nat} {i x : Int32} (hp : T pc = oIast) (hs : mj_sh o = (11, N)) (hn : o < n) (hi : i = nI j) (hj : j < N) (hN : N < 2 ^ 31) (h : mj_J d post (pc + 1) L rest (n, F, mj_up I o j x) (c, s)) : mj_J d post pc L (.inl x :: .inl i :: .inr (some o) :: rest) (n, F, I) (c, s) := mj_op1 hT hp ⟨by rw [hs], hn, by rw [hs, hi]; exact vp_in_nI hj hN, by rw [hi, nI_clamp (by omega)]; exact h⟩
theorem JO_aast (hT : ∀ pc, mj_S d pc (T pc)) {o t N r j : Nat} {cc : Nat × Nat} {i : Int32} (hp : T pc = oAast t cc) (hs : mj_sh o = (t, N)) (hn : o < n) (hr : mj_sh r = cc) (hrn : r < n) (hi : i = nI j) (hj : j < N) (hN : N < 2 ^ 31) (h : mj_J d post (pc + 1) L rest (n, mj_uF F o j (some r), I) (c, s)) : mj_J d post pc L (.inr (some r) :: .inl i :: .inr (some o) :: rest) (n, F, I) (c, s) := mj_op1 hT hp ⟨by rw [hs], hn, hr, hrn, by rw [hs, hi]; exact vp_in_nI hj hN, by rw [hi, nI_clamp (by omega)]; exact h⟩
theorem JO_CI (hT : ∀ pc, mj_S d pc (T pc)) {k o bc bs mc ms : Nat} {d' : mj_D} {as : List mj_V} {post' : Option mj_V → mj_M → Prop} (hp : T pc = oCI k d' bc bs) (ha : mj_sp k st = some (as, .inr (some o) :: rest)) (h1 : mj_mc d' = mc) (h2 : mj_ms d' = ms) (hr : rest.length ≤ 8) (h3 : c + mc ≤ bc) (h4 : s + ms ≤ bs) (hc : mj_R d' (.inr (some o) :: as) (n, F, I) post')
    (h : ∀ r M', post' r M' → mj_J d post (pc + 3) L (r.toList ++ rest) M' (c + mc, s + ms)) : mj_J d post pc L st (n, F, I) (c, s) := by
  subst h1 h2
  refine mj_op1 hT hp ?_
  unfold oCI
  rw [ha]
  exact ⟨hr, h3, h4, _, hc, h⟩
end JO
theorem Jz {d : mj_D} {post : Option mj_V → mj_M → Prop} {pc : Nat} {L : List (Option mj_V)} {st : List mj_V} {M : mj_M} {c s c' s' : Nat} (h1 : c = c') (h2 : s = s') (h : mj_J d post pc L st M (c', s')) : mj_J d post pc L st M (c, s) := by
  subst h1 h2
  exact h
/-! what stands at first -/
def mj_i0 (t N k : Nat) : Int32 := if t = 11 then (if N = 6 then mj_xc 2 k else if N = 2063 then (if k = 9 then 1 else if k = 10 then 2 else if k = 11 then 30 else if k = 12 then 5 else 0) else 0) else if t = 3 ∧ k = 3 then -1 else 0
def mj_I0 : mj_I := fun q k => mj_i0 (mj_sh q).1 (mj_sh q).2 k
def GC (F : mj_F) (I : mj_I) (q : Nat) : Prop := (∀ k, k < (mj_sh q).2 → refy q k → F q k = mj_RC q k) ∧ ∀ k, I q k = mj_I0 q k
theorem gc_mk {F : mj_F} {I : mj_I} {q t N : Nat} (hs : mj_sh q = (t, N)) (hF : ∀ k, k < N → (13 ≤ t ∨ mj_rk t k = true) → F q k = mj_rc t q k) (hI : ∀ k, I q k = mj_i0 t N k) : GC F I q := by
  refine ⟨fun k hk hr => ?_, fun k => ?_⟩
  · unfold refy at hr
    unfold mj_RC
    rw [hs] at hk hr ⊢
    exact hF k hk hr
  · unfold mj_I0
    rw [hs]
    exact hI k
theorem gc_fr {F F' : mj_F} {I I' : mj_I} {q : Nat} (h : GC F I q) (hF : F' q = F q) (hI : I' q = I q) : GC F' I' q := ⟨fun k hk hr => by rw [hF]; exact h.1 k hk hr, fun k => by rw [hI]; exact h.2 k⟩
def CP (o n : Nat) (F : mj_F) (I : mj_I) : Option mj_V → mj_M → Prop := fun r M' => r = none ∧ ∃ F' I', M' = (n, F', I') ∧ (∀ q, q < o → F' q = F q ∧ I' q = I q) ∧ ∀ q, o ≤ q → q < n → GC F' I' q
theorem nF_n {F : mj_F} {n q : Nat} (h : q ≠ n) : mj_nF F n q = F q := if_neg h
theorem nI_n {I : mj_I} {n q : Nat} (h : q ≠ n) : mj_nI I n q = I q := if_neg h
theorem nI_s {I : mj_I} {n k : Nat} : mj_nI I n n k = 0 := by unfold mj_nI; rw [if_pos rfl]
theorem uF_s {F : mj_F} {o k : Nat} {r : Option Nat} : mj_uF F o k r o k = r := by rw [mj_uF_eq]; exact if_pos rfl
theorem uF_k {F : mj_F} {o k j : Nat} {r : Option Nat} (h : j ≠ k) : mj_uF F o k r o j = F o j := by rw [mj_uF_eq]; exact if_neg h
theorem i0_z {t N k : Nat} (h : ¬ (t = 11 ∧ (N = 6 ∨ N = 2063)) := by decide) (h3 : ¬ t = 3 := by decide) : (0 : Int32) = mj_i0 t N k := by
  unfold mj_i0
  by_cases c : t = 11
  · rw [if_pos c, if_neg (fun g => h ⟨c, Or.inl g⟩), if_neg (fun g => h ⟨c, Or.inr g⟩)]
  · rw [if_neg c, if_neg (fun g => h3 g.1)]
/-- an int row, fresh -/
theorem gc_row {F : mj_F} {I : mj_I} {q N : Nat} (hs : mj_sh q = (11, N)) (hN : ¬ (N = 6 ∨ N = 2063)) (hI : ∀ k, I q k = 0) : GC F I q :=
  gc_mk hs (fun k _ hr => by
    rcases hr with g | g
    · exact absurd g (by decide)
    · cases g) (fun k => by rw [hI k]; exact i0_z (fun g => hN g.2))
section In
variable {F : mj_F} {I : mj_I} {o : Nat}
theorem I_X7 (hs : mj_sh o = (7, 2)) (h1 : mj_sh (o + 1) = (11, 40)) (ho : o + 2 ≤ 313) (hI : ∀ k, I o k = 0) : mj_R D_X7_init [.inr (some o)] (o + 1, F, I) (CP o (o + 2) F I) := by
  refine mj_enter (by decide +kernel) (Nat.le_of_ble_eq_true rfl) ?_
  have fin : ∀ (F' : mj_F) (I' : mj_I), F' = mj_uF (mj_nF F (o + 1)) o 0 (some (o + 1)) → I' = mj_nI I (o + 1) → CP o (o + 2) F I none (o + 2, F', I') := by
    rintro F' I' rfl rfl
    refine ⟨rfl, _, _, rfl, fun q hq => ⟨by rw [mj_uF_ne (by omega), nF_n (by omega)], by rw [nI_n (by omega)]⟩, fun q h2 h3 => ?_⟩
    rcases (show q = o ∨ q = o + 1 by omega) with rfl | rfl
    · refine gc_mk hs (fun k hk hr => ?_) (fun k => by rw [nI_n (by omega), hI k]; exact i0_z)
      rcases (show k = 0 ∨ k = 1 by omega) with rfl | rfl
      · rw [uF_s]; rfl
      · exact absurd hr (by decide)
    · exact gc_row h1 (by decide) (fun k => nI_s)
  refine J_ald S_X7_init rfl rfl ?_
  refine JO_obj S_X7_init rfl (by simp) ?_
  refine J_ald S_X7_init rfl rfl ?_
  refine J_C S_X7_init rfl ?_
  refine JO_newR S_X7_init rfl (by assumption) (by omega) (by decide) (by omega) (by omega) ?_
  refine JO_putR S_X7_init rfl (by assumption) (by omega) ?_
  refine J_retV S_X7_init rfl ?_
  exact fin _ _ rfl rfl
theorem I_X6 (hs : mj_sh o = (6, 1)) (h1 : mj_sh (o + 1) = (11, 24)) (ho : o + 2 ≤ 313) (hI : ∀ k, I o k = 0) : mj_R D_X6_init [.inr (some o)] (o + 1, F, I) (CP o (o + 2) F I) := by
  refine mj_enter (by decide +kernel) (Nat.le_of_ble_eq_true rfl) ?_
  have fin : ∀ (F' : mj_F) (I' : mj_I), F' = mj_uF (mj_nF F (o + 1)) o 0 (some (o + 1)) → I' = mj_nI I (o + 1) → CP o (o + 2) F I none (o + 2, F', I') := by
    rintro F' I' rfl rfl
    refine ⟨rfl, _, _, rfl, fun q hq => ⟨by rw [mj_uF_ne (by omega), nF_n (by omega)], by rw [nI_n (by omega)]⟩, fun q h2 h3 => ?_⟩
    rcases (show q = o ∨ q = o + 1 by omega) with rfl | rfl
    · refine gc_mk hs (fun k hk hr => ?_) (fun k => by rw [nI_n (by omega), hI k]; exact i0_z)
      obtain rfl : k = 0 := by omega
      rw [uF_s]; rfl
    · exact gc_row h1 (by decide) (fun k => nI_s)
  refine J_ald S_X6_init rfl rfl ?_
  refine JO_obj S_X6_init rfl (by simp) ?_
  refine J_ald S_X6_init rfl rfl ?_
  refine J_C S_X6_init rfl ?_
  refine JO_newR S_X6_init rfl (by assumption) (by omega) (by decide) (by omega) (by omega) ?_
  refine JO_putR S_X6_init rfl (by assumption) (by omega) ?_
  refine J_retV S_X6_init rfl ?_
  exact fin _ _ rfl rfl
theorem I_X2 (hs : mj_sh o = (2, 3)) (h1 : mj_sh (o + 1) = (11, 200)) (h2 : mj_sh (o + 1 + 1) = (11, 200)) (ho : o + 3 ≤ 313) (hI : ∀ k, I o k = 0) : mj_R D_X2_init [.inr (some o)] (o + 1, F, I) (CP o (o + 3) F I) := by
  refine mj_enter (by decide +kernel) (Nat.le_of_ble_eq_true rfl) ?_
  have fin : ∀ (F' : mj_F) (I' : mj_I), F' = mj_uF (mj_nF (mj_uF (mj_nF F (o + 1)) o 0 (some (o + 1))) (o + 1 + 1)) o 1 (some (o + 1 + 1)) → I' = mj_nI (mj_nI I (o + 1)) (o + 1 + 1) → CP o (o + 3) F I none (o + 3, F', I') := by
    rintro F' I' rfl rfl
    refine ⟨rfl, _, _, rfl, fun q hq => ⟨by rw [mj_uF_ne (by omega), nF_n (by omega), mj_uF_ne (by omega), nF_n (by omega)], by rw [nI_n (by omega), nI_n (by omega)]⟩, fun q h3 h4 => ?_⟩
    rcases (show q = o ∨ q = o + 1 ∨ q = o + 1 + 1 by omega) with rfl | rfl | rfl
    · refine gc_mk hs (fun k hk hr => ?_) (fun k => by rw [nI_n (by omega), nI_n (by omega), hI k]; exact i0_z)
      rcases (show k = 0 ∨ k = 1 ∨ k = 2 by omega) with rfl | rfl | rfl
      · rw [uF_k (by decide), nF_n (by omega), uF_s]; rfl
      · rw [uF_s]; rfl
      · exact absurd hr (by decide)
    · exact gc_row h1 (by decide) (fun k => by rw [nI_n (by omega)]; exact nI_s)
    · exact gc_row h2 (by decide) (fun k => nI_s)
  refine J_ald S_X2_init rfl rfl ?_
  refine JO_obj S_X2_init rfl (by simp) ?_
  refine J_ald S_X2_init rfl rfl ?_
  refine J_C S_X2_init rfl ?_
  refine JO_newR S_X2_init rfl (by assumption) (by omega) (by decide) (by omega) (by omega) ?_
  refine JO_putR S_X2_init rfl (by assumption) (by omega) ?_
  refine J_ald S_X2_init rfl rfl ?_
  refine J_C S_X2_init rfl ?_
  refine JO_newR S_X2_init rfl (by assumption) (by omega) (by decide) (by omega) (by omega) ?_
  refine JO_putR S_X2_init rfl (by assumption) (by omega) ?_
  refine J_retV S_X2_init rfl ?_
  exact fin _ _ rfl rfl
theorem I_X8 (hs : mj_sh o = (8, 11)) (ho : o + 1 ≤ 313) (hI : ∀ k, I o k = 0) : mj_R D_X8_init [.inr (some o)] (o + 1, F, I) (CP o (o + 1) F I) := by
  refine mj_enter (by decide +kernel) (Nat.le_of_ble_eq_true rfl) ?_
  have fin : CP o (o + 1) F I none (o + 1, F, I) := by
    refine ⟨rfl, _, _, rfl, fun q hq => ⟨rfl, rfl⟩, fun q h3 h4 => ?_⟩
    obtain rfl : q = o := by omega
    refine gc_mk hs (fun k hk hr => ?_) (fun k => by rw [hI k]; exact i0_z)
    rcases hr with g | g
    · exact absurd g (by decide)
    · cases g
  refine J_ald S_X8_init rfl rfl ?_
  refine JO_obj S_X8_init rfl (by simp) ?_
  refine J_retV S_X8_init rfl ?_
  exact fin
theorem I_X3 (hs : mj_sh o = (3, 8)) (h1 : mj_sh (o + 1) = (7, 2)) (h2 : mj_sh (o + 1 + 1) = (11, 40)) (ho : o + 3 ≤ 313) (hI : ∀ k, I o k = 0) : mj_R D_X3_init [.inr (some o)] (o + 1, F, I) (CP o (o + 3) F I) := by
  have h7 := I_X7 (F := mj_nF F (o + 1)) (I := mj_nI I (o + 1)) h1 h2 (by omega) (fun k => nI_s)
  refine mj_enter (by decide +kernel) (Nat.le_of_ble_eq_true rfl) ?_
  have fin : ∀ (F1 : mj_F) (I1 : mj_I), (∀ q, q < o + 1 → F1 q = mj_nF F (o + 1) q ∧ I1 q = mj_nI I (o + 1) q) → (∀ q, o + 1 ≤ q → q < o + 1 + 2 → GC F1 I1 q) → CP o (o + 3) F I none (o + 1 + 2, mj_uF F1 o 0 (some (o + 1)), mj_up I1 o 3 (-1)) := by
    intro F1 I1 a b
    refine ⟨rfl, _, _, rfl, fun q hq => ⟨by rw [mj_uF_ne (by omega), (a q (by omega)).1, nF_n (by omega)], by rw [mj_up_ne (by omega), (a q (by omega)).2, nI_n (by omega)]⟩, fun q h3 h4 => ?_⟩
    by_cases e : q = o
    · subst e
      refine gc_mk hs (fun k hk hr => ?_) (fun k => ?_)
      · rcases hr with g | g
        · exact absurd g (by decide)
        · obtain rfl : k = 0 := by
            have : k < 1 := of_decide_eq_true g
            omega
          rw [uF_s]; rfl
      · rw [mj_up_eq]
        by_cases c : k = 3
        · subst c; rw [up_s]; rfl
        · rw [up_n c, (a q (by omega)).2, nI_n (by omega), hI k]
          unfold mj_i0
          rw [if_neg (by decide), if_neg (fun g => c g.2)]
    · exact gc_fr (b q (by omega) (by omega)) (mj_uF_ne e) (mj_up_ne e)
  refine J_ald S_X3_init rfl rfl ?_
  refine JO_obj S_X3_init rfl (by simp) ?_
  refine J_ald S_X3_init rfl rfl ?_
  refine JO_new S_X3_init rfl (by assumption) (by omega) (by omega) (by omega) ?_
  refine J_dup S_X3_init rfl ?_
  refine JO_CI (mc := 1) (ms := 40) S_X3_init rfl rfl rfl rfl (by simp) (by omega) (by omega) (h7) ?_
  rintro _ _ ⟨rfl, F1, I1, rfl, a, b⟩
  refine JO_putR S_X3_init rfl (by assumption) (by omega) ?_
  refine J_ald S_X3_init rfl rfl ?_
  refine J_C S_X3_init rfl ?_
  refine JO_putI S_X3_init rfl (by assumption) (by omega) ?_
  refine J_retV S_X3_init rfl ?_
  exact fin F1 I1 a b
theorem I_X4 (hs : mj_sh o = (4, 2)) (h1 : mj_sh (o + 1) = (6, 1)) (h2 : mj_sh (o + 1 + 1) = (11, 24)) (h3 : mj_sh (o + 1 + 2) = (11, 8)) (ho : o + 4 ≤ 313) (hI : ∀ k, I o k = 0) : mj_R D_X4_init [.inr (some o)] (o + 1, F, I) (CP o (o + 4) F I) := by
  have h6 := I_X6 (F := mj_nF F (o + 1)) (I := mj_nI I (o + 1)) h1 h2 (by omega) (fun k => nI_s)
  refine mj_enter (by decide +kernel) (Nat.le_of_ble_eq_true rfl) ?_
  have fin : ∀ (F1 : mj_F) (I1 : mj_I), (∀ q, q < o + 1 → F1 q = mj_nF F (o + 1) q ∧ I1 q = mj_nI I (o + 1) q) → (∀ q, o + 1 ≤ q → q < o + 1 + 2 → GC F1 I1 q) → CP o (o + 4) F I none (o + 1 + 2 + 1, mj_uF (mj_nF (mj_uF F1 o 0 (some (o + 1))) (o + 1 + 2)) o 1 (some (o + 1 + 2)), mj_nI I1 (o + 1 + 2)) := by
    intro F1 I1 a b
    refine ⟨rfl, _, _, rfl, fun q hq => ⟨by rw [mj_uF_ne (by omega), nF_n (by omega), mj_uF_ne (by omega), (a q (by omega)).1, nF_n (by omega)], by rw [nI_n (by omega), (a q (by omega)).2, nI_n (by omega)]⟩, fun q h4 h5 => ?_⟩
    by_cases e : q = o
    · subst e
      refine gc_mk hs (fun k hk hr => ?_) (fun k => by rw [nI_n (by omega), (a q (by omega)).2, nI_n (by omega), hI k]; exact i0_z)
      rcases (show k = 0 ∨ k = 1 by omega) with rfl | rfl
      · rw [uF_k (by decide), nF_n (by omega), uF_s]; rfl
      · rw [uF_s]; rfl
    · by_cases e2 : q = o + 1 + 2
      · subst e2
        exact gc_row h3 (by decide) (fun k => nI_s)
      · exact gc_fr (b q (by omega) (by omega)) (by rw [mj_uF_ne e, nF_n e2, mj_uF_ne e]) (nI_n e2)
  refine J_ald S_X4_init rfl rfl ?_
  refine JO_obj S_X4_init rfl (by simp) ?_
  refine J_ald S_X4_init rfl rfl ?_
  refine JO_new S_X4_init rfl (by assumption) (by omega) (by omega) (by omega) ?_
  refine J_dup S_X4_init rfl ?_
  refine JO_CI (mc := 1) (ms := 24) S_X4_init rfl rfl rfl rfl (by simp) (by omega) (by omega) (h6) ?_
  rintro _ _ ⟨rfl, F1, I1, rfl, a, b⟩
  refine JO_putR S_X4_init rfl (by assumption) (by omega) ?_
  refine J_ald S_X4_init rfl rfl ?_
  refine J_C S_X4_init rfl ?_
  refine JO_newR S_X4_init rfl (by assumption) (by omega) (by decide) (by omega) (by omega) ?_
  refine JO_putR S_X4_init rfl (by assumption) (by omega) ?_
  refine J_retV S_X4_init rfl ?_
  exact fin F1 I1 a b
end In
