def mj_w (I : mj_I) : mj_M := (313, mj_RC, I)
def mj_ex (r : Option mj_V) (I : mj_I) : Option mj_V → mj_M → Prop := fun r' M' => r' = r ∧ M' = mj_w I
section MJR
variable {d : mj_D} {T : Nat → mj_O} {post : Option mj_V → mj_M → Prop} {pc : Nat} {L : List (Option mj_V)} {st rest : List mj_V} {M : mj_M} {I : mj_I} {z : Nat × Nat}
theorem mj_op1 (hT : ∀ pc, mj_S d pc (T pc)) {o : mj_O} (hp : T pc = o) (h : o pc L st M z (fun pc' L' st' M' z' => mj_J d post pc' L' st' M' z') (mj_Z d post)) : mj_J d post pc L st M z := by
  subst hp
  intro p l e s m args below meth c E hC
  exact hT pc p l e s m args below meth c E post hC L st M z _ h (fun _ _ _ _ _ h' => h' p l e s m args below meth c E hC)
theorem J_C (hT : ∀ pc, mj_S d pc (T pc)) {x : Int32} {n : Nat} (hp : T pc = oC x n) (h : mj_J d post (pc + n) L (.inl x :: st) M z) : mj_J d post pc L st M z := mj_op1 hT hp h
theorem J_null (hT : ∀ pc, mj_S d pc (T pc)) (hp : T pc = oNull) (h : mj_J d post (pc + 1) L (.inr none :: st) M z) : mj_J d post pc L st M z := mj_op1 hT hp h
theorem J_ild (hT : ∀ pc, mj_S d pc (T pc)) {i n : Nat} {x : Int32} (hp : T pc = oIld i n) (hl : mj_lg L i = some (.inl x)) (h : mj_J d post (pc + n) L (.inl x :: st) M z) : mj_J d post pc L st M z := mj_op1 hT hp (by unfold oIld; rw [hl]; exact h)
theorem J_ald (hT : ∀ pc, mj_S d pc (T pc)) {i n : Nat} {r : Option Nat} (hp : T pc = oAld i n) (hl : mj_lg L i = some (.inr r)) (h : mj_J d post (pc + n) L (.inr r :: st) M z) : mj_J d post pc L st M z := mj_op1 hT hp (by unfold oAld; rw [hl]; exact h)
theorem J_ist (hT : ∀ pc, mj_S d pc (T pc)) {i n : Nat} {x : Int32} {L' : List (Option mj_V)} (hp : T pc = oIst i n) (hl : mj_ls L i (.inl x) = L') (h : mj_J d post (pc + n) L' rest M z) : mj_J d post pc L (.inl x :: rest) M z := mj_op1 hT hp (by subst hl; exact h)
theorem J_ast (hT : ∀ pc, mj_S d pc (T pc)) {i n : Nat} {r : Option Nat} {L' : List (Option mj_V)} (hp : T pc = oAst i n) (hl : mj_ls L i (.inr r) = L') (h : mj_J d post (pc + n) L' rest M z) : mj_J d post pc L (.inr r :: rest) M z := mj_op1 hT hp (by subst hl; exact h)
theorem J_inc (hT : ∀ pc, mj_S d pc (T pc)) {i : Nat} {k x : Int32} {L' : List (Option mj_V)} (hp : T pc = oInc i k) (hl : mj_lg L i = some (.inl x)) (hl' : mj_ls L i (.inl (x + k)) = L') (h : mj_J d post (pc + 3) L' st M z) : mj_J d post pc L st M z := mj_op1 hT hp (by unfold oInc; rw [hl]; subst hl'; exact h)
theorem J_bin (hT : ∀ pc, mj_S d pc (T pc)) {f : Int32 → Int32 → Int32} {x y : Int32} (hp : T pc = oBin f) (h : mj_J d post (pc + 1) L (.inl (f x y) :: rest) M z) : mj_J d post pc L (.inl y :: .inl x :: rest) M z := mj_op1 hT hp h
theorem J_div (hT : ∀ pc, mj_S d pc (T pc)) {f : Int32 → Int32 → Int32} {x y : Int32} (hp : T pc = oDiv f) (hy : ¬ y = 0) (h : mj_J d post (pc + 1) L (.inl (f x y) :: rest) M z) : mj_J d post pc L (.inl y :: .inl x :: rest) M z := mj_op1 hT hp ⟨hy, h⟩
theorem J_un (hT : ∀ pc, mj_S d pc (T pc)) {f : Int32 → Int32} {x : Int32} (hp : T pc = oUn f) (h : mj_J d post (pc + 1) L (.inl (f x) :: rest) M z) : mj_J d post pc L (.inl x :: rest) M z := mj_op1 hT hp h
theorem J_dup (hT : ∀ pc, mj_S d pc (T pc)) {a : mj_V} (hp : T pc = oDup) (h : mj_J d post (pc + 1) L (a :: a :: rest) M z) : mj_J d post pc L (a :: rest) M z := mj_op1 hT hp h
theorem J_pop (hT : ∀ pc, mj_S d pc (T pc)) {a : mj_V} (hp : T pc = oPop) (h : mj_J d post (pc + 1) L rest M z) : mj_J d post pc L (a :: rest) M z := mj_op1 hT hp h
theorem J_dup2 (hT : ∀ pc, mj_S d pc (T pc)) {a b : mj_V} (hp : T pc = oDup2) (h : mj_J d post (pc + 1) L (a :: b :: a :: b :: rest) M z) : mj_J d post pc L (a :: b :: rest) M z := mj_op1 hT hp h
theorem J_if (hT : ∀ pc, mj_S d pc (T pc)) {P Q : Int32 → Prop} {t : Nat} {x : Int32} (hp : T pc = oIf P Q t) (kt : P x → mj_J d post t L rest M z) (kf : Q x → mj_J d post (pc + 3) L rest M z) : mj_J d post pc L (.inl x :: rest) M z := mj_op1 hT hp ⟨kt, kf⟩
theorem J_cmp (hT : ∀ pc, mj_S d pc (T pc)) {P Q : Int32 → Int32 → Prop} {t : Nat} {x y : Int32} (hp : T pc = oCmp P Q t) (kt : P x y → mj_J d post t L rest M z) (kf : Q x y → mj_J d post (pc + 3) L rest M z) : mj_J d post pc L (.inl y :: .inl x :: rest) M z := mj_op1 hT hp ⟨kt, kf⟩
theorem J_nuN (hT : ∀ pc, mj_S d pc (T pc)) {t : Nat} (hp : T pc = oIfNull t) (h : mj_J d post t L rest M z) : mj_J d post pc L (.inr none :: rest) M z := mj_op1 hT hp h
theorem J_nuS (hT : ∀ pc, mj_S d pc (T pc)) {t o : Nat} (hp : T pc = oIfNull t) (h : mj_J d post (pc + 3) L rest M z) : mj_J d post pc L (.inr (some o) :: rest) M z := mj_op1 hT hp h
theorem J_nnN (hT : ∀ pc, mj_S d pc (T pc)) {t : Nat} (hp : T pc = oIfNN t) (h : mj_J d post (pc + 3) L rest M z) : mj_J d post pc L (.inr none :: rest) M z := mj_op1 hT hp h
theorem J_nnS (hT : ∀ pc, mj_S d pc (T pc)) {t o : Nat} (hp : T pc = oIfNN t) (h : mj_J d post t L rest M z) : mj_J d post pc L (.inr (some o) :: rest) M z := mj_op1 hT hp h
theorem J_goto (hT : ∀ pc, mj_S d pc (T pc)) {t : Nat} (hp : T pc = oGoto t) (h : mj_J d post t L st M z) : mj_J d post pc L st M z := mj_op1 hT hp h
theorem J_sw (hT : ∀ pc, mj_S d pc (T pc)) {cs : List (Int32 × Nat)} {df : Nat} {x : Int32} (hp : T pc = oSw cs df) (h : mj_sw x (fun t => mj_J d post t L rest M z) df cs) : mj_J d post pc L (.inl x :: rest) M z := mj_op1 hT hp h
theorem J_retI (hT : ∀ pc, mj_S d pc (T pc)) {x : Int32} (hp : T pc = oRetI) (h : post (some (.inl x)) M) : mj_J d post pc L [.inl x] M z := mj_op1 hT hp h
theorem J_retZ (hT : ∀ pc, mj_S d pc (T pc)) {x : Int32} (hp : T pc = oRetZ) (hx : x = 0 ∨ x = 1) (h : post (some (.inl x)) M) : mj_J d post pc L [.inl x] M z := mj_op1 hT hp ⟨hx, h⟩
theorem J_retV (hT : ∀ pc, mj_S d pc (T pc)) (hp : T pc = oRetV) (h : post none M) : mj_J d post pc L [] M z := mj_op1 hT hp h
theorem J_retA (hT : ∀ pc, mj_S d pc (T pc)) {r : Option Nat} (hp : T pc = oRetA) (h : post (some (.inr r)) M) : mj_J d post pc L [.inr r] M z := mj_op1 hT hp h
theorem J_getI (hT : ∀ pc, mj_S d pc (T pc)) {t : Nat × Nat} {k o : Nat} (hp : T pc = oGetI t k) (hs : mj_sh o = t) (hn : o < 313) (h : mj_J d post (pc + 3) L (.inl (I o k) :: rest) (mj_w I) z) : mj_J d post pc L (.inr (some o) :: rest) (mj_w I) z := mj_op1 hT hp ⟨hs, hn, h⟩
theorem J_getR (hT : ∀ pc, mj_S d pc (T pc)) {t N k o o' : Nat} (hp : T pc = oGetR (t, N) k) (hs : mj_sh o = (t, N)) (hn : o < 313) (ho : mj_rc t o k = some o') (h : mj_J d post (pc + 3) L (.inr (some o') :: rest) (mj_w I) z) : mj_J d post pc L (.inr (some o) :: rest) (mj_w I) z := mj_op1 hT hp ⟨hs, hn, by
  have e : (mj_w I).2.1 o k = some o' := by show mj_rc (mj_sh o).1 o k = some o'; rw [hs]; exact ho
  rw [e]; exact h⟩
theorem J_putI (hT : ∀ pc, mj_S d pc (T pc)) {t : Nat × Nat} {k o : Nat} {x : Int32} (hp : T pc = oPutI t k) (hs : mj_sh o = t) (hn : o < 313) (h : mj_J d post (pc + 3) L rest (mj_w (mj_up I o k x)) z) : mj_J d post pc L (.inl x :: .inr (some o) :: rest) (mj_w I) z := mj_op1 hT hp ⟨hs, hn, h⟩
theorem J_putZ (hT : ∀ pc, mj_S d pc (T pc)) {t : Nat × Nat} {k o : Nat} {x : Int32} (hp : T pc = oPutZ t k) (hs : mj_sh o = t) (hn : o < 313) (hx : x = 0 ∨ x = 1) (h : mj_J d post (pc + 3) L rest (mj_w (mj_up I o k x)) z) : mj_J d post pc L (.inl x :: .inr (some o) :: rest) (mj_w I) z := mj_op1 hT hp ⟨hs, hn, hx, h⟩
theorem J_iald (hT : ∀ pc, mj_S d pc (T pc)) {o N j : Nat} {i : Int32} (hp : T pc = oIald) (hs : mj_sh o = (11, N)) (hn : o < 313) (hi : i = nI j) (hj : j < N) (hN : N < 2 ^ 31) (h : mj_J d post (pc + 1) L (.inl (I o j) :: rest) (mj_w I) z) : mj_J d post pc L (.inl i :: .inr (some o) :: rest) (mj_w I) z := mj_op1 hT hp ⟨by rw [hs], hn, by rw [hs, hi]; exact vp_in_nI hj hN, by rw [hi, nI_clamp (by omega)]; exact h⟩
theorem J_zald (hT : ∀ pc, mj_S d pc (T pc)) {o N j : Nat} {i : Int32} (hp : T pc = oZald) (hs : mj_sh o = (12, N)) (hn : o < 313) (hi : i = nI j) (hj : j < N) (hN : N < 2 ^ 31) (h : mj_J d post (pc + 1) L (.inl (I o j) :: rest) (mj_w I) z) : mj_J d post pc L (.inl i :: .inr (some o) :: rest) (mj_w I) z := mj_op1 hT hp ⟨by rw [hs], hn, by rw [hs, hi]; exact vp_in_nI hj hN, by rw [hi, nI_clamp (by omega)]; exact h⟩
theorem J_aald (hT : ∀ pc, mj_S d pc (T pc)) {t o o' N j : Nat} {i : Int32} (hp : T pc = oAald t) (hs : mj_sh o = (t, N)) (hn : o < 313) (hi : i = nI j) (hj : j < N) (hN : N < 2 ^ 31) (ho : mj_rc t o j = some o') (h : mj_J d post (pc + 1) L (.inr (some o') :: rest) (mj_w I) z) : mj_J d post pc L (.inl i :: .inr (some o) :: rest) (mj_w I) z := mj_op1 hT hp ⟨by rw [hs], hn, by rw [hs, hi]; exact vp_in_nI hj hN, by
  rw [hi, nI_clamp (by omega)]
  have e : (mj_w I).2.1 o j = some o' := by show mj_rc (mj_sh o).1 o j = some o'; rw [hs]; exact ho
  rw [e]; exact h⟩
theorem J_iast (hT : ∀ pc, mj_S d pc (T pc)) {o N j : Nat} {i x : Int32} (hp : T pc = oIast) (hs : mj_sh o = (11, N)) (hn : o < 313) (hi : i = nI j) (hj : j < N) (hN : N < 2 ^ 31) (h : mj_J d post (pc + 1) L rest (mj_w (mj_up I o j x)) z) : mj_J d post pc L (.inl x :: .inl i :: .inr (some o) :: rest) (mj_w I) z := mj_op1 hT hp ⟨by rw [hs], hn, by rw [hs, hi]; exact vp_in_nI hj hN, by rw [hi, nI_clamp (by omega)]; exact h⟩
theorem J_zast (hT : ∀ pc, mj_S d pc (T pc)) {o N j : Nat} {i x : Int32} (hp : T pc = oZast) (hs : mj_sh o = (12, N)) (hn : o < 313) (hi : i = nI j) (hj : j < N) (hN : N < 2 ^ 31) (hx : x = 0 ∨ x = 1) (h : mj_J d post (pc + 1) L rest (mj_w (mj_up I o j x)) z) : mj_J d post pc L (.inl x :: .inl i :: .inr (some o) :: rest) (mj_w I) z := mj_op1 hT hp ⟨by rw [hs], hn, by rw [hs, hi]; exact vp_in_nI hj hN, hx, by rw [hi, nI_clamp (by omega)]; exact h⟩
theorem J_len (hT : ∀ pc, mj_S d pc (T pc)) {t o N : Nat} (hp : T pc = oLen) (hs : mj_sh o = (t, N)) (hn : o < 313) (ht : 11 ≤ t ∧ t < 16) (h : mj_J d post (pc + 1) L (.inl (nI N) :: rest) (mj_w I) z) : mj_J d post pc L (.inr (some o) :: rest) (mj_w I) z := mj_op1 hT hp ⟨by rw [hs]; exact ht.1, by rw [hs]; exact ht.2, hn, by rw [hs]; exact h⟩
theorem J_gets (hT : ∀ pc, mj_S d pc (T pc)) {k : Nat} (hp : T pc = oGets k) (h : mj_J d post (pc + 3) L (.inr (some (1000 + k)) :: st) M z) : mj_J d post pc L st M z := mj_op1 hT hp h
theorem J_xald (hT : ∀ pc, mj_S d pc (T pc)) {k j : Nat} {i : Int32} (hp : T pc = oXald k) (hi : i = nI j) (hj : j < 6) (h : mj_J d post (pc + 1) L (.inl (mj_xc k j) :: rest) M z) : mj_J d post pc L (.inl i :: .inr (some (1000 + k)) :: rest) M z := mj_op1 hT hp ⟨rfl, by rw [hi]; exact vp_in_nI hj (by decide), by rw [hi, nI_clamp (by omega)]; exact h⟩
theorem J_xlen (hT : ∀ pc, mj_S d pc (T pc)) {k : Nat} (hp : T pc = oXlen k) (h : mj_J d post (pc + 1) L (.inl 6 :: rest) M z) : mj_J d post pc L (.inr (some (1000 + k)) :: rest) M z := mj_op1 hT hp ⟨rfl, h⟩
theorem J_ldcS (hT : ∀ pc, mj_S d pc (T pc)) {i : Nat} (hp : T pc = oLdcS i) (h : mj_J d post (pc + 2) L (.inr (some (1010 + i)) :: st) M z) : mj_J d post pc L st M z := mj_op1 hT hp h
theorem J_max (hT : ∀ pc, mj_S d pc (T pc)) {x y : Int32} (hp : T pc = oMax) (hr : rest.length ≤ 8) (h : mj_J d post (pc + 3) L (.inl (if x < y then y else x) :: rest) M z) : mj_J d post pc L (.inl y :: .inl x :: rest) M z := mj_op1 hT hp ⟨hr, h⟩
theorem J_min (hT : ∀ pc, mj_S d pc (T pc)) {x y : Int32} (hp : T pc = oMin) (hr : rest.length ≤ 8) (h : mj_J d post (pc + 3) L (.inl (if y < x then y else x) :: rest) M z) : mj_J d post pc L (.inl y :: .inl x :: rest) M z := mj_op1 hT hp ⟨hr, h⟩
/-- arraycopy of the first n of one row to another -/
theorem J_cpy (hT : ∀ pc, mj_S d pc (T pc)) {o0 o1 N0 N1 n : Nat} {k : Int32} (hp : T pc = oCpy) (hs0 : mj_sh o0 = (11, N0)) (hs1 : mj_sh o1 = (11, N1)) (h0 : o0 < 313) (h1 : o1 < 313) (hk : k = nI n) (hn0 : n ≤ N0) (hn1 : n ≤ N1) (hN : n < 2 ^ 31) (hr : rest.length ≤ 8)
    (h : mj_J d post (pc + 3) L rest (mj_w (mj_cp I o1 (va_cpy (I o0) (I o1) 0 0 n))) z) : mj_J d post pc L (.inl k :: .inl 0 :: .inr (some o1) :: .inl 0 :: .inr (some o0) :: rest) (mj_w I) z := by
  refine mj_op1 hT hp ⟨by rw [hs0], by rw [hs1], h0, h1, by decide, by decide, by rw [hk]; exact nI_pos hN, ?_, ?_, hr, ?_⟩
  · rw [hs0, hk, nI_clamp hN, show (0 : Int32).toNatClampNeg = 0 from rfl]; omega
  · rw [hs1, hk, nI_clamp hN, show (0 : Int32).toNatClampNeg = 0 from rfl]; omega
  · rw [hk, nI_clamp hN]; exact h
theorem J_CV (hT : ∀ pc, mj_S d pc (T pc)) {n o : Nat} {t : Nat × Nat} {d' : mj_D} {as : List mj_V} {post' : Option mj_V → mj_M → Prop} (hp : T pc = oCV n t d') (ha : mj_sp n st = some (as, .inr (some o) :: rest)) (hs : mj_sh o = t) (hn : o < 313) (hr : rest.length ≤ 8) (hc : mj_R d' (.inr (some o) :: as) (mj_w I) post')
    (h : ∀ r M', post' r M' → mj_J d post (pc + 3) L (r.toList ++ rest) M' z) : mj_J d post pc L st (mj_w I) z := mj_op1 hT hp (by unfold oCV; rw [ha]; exact ⟨hs, hn, hr, _, hc, h⟩)
theorem J_CS (hT : ∀ pc, mj_S d pc (T pc)) {n : Nat} {d' : mj_D} {as : List mj_V} {post' : Option mj_V → mj_M → Prop} (hp : T pc = oCS n d') (ha : mj_sp n st = some (as, rest)) (hr : rest.length ≤ 8) (hc : mj_R d' as M post')
    (h : ∀ r M', post' r M' → mj_J d post (pc + 3) L (r.toList ++ rest) M' z) : mj_J d post pc L st M z := mj_op1 hT hp (by unfold oCS; rw [ha]; exact ⟨hr, _, hc, h⟩)
theorem J_CJ (hT : ∀ pc, mj_S d pc (T pc)) {n i : Nat} {d' : mj_D} {as : List mj_V} {post' : Option mj_V → mj_M → Prop} (hp : T pc = oCJ n d') (ha : mj_sp n st = some (as, .inr (some (1010 + i)) :: rest)) (hi : i < 8) (hr : rest.length ≤ 8) (hc : mj_R d' (.inr (some (1010 + i)) :: as) M post')
    (h : ∀ r M', post' r M' → mj_J d post (pc + 3) L (r.toList ++ rest) M' z) : mj_J d post pc L st M z := mj_op1 hT hp (by unfold oCJ; rw [ha]; exact ⟨⟨i, hi, rfl⟩, hr, _, hc, h⟩)
/-- calls with one answer -/
theorem J_CVx (hT : ∀ pc, mj_S d pc (T pc)) {n o : Nat} {t : Nat × Nat} {d' : mj_D} {as st' : List mj_V} {r : Option mj_V} {I' : mj_I} (hp : T pc = oCV n t d') (ha : mj_sp n st = some (as, .inr (some o) :: rest)) (hs : mj_sh o = t) (hn : o < 313) (hr : rest.length ≤ 8) (hc : mj_R d' (.inr (some o) :: as) (mj_w I) (mj_ex r I')) (hst : r.toList ++ rest = st')
    (h : mj_J d post (pc + 3) L st' (mj_w I') z) : mj_J d post pc L st (mj_w I) z := J_CV hT hp ha hs hn hr hc (by rintro _ _ ⟨rfl, rfl⟩; rw [hst]; exact h)
theorem J_CSx (hT : ∀ pc, mj_S d pc (T pc)) {n : Nat} {d' : mj_D} {as st' : List mj_V} {r : Option mj_V} {I' : mj_I} (hp : T pc = oCS n d') (ha : mj_sp n st = some (as, rest)) (hr : rest.length ≤ 8) (hc : mj_R d' as (mj_w I) (mj_ex r I')) (hst : r.toList ++ rest = st')
    (h : mj_J d post (pc + 3) L st' (mj_w I') z) : mj_J d post pc L st (mj_w I) z := J_CS hT hp ha hr hc (by rintro _ _ ⟨rfl, rfl⟩; rw [hst]; exact h)
theorem J_CJx (hT : ∀ pc, mj_S d pc (T pc)) {n i : Nat} {d' : mj_D} {as st' : List mj_V} {r : Option mj_V} {I' : mj_I} (hp : T pc = oCJ n d') (ha : mj_sp n st = some (as, .inr (some (1010 + i)) :: rest)) (hi : i < 8) (hr : rest.length ≤ 8) (hc : mj_R d' (.inr (some (1010 + i)) :: as) (mj_w I) (mj_ex r I')) (hst : r.toList ++ rest = st')
    (h : mj_J d post (pc + 3) L st' (mj_w I') z) : mj_J d post pc L st (mj_w I) z := J_CJ hT hp ha hi hr hc (by rintro _ _ ⟨rfl, rfl⟩; rw [hst]; exact h)
theorem mj_R.mono {as : List mj_V} {post' : Option mj_V → mj_M → Prop} (h : mj_R d as M post) (hp : ∀ r M', post r M' → post' r M') : mj_R d as M post' := by
  intro l E p e ha hb hc s m args below hf happ hpre hk
  obtain ⟨n, o, g1, g2, g3, ⟨⟨r, M', e1, e2, e3⟩, g4⟩, g5⟩ := h l E p e ha hb hc s m args below hf happ hpre hk
  exact ⟨n, o, g1, g2, g3, ⟨⟨r, M', e1, hp _ _ e2, e3⟩, g4⟩, g5⟩
end MJR
