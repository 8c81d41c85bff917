def law_p : Option mj_V → mj_M → Prop := fun r _ => r = some (.inl 1)
/-- the law's walk, its script at the place 1050 -/
def LJ (b N : Nat) (xs : Nat → Int32) (pc : Nat) (L : List (Option mj_V)) (st : List mj_V) (M : mj_M) (z : Nat × Nat) : Prop :=
  ∀ (p : Program) (l : Launch) (e : Env) (s : State) (m : MethodId) (args : Array Value) (below : List Frame) (meth : Method) (c : Code) (E : mj_E), mj_C p l e s m args below meth c E D_L_law → va_X b N xs s s.heap → b < E.2.2.1 → E.2.2.1 = s.heap.size → E.2.2.2 50 = b → mj_G p l e s m args below meth c E D_L_law law_p pc L st M z
section KL
variable {T : Nat → mj_O} {pc b N : Nat} {xs : Nat → Int32} {L : List (Option mj_V)} {st rest : List mj_V} {M : mj_M} {I : mj_I} {z : Nat × Nat}
theorem K_op1 (hT : ∀ pc, mj_S D_L_law pc (T pc)) {o : mj_O} (hp : T pc = o) (h : o pc L st M z (fun pc' L' st' M' z' => LJ b N xs pc' L' st' M' z') (mj_Z D_L_law law_p)) : LJ b N xs pc L st M z := by
  subst hp
  intro p l e s m args below meth c E hC h1 h2 h3 h4
  exact hT pc p l e s m args below meth c E law_p hC L st M z _ h (fun _ _ _ _ _ h' => h' p l e s m args below meth c E hC h1 h2 h3 h4)
theorem K_C (hT : ∀ pc, mj_S D_L_law pc (T pc)) {x : Int32} {n : Nat} (hp : T pc = oC x n) (h : LJ b N xs (pc + n) L (.inl x :: st) M z) : LJ b N xs pc L st M z := K_op1 hT hp h
theorem K_ild (hT : ∀ pc, mj_S D_L_law pc (T pc)) {i n : Nat} {x : Int32} (hp : T pc = oIld i n) (hl : mj_lg L i = some (.inl x)) (h : LJ b N xs (pc + n) L (.inl x :: st) M z) : LJ b N xs pc L st M z := K_op1 hT hp (by unfold oIld; rw [hl]; exact h)
theorem K_ald (hT : ∀ pc, mj_S D_L_law pc (T pc)) {i n : Nat} {r : Option Nat} (hp : T pc = oAld i n) (hl : mj_lg L i = some (.inr r)) (h : LJ b N xs (pc + n) L (.inr r :: st) M z) : LJ b N xs pc L st M z := K_op1 hT hp (by unfold oAld; rw [hl]; exact h)
theorem K_ist (hT : ∀ pc, mj_S D_L_law pc (T pc)) {i n : Nat} {x : Int32} {L' : List (Option mj_V)} (hp : T pc = oIst i n) (hl : mj_ls L i (.inl x) = L') (h : LJ b N xs (pc + n) L' rest M z) : LJ b N xs pc L (.inl x :: rest) M z := K_op1 hT hp (by subst hl; exact h)
theorem K_ast (hT : ∀ pc, mj_S D_L_law pc (T pc)) {i n : Nat} {r : Option Nat} {L' : List (Option mj_V)} (hp : T pc = oAst i n) (hl : mj_ls L i (.inr r) = L') (h : LJ b N xs (pc + n) L' rest M z) : LJ b N xs pc L (.inr r :: rest) M z := K_op1 hT hp (by subst hl; exact h)
theorem K_inc (hT : ∀ pc, mj_S D_L_law pc (T pc)) {i : Nat} {k x : Int32} {L' : List (Option mj_V)} (hp : T pc = oInc i k) (hl : mj_lg L i = some (.inl x)) (hl' : mj_ls L i (.inl (x + k)) = L') (h : LJ b N xs (pc + 3) L' st M z) : LJ b N xs pc L st M z := K_op1 hT hp (by unfold oInc; rw [hl]; subst hl'; exact h)
theorem K_bin (hT : ∀ pc, mj_S D_L_law pc (T pc)) {f : Int32 → Int32 → Int32} {x y : Int32} (hp : T pc = oBin f) (h : LJ b N xs (pc + 1) L (.inl (f x y) :: rest) M z) : LJ b N xs pc L (.inl y :: .inl x :: rest) M z := K_op1 hT hp h
theorem K_dup (hT : ∀ pc, mj_S D_L_law pc (T pc)) {a : mj_V} (hp : T pc = oDup) (h : LJ b N xs (pc + 1) L (a :: a :: rest) M z) : LJ b N xs pc L (a :: rest) M z := K_op1 hT hp h
theorem K_cmp (hT : ∀ pc, mj_S D_L_law pc (T pc)) {P Q : Int32 → Int32 → Prop} {t : Nat} {x y : Int32} (hp : T pc = oCmp P Q t) (kt : P x y → LJ b N xs t L rest M z) (kf : Q x y → LJ b N xs (pc + 3) L rest M z) : LJ b N xs pc L (.inl y :: .inl x :: rest) M z := K_op1 hT hp ⟨kt, kf⟩
theorem K_goto (hT : ∀ pc, mj_S D_L_law pc (T pc)) {t : Nat} (hp : T pc = oGoto t) (h : LJ b N xs t L st M z) : LJ b N xs pc L st M z := K_op1 hT hp h
theorem K_sw (hT : ∀ pc, mj_S D_L_law pc (T pc)) {cs : List (Int32 × Nat)} {df : Nat} {x : Int32} (hp : T pc = oSw cs df) (h : mj_sw x (fun t => LJ b N xs t L rest M z) df cs) : LJ b N xs pc L (.inl x :: rest) M z := K_op1 hT hp h
theorem K_CV (hT : ∀ pc, mj_S D_L_law pc (T pc)) {n o : Nat} {t : Nat × Nat} {d' : mj_D} {as : List mj_V} {post' : Option mj_V → mj_M → Prop} (hp : T pc = oCV n t d') (ha : mj_sp n st = some (as, .inr (some o) :: rest)) (hs : mj_sh o = t) (hn : o < 321) (hr : rest.length ≤ 8) (hc : mj_R d' (.inr (some o) :: as) (mj_w I) post')
    (h : ∀ r M', post' r M' → LJ b N xs (pc + 3) L (r.toList ++ rest) M' z) : LJ b N xs pc L st (mj_w I) z := K_op1 hT hp (by unfold oCV; rw [ha]; exact ⟨hs, hn, hr, _, hc, h⟩)
theorem K_retZ (hT : ∀ pc, mj_S D_L_law pc (T pc)) (hp : T pc = oRetZ) : LJ b N xs pc L [.inl 1] M z := K_op1 hT hp ⟨Or.inr rfl, rfl⟩
theorem K_slen (hdg : decode cL_law pc = .ok (.arraylength, 1)) (h : LJ b N xs (pc + 1) L (.inl (nI N) :: rest) M z) : LJ b N xs pc L (.inr (some 1050) :: rest) M z := by
  intro p l e s m args below meth c E hC h1 h2 h3 h4 z1 z2 H locs ls hH hS hL
  have ha : mj_ad E 1050 = b := (mj_adx E 50).trans h4
  show W p l e _ s m args below meth c H locs z.1 z.2 _ (F0 m pc ls (.ref (mj_ad E 1050) :: rest.map (mj_cv E)))
  rw [ha]
  exact va_slen hC.1 hC.2.1 h1 (by omega) (show ¬ E.2.2.1 ≤ b by omega) hS hdg (h p l e s m args below meth c E hC h1 h2 h3 h4 z1 z2 H locs ls hH hS hL)
theorem K_sld (hdg : decode cL_law pc = .ok (.iaload, 1)) {i : Int32} {j : Nat} (hi : i = nI j) (hj : j < N ∧ N < 2 ^ 31) (h : LJ b N xs (pc + 1) L (.inl (xs j) :: rest) M z) : LJ b N xs pc L (.inl i :: .inr (some 1050) :: rest) M z := by
  intro p l e s m args below meth c E hC h1 h2 h3 h4 z1 z2 H locs ls hH hS hL
  have ha : mj_ad E 1050 = b := (mj_adx E 50).trans h4
  show W p l e _ s m args below meth c H locs z.1 z.2 _ (F0 m pc ls (.int i :: .ref (mj_ad E 1050) :: rest.map (mj_cv E)))
  rw [ha, hi]
  refine va_sld hC.1 hC.2.1 h1 (by omega) (show ¬ E.2.2.1 ≤ b by omega) hS (vp_in_nI hj.1 hj.2) hdg ?_
  rw [nI_clamp (show j < 2 ^ 31 by omega)]
  exact h p l e s m args below meth c E hC h1 h2 h3 h4 z1 z2 H locs ls hH hS hL
theorem KO_new {n : Nat} {F : mj_F} {c s : Nat} (hT : ∀ pc, mj_S D_L_law pc (T pc)) {t A bc bs : Nat} (hp : T pc = oNew (t, A) bc bs) (hs : mj_sh n = (t, A)) (hn : n < 321) (h1 : c + 1 ≤ bc) (h2 : s + A ≤ bs) (h : LJ b N xs (pc + 3) L (.inr (some n) :: st) (n + 1, mj_nF F n, mj_nI I n) (c + 1, s + A)) : LJ b N xs pc L st (n, F, I) (c, s) :=
  K_op1 hT hp ⟨hs, (show n + 1 ≤ 1000 by omega), h1, h2, h⟩
theorem KO_CI {n : Nat} {F : mj_F} {c s : Nat} (hT : ∀ pc, mj_S D_L_law pc (T pc)) {k o bc bs mc ms : Nat} {d' : mj_D} {as : List mj_V} {post' : Option mj_V → mj_M → Prop} (hp : T pc = oCI k d' bc bs) (ha : mj_sp k st = some (as, .inr (some o) :: rest)) (h1 : mj_mc d' = mc) (h2 : mj_ms d' = ms) (hr : rest.length ≤ 8) (h3 : c + mc ≤ bc) (h4 : s + ms ≤ bs) (hc : mj_R d' (.inr (some o) :: as) (n, F, I) post')
    (h : ∀ r M', post' r M' → LJ b N xs (pc + 3) L (r.toList ++ rest) M' (c + mc, s + ms)) : LJ b N xs pc L st (n, F, I) (c, s) := by
  subst h1 h2
  refine K_op1 hT hp ?_
  unfold oCI
  rw [ha]
  exact ⟨hr, h3, h4, _, hc, h⟩
theorem K_cg {n : Nat} {F F' : mj_F} {I' : mj_I} (hF : ∀ q, q < n → ∀ k, k < (mj_sh q).2 → refy q k → F' q k = F q k) (hI : ∀ q, q < n → I' q = I q) (h : LJ b N xs pc L st (n, F', I') z) : LJ b N xs pc L st (n, F, I) z :=
  fun p l e s m args below meth c E hC g1 g2 g3 g4 h1 h2 H locs ls hH hS hL => h p l e s m args below meth c E hC g1 g2 g3 g4 h1 h2 H locs ls (mj_H_cg hF hI hH) hS hL
theorem K_z {c s c' s' : Nat} (h1 : c = c') (h2 : s = s') (h : LJ b N xs pc L st M (c', s')) : LJ b N xs pc L st M (c, s) := by
  subst h1 h2
  exact h
end KL
section LW
variable {b N : Nat} {xs : Nat → Int32}
abbrev lwL (i : Nat) : List (Option mj_V) := [some (.inr (some 1050)), some (.inr (some 0)), some (.inr (some 313)), some (.inl (nI i))]
abbrev lwz : Nat × Nat := (321, 22599)
theorem law_0 {I : mj_I} {i : Nat} (hN : N ≤ 2048) (hi : i + 4 ≤ N) (h : Rl I) (hk : ∀ I2, Rl I2 → LJ b N xs 746 (lwL i) [] (mj_w I2) lwz) : LJ b N xs 144 (lwL i) [] (mj_w I) lwz := by
  have m0 := s_0
  have m1 := s_313
  obtain ⟨x, Q, hx, hm⟩ := P_put h (xs (i + 1)) (xs (i + 2)) (xs (i + 3))
  refine K_ald S_L_law rfl rfl ?_
  refine K_ald S_L_law rfl rfl ?_
  refine K_ild S_L_law rfl rfl ?_
  refine K_C S_L_law rfl ?_
  refine K_bin S_L_law rfl ?_
  refine K_sld dL_law_149 (j := i + 1) (nI_add i 1) ⟨by omega, by omega⟩ ?_
  refine K_ald S_L_law rfl rfl ?_
  refine K_ild S_L_law rfl rfl ?_
  refine K_C S_L_law rfl ?_
  refine K_bin S_L_law rfl ?_
  refine K_sld dL_law_154 (j := i + 2) (nI_add i 2) ⟨by omega, by omega⟩ ?_
  refine K_ald S_L_law rfl rfl ?_
  refine K_ild S_L_law rfl rfl ?_
  refine K_C S_L_law rfl ?_
  refine K_bin S_L_law rfl ?_
  refine K_sld dL_law_159 (j := i + 3) (nI_add i 3) ⟨by omega, by omega⟩ ?_
  refine K_CV S_L_law rfl rfl (by assumption) (by omega) (by simp) (hx) ?_
  rintro _ _ ⟨I1, rfl, rfl, q⟩
  refine K_ald S_L_law rfl rfl ?_
  refine K_ald S_L_law rfl rfl ?_
  refine K_ild S_L_law rfl rfl ?_
  refine K_C S_L_law rfl ?_
  refine K_bin S_L_law rfl ?_
  refine K_sld dL_law_168 (j := i + 1) (nI_add i 1) ⟨by omega, by omega⟩ ?_
  refine K_ald S_L_law rfl rfl ?_
  refine K_ild S_L_law rfl rfl ?_
  refine K_C S_L_law rfl ?_
  refine K_bin S_L_law rfl ?_
  refine K_sld dL_law_173 (j := i + 2) (nI_add i 2) ⟨by omega, by omega⟩ ?_
  refine K_ald S_L_law rfl rfl ?_
  refine K_ild S_L_law rfl rfl ?_
  refine K_C S_L_law rfl ?_
  refine K_bin S_L_law rfl ?_
  refine K_sld dL_law_178 (j := i + 3) (nI_add i 3) ⟨by omega, by omega⟩ ?_
  refine K_CV S_L_law rfl rfl (by assumption) (by omega) (by simp) (hm I1 q) ?_
  rintro _ _ ⟨I2, rfl, rfl, hR2⟩
  refine K_cmp S_L_law rfl (fun c182 => ?_) (fun c182 => False.elim (c182 rfl))
  exact hk I2 hR2
theorem law_1 {I : mj_I} {i : Nat} (hN : N ≤ 2048) (hi : i + 4 ≤ N) (h : Rl I) (hk : ∀ I2, Rl I2 → LJ b N xs 746 (lwL i) [] (mj_w I2) lwz) : LJ b N xs 187 (lwL i) [] (mj_w I) lwz := by
  have m0 := s_0
  have m1 := s_313
  obtain ⟨x, Q, hx, hm⟩ := P_define h 
  refine K_ald S_L_law rfl rfl ?_
  refine K_CV S_L_law rfl rfl (by assumption) (by omega) (by simp) (hx) ?_
  rintro _ _ ⟨I1, rfl, rfl, q⟩
  refine K_ald S_L_law rfl rfl ?_
  refine K_CV S_L_law rfl rfl (by assumption) (by omega) (by simp) (hm I1 q) ?_
  rintro _ _ ⟨I2, rfl, rfl, hR2⟩
  refine K_cmp S_L_law rfl (fun c195 => ?_) (fun c195 => False.elim (c195 rfl))
  exact hk I2 hR2
theorem law_2 {I : mj_I} {i : Nat} (hN : N ≤ 2048) (hi : i + 4 ≤ N) (h : Rl I) (hk : ∀ I2, Rl I2 → LJ b N xs 746 (lwL i) [] (mj_w I2) lwz) : LJ b N xs 200 (lwL i) [] (mj_w I) lwz := by
  have m0 := s_0
  have m1 := s_313
  obtain ⟨x, Q, hx, hm⟩ := P_drop h (xs (i + 1))
  refine K_ald S_L_law rfl rfl ?_
  refine K_ald S_L_law rfl rfl ?_
  refine K_ild S_L_law rfl rfl ?_
  refine K_C S_L_law rfl ?_
  refine K_bin S_L_law rfl ?_
  refine K_sld dL_law_205 (j := i + 1) (nI_add i 1) ⟨by omega, by omega⟩ ?_
  refine K_CV S_L_law rfl rfl (by assumption) (by omega) (by simp) (hx) ?_
  rintro _ _ ⟨I1, rfl, rfl, q⟩
  refine K_ald S_L_law rfl rfl ?_
  refine K_ald S_L_law rfl rfl ?_
  refine K_ild S_L_law rfl rfl ?_
  refine K_C S_L_law rfl ?_
  refine K_bin S_L_law rfl ?_
  refine K_sld dL_law_214 (j := i + 1) (nI_add i 1) ⟨by omega, by omega⟩ ?_
  refine K_CV S_L_law rfl rfl (by assumption) (by omega) (by simp) (hm I1 q) ?_
  rintro _ _ ⟨I2, rfl, rfl, hR2⟩
  refine K_cmp S_L_law rfl (fun c218 => ?_) (fun c218 => False.elim (c218 rfl))
  exact hk I2 hR2
theorem law_3 {I : mj_I} {i : Nat} (hN : N ≤ 2048) (hi : i + 4 ≤ N) (h : Rl I) (hk : ∀ I2, Rl I2 → LJ b N xs 746 (lwL i) [] (mj_w I2) lwz) : LJ b N xs 223 (lwL i) [] (mj_w I) lwz := by
  have m0 := s_0
  have m1 := s_313
  obtain ⟨x, Q, hx, hm⟩ := P_set h (xs (i + 1)) (xs (i + 2))
  refine K_ald S_L_law rfl rfl ?_
  refine K_ald S_L_law rfl rfl ?_
  refine K_ild S_L_law rfl rfl ?_
  refine K_C S_L_law rfl ?_
  refine K_bin S_L_law rfl ?_
  refine K_sld dL_law_228 (j := i + 1) (nI_add i 1) ⟨by omega, by omega⟩ ?_
  refine K_ald S_L_law rfl rfl ?_
  refine K_ild S_L_law rfl rfl ?_
  refine K_C S_L_law rfl ?_
  refine K_bin S_L_law rfl ?_
  refine K_sld dL_law_233 (j := i + 2) (nI_add i 2) ⟨by omega, by omega⟩ ?_
  refine K_CV S_L_law rfl rfl (by assumption) (by omega) (by simp) (hx) ?_
  rintro _ _ ⟨I1, rfl, rfl, q⟩
  refine K_ald S_L_law rfl rfl ?_
  refine K_ald S_L_law rfl rfl ?_
  refine K_ild S_L_law rfl rfl ?_
  refine K_C S_L_law rfl ?_
  refine K_bin S_L_law rfl ?_
  refine K_sld dL_law_242 (j := i + 1) (nI_add i 1) ⟨by omega, by omega⟩ ?_
  refine K_ald S_L_law rfl rfl ?_
  refine K_ild S_L_law rfl rfl ?_
  refine K_C S_L_law rfl ?_
  refine K_bin S_L_law rfl ?_
  refine K_sld dL_law_247 (j := i + 2) (nI_add i 2) ⟨by omega, by omega⟩ ?_
  refine K_CV S_L_law rfl rfl (by assumption) (by omega) (by simp) (hm I1 q) ?_
  rintro _ _ ⟨I2, rfl, rfl, hR2⟩
  refine K_cmp S_L_law rfl (fun c251 => ?_) (fun c251 => False.elim (c251 rfl))
  exact hk I2 hR2
theorem law_4 {I : mj_I} {i : Nat} (hN : N ≤ 2048) (hi : i + 4 ≤ N) (h : Rl I) (hk : ∀ I2, Rl I2 → LJ b N xs 746 (lwL i) [] (mj_w I2) lwz) : LJ b N xs 256 (lwL i) [] (mj_w I) lwz := by
  have m0 := s_0
  have m1 := s_313
  obtain ⟨x, Q, hx, hm⟩ := P_grant h (xs (i + 1))
  refine K_ald S_L_law rfl rfl ?_
  refine K_ald S_L_law rfl rfl ?_
  refine K_ild S_L_law rfl rfl ?_
  refine K_C S_L_law rfl ?_
  refine K_bin S_L_law rfl ?_
  refine K_sld dL_law_261 (j := i + 1) (nI_add i 1) ⟨by omega, by omega⟩ ?_
  refine K_CV S_L_law rfl rfl (by assumption) (by omega) (by simp) (hx) ?_
  rintro _ _ ⟨I1, rfl, rfl, q⟩
  refine K_ald S_L_law rfl rfl ?_
  refine K_ald S_L_law rfl rfl ?_
  refine K_ild S_L_law rfl rfl ?_
  refine K_C S_L_law rfl ?_
  refine K_bin S_L_law rfl ?_
  refine K_sld dL_law_270 (j := i + 1) (nI_add i 1) ⟨by omega, by omega⟩ ?_
  refine K_CV S_L_law rfl rfl (by assumption) (by omega) (by simp) (hm I1 q) ?_
  rintro _ _ ⟨I2, rfl, rfl, hR2⟩
  refine K_cmp S_L_law rfl (fun c274 => ?_) (fun c274 => False.elim (c274 rfl))
  exact hk I2 hR2
theorem law_5 {I : mj_I} {i : Nat} (hN : N ≤ 2048) (hi : i + 4 ≤ N) (h : Rl I) (hk : ∀ I2, Rl I2 → LJ b N xs 746 (lwL i) [] (mj_w I2) lwz) : LJ b N xs 279 (lwL i) [] (mj_w I) lwz := by
  have m0 := s_0
  have m1 := s_313
  obtain ⟨x, Q, hx, hm⟩ := P_tick h 
  refine K_ald S_L_law rfl rfl ?_
  refine K_CV S_L_law rfl rfl (by assumption) (by omega) (by simp) (hx) ?_
  rintro _ _ ⟨I1, rfl, rfl, q⟩
  refine K_ald S_L_law rfl rfl ?_
  refine K_CV S_L_law rfl rfl (by assumption) (by omega) (by simp) (hm I1 q) ?_
  rintro _ _ ⟨I2, rfl, rfl, hR2⟩
  refine K_cmp S_L_law rfl (fun c287 => ?_) (fun c287 => False.elim (c287 rfl))
  exact hk I2 hR2
theorem law_6 {I : mj_I} {i : Nat} (hN : N ≤ 2048) (hi : i + 4 ≤ N) (h : Rl I) (hk : ∀ I2, Rl I2 → LJ b N xs 746 (lwL i) [] (mj_w I2) lwz) : LJ b N xs 292 (lwL i) [] (mj_w I) lwz := by
  have m0 := s_0
  have m1 := s_313
  obtain ⟨x, Q, hx, hm⟩ := P_pay h (xs (i + 1)) (xs (i + 2))
  refine K_ald S_L_law rfl rfl ?_
  refine K_ald S_L_law rfl rfl ?_
  refine K_ild S_L_law rfl rfl ?_
  refine K_C S_L_law rfl ?_
  refine K_bin S_L_law rfl ?_
  refine K_sld dL_law_297 (j := i + 1) (nI_add i 1) ⟨by omega, by omega⟩ ?_
  refine K_ald S_L_law rfl rfl ?_
  refine K_ild S_L_law rfl rfl ?_
  refine K_C S_L_law rfl ?_
  refine K_bin S_L_law rfl ?_
  refine K_sld dL_law_302 (j := i + 2) (nI_add i 2) ⟨by omega, by omega⟩ ?_
  refine K_CV S_L_law rfl rfl (by assumption) (by omega) (by simp) (hx) ?_
  rintro _ _ ⟨I1, rfl, rfl, q⟩
  refine K_ald S_L_law rfl rfl ?_
  refine K_ald S_L_law rfl rfl ?_
  refine K_ild S_L_law rfl rfl ?_
  refine K_C S_L_law rfl ?_
  refine K_bin S_L_law rfl ?_
  refine K_sld dL_law_311 (j := i + 1) (nI_add i 1) ⟨by omega, by omega⟩ ?_
  refine K_ald S_L_law rfl rfl ?_
  refine K_ild S_L_law rfl rfl ?_
  refine K_C S_L_law rfl ?_
  refine K_bin S_L_law rfl ?_
  refine K_sld dL_law_316 (j := i + 2) (nI_add i 2) ⟨by omega, by omega⟩ ?_
  refine K_CV S_L_law rfl rfl (by assumption) (by omega) (by simp) (hm I1 q) ?_
  rintro _ _ ⟨I2, rfl, rfl, hR2⟩
  refine K_cmp S_L_law rfl (fun c320 => ?_) (fun c320 => False.elim (c320 rfl))
  exact hk I2 hR2
theorem law_7 {I : mj_I} {i : Nat} (hN : N ≤ 2048) (hi : i + 4 ≤ N) (h : Rl I) (hk : ∀ I2, Rl I2 → LJ b N xs 746 (lwL i) [] (mj_w I2) lwz) : LJ b N xs 325 (lwL i) [] (mj_w I) lwz := by
  have m0 := s_0
  have m1 := s_313
  obtain ⟨x, Q, hx, hm⟩ := P_payAll h 
  refine K_ald S_L_law rfl rfl ?_
  refine K_CV S_L_law rfl rfl (by assumption) (by omega) (by simp) (hx) ?_
  rintro _ _ ⟨I1, rfl, rfl, q⟩
  refine K_ald S_L_law rfl rfl ?_
  refine K_CV S_L_law rfl rfl (by assumption) (by omega) (by simp) (hm I1 q) ?_
  rintro _ _ ⟨I2, rfl, rfl, hR2⟩
  refine K_cmp S_L_law rfl (fun c333 => ?_) (fun c333 => False.elim (c333 rfl))
  exact hk I2 hR2
theorem law_8 {I : mj_I} {i : Nat} (hN : N ≤ 2048) (hi : i + 4 ≤ N) (h : Rl I) (hk : ∀ I2, Rl I2 → LJ b N xs 746 (lwL i) [] (mj_w I2) lwz) : LJ b N xs 338 (lwL i) [] (mj_w I) lwz := by
  have m0 := s_0
  have m1 := s_313
  obtain ⟨x, Q, hx, hm⟩ := P_found h (xs (i + 1))
  refine K_ald S_L_law rfl rfl ?_
  refine K_ald S_L_law rfl rfl ?_
  refine K_ild S_L_law rfl rfl ?_
  refine K_C S_L_law rfl ?_
  refine K_bin S_L_law rfl ?_
  refine K_sld dL_law_343 (j := i + 1) (nI_add i 1) ⟨by omega, by omega⟩ ?_
  refine K_CV S_L_law rfl rfl (by assumption) (by omega) (by simp) (hx) ?_
  rintro _ _ ⟨I1, rfl, rfl, q⟩
  refine K_ald S_L_law rfl rfl ?_
  refine K_ald S_L_law rfl rfl ?_
  refine K_ild S_L_law rfl rfl ?_
  refine K_C S_L_law rfl ?_
  refine K_bin S_L_law rfl ?_
  refine K_sld dL_law_352 (j := i + 1) (nI_add i 1) ⟨by omega, by omega⟩ ?_
  refine K_CV S_L_law rfl rfl (by assumption) (by omega) (by simp) (hm I1 q) ?_
  rintro _ _ ⟨I2, rfl, rfl, hR2⟩
  refine K_cmp S_L_law rfl (fun c356 => ?_) (fun c356 => False.elim (c356 rfl))
  exact hk I2 hR2
theorem law_9 {I : mj_I} {i : Nat} (hN : N ≤ 2048) (hi : i + 4 ≤ N) (h : Rl I) (hk : ∀ I2, Rl I2 → LJ b N xs 746 (lwL i) [] (mj_w I2) lwz) : LJ b N xs 361 (lwL i) [] (mj_w I) lwz := by
  have m0 := s_0
  have m1 := s_313
  obtain ⟨x, Q, hx, hm⟩ := P_take h (xs (i + 1))
  refine K_ald S_L_law rfl rfl ?_
  refine K_ald S_L_law rfl rfl ?_
  refine K_ild S_L_law rfl rfl ?_
  refine K_C S_L_law rfl ?_
  refine K_bin S_L_law rfl ?_
  refine K_sld dL_law_366 (j := i + 1) (nI_add i 1) ⟨by omega, by omega⟩ ?_
  refine K_CV S_L_law rfl rfl (by assumption) (by omega) (by simp) (hx) ?_
  rintro _ _ ⟨I1, rfl, rfl, q⟩
  refine K_ald S_L_law rfl rfl ?_
  refine K_ald S_L_law rfl rfl ?_
  refine K_ild S_L_law rfl rfl ?_
  refine K_C S_L_law rfl ?_
  refine K_bin S_L_law rfl ?_
  refine K_sld dL_law_375 (j := i + 1) (nI_add i 1) ⟨by omega, by omega⟩ ?_
  refine K_CV S_L_law rfl rfl (by assumption) (by omega) (by simp) (hm I1 q) ?_
  rintro _ _ ⟨I2, rfl, rfl, hR2⟩
  refine K_cmp S_L_law rfl (fun c379 => ?_) (fun c379 => False.elim (c379 rfl))
  exact hk I2 hR2
theorem law_10 {I : mj_I} {i : Nat} (hN : N ≤ 2048) (hi : i + 4 ≤ N) (h : Rl I) (hk : ∀ I2, Rl I2 → LJ b N xs 746 (lwL i) [] (mj_w I2) lwz) : LJ b N xs 384 (lwL i) [] (mj_w I) lwz := by
  have m0 := s_0
  have m1 := s_313
  obtain ⟨x, Q, hx, hm⟩ := P_restore h (xs (i + 1))
  refine K_ald S_L_law rfl rfl ?_
  refine K_ald S_L_law rfl rfl ?_
  refine K_ild S_L_law rfl rfl ?_
  refine K_C S_L_law rfl ?_
  refine K_bin S_L_law rfl ?_
  refine K_sld dL_law_389 (j := i + 1) (nI_add i 1) ⟨by omega, by omega⟩ ?_
  refine K_CV S_L_law rfl rfl (by assumption) (by omega) (by simp) (hx) ?_
  rintro _ _ ⟨I1, rfl, rfl, q⟩
  refine K_ald S_L_law rfl rfl ?_
  refine K_ald S_L_law rfl rfl ?_
  refine K_ild S_L_law rfl rfl ?_
  refine K_C S_L_law rfl ?_
  refine K_bin S_L_law rfl ?_
  refine K_sld dL_law_398 (j := i + 1) (nI_add i 1) ⟨by omega, by omega⟩ ?_
  refine K_CV S_L_law rfl rfl (by assumption) (by omega) (by simp) (hm I1 q) ?_
  rintro _ _ ⟨I2, rfl, rfl, hR2⟩
  refine K_cmp S_L_law rfl (fun c402 => ?_) (fun c402 => False.elim (c402 rfl))
  exact hk I2 hR2
theorem law_11 {I : mj_I} {i : Nat} (hN : N ≤ 2048) (hi : i + 4 ≤ N) (h : Rl I) (hk : ∀ I2, Rl I2 → LJ b N xs 746 (lwL i) [] (mj_w I2) lwz) : LJ b N xs 407 (lwL i) [] (mj_w I) lwz := by
  have m0 := s_0
  have m1 := s_313
  obtain ⟨x, Q, hx, hm⟩ := P_undo h 
  refine K_ald S_L_law rfl rfl ?_
  refine K_CV S_L_law rfl rfl (by assumption) (by omega) (by simp) (hx) ?_
  rintro _ _ ⟨I1, rfl, rfl, q⟩
  refine K_ald S_L_law rfl rfl ?_
  refine K_CV S_L_law rfl rfl (by assumption) (by omega) (by simp) (hm I1 q) ?_
  rintro _ _ ⟨I2, rfl, rfl, hR2⟩
  refine K_cmp S_L_law rfl (fun c415 => ?_) (fun c415 => False.elim (c415 rfl))
  exact hk I2 hR2
theorem law_12 {I : mj_I} {i : Nat} (hN : N ≤ 2048) (hi : i + 4 ≤ N) (h : Rl I) (hk : ∀ I2, Rl I2 → LJ b N xs 746 (lwL i) [] (mj_w I2) lwz) : LJ b N xs 420 (lwL i) [] (mj_w I) lwz := by
  have m0 := s_0
  have m1 := s_313
  obtain ⟨x, Q, hx, hm⟩ := P_append h (xs (i + 1))
  refine K_ald S_L_law rfl rfl ?_
  refine K_ald S_L_law rfl rfl ?_
  refine K_ild S_L_law rfl rfl ?_
  refine K_C S_L_law rfl ?_
  refine K_bin S_L_law rfl ?_
  refine K_sld dL_law_425 (j := i + 1) (nI_add i 1) ⟨by omega, by omega⟩ ?_
  refine K_CV S_L_law rfl rfl (by assumption) (by omega) (by simp) (hx) ?_
  rintro _ _ ⟨I1, rfl, rfl, q⟩
  refine K_ald S_L_law rfl rfl ?_
  refine K_ald S_L_law rfl rfl ?_
  refine K_ild S_L_law rfl rfl ?_
  refine K_C S_L_law rfl ?_
  refine K_bin S_L_law rfl ?_
  refine K_sld dL_law_434 (j := i + 1) (nI_add i 1) ⟨by omega, by omega⟩ ?_
  refine K_CV S_L_law rfl rfl (by assumption) (by omega) (by simp) (hm I1 q) ?_
  rintro _ _ ⟨I2, rfl, rfl, hR2⟩
  refine K_cmp S_L_law rfl (fun c438 => ?_) (fun c438 => False.elim (c438 rfl))
  exact hk I2 hR2
theorem law_13 {I : mj_I} {i : Nat} (hN : N ≤ 2048) (hi : i + 4 ≤ N) (h : Rl I) (hk : ∀ I2, Rl I2 → LJ b N xs 746 (lwL i) [] (mj_w I2) lwz) : LJ b N xs 443 (lwL i) [] (mj_w I) lwz := by
  have m0 := s_0
  have m1 := s_313
  obtain ⟨x, Q, hx, hm⟩ := P_clearText h 
  refine K_ald S_L_law rfl rfl ?_
  refine K_CV S_L_law rfl rfl (by assumption) (by omega) (by simp) (hx) ?_
  rintro _ _ ⟨I1, rfl, rfl, q⟩
  refine K_ald S_L_law rfl rfl ?_
  refine K_CV S_L_law rfl rfl (by assumption) (by omega) (by simp) (hm I1 q) ?_
  rintro _ _ ⟨I2, rfl, rfl, hR2⟩
  refine K_cmp S_L_law rfl (fun c451 => ?_) (fun c451 => False.elim (c451 rfl))
  exact hk I2 hR2
theorem law_14 {I : mj_I} {i : Nat} (hN : N ≤ 2048) (hi : i + 4 ≤ N) (h : Rl I) (hk : ∀ I2, Rl I2 → LJ b N xs 746 (lwL i) [] (mj_w I2) lwz) : LJ b N xs 456 (lwL i) [] (mj_w I) lwz := by
  have m0 := s_0
  have m1 := s_313
  obtain ⟨x, Q, hx, hm⟩ := P_count h (xs (i + 1))
  refine K_ald S_L_law rfl rfl ?_
  refine K_ald S_L_law rfl rfl ?_
  refine K_ild S_L_law rfl rfl ?_
  refine K_C S_L_law rfl ?_
  refine K_bin S_L_law rfl ?_
  refine K_sld dL_law_461 (j := i + 1) (nI_add i 1) ⟨by omega, by omega⟩ ?_
  refine K_CV S_L_law rfl rfl (by assumption) (by omega) (by simp) (hx) ?_
  rintro _ _ ⟨I1, rfl, rfl, q⟩
  refine K_ald S_L_law rfl rfl ?_
  refine K_ald S_L_law rfl rfl ?_
  refine K_ild S_L_law rfl rfl ?_
  refine K_C S_L_law rfl ?_
  refine K_bin S_L_law rfl ?_
  refine K_sld dL_law_470 (j := i + 1) (nI_add i 1) ⟨by omega, by omega⟩ ?_
  refine K_CV S_L_law rfl rfl (by assumption) (by omega) (by simp) (hm I1 q) ?_
  rintro _ _ ⟨I2, rfl, rfl, hR2⟩
  refine K_cmp S_L_law rfl (fun c474 => ?_) (fun c474 => False.elim (c474 rfl))
  exact hk I2 hR2
theorem law_15 {I : mj_I} {i : Nat} (hN : N ≤ 2048) (hi : i + 4 ≤ N) (h : Rl I) (hk : ∀ I2, Rl I2 → LJ b N xs 746 (lwL i) [] (mj_w I2) lwz) : LJ b N xs 479 (lwL i) [] (mj_w I) lwz := by
  have m0 := s_0
  have m1 := s_313
  obtain ⟨x, Q, hx, hm⟩ := P_value h (xs (i + 1)) (xs (i + 2)) (xs (i + 3))
  refine K_ald S_L_law rfl rfl ?_
  refine K_ald S_L_law rfl rfl ?_
  refine K_ild S_L_law rfl rfl ?_
  refine K_C S_L_law rfl ?_
  refine K_bin S_L_law rfl ?_
  refine K_sld dL_law_484 (j := i + 1) (nI_add i 1) ⟨by omega, by omega⟩ ?_
  refine K_ald S_L_law rfl rfl ?_
  refine K_ild S_L_law rfl rfl ?_
  refine K_C S_L_law rfl ?_
  refine K_bin S_L_law rfl ?_
  refine K_sld dL_law_489 (j := i + 2) (nI_add i 2) ⟨by omega, by omega⟩ ?_
  refine K_ald S_L_law rfl rfl ?_
  refine K_ild S_L_law rfl rfl ?_
  refine K_C S_L_law rfl ?_
  refine K_bin S_L_law rfl ?_
  refine K_sld dL_law_494 (j := i + 3) (nI_add i 3) ⟨by omega, by omega⟩ ?_
  refine K_CV S_L_law rfl rfl (by assumption) (by omega) (by simp) (hx) ?_
  rintro _ _ ⟨I1, rfl, rfl, q⟩
  refine K_ald S_L_law rfl rfl ?_
  refine K_ald S_L_law rfl rfl ?_
  refine K_ild S_L_law rfl rfl ?_
  refine K_C S_L_law rfl ?_
  refine K_bin S_L_law rfl ?_
  refine K_sld dL_law_503 (j := i + 1) (nI_add i 1) ⟨by omega, by omega⟩ ?_
  refine K_ald S_L_law rfl rfl ?_
  refine K_ild S_L_law rfl rfl ?_
  refine K_C S_L_law rfl ?_
  refine K_bin S_L_law rfl ?_
  refine K_sld dL_law_508 (j := i + 2) (nI_add i 2) ⟨by omega, by omega⟩ ?_
  refine K_ald S_L_law rfl rfl ?_
  refine K_ild S_L_law rfl rfl ?_
  refine K_C S_L_law rfl ?_
  refine K_bin S_L_law rfl ?_
  refine K_sld dL_law_513 (j := i + 3) (nI_add i 3) ⟨by omega, by omega⟩ ?_
  refine K_CV S_L_law rfl rfl (by assumption) (by omega) (by simp) (hm I1 q) ?_
  rintro _ _ ⟨I2, rfl, rfl, hR2⟩
  refine K_cmp S_L_law rfl (fun c517 => ?_) (fun c517 => False.elim (c517 rfl))
  exact hk I2 hR2
theorem law_16 {I : mj_I} {i : Nat} (hN : N ≤ 2048) (hi : i + 4 ≤ N) (h : Rl I) (hk : ∀ I2, Rl I2 → LJ b N xs 746 (lwL i) [] (mj_w I2) lwz) : LJ b N xs 522 (lwL i) [] (mj_w I) lwz := by
  have m0 := s_0
  have m1 := s_313
  obtain ⟨x, Q, hx, hm⟩ := P_change h (xs (i + 1)) (xs (i + 2))
  refine K_ald S_L_law rfl rfl ?_
  refine K_ald S_L_law rfl rfl ?_
  refine K_ild S_L_law rfl rfl ?_
  refine K_C S_L_law rfl ?_
  refine K_bin S_L_law rfl ?_
  refine K_sld dL_law_527 (j := i + 1) (nI_add i 1) ⟨by omega, by omega⟩ ?_
  refine K_ald S_L_law rfl rfl ?_
  refine K_ild S_L_law rfl rfl ?_
  refine K_C S_L_law rfl ?_
  refine K_bin S_L_law rfl ?_
  refine K_sld dL_law_532 (j := i + 2) (nI_add i 2) ⟨by omega, by omega⟩ ?_
  refine K_CV S_L_law rfl rfl (by assumption) (by omega) (by simp) (hx) ?_
  rintro _ _ ⟨I1, rfl, rfl, q⟩
  refine K_ald S_L_law rfl rfl ?_
  refine K_ald S_L_law rfl rfl ?_
  refine K_ild S_L_law rfl rfl ?_
  refine K_C S_L_law rfl ?_
  refine K_bin S_L_law rfl ?_
  refine K_sld dL_law_541 (j := i + 1) (nI_add i 1) ⟨by omega, by omega⟩ ?_
  refine K_ald S_L_law rfl rfl ?_
  refine K_ild S_L_law rfl rfl ?_
  refine K_C S_L_law rfl ?_
  refine K_bin S_L_law rfl ?_
  refine K_sld dL_law_546 (j := i + 2) (nI_add i 2) ⟨by omega, by omega⟩ ?_
  refine K_CV S_L_law rfl rfl (by assumption) (by omega) (by simp) (hm I1 q) ?_
  rintro _ _ ⟨I2, rfl, rfl, hR2⟩
  refine K_cmp S_L_law rfl (fun c550 => ?_) (fun c550 => False.elim (c550 rfl))
  exact hk I2 hR2
theorem law_17 {I : mj_I} {i : Nat} (hN : N ≤ 2048) (hi : i + 4 ≤ N) (h : Rl I) (hk : ∀ I2, Rl I2 → LJ b N xs 746 (lwL i) [] (mj_w I2) lwz) : LJ b N xs 555 (lwL i) [] (mj_w I) lwz := by
  have m0 := s_0
  have m1 := s_313
  obtain ⟨x, Q, hx, hm⟩ := P_view h (xs (i + 1)) (xs (i + 2))
  refine K_ald S_L_law rfl rfl ?_
  refine K_ald S_L_law rfl rfl ?_
  refine K_ild S_L_law rfl rfl ?_
  refine K_C S_L_law rfl ?_
  refine K_bin S_L_law rfl ?_
  refine K_sld dL_law_560 (j := i + 1) (nI_add i 1) ⟨by omega, by omega⟩ ?_
  refine K_ald S_L_law rfl rfl ?_
  refine K_ild S_L_law rfl rfl ?_
  refine K_C S_L_law rfl ?_
  refine K_bin S_L_law rfl ?_
  refine K_sld dL_law_565 (j := i + 2) (nI_add i 2) ⟨by omega, by omega⟩ ?_
  refine K_CV S_L_law rfl rfl (by assumption) (by omega) (by simp) (hx) ?_
  rintro _ _ ⟨I1, rfl, rfl, q⟩
  refine K_ald S_L_law rfl rfl ?_
  refine K_ald S_L_law rfl rfl ?_
  refine K_ild S_L_law rfl rfl ?_
  refine K_C S_L_law rfl ?_
  refine K_bin S_L_law rfl ?_
  refine K_sld dL_law_574 (j := i + 1) (nI_add i 1) ⟨by omega, by omega⟩ ?_
  refine K_ald S_L_law rfl rfl ?_
  refine K_ild S_L_law rfl rfl ?_
  refine K_C S_L_law rfl ?_
  refine K_bin S_L_law rfl ?_
  refine K_sld dL_law_579 (j := i + 2) (nI_add i 2) ⟨by omega, by omega⟩ ?_
  refine K_CV S_L_law rfl rfl (by assumption) (by omega) (by simp) (hm I1 q) ?_
  rintro _ _ ⟨I2, rfl, rfl, hR2⟩
  refine K_cmp S_L_law rfl (fun c583 => ?_) (fun c583 => False.elim (c583 rfl))
  exact hk I2 hR2
theorem law_18 {I : mj_I} {i : Nat} (hN : N ≤ 2048) (hi : i + 4 ≤ N) (h : Rl I) (hk : ∀ I2, Rl I2 → LJ b N xs 746 (lwL i) [] (mj_w I2) lwz) : LJ b N xs 588 (lwL i) [] (mj_w I) lwz := by
  have m0 := s_0
  have m1 := s_313
  obtain ⟨x, Q, hx, hm⟩ := P_kept h (xs (i + 1))
  refine K_ald S_L_law rfl rfl ?_
  refine K_ald S_L_law rfl rfl ?_
  refine K_ild S_L_law rfl rfl ?_
  refine K_C S_L_law rfl ?_
  refine K_bin S_L_law rfl ?_
  refine K_sld dL_law_593 (j := i + 1) (nI_add i 1) ⟨by omega, by omega⟩ ?_
  refine K_CV S_L_law rfl rfl (by assumption) (by omega) (by simp) (hx) ?_
  rintro _ _ ⟨I1, rfl, rfl, q⟩
  refine K_ald S_L_law rfl rfl ?_
  refine K_ald S_L_law rfl rfl ?_
  refine K_ild S_L_law rfl rfl ?_
  refine K_C S_L_law rfl ?_
  refine K_bin S_L_law rfl ?_
  refine K_sld dL_law_602 (j := i + 1) (nI_add i 1) ⟨by omega, by omega⟩ ?_
  refine K_CV S_L_law rfl rfl (by assumption) (by omega) (by simp) (hm I1 q) ?_
  rintro _ _ ⟨I2, rfl, rfl, hR2⟩
  refine K_cmp S_L_law rfl (fun c606 => ?_) (fun c606 => False.elim (c606 rfl))
  exact hk I2 hR2
theorem law_19 {I : mj_I} {i : Nat} (hN : N ≤ 2048) (hi : i + 4 ≤ N) (h : Rl I) (hk : ∀ I2, Rl I2 → LJ b N xs 746 (lwL i) [] (mj_w I2) lwz) : LJ b N xs 611 (lwL i) [] (mj_w I) lwz := by
  have m0 := s_0
  have m1 := s_313
  obtain ⟨x, Q, hx, hm⟩ := P_ask h (xs (i + 1)) (xs (i + 2)) (xs (i + 3))
  refine K_ald S_L_law rfl rfl ?_
  refine K_ald S_L_law rfl rfl ?_
  refine K_ild S_L_law rfl rfl ?_
  refine K_C S_L_law rfl ?_
  refine K_bin S_L_law rfl ?_
  refine K_sld dL_law_616 (j := i + 1) (nI_add i 1) ⟨by omega, by omega⟩ ?_
  refine K_ald S_L_law rfl rfl ?_
  refine K_ild S_L_law rfl rfl ?_
  refine K_C S_L_law rfl ?_
  refine K_bin S_L_law rfl ?_
  refine K_sld dL_law_621 (j := i + 2) (nI_add i 2) ⟨by omega, by omega⟩ ?_
  refine K_ald S_L_law rfl rfl ?_
  refine K_ild S_L_law rfl rfl ?_
  refine K_C S_L_law rfl ?_
  refine K_bin S_L_law rfl ?_
  refine K_sld dL_law_626 (j := i + 3) (nI_add i 3) ⟨by omega, by omega⟩ ?_
  refine K_CV S_L_law rfl rfl (by assumption) (by omega) (by simp) (hx) ?_
  rintro _ _ ⟨I1, rfl, rfl, q⟩
  refine K_ald S_L_law rfl rfl ?_
  refine K_ald S_L_law rfl rfl ?_
  refine K_ild S_L_law rfl rfl ?_
  refine K_C S_L_law rfl ?_
  refine K_bin S_L_law rfl ?_
  refine K_sld dL_law_635 (j := i + 1) (nI_add i 1) ⟨by omega, by omega⟩ ?_
  refine K_ald S_L_law rfl rfl ?_
  refine K_ild S_L_law rfl rfl ?_
  refine K_C S_L_law rfl ?_
  refine K_bin S_L_law rfl ?_
  refine K_sld dL_law_640 (j := i + 2) (nI_add i 2) ⟨by omega, by omega⟩ ?_
  refine K_ald S_L_law rfl rfl ?_
  refine K_ild S_L_law rfl rfl ?_
  refine K_C S_L_law rfl ?_
  refine K_bin S_L_law rfl ?_
  refine K_sld dL_law_645 (j := i + 3) (nI_add i 3) ⟨by omega, by omega⟩ ?_
  refine K_CV S_L_law rfl rfl (by assumption) (by omega) (by simp) (hm I1 q) ?_
  rintro _ _ ⟨I2, rfl, rfl, hR2⟩
  refine K_cmp S_L_law rfl (fun c649 => ?_) (fun c649 => False.elim (c649 rfl))
  exact hk I2 hR2
theorem law_20 {I : mj_I} {i : Nat} (hN : N ≤ 2048) (hi : i + 4 ≤ N) (h : Rl I) (hk : ∀ I2, Rl I2 → LJ b N xs 746 (lwL i) [] (mj_w I2) lwz) : LJ b N xs 654 (lwL i) [] (mj_w I) lwz := by
  have m0 := s_0
  have m1 := s_313
  obtain ⟨x, Q, hx, hm⟩ := P_ruin h (xs (i + 1))
  refine K_ald S_L_law rfl rfl ?_
  refine K_ald S_L_law rfl rfl ?_
  refine K_ild S_L_law rfl rfl ?_
  refine K_C S_L_law rfl ?_
  refine K_bin S_L_law rfl ?_
  refine K_sld dL_law_659 (j := i + 1) (nI_add i 1) ⟨by omega, by omega⟩ ?_
  refine K_CV S_L_law rfl rfl (by assumption) (by omega) (by simp) (hx) ?_
  rintro _ _ ⟨I1, rfl, rfl, q⟩
  refine K_ald S_L_law rfl rfl ?_
  refine K_ald S_L_law rfl rfl ?_
  refine K_ild S_L_law rfl rfl ?_
  refine K_C S_L_law rfl ?_
  refine K_bin S_L_law rfl ?_
  refine K_sld dL_law_668 (j := i + 1) (nI_add i 1) ⟨by omega, by omega⟩ ?_
  refine K_CV S_L_law rfl rfl (by assumption) (by omega) (by simp) (hm I1 q) ?_
  rintro _ _ ⟨I2, rfl, rfl, hR2⟩
  refine K_cmp S_L_law rfl (fun c672 => ?_) (fun c672 => False.elim (c672 rfl))
  exact hk I2 hR2
theorem law_21 {I : mj_I} {i : Nat} (hN : N ≤ 2048) (hi : i + 4 ≤ N) (h : Rl I) (hk : ∀ I2, Rl I2 → LJ b N xs 746 (lwL i) [] (mj_w I2) lwz) : LJ b N xs 677 (lwL i) [] (mj_w I) lwz := by
  have m0 := s_0
  have m1 := s_313
  obtain ⟨x, Q, hx, hm⟩ := P_settled h (xs (i + 1)) (xs (i + 2))
  refine K_ald S_L_law rfl rfl ?_
  refine K_ald S_L_law rfl rfl ?_
  refine K_ild S_L_law rfl rfl ?_
  refine K_C S_L_law rfl ?_
  refine K_bin S_L_law rfl ?_
  refine K_sld dL_law_682 (j := i + 1) (nI_add i 1) ⟨by omega, by omega⟩ ?_
  refine K_ald S_L_law rfl rfl ?_
  refine K_ild S_L_law rfl rfl ?_
  refine K_C S_L_law rfl ?_
  refine K_bin S_L_law rfl ?_
  refine K_sld dL_law_687 (j := i + 2) (nI_add i 2) ⟨by omega, by omega⟩ ?_
  refine K_CV S_L_law rfl rfl (by assumption) (by omega) (by simp) (hx) ?_
  rintro _ _ ⟨I1, rfl, rfl, q⟩
  refine K_ald S_L_law rfl rfl ?_
  refine K_ald S_L_law rfl rfl ?_
  refine K_ild S_L_law rfl rfl ?_
  refine K_C S_L_law rfl ?_
  refine K_bin S_L_law rfl ?_
  refine K_sld dL_law_696 (j := i + 1) (nI_add i 1) ⟨by omega, by omega⟩ ?_
  refine K_ald S_L_law rfl rfl ?_
  refine K_ild S_L_law rfl rfl ?_
  refine K_C S_L_law rfl ?_
  refine K_bin S_L_law rfl ?_
  refine K_sld dL_law_701 (j := i + 2) (nI_add i 2) ⟨by omega, by omega⟩ ?_
  refine K_CV S_L_law rfl rfl (by assumption) (by omega) (by simp) (hm I1 q) ?_
  rintro _ _ ⟨I2, rfl, rfl, hR2⟩
  refine K_cmp S_L_law rfl (fun c705 => ?_) (fun c705 => False.elim (c705 rfl))
  exact hk I2 hR2
theorem law_22 {I : mj_I} {i : Nat} (hN : N ≤ 2048) (hi : i + 4 ≤ N) (h : Rl I) (hk : ∀ I2, Rl I2 → LJ b N xs 746 (lwL i) [] (mj_w I2) lwz) : LJ b N xs 710 (lwL i) [] (mj_w I) lwz := by
  have m0 := s_0
  have m1 := s_313
  obtain ⟨x, Q, hx, hm⟩ := P_needed h 
  refine K_ald S_L_law rfl rfl ?_
  refine K_CV S_L_law rfl rfl (by assumption) (by omega) (by simp) (hx) ?_
  rintro _ _ ⟨I1, rfl, rfl, q⟩
  refine K_ald S_L_law rfl rfl ?_
  refine K_CV S_L_law rfl rfl (by assumption) (by omega) (by simp) (hm I1 q) ?_
  rintro _ _ ⟨I2, rfl, rfl, hR2⟩
  refine K_cmp S_L_law rfl (fun c718 => ?_) (fun c718 => False.elim (c718 rfl))
  exact hk I2 hR2
theorem law_23 {I : mj_I} {i : Nat} (hN : N ≤ 2048) (hi : i + 4 ≤ N) (h : Rl I) (hk : ∀ I2, Rl I2 → LJ b N xs 746 (lwL i) [] (mj_w I2) lwz) : LJ b N xs 723 (lwL i) [] (mj_w I) lwz := by
  have m0 := s_0
  have m1 := s_313
  obtain ⟨x, Q, hx, hm⟩ := P_since h (xs (i + 1))
  refine K_ald S_L_law rfl rfl ?_
  refine K_ald S_L_law rfl rfl ?_
  refine K_ild S_L_law rfl rfl ?_
  refine K_C S_L_law rfl ?_
  refine K_bin S_L_law rfl ?_
  refine K_sld dL_law_728 (j := i + 1) (nI_add i 1) ⟨by omega, by omega⟩ ?_
  refine K_CV S_L_law rfl rfl (by assumption) (by omega) (by simp) (hx) ?_
  rintro _ _ ⟨I1, rfl, rfl, q⟩
  refine K_ald S_L_law rfl rfl ?_
  refine K_ald S_L_law rfl rfl ?_
  refine K_ild S_L_law rfl rfl ?_
  refine K_C S_L_law rfl ?_
  refine K_bin S_L_law rfl ?_
  refine K_sld dL_law_737 (j := i + 1) (nI_add i 1) ⟨by omega, by omega⟩ ?_
  refine K_CV S_L_law rfl rfl (by assumption) (by omega) (by simp) (hm I1 q) ?_
  rintro _ _ ⟨I2, rfl, rfl, hR2⟩
  refine K_cmp S_L_law rfl (fun c741 => ?_) (fun c741 => False.elim (c741 rfl))
  exact hk I2 hR2
theorem law_sw {I : mj_I} {i : Nat} (hN : N ≤ 2048) (hi : i + 4 ≤ N) (h : Rl I) (hk : ∀ I2, Rl I2 → LJ b N xs 746 (lwL i) [] (mj_w I2) lwz) : LJ b N xs 32 (lwL i) [.inl (xs i &&& 31)] (mj_w I) lwz := by
  obtain ⟨j, hj, hy⟩ := pk_andE (xs i) (m := 31) 5 (by decide)
  rw [hy]
  have hj : j < 32 := hj
  rcases Nat.lt_or_ge j 24 with h24 | h24
  · rcases (show j = 0 ∨ j = 1 ∨ j = 2 ∨ j = 3 ∨ j = 4 ∨ j = 5 ∨ j = 6 ∨ j = 7 ∨ j = 8 ∨ j = 9 ∨ j = 10 ∨ j = 11 ∨ j = 12 ∨ j = 13 ∨ j = 14 ∨ j = 15 ∨ j = 16 ∨ j = 17 ∨ j = 18 ∨ j = 19 ∨ j = 20 ∨ j = 21 ∨ j = 22 ∨ j = 23 by omega) with rfl | rfl | rfl | rfl | rfl | rfl | rfl | rfl | rfl | rfl | rfl | rfl | rfl | rfl | rfl | rfl | rfl | rfl | rfl | rfl | rfl | rfl | rfl | rfl
    · refine K_sw S_L_law rfl ⟨fun _ => ?_, fun c => False.elim (by revert c; decide)⟩
      exact law_0 hN hi h hk
    · refine K_sw S_L_law rfl ⟨fun c => False.elim (by revert c; decide), fun _ => ⟨fun _ => ?_, fun c => False.elim (by revert c; decide)⟩⟩
      exact law_1 hN hi h hk
    · refine K_sw S_L_law rfl ⟨fun c => False.elim (by revert c; decide), fun _ => ⟨fun c => False.elim (by revert c; decide), fun _ => ⟨fun _ => ?_, fun c => False.elim (by revert c; decide)⟩⟩⟩
      exact law_2 hN hi h hk
    · refine K_sw S_L_law rfl ⟨fun c => False.elim (by revert c; decide), fun _ => ⟨fun c => False.elim (by revert c; decide), fun _ => ⟨fun c => False.elim (by revert c; decide), fun _ => ⟨fun _ => ?_, fun c => False.elim (by revert c; decide)⟩⟩⟩⟩
      exact law_3 hN hi h hk
    · refine K_sw S_L_law rfl ⟨fun c => False.elim (by revert c; decide), fun _ => ⟨fun c => False.elim (by revert c; decide), fun _ => ⟨fun c => False.elim (by revert c; decide), fun _ => ⟨fun c => False.elim (by revert c; decide), fun _ => ⟨fun _ => ?_, fun c => False.elim (by revert c; decide)⟩⟩⟩⟩⟩
      exact law_4 hN hi h hk
    · refine K_sw S_L_law rfl ⟨fun c => False.elim (by revert c; decide), fun _ => ⟨fun c => False.elim (by revert c; decide), fun _ => ⟨fun c => False.elim (by revert c; decide), fun _ => ⟨fun c => False.elim (by revert c; decide), fun _ => ⟨fun c => False.elim (by revert c; decide), fun _ => ⟨fun _ => ?_, fun c => False.elim (by revert c; decide)⟩⟩⟩⟩⟩⟩
      exact law_5 hN hi h hk
    · refine K_sw S_L_law rfl ⟨fun c => False.elim (by revert c; decide), fun _ => ⟨fun c => False.elim (by revert c; decide), fun _ => ⟨fun c => False.elim (by revert c; decide), fun _ => ⟨fun c => False.elim (by revert c; decide), fun _ => ⟨fun c => False.elim (by revert c; decide), fun _ => ⟨fun c => False.elim (by revert c; decide), fun _ => ⟨fun _ => ?_, fun c => False.elim (by revert c; decide)⟩⟩⟩⟩⟩⟩⟩
      exact law_6 hN hi h hk
    · refine K_sw S_L_law rfl ⟨fun c => False.elim (by revert c; decide), fun _ => ⟨fun c => False.elim (by revert c; decide), fun _ => ⟨fun c => False.elim (by revert c; decide), fun _ => ⟨fun c => False.elim (by revert c; decide), fun _ => ⟨fun c => False.elim (by revert c; decide), fun _ => ⟨fun c => False.elim (by revert c; decide), fun _ => ⟨fun c => False.elim (by revert c; decide), fun _ => ⟨fun _ => ?_, fun c => False.elim (by revert c; decide)⟩⟩⟩⟩⟩⟩⟩⟩
      exact law_7 hN hi h hk
    · refine K_sw S_L_law rfl ⟨fun c => False.elim (by revert c; decide), fun _ => ⟨fun c => False.elim (by revert c; decide), fun _ => ⟨fun c => False.elim (by revert c; decide), fun _ => ⟨fun c => False.elim (by revert c; decide), fun _ => ⟨fun c => False.elim (by revert c; decide), fun _ => ⟨fun c => False.elim (by revert c; decide), fun _ => ⟨fun c => False.elim (by revert c; decide), fun _ => ⟨fun c => False.elim (by revert c; decide), fun _ => ⟨fun _ => ?_, fun c => False.elim (by revert c; decide)⟩⟩⟩⟩⟩⟩⟩⟩⟩
      exact law_8 hN hi h hk
    · refine K_sw S_L_law rfl ⟨fun c => False.elim (by revert c; decide), fun _ => ⟨fun c => False.elim (by revert c; decide), fun _ => ⟨fun c => False.elim (by revert c; decide), fun _ => ⟨fun c => False.elim (by revert c; decide), fun _ => ⟨fun c => False.elim (by revert c; decide), fun _ => ⟨fun c => False.elim (by revert c; decide), fun _ => ⟨fun c => False.elim (by revert c; decide), fun _ => ⟨fun c => False.elim (by revert c; decide), fun _ => ⟨fun c => False.elim (by revert c; decide), fun _ => ⟨fun _ => ?_, fun c => False.elim (by revert c; decide)⟩⟩⟩⟩⟩⟩⟩⟩⟩⟩
      exact law_9 hN hi h hk
    · refine K_sw S_L_law rfl ⟨fun c => False.elim (by revert c; decide), fun _ => ⟨fun c => False.elim (by revert c; decide), fun _ => ⟨fun c => False.elim (by revert c; decide), fun _ => ⟨fun c => False.elim (by revert c; decide), fun _ => ⟨fun c => False.elim (by revert c; decide), fun _ => ⟨fun c => False.elim (by revert c; decide), fun _ => ⟨fun c => False.elim (by revert c; decide), fun _ => ⟨fun c => False.elim (by revert c; decide), fun _ => ⟨fun c => False.elim (by revert c; decide), fun _ => ⟨fun c => False.elim (by revert c; decide), fun _ => ⟨fun _ => ?_, fun c => False.elim (by revert c; decide)⟩⟩⟩⟩⟩⟩⟩⟩⟩⟩⟩
      exact law_10 hN hi h hk
    · refine K_sw S_L_law rfl ⟨fun c => False.elim (by revert c; decide), fun _ => ⟨fun c => False.elim (by revert c; decide), fun _ => ⟨fun c => False.elim (by revert c; decide), fun _ => ⟨fun c => False.elim (by revert c; decide), fun _ => ⟨fun c => False.elim (by revert c; decide), fun _ => ⟨fun c => False.elim (by revert c; decide), fun _ => ⟨fun c => False.elim (by revert c; decide), fun _ => ⟨fun c => False.elim (by revert c; decide), fun _ => ⟨fun c => False.elim (by revert c; decide), fun _ => ⟨fun c => False.elim (by revert c; decide), fun _ => ⟨fun c => False.elim (by revert c; decide), fun _ => ⟨fun _ => ?_, fun c => False.elim (by revert c; decide)⟩⟩⟩⟩⟩⟩⟩⟩⟩⟩⟩⟩
      exact law_11 hN hi h hk
    · refine K_sw S_L_law rfl ⟨fun c => False.elim (by revert c; decide), fun _ => ⟨fun c => False.elim (by revert c; decide), fun _ => ⟨fun c => False.elim (by revert c; decide), fun _ => ⟨fun c => False.elim (by revert c; decide), fun _ => ⟨fun c => False.elim (by revert c; decide), fun _ => ⟨fun c => False.elim (by revert c; decide), fun _ => ⟨fun c => False.elim (by revert c; decide), fun _ => ⟨fun c => False.elim (by revert c; decide), fun _ => ⟨fun c => False.elim (by revert c; decide), fun _ => ⟨fun c => False.elim (by revert c; decide), fun _ => ⟨fun c => False.elim (by revert c; decide), fun _ => ⟨fun c => False.elim (by revert c; decide), fun _ => ⟨fun _ => ?_, fun c => False.elim (by revert c; decide)⟩⟩⟩⟩⟩⟩⟩⟩⟩⟩⟩⟩⟩
      exact law_12 hN hi h hk
    · refine K_sw S_L_law rfl ⟨fun c => False.elim (by revert c; decide), fun _ => ⟨fun c => False.elim (by revert c; decide), fun _ => ⟨fun c => False.elim (by revert c; decide), fun _ => ⟨fun c => False.elim (by revert c; decide), fun _ => ⟨fun c => False.elim (by revert c; decide), fun _ => ⟨fun c => False.elim (by revert c; decide), fun _ => ⟨fun c => False.elim (by revert c; decide), fun _ => ⟨fun c => False.elim (by revert c; decide), fun _ => ⟨fun c => False.elim (by revert c; decide), fun _ => ⟨fun c => False.elim (by revert c; decide), fun _ => ⟨fun c => False.elim (by revert c; decide), fun _ => ⟨fun c => False.elim (by revert c; decide), fun _ => ⟨fun c => False.elim (by revert c; decide), fun _ => ⟨fun _ => ?_, fun c => False.elim (by revert c; decide)⟩⟩⟩⟩⟩⟩⟩⟩⟩⟩⟩⟩⟩⟩
      exact law_13 hN hi h hk
    · refine K_sw S_L_law rfl ⟨fun c => False.elim (by revert c; decide), fun _ => ⟨fun c => False.elim (by revert c; decide), fun _ => ⟨fun c => False.elim (by revert c; decide), fun _ => ⟨fun c => False.elim (by revert c; decide), fun _ => ⟨fun c => False.elim (by revert c; decide), fun _ => ⟨fun c => False.elim (by revert c; decide), fun _ => ⟨fun c => False.elim (by revert c; decide), fun _ => ⟨fun c => False.elim (by revert c; decide), fun _ => ⟨fun c => False.elim (by revert c; decide), fun _ => ⟨fun c => False.elim (by revert c; decide), fun _ => ⟨fun c => False.elim (by revert c; decide), fun _ => ⟨fun c => False.elim (by revert c; decide), fun _ => ⟨fun c => False.elim (by revert c; decide), fun _ => ⟨fun c => False.elim (by revert c; decide), fun _ => ⟨fun _ => ?_, fun c => False.elim (by revert c; decide)⟩⟩⟩⟩⟩⟩⟩⟩⟩⟩⟩⟩⟩⟩⟩
      exact law_14 hN hi h hk
    · refine K_sw S_L_law rfl ⟨fun c => False.elim (by revert c; decide), fun _ => ⟨fun c => False.elim (by revert c; decide), fun _ => ⟨fun c => False.elim (by revert c; decide), fun _ => ⟨fun c => False.elim (by revert c; decide), fun _ => ⟨fun c => False.elim (by revert c; decide), fun _ => ⟨fun c => False.elim (by revert c; decide), fun _ => ⟨fun c => False.elim (by revert c; decide), fun _ => ⟨fun c => False.elim (by revert c; decide), fun _ => ⟨fun c => False.elim (by revert c; decide), fun _ => ⟨fun c => False.elim (by revert c; decide), fun _ => ⟨fun c => False.elim (by revert c; decide), fun _ => ⟨fun c => False.elim (by revert c; decide), fun _ => ⟨fun c => False.elim (by revert c; decide), fun _ => ⟨fun c => False.elim (by revert c; decide), fun _ => ⟨fun c => False.elim (by revert c; decide), fun _ => ⟨fun _ => ?_, fun c => False.elim (by revert c; decide)⟩⟩⟩⟩⟩⟩⟩⟩⟩⟩⟩⟩⟩⟩⟩⟩
      exact law_15 hN hi h hk
    · refine K_sw S_L_law rfl ⟨fun c => False.elim (by revert c; decide), fun _ => ⟨fun c => False.elim (by revert c; decide), fun _ => ⟨fun c => False.elim (by revert c; decide), fun _ => ⟨fun c => False.elim (by revert c; decide), fun _ => ⟨fun c => False.elim (by revert c; decide), fun _ => ⟨fun c => False.elim (by revert c; decide), fun _ => ⟨fun c => False.elim (by revert c; decide), fun _ => ⟨fun c => False.elim (by revert c; decide), fun _ => ⟨fun c => False.elim (by revert c; decide), fun _ => ⟨fun c => False.elim (by revert c; decide), fun _ => ⟨fun c => False.elim (by revert c; decide), fun _ => ⟨fun c => False.elim (by revert c; decide), fun _ => ⟨fun c => False.elim (by revert c; decide), fun _ => ⟨fun c => False.elim (by revert c; decide), fun _ => ⟨fun c => False.elim (by revert c; decide), fun _ => ⟨fun c => False.elim (by revert c; decide), fun _ => ⟨fun _ => ?_, fun c => False.elim (by revert c; decide)⟩⟩⟩⟩⟩⟩⟩⟩⟩⟩⟩⟩⟩⟩⟩⟩⟩
      exact law_16 hN hi h hk
    · refine K_sw S_L_law rfl ⟨fun c => False.elim (by revert c; decide), fun _ => ⟨fun c => False.elim (by revert c; decide), fun _ => ⟨fun c => False.elim (by revert c; decide), fun _ => ⟨fun c => False.elim (by revert c; decide), fun _ => ⟨fun c => False.elim (by revert c; decide), fun _ => ⟨fun c => False.elim (by revert c; decide), fun _ => ⟨fun c => False.elim (by revert c; decide), fun _ => ⟨fun c => False.elim (by revert c; decide), fun _ => ⟨fun c => False.elim (by revert c; decide), fun _ => ⟨fun c => False.elim (by revert c; decide), fun _ => ⟨fun c => False.elim (by revert c; decide), fun _ => ⟨fun c => False.elim (by revert c; decide), fun _ => ⟨fun c => False.elim (by revert c; decide), fun _ => ⟨fun c => False.elim (by revert c; decide), fun _ => ⟨fun c => False.elim (by revert c; decide), fun _ => ⟨fun c => False.elim (by revert c; decide), fun _ => ⟨fun c => False.elim (by revert c; decide), fun _ => ⟨fun _ => ?_, fun c => False.elim (by revert c; decide)⟩⟩⟩⟩⟩⟩⟩⟩⟩⟩⟩⟩⟩⟩⟩⟩⟩⟩
      exact law_17 hN hi h hk
    · refine K_sw S_L_law rfl ⟨fun c => False.elim (by revert c; decide), fun _ => ⟨fun c => False.elim (by revert c; decide), fun _ => ⟨fun c => False.elim (by revert c; decide), fun _ => ⟨fun c => False.elim (by revert c; decide), fun _ => ⟨fun c => False.elim (by revert c; decide), fun _ => ⟨fun c => False.elim (by revert c; decide), fun _ => ⟨fun c => False.elim (by revert c; decide), fun _ => ⟨fun c => False.elim (by revert c; decide), fun _ => ⟨fun c => False.elim (by revert c; decide), fun _ => ⟨fun c => False.elim (by revert c; decide), fun _ => ⟨fun c => False.elim (by revert c; decide), fun _ => ⟨fun c => False.elim (by revert c; decide), fun _ => ⟨fun c => False.elim (by revert c; decide), fun _ => ⟨fun c => False.elim (by revert c; decide), fun _ => ⟨fun c => False.elim (by revert c; decide), fun _ => ⟨fun c => False.elim (by revert c; decide), fun _ => ⟨fun c => False.elim (by revert c; decide), fun _ => ⟨fun c => False.elim (by revert c; decide), fun _ => ⟨fun _ => ?_, fun c => False.elim (by revert c; decide)⟩⟩⟩⟩⟩⟩⟩⟩⟩⟩⟩⟩⟩⟩⟩⟩⟩⟩⟩
      exact law_18 hN hi h hk
    · refine K_sw S_L_law rfl ⟨fun c => False.elim (by revert c; decide), fun _ => ⟨fun c => False.elim (by revert c; decide), fun _ => ⟨fun c => False.elim (by revert c; decide), fun _ => ⟨fun c => False.elim (by revert c; decide), fun _ => ⟨fun c => False.elim (by revert c; decide), fun _ => ⟨fun c => False.elim (by revert c; decide), fun _ => ⟨fun c => False.elim (by revert c; decide), fun _ => ⟨fun c => False.elim (by revert c; decide), fun _ => ⟨fun c => False.elim (by revert c; decide), fun _ => ⟨fun c => False.elim (by revert c; decide), fun _ => ⟨fun c => False.elim (by revert c; decide), fun _ => ⟨fun c => False.elim (by revert c; decide), fun _ => ⟨fun c => False.elim (by revert c; decide), fun _ => ⟨fun c => False.elim (by revert c; decide), fun _ => ⟨fun c => False.elim (by revert c; decide), fun _ => ⟨fun c => False.elim (by revert c; decide), fun _ => ⟨fun c => False.elim (by revert c; decide), fun _ => ⟨fun c => False.elim (by revert c; decide), fun _ => ⟨fun c => False.elim (by revert c; decide), fun _ => ⟨fun _ => ?_, fun c => False.elim (by revert c; decide)⟩⟩⟩⟩⟩⟩⟩⟩⟩⟩⟩⟩⟩⟩⟩⟩⟩⟩⟩⟩
      exact law_19 hN hi h hk
    · refine K_sw S_L_law rfl ⟨fun c => False.elim (by revert c; decide), fun _ => ⟨fun c => False.elim (by revert c; decide), fun _ => ⟨fun c => False.elim (by revert c; decide), fun _ => ⟨fun c => False.elim (by revert c; decide), fun _ => ⟨fun c => False.elim (by revert c; decide), fun _ => ⟨fun c => False.elim (by revert c; decide), fun _ => ⟨fun c => False.elim (by revert c; decide), fun _ => ⟨fun c => False.elim (by revert c; decide), fun _ => ⟨fun c => False.elim (by revert c; decide), fun _ => ⟨fun c => False.elim (by revert c; decide), fun _ => ⟨fun c => False.elim (by revert c; decide), fun _ => ⟨fun c => False.elim (by revert c; decide), fun _ => ⟨fun c => False.elim (by revert c; decide), fun _ => ⟨fun c => False.elim (by revert c; decide), fun _ => ⟨fun c => False.elim (by revert c; decide), fun _ => ⟨fun c => False.elim (by revert c; decide), fun _ => ⟨fun c => False.elim (by revert c; decide), fun _ => ⟨fun c => False.elim (by revert c; decide), fun _ => ⟨fun c => False.elim (by revert c; decide), fun _ => ⟨fun c => False.elim (by revert c; decide), fun _ => ⟨fun _ => ?_, fun c => False.elim (by revert c; decide)⟩⟩⟩⟩⟩⟩⟩⟩⟩⟩⟩⟩⟩⟩⟩⟩⟩⟩⟩⟩⟩
      exact law_20 hN hi h hk
    · refine K_sw S_L_law rfl ⟨fun c => False.elim (by revert c; decide), fun _ => ⟨fun c => False.elim (by revert c; decide), fun _ => ⟨fun c => False.elim (by revert c; decide), fun _ => ⟨fun c => False.elim (by revert c; decide), fun _ => ⟨fun c => False.elim (by revert c; decide), fun _ => ⟨fun c => False.elim (by revert c; decide), fun _ => ⟨fun c => False.elim (by revert c; decide), fun _ => ⟨fun c => False.elim (by revert c; decide), fun _ => ⟨fun c => False.elim (by revert c; decide), fun _ => ⟨fun c => False.elim (by revert c; decide), fun _ => ⟨fun c => False.elim (by revert c; decide), fun _ => ⟨fun c => False.elim (by revert c; decide), fun _ => ⟨fun c => False.elim (by revert c; decide), fun _ => ⟨fun c => False.elim (by revert c; decide), fun _ => ⟨fun c => False.elim (by revert c; decide), fun _ => ⟨fun c => False.elim (by revert c; decide), fun _ => ⟨fun c => False.elim (by revert c; decide), fun _ => ⟨fun c => False.elim (by revert c; decide), fun _ => ⟨fun c => False.elim (by revert c; decide), fun _ => ⟨fun c => False.elim (by revert c; decide), fun _ => ⟨fun c => False.elim (by revert c; decide), fun _ => ⟨fun _ => ?_, fun c => False.elim (by revert c; decide)⟩⟩⟩⟩⟩⟩⟩⟩⟩⟩⟩⟩⟩⟩⟩⟩⟩⟩⟩⟩⟩⟩
      exact law_21 hN hi h hk
    · refine K_sw S_L_law rfl ⟨fun c => False.elim (by revert c; decide), fun _ => ⟨fun c => False.elim (by revert c; decide), fun _ => ⟨fun c => False.elim (by revert c; decide), fun _ => ⟨fun c => False.elim (by revert c; decide), fun _ => ⟨fun c => False.elim (by revert c; decide), fun _ => ⟨fun c => False.elim (by revert c; decide), fun _ => ⟨fun c => False.elim (by revert c; decide), fun _ => ⟨fun c => False.elim (by revert c; decide), fun _ => ⟨fun c => False.elim (by revert c; decide), fun _ => ⟨fun c => False.elim (by revert c; decide), fun _ => ⟨fun c => False.elim (by revert c; decide), fun _ => ⟨fun c => False.elim (by revert c; decide), fun _ => ⟨fun c => False.elim (by revert c; decide), fun _ => ⟨fun c => False.elim (by revert c; decide), fun _ => ⟨fun c => False.elim (by revert c; decide), fun _ => ⟨fun c => False.elim (by revert c; decide), fun _ => ⟨fun c => False.elim (by revert c; decide), fun _ => ⟨fun c => False.elim (by revert c; decide), fun _ => ⟨fun c => False.elim (by revert c; decide), fun _ => ⟨fun c => False.elim (by revert c; decide), fun _ => ⟨fun c => False.elim (by revert c; decide), fun _ => ⟨fun c => False.elim (by revert c; decide), fun _ => ⟨fun _ => ?_, fun c => False.elim (by revert c; decide)⟩⟩⟩⟩⟩⟩⟩⟩⟩⟩⟩⟩⟩⟩⟩⟩⟩⟩⟩⟩⟩⟩⟩
      exact law_22 hN hi h hk
    · refine K_sw S_L_law rfl ⟨fun c => False.elim (by revert c; decide), fun _ => ⟨fun c => False.elim (by revert c; decide), fun _ => ⟨fun c => False.elim (by revert c; decide), fun _ => ⟨fun c => False.elim (by revert c; decide), fun _ => ⟨fun c => False.elim (by revert c; decide), fun _ => ⟨fun c => False.elim (by revert c; decide), fun _ => ⟨fun c => False.elim (by revert c; decide), fun _ => ⟨fun c => False.elim (by revert c; decide), fun _ => ⟨fun c => False.elim (by revert c; decide), fun _ => ⟨fun c => False.elim (by revert c; decide), fun _ => ⟨fun c => False.elim (by revert c; decide), fun _ => ⟨fun c => False.elim (by revert c; decide), fun _ => ⟨fun c => False.elim (by revert c; decide), fun _ => ⟨fun c => False.elim (by revert c; decide), fun _ => ⟨fun c => False.elim (by revert c; decide), fun _ => ⟨fun c => False.elim (by revert c; decide), fun _ => ⟨fun c => False.elim (by revert c; decide), fun _ => ⟨fun c => False.elim (by revert c; decide), fun _ => ⟨fun c => False.elim (by revert c; decide), fun _ => ⟨fun c => False.elim (by revert c; decide), fun _ => ⟨fun c => False.elim (by revert c; decide), fun _ => ⟨fun c => False.elim (by revert c; decide), fun _ => ⟨fun c => False.elim (by revert c; decide), fun _ => ⟨fun _ => ?_, fun c => False.elim (by revert c; decide)⟩⟩⟩⟩⟩⟩⟩⟩⟩⟩⟩⟩⟩⟩⟩⟩⟩⟩⟩⟩⟩⟩⟩⟩
      exact law_23 hN hi h hk
  · refine K_sw S_L_law rfl ⟨fun c => absurd ((nI_eq (b := 0) (by omega) (by decide)).mp c) (by omega), fun _ => ⟨fun c => absurd ((nI_eq (b := 1) (by omega) (by decide)).mp c) (by omega), fun _ => ⟨fun c => absurd ((nI_eq (b := 2) (by omega) (by decide)).mp c) (by omega), fun _ => ⟨fun c => absurd ((nI_eq (b := 3) (by omega) (by decide)).mp c) (by omega), fun _ => ⟨fun c => absurd ((nI_eq (b := 4) (by omega) (by decide)).mp c) (by omega), fun _ => ⟨fun c => absurd ((nI_eq (b := 5) (by omega) (by decide)).mp c) (by omega), fun _ => ⟨fun c => absurd ((nI_eq (b := 6) (by omega) (by decide)).mp c) (by omega), fun _ => ⟨fun c => absurd ((nI_eq (b := 7) (by omega) (by decide)).mp c) (by omega), fun _ => ⟨fun c => absurd ((nI_eq (b := 8) (by omega) (by decide)).mp c) (by omega), fun _ => ⟨fun c => absurd ((nI_eq (b := 9) (by omega) (by decide)).mp c) (by omega), fun _ => ⟨fun c => absurd ((nI_eq (b := 10) (by omega) (by decide)).mp c) (by omega), fun _ => ⟨fun c => absurd ((nI_eq (b := 11) (by omega) (by decide)).mp c) (by omega), fun _ => ⟨fun c => absurd ((nI_eq (b := 12) (by omega) (by decide)).mp c) (by omega), fun _ => ⟨fun c => absurd ((nI_eq (b := 13) (by omega) (by decide)).mp c) (by omega), fun _ => ⟨fun c => absurd ((nI_eq (b := 14) (by omega) (by decide)).mp c) (by omega), fun _ => ⟨fun c => absurd ((nI_eq (b := 15) (by omega) (by decide)).mp c) (by omega), fun _ => ⟨fun c => absurd ((nI_eq (b := 16) (by omega) (by decide)).mp c) (by omega), fun _ => ⟨fun c => absurd ((nI_eq (b := 17) (by omega) (by decide)).mp c) (by omega), fun _ => ⟨fun c => absurd ((nI_eq (b := 18) (by omega) (by decide)).mp c) (by omega), fun _ => ⟨fun c => absurd ((nI_eq (b := 19) (by omega) (by decide)).mp c) (by omega), fun _ => ⟨fun c => absurd ((nI_eq (b := 20) (by omega) (by decide)).mp c) (by omega), fun _ => ⟨fun c => absurd ((nI_eq (b := 21) (by omega) (by decide)).mp c) (by omega), fun _ => ⟨fun c => absurd ((nI_eq (b := 22) (by omega) (by decide)).mp c) (by omega), fun _ => ⟨fun c => absurd ((nI_eq (b := 23) (by omega) (by decide)).mp c) (by omega), fun _ => ?_⟩⟩⟩⟩⟩⟩⟩⟩⟩⟩⟩⟩⟩⟩⟩⟩⟩⟩⟩⟩⟩⟩⟩⟩
    exact hk I h
theorem law_loop (hN : N ≤ 2048) : ∀ (n i : Nat) (I : mj_I), (N < i + 4 * n ∧ i ≤ N + 4) → Rl I → LJ b N xs 18 (lwL i) [] (mj_w I) lwz := by
  intro n
  induction n with
  | zero =>
    intro i I hi h
    have hgt : nI N - 4 < nI i := by
      rcases Nat.lt_or_ge N 4 with c | c
      · exact fa_trans (pk_sneg (a := N) (b := 4) (by decide) c) (nI_pos' (by omega))
      · rw [show (4 : Int32) = nI 4 from rfl, pk_sub c]
        exact nI_lt (by omega) (by omega)
    refine K_ild S_L_law rfl rfl ?_
    refine K_ald S_L_law rfl rfl ?_
    refine K_slen dL_law_20 ?_
    refine K_C S_L_law rfl ?_
    refine K_bin S_L_law rfl ?_
    refine K_cmp S_L_law rfl (fun c23 => ?_) (fun c23 => False.elim (c23 hgt))
    refine K_C S_L_law rfl ?_
    exact K_retZ S_L_law rfl
  | succ n ih =>
    intro i I hi h
    rcases Nat.lt_or_ge N (i + 4) with c | c
    · have hgt : nI N - 4 < nI i := by
        rcases Nat.lt_or_ge N 4 with c4 | c4
        · exact fa_trans (pk_sneg (a := N) (b := 4) (by decide) c4) (nI_pos' (by omega))
        · rw [show (4 : Int32) = nI 4 from rfl, pk_sub c4]
          exact nI_lt (by omega) (by omega)
      refine K_ild S_L_law rfl rfl ?_
      refine K_ald S_L_law rfl rfl ?_
      refine K_slen dL_law_20 ?_
      refine K_C S_L_law rfl ?_
      refine K_bin S_L_law rfl ?_
      refine K_cmp S_L_law rfl (fun c23 => ?_) (fun c23 => False.elim (c23 hgt))
      refine K_C S_L_law rfl ?_
      exact K_retZ S_L_law rfl
    · have hle : ¬ nI N - 4 < nI i := by
        rw [show (4 : Int32) = nI 4 from rfl, pk_sub (by omega)]
        exact nI_nlt (by omega) (by omega)
      have hk : ∀ I2, Rl I2 → LJ b N xs 746 (lwL i) [] (mj_w I2) lwz := by
        intro I2 h2
        refine K_inc S_L_law rfl rfl rfl ?_
        refine K_goto S_L_law rfl ?_
        rw [show nI i + 4 = nI (i + 4) from nI_add i 4]
        exact ih (i + 4) I2 (by omega) h2
      refine K_ild S_L_law rfl rfl ?_
      refine K_ald S_L_law rfl rfl ?_
      refine K_slen dL_law_20 ?_
      refine K_C S_L_law rfl ?_
      refine K_bin S_L_law rfl ?_
      refine K_cmp S_L_law rfl (fun c23 => False.elim (hle c23)) (fun c23 => ?_)
      refine K_ald S_L_law rfl rfl ?_
      refine K_ild S_L_law rfl rfl ?_
      refine K_sld dL_law_28 rfl ⟨by omega, by omega⟩ ?_
      refine K_C S_L_law rfl ?_
      refine K_bin S_L_law rfl ?_
      exact law_sw hN c h hk
theorem law_start (hN : N ≤ 2048) {F : mj_F} {I : mj_I} : LJ b N xs 0 [some (.inr (some 1050)), none, none, none] [] (0, F, I) (0, 0) := by
  have k9 := I_X9 (F := mj_nF F 0) (I := mj_nI I 0) (fun k => nI_s)
  refine KO_new S_L_law rfl s_0 (by decide) (by decide) (by decide) ?_
  refine K_dup S_L_law rfl ?_
  refine KO_CI (mc := 312) (ms := 10110) S_L_law rfl rfl rfl rfl (by simp) (by decide) (by decide) k9 ?_
  rintro _ _ ⟨rfl, F1, I1, rfl, -, p2⟩
  refine K_ast S_L_law rfl rfl ?_
  have k10 := I_X10 (F := mj_nF F1 313) (I := mj_nI I1 313) (fun k => nI_s)
  refine KO_new S_L_law rfl s_313 (by decide) (by decide) (by decide) ?_
  refine K_dup S_L_law rfl ?_
  refine KO_CI (mc := 7) (ms := 12466) S_L_law rfl rfl rfl rfl (by simp) (by decide) (by decide) k10 ?_
  rintro _ _ ⟨rfl, F2, I2, rfl, p3, p4⟩
  have hg : ∀ q, q < 321 → GC F2 I2 q := by
    intro q hq
    rcases Nat.lt_or_ge q 313 with c | c
    · exact gc_fr (p2 q (Nat.zero_le q) c) (by rw [(p3 q c).1, nF_n (by omega)]) (by rw [(p3 q c).2, nI_n (by omega)])
    · exact p4 q c hq
  refine K_cg (F' := mj_RC) (I' := I2) (fun q hq k hk hr => ((hg q hq).1 k hk hr).symm) (fun q _ => rfl) ?_
  have hRl : Rl I2 := Rl_start (fun q hq => funext fun k => (hg q hq).2 k)
  change LJ b N xs _ _ _ (mj_w I2) _
  refine K_ast S_L_law rfl rfl ?_
  refine K_C S_L_law rfl ?_
  refine K_ist S_L_law rfl rfl ?_
  exact K_z (by decide) (by decide) (law_loop hN (N / 4 + 1) 0 I2 (by omega) hRl)
end LW
