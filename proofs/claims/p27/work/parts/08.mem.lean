theorem wsL_good : wsL_law.all goodWord = true := by decide +kernel
theorem wsL_gi {ws : List Cond} (h : ∀ w ∈ ws, w ∈ wsL_law) : GoodIn wsL_law ws := fun w hw => ⟨h w hw, good_of_word (List.all_eq_true.mp wsL_good w (h w hw))⟩
def mj_up (I : mj_I) (o k : Nat) (x : Int32) : mj_I := fun o' => if o' = o then upd (I o) k x else I o'
def mj_uF (F : mj_F) (o k : Nat) (x : Option Nat) : mj_F := fun o' => if o' = o then va_up (F o) k x else F o'
theorem mj_up_ne {I : mj_I} {o k : Nat} {x : Int32} {o' : Nat} (h : o' ≠ o) : mj_up I o k x o' = I o' := if_neg h
theorem mj_up_eq {I : mj_I} {o k : Nat} {x : Int32} : mj_up I o k x o = upd (I o) k x := if_pos rfl
theorem mj_uF_ne {F : mj_F} {o k : Nat} {x : Option Nat} {o' : Nat} (h : o' ≠ o) : mj_uF F o k x o' = F o' := if_neg h
theorem mj_uF_eq {F : mj_F} {o k : Nat} {x : Option Nat} : mj_uF F o k x o = va_up (F o) k x := if_pos rfl
theorem mj_ad_lt {E : mj_E} {M : mj_M} {o : Nat} (h : o < M.1) (h2 : M.1 ≤ 1000) : mj_ad E o = E.2.2.1 + o := if_pos (by omega)
theorem mj_ws_at {E : mj_E} {M : mj_M} {o : Nat} (h : o < M.1) : (mj_ws E M)[o]? = some (E.2.2.1 + o, mj_ce E M o) := by
  simp [mj_ws, h]
theorem mj_ws_D {E : mj_E} {M : mj_M} : va_D (mj_A E) (mj_ws E M) := by
  have key : ∀ (k : Nat) (q : Nat × va_E), (mj_ws E M)[k]? = some q → q.1 = E.2.2.1 + k := by
    intro k q h
    simp only [mj_ws, List.getElem?_map, Option.map_eq_some_iff] at h
    obtain ⟨a, h1, h2⟩ := h
    obtain ⟨h3, h4⟩ := List.getElem?_eq_some_iff.mp h1
    rw [List.getElem_range] at h4
    rw [← h2, ← h4]
  refine ⟨fun i j x y hi hj hxy => ?_, fun k q hk => ?_⟩
  · have h1 := key i x hi
    have h2 := key j y hj
    omega
  · show E.2.2.1 ≤ q.1
    have h1 := key k q hk
    omega
theorem mj_ws_set {E : mj_E} {M M' : mj_M} {o : Nat} {e : va_E} (hn : M'.1 = M.1) (ho : o < M.1) (he : mj_ce E M' o = e) (hx : ∀ q, q ≠ o → mj_ce E M' q = mj_ce E M q) : (mj_ws E M).set o (E.2.2.1 + o, e) = mj_ws E M' := by
  apply List.ext_getElem?
  intro k
  by_cases hk : k = o
  · subst hk
    rw [List.getElem?_set_self (by simp [mj_ws, ho]), mj_ws_at (by omega), he]
  · rw [List.getElem?_set_ne (fun h => hk h.symm)]
    by_cases hk2 : k < M.1
    · rw [mj_ws_at hk2, mj_ws_at (by omega), hx k hk]
    · rw [List.getElem?_eq_none (by simp [mj_ws]; omega), List.getElem?_eq_none (by simp [mj_ws]; omega)]
theorem mj_ce_ob {E : mj_E} {M : mj_M} {o t N : Nat} (h : mj_sh o = (t, N)) (ht : t < 11) : mj_ce E M o = .inr (t, (List.range N).map (mj_fv E (M.2.1 o) (M.2.2 o) t)) := by
  simp only [mj_ce, h]
  rw [if_pos ht]
theorem mj_ce_int {E : mj_E} {M : mj_M} {o t : Nat} (h : (mj_sh o).1 = t) (ht : 11 ≤ t) (ht2 : t < 13) : mj_ce E M o = .inl (E.2.1 (t - 11), (mj_sh o).2, .inl (M.2.2 o)) := by
  simp only [mj_ce, h]
  rw [if_neg (by omega), if_pos ht2]
theorem mj_ce_ref {E : mj_E} {M : mj_M} {o t : Nat} (h : (mj_sh o).1 = t) (ht : 13 ≤ t) : mj_ce E M o = .inl (E.2.1 (t - 11), (mj_sh o).2, .inr (.inr (.inr (.inr (fun j => (M.2.1 o j).map (mj_ad E)))))) := by
  simp only [mj_ce, h]
  rw [if_neg (by omega), if_neg (by omega)]
theorem mj_ce_up {E : mj_E} {n : Nat} {F : mj_F} {I : mj_I} {o k q : Nat} {x : Int32} (h : q ≠ o) : mj_ce E (n, F, mj_up I o k x) q = mj_ce E (n, F, I) q := by
  simp only [mj_ce, mj_up_ne h]
theorem mj_ce_uF {E : mj_E} {n : Nat} {F : mj_F} {I : mj_I} {o k q : Nat} {x : Option Nat} (h : q ≠ o) : mj_ce E (n, mj_uF F o k x, I) q = mj_ce E (n, F, I) q := by
  simp only [mj_ce, mj_uF_ne h]
theorem mj_fvs {E : mj_E} {f : Nat → Option Nat} {g : Nat → Int32} {t k N : Nat} {x : Int32} (hk : k < N) (hr : mj_rk t k = false) : (List.range N).map (mj_fv E f (upd g k x) t) = ((List.range N).map (mj_fv E f g t)).set k (.int x) := by
  apply List.ext_getElem?
  intro j
  by_cases hj : j = k
  · subst hj
    rw [List.getElem?_set_self (by simpa using hk)]
    simp [hk, mj_fv, hr, upd]
  · rw [List.getElem?_set_ne (fun h => hj h.symm)]
    simp only [List.getElem?_map]
    by_cases hN : j < N
    · simp [hN, mj_fv, upd, hj]
    · rw [List.getElem?_eq_none (by simpa using hN)]; rfl
theorem mj_fvF {E : mj_E} {f : Nat → Option Nat} {g : Nat → Int32} {t k N : Nat} {x : Option Nat} (hk : k < N) (hr : mj_rk t k = true) : (List.range N).map (mj_fv E (va_up f k x) g t) = ((List.range N).map (mj_fv E f g t)).set k (va_rf (x.map (mj_ad E))) := by
  apply List.ext_getElem?
  intro j
  by_cases hj : j = k
  · subst hj
    rw [List.getElem?_set_self (by simpa using hk)]
    simp [hk, mj_fv, hr, va_up]
  · rw [List.getElem?_set_ne (fun h => hj h.symm)]
    simp only [List.getElem?_map]
    by_cases hN : j < N
    · simp [hN, mj_fv, va_up, hj]
    · rw [List.getElem?_eq_none (by simpa using hN)]; rfl
/-! fields -/
def oGetI (t : Nat × Nat) (k : Nat) : mj_O := fun pc L st M z K _ => match st with
  | .inr (some o) :: rest => mj_sh o = t ∧ o < M.1 ∧ K (pc + 3) L (.inl (M.2.2 o k) :: rest) M z
  | _ => False
def oGetR (t : Nat × Nat) (k : Nat) : mj_O := fun pc L st M z K _ => match st with
  | .inr (some o) :: rest => mj_sh o = t ∧ o < M.1 ∧ K (pc + 3) L (.inr (M.2.1 o k) :: rest) M z
  | _ => False
def oPutI (t : Nat × Nat) (k : Nat) : mj_O := fun pc L st M z K _ => match st with
  | .inl x :: .inr (some o) :: rest => mj_sh o = t ∧ o < M.1 ∧ K (pc + 3) L rest (M.1, M.2.1, mj_up M.2.2 o k x) z
  | _ => False
def oPutZ (t : Nat × Nat) (k : Nat) : mj_O := fun pc L st M z K _ => match st with
  | .inl x :: .inr (some o) :: rest => mj_sh o = t ∧ o < M.1 ∧ (x = 0 ∨ x = 1) ∧ K (pc + 3) L rest (M.1, M.2.1, mj_up M.2.2 o k x) z
  | _ => False
def oPutR (t : Nat × Nat) (k : Nat) : mj_O := fun pc L st M z K _ => match st with
  | .inr (some r) :: .inr (some o) :: rest => mj_sh o = t ∧ o < M.1 ∧ K (pc + 3) L rest (M.1, mj_uF M.2.1 o k (some r), M.2.2) z
  | _ => False
def oIald : mj_O := fun pc L st M z K _ => match st with
  | .inl i :: .inr (some o) :: rest => (mj_sh o).1 = 11 ∧ o < M.1 ∧ vp_in i (mj_sh o).2 ∧ K (pc + 1) L (.inl (M.2.2 o i.toNatClampNeg) :: rest) M z
  | _ => False
def oZald : mj_O := fun pc L st M z K _ => match st with
  | .inl i :: .inr (some o) :: rest => (mj_sh o).1 = 12 ∧ o < M.1 ∧ vp_in i (mj_sh o).2 ∧ K (pc + 1) L (.inl (M.2.2 o i.toNatClampNeg) :: rest) M z
  | _ => False
def oAald (t : Nat) : mj_O := fun pc L st M z K _ => match st with
  | .inl i :: .inr (some o) :: rest => (mj_sh o).1 = t ∧ o < M.1 ∧ vp_in i (mj_sh o).2 ∧ K (pc + 1) L (.inr (M.2.1 o i.toNatClampNeg) :: rest) M z
  | _ => False
def oIast : mj_O := fun pc L st M z K _ => match st with
  | .inl x :: .inl i :: .inr (some o) :: rest => (mj_sh o).1 = 11 ∧ o < M.1 ∧ vp_in i (mj_sh o).2 ∧ K (pc + 1) L rest (M.1, M.2.1, mj_up M.2.2 o i.toNatClampNeg x) z
  | _ => False
def oZast : mj_O := fun pc L st M z K _ => match st with
  | .inl x :: .inl i :: .inr (some o) :: rest => (mj_sh o).1 = 12 ∧ o < M.1 ∧ vp_in i (mj_sh o).2 ∧ (x = 0 ∨ x = 1) ∧ K (pc + 1) L rest (M.1, M.2.1, mj_up M.2.2 o i.toNatClampNeg x) z
  | _ => False
def oLen : mj_O := fun pc L st M z K _ => match st with
  | .inr (some o) :: rest => 11 ≤ (mj_sh o).1 ∧ (mj_sh o).1 < 16 ∧ o < M.1 ∧ K (pc + 1) L (.inl (Int32.ofNat (mj_sh o).2) :: rest) M z
  | _ => False
/-- rows outside -/
def oGets (k : Nat) : mj_O := fun pc L st M z K _ => K (pc + 3) L (.inr (some (1000 + k)) :: st) M z
def oXald (k : Nat) : mj_O := fun pc L st M z K _ => match st with
  | .inl i :: .inr (some o) :: rest => o = 1000 + k ∧ vp_in i 6 ∧ K (pc + 1) L (.inl (mj_xc k i.toNatClampNeg) :: rest) M z
  | _ => False
def oXlen (k : Nat) : mj_O := fun pc L st M z K _ => match st with
  | .inr (some o) :: rest => o = 1000 + k ∧ K (pc + 1) L (.inl 6 :: rest) M z
  | _ => False
def oLdcS (i : Nat) : mj_O := fun pc L st M z K _ => K (pc + 2) L (.inr (some (1010 + i)) :: st) M z
section MJM
variable {d : mj_D} {pc : Nat}
theorem sGetI {t N k idx : Nat} {C : String} {T : u_T} (hdg : decode (mj_cc d) pc = .ok (.getfield idx, 3)) (hc : vwCl[t]? = some (C, T, N)) (hin : ∀ w ∈ u_ws C T N, w ∈ wsL_law) (hk : k < N) (hT : (T k).1 = C) (hl : Cond.fieldLink (mj_y d).cls idx C (T k).2.1 (T k).2.2.1 ∈ wsL_law) (hr : mj_rk t k = false) (ht : t < 11) : mj_S d pc (oGetI (t, N) k) := by
  intro p l e s m args below meth c E post hC L st M z K h hK h1 h2 H locs ls hH hS hL
  unfold oGetI at h
  split at h
  · rename_i o rest
    obtain ⟨g1, g2, h⟩ := h
    obtain ⟨hP, hz, hM⟩ := hH
    have ha := mj_ad_lt (E := E) g2 hM
    show W p l e _ s m args below meth c H locs z.1 z.2 _ (F0 m pc ls (.ref (mj_ad E o) :: rest.map (mj_cv E)))
    rw [ha]
    refine va_get hC.1 hC.2.1 hC.2.2.2.2.1 hin hC.2.2.2.1 hC.2.2.2.2.2.2.2.2.1.1 hP o ((mj_ws_at g2).trans (by rw [mj_ce_ob g1 ht])) hc k hk (hC.2.2.2.2.1 _ hl) (fun x hx => by rw [hT] at hx; exact hx) (v := .int (M.2.2 o k)) (by simp [hk, mj_fv, hr]) hdg ?_
    exact hK _ _ _ _ _ h h1 h2 H locs ls ⟨hP, hz, hM⟩ hS hL
  · exact h.elim
theorem sGetR {t N k idx : Nat} {C : String} {T : u_T} (hdg : decode (mj_cc d) pc = .ok (.getfield idx, 3)) (hc : vwCl[t]? = some (C, T, N)) (hin : ∀ w ∈ u_ws C T N, w ∈ wsL_law) (hk : k < N) (hT : (T k).1 = C) (hl : Cond.fieldLink (mj_y d).cls idx C (T k).2.1 (T k).2.2.1 ∈ wsL_law) (hr : mj_rk t k = true) (ht : t < 11) : mj_S d pc (oGetR (t, N) k) := by
  intro p l e s m args below meth c E post hC L st M z K h hK h1 h2 H locs ls hH hS hL
  unfold oGetR at h
  split at h
  · rename_i o rest
    obtain ⟨g1, g2, h⟩ := h
    obtain ⟨hP, hz, hM⟩ := hH
    have ha := mj_ad_lt (E := E) g2 hM
    show W p l e _ s m args below meth c H locs z.1 z.2 _ (F0 m pc ls (.ref (mj_ad E o) :: rest.map (mj_cv E)))
    rw [ha]
    refine va_get hC.1 hC.2.1 hC.2.2.2.2.1 hin hC.2.2.2.1 hC.2.2.2.2.2.2.2.2.1.1 hP o ((mj_ws_at g2).trans (by rw [mj_ce_ob g1 ht])) hc k hk (hC.2.2.2.2.1 _ hl) (fun x hx => by rw [hT] at hx; exact hx) (v := va_rf ((M.2.1 o k).map (mj_ad E))) (by simp [hk, mj_fv, hr]) hdg ?_
    exact hK _ _ _ _ _ h h1 h2 H locs ls ⟨hP, hz, hM⟩ hS hL
  · exact h.elim
theorem mj_putH {E : mj_E} {M : mj_M} {o k t N : Nat} {x : Int32} {H1 : Heap} (g1 : mj_sh o = (t, N)) (g2 : o < M.1) (ht : t < 11) (hk : k < N) (hr : mj_rk t k = false) (hM : M.1 ≤ 1000)
    (hP : va_P E.1 vwCl ((mj_ws E M).set o (E.2.2.1 + o, .inr (t, ((List.range N).map (mj_fv E (M.2.1 o) (M.2.2 o) t)).set k (.int x)))) H1) : va_P E.1 vwCl (mj_ws E (M.1, M.2.1, mj_up M.2.2 o k x)) H1 := by
  rw [mj_ws_set (E := E) (M := M) (M' := (M.1, M.2.1, mj_up M.2.2 o k x)) (e := .inr (t, ((List.range N).map (mj_fv E (M.2.1 o) (M.2.2 o) t)).set k (.int x))) rfl g2 (by rw [mj_ce_ob g1 ht]; simp only [mj_up_eq]; rw [mj_fvs hk hr]) (fun q hq => mj_ce_up hq)] at hP
  exact hP
theorem mj_put {p : Program} {l : Launch} {e : Env} {R : Room} {s : State} {m : MethodId} {args : Array Value} {below : List Frame} {meth : Method} {c : Code} {H : Heap} {locs : List Loc} {cells slots : Nat} {Q : State → Prop} {cc : ByteArray} {pc : Nat} {ls : Array Slot} {rest : List Value} {D : va_G} {cl : List vw_C} {A : Nat → Prop} {a : Nat} {tys : List (ClassId × FieldType)} {ws : va_W} {H0 : Heap} (hexec : p.tables.exec = Jvm.exec) (hb : c.code = cc) {own ref C : String} {T : u_T} {N ci index : Nat} {Ts : List Cond} (hts : ∀ w ∈ Ts, w.before args s = true) (hin : ∀ w ∈ u_ws C T N, w ∈ Ts) (ty0 : Nat → FieldType) (hty : ∀ k, k < N → parseFieldDescriptor (T k).2.2.1 = some (ty0 k)) (hnm : ∀ a, a < N → ∀ b, b < N → a ≠ b → (T a).2.1 ≠ (T b).2.1) (hown : s.vm.findClass own = some m.cls) (hK : va_K D cl tys s) (hP : va_P D cl ws H) (hD : va_D A ws) (hS0 : va_S A H0 H locs) (q0 : Nat) {fs : List Value} (he : ws[q0]? = some (a, .inr (ci, fs))) (hc : cl[ci]? = some (C, T, N)) (k : Nat) (hk : k < N) (hlink : (Cond.fieldLink own index ref (T k).2.1 (T k).2.2.1).before args s = true) (hsame : ∀ x, s.fieldFound? (T k).1 (T k).2.1 (T k).2.2.1 = some x → s.fieldFound? ref (T k).2.1 (T k).2.2.1 = some x) (hfin : (T k).2.2.2 = false) {ty : FieldType} {v : Value} (hd : parseFieldDescriptor (T k).2.2.1 = some ty) (hn : narrow ty v = v) (hfit : fits ty v = true) (hl : k < fs.length)
    (hdg : decode cc pc = .ok (.putfield index, 3)) (kk : ∀ (H1 : Heap) (locs1 : List Loc), H1.size = H.size → va_P D cl (ws.set q0 (a, .inr (ci, fs.set k v))) H1 → va_S A H0 H1 locs1 → W p l e R s m args below meth c H1 locs1 cells slots Q (F0 m (pc + 3) ls rest)) : W p l e R s m args below meth c H locs cells slots Q (F0 m pc ls (v :: .ref a :: rest)) := by
  have hap := va_apart (own := own) hts hin ty0 hty hnm hK hc
  obtain ⟨r, h1, cell, q1, q2, q3, q4⟩ := hP q0 _ he
  have hr : r = (C, T, N) := Option.some.inj (h1.symm.trans hc)
  subst hr
  obtain ⟨hS, hfc, kC, hkC, hkind⟩ := hK.1 ci _ hc
  obtain ⟨cf, kf, fi, f, hi, hsl⟩ := hS k hk
  have hlay := hts _ (hin _ (u_in_lay hk))
  unfold u_lay at hlay
  rw [if_neg (by rw [hfin]; decide)] at hlay
  have hst := (u_facts hfc hkC (u_lays hts hin hk) hi).1
  have h6 := u_store hfc hkC hkind hlay hi hd hn hfit
  refine W.putK hexec hb (f := f) ⟨hown, hlink, ⟨_, _, _, hsame _ hi⟩, hst⟩ (by rw [q2]; exact h6) q1 q3 (by rw [hsl]; exact k2_hasslot (q4 k hk)) rfl rfl hdg fun H' e1 e2 e3 => ?_
  rw [hsl] at e1 ⊢
  exact kk H' _ e2 (hP.set hD he ⟨_, hc, t_OB.to (V := updV (vp_V fs) k v) ⟨_, e1, q2, q3, t_set q4 hap hk v⟩ (fun j _ => vp_updV_set hl v j)⟩ e3) (hS0.put e2 e3 (hD.2 q0 _ he))
theorem mj_putF {p : Program} {l : Launch} {e : Env} {R : Room} {s : State} {m : MethodId} {args : Array Value} {below : List Frame} {meth : Method} {c : Code} {H : Heap} {locs : List Loc} {cells slots : Nat} {Q : State → Prop} {cc : ByteArray} {pc : Nat} {ls : Array Slot} {rest : List Value} {D : va_G} {cl : List vw_C} {A : Nat → Prop} {a : Nat} {tys : List (ClassId × FieldType)} {ws : va_W} {H0 : Heap} (hexec : p.tables.exec = Jvm.exec) (hb : c.code = cc) {own ref C : String} {T : u_T} {N ci index : Nat} {Ts : List Cond} (hts : ∀ w ∈ Ts, w.before args s = true) (hin : ∀ w ∈ u_ws C T N, w ∈ Ts) (ty0 : Nat → FieldType) (hty : ∀ k, k < N → parseFieldDescriptor (T k).2.2.1 = some (ty0 k)) (hnm : ∀ a, a < N → ∀ b, b < N → a ≠ b → (T a).2.1 ≠ (T b).2.1) (hown : s.vm.findClass own = some m.cls) (hK : va_K D cl tys s) (hP : va_P D cl ws H) (hD : va_D A ws) (hS0 : va_S A H0 H locs) (q0 : Nat) {fs : List Value} (he : ws[q0]? = some (a, .inr (ci, fs))) (hc : cl[ci]? = some (C, T, N)) (k : Nat) (hk : k < N) (hlink : (Cond.fieldLink own index ref (T k).2.1 (T k).2.2.1).before args s = true) (hsame : ∀ x, s.fieldFound? (T k).1 (T k).2.1 (T k).2.2.1 = some x → s.fieldFound? ref (T k).2.1 (T k).2.2.1 = some x) (hfin : (T k).2.2.2 = true) (hin2 : meth.name = "<init>") (hdecl : (T k).1 = own) {ty : FieldType} {v : Value} (hd : parseFieldDescriptor (T k).2.2.1 = some ty) (hn : narrow ty v = v) (hfit : fits ty v = true) (hl : k < fs.length)
    (hdg : decode cc pc = .ok (.putfield index, 3)) (kk : ∀ (H1 : Heap) (locs1 : List Loc), H1.size = H.size → va_P D cl (ws.set q0 (a, .inr (ci, fs.set k v))) H1 → va_S A H0 H1 locs1 → W p l e R s m args below meth c H1 locs1 cells slots Q (F0 m (pc + 3) ls rest)) : W p l e R s m args below meth c H locs cells slots Q (F0 m pc ls (v :: .ref a :: rest)) := by
  have hap := va_apart (own := own) hts hin ty0 hty hnm hK hc
  obtain ⟨r, h1, cell, q1, q2, q3, q4⟩ := hP q0 _ he
  have hr : r = (C, T, N) := Option.some.inj (h1.symm.trans hc)
  subst hr
  obtain ⟨hS, hfc, kC, hkC, hkind⟩ := hK.1 ci _ hc
  obtain ⟨cf, kf, fi, f, hi, hsl⟩ := hS k hk
  have hlay := hts _ (hin _ (u_in_lay hk))
  unfold u_lay at hlay
  rw [if_pos hfin] at hlay
  have hst := (u_facts hfc hkC (u_lays hts hin hk) hi).1
  have hcf : m.cls = cf := by
    obtain ⟨_, _, c', _, _, _, -, -, hf', -, -, -, hown2, -⟩ := Cond.laysFinal_spec hlay
    have e1 : c' = cf := by have := hi.symm.trans hf'; simp at this; exact this.1.symm
    rw [hdecl] at hown2
    rw [← e1]; exact Option.some.inj (hown.symm.trans hown2)
  have h6 := u_fits hfc hkC hkind (Or.inr hlay) hi hd hn hfit
  refine W.putFinK hexec hb hown hlink (hsame _ hi) hst hcf hin2 (by rw [q2]; exact h6) q1 q3 (by rw [hsl]; exact k2_hasslot (q4 k hk)) rfl rfl hdg fun H' e1 e2 e3 => ?_
  rw [hsl] at e1 ⊢
  exact kk H' _ e2 (hP.set hD he ⟨_, hc, t_OB.to (V := updV (vp_V fs) k v) ⟨_, e1, q2, q3, t_set q4 hap hk v⟩ (fun j _ => vp_updV_set hl v j)⟩ e3) (hS0.put e2 e3 (hD.2 q0 _ he))
theorem mj_putFH {E : mj_E} {M : mj_M} {o k t N : Nat} {x : Option Nat} {H1 : Heap} (g1 : mj_sh o = (t, N)) (g2 : o < M.1) (ht : t < 11) (hk : k < N) (hr : mj_rk t k = true)
    (hP : va_P E.1 vwCl ((mj_ws E M).set o (E.2.2.1 + o, .inr (t, ((List.range N).map (mj_fv E (M.2.1 o) (M.2.2 o) t)).set k (va_rf (x.map (mj_ad E)))))) H1) : va_P E.1 vwCl (mj_ws E (M.1, mj_uF M.2.1 o k x, M.2.2)) H1 := by
  rw [mj_ws_set (E := E) (M := M) (M' := (M.1, mj_uF M.2.1 o k x, M.2.2)) (e := .inr (t, ((List.range N).map (mj_fv E (M.2.1 o) (M.2.2 o) t)).set k (va_rf (x.map (mj_ad E))))) rfl g2 (by rw [mj_ce_ob g1 ht]; simp only [mj_uF_eq]; rw [mj_fvF hk hr]) (fun q hq => mj_ce_uF hq)] at hP
  exact hP
theorem sPutI {t N k idx : Nat} {C : String} {T : u_T} {ty0 : Nat → FieldType} (hdg : decode (mj_cc d) pc = .ok (.putfield idx, 3)) (hc : vwCl[t]? = some (C, T, N)) (hin : ∀ w ∈ u_ws C T N, w ∈ wsL_law) (hty : ∀ k, k < N → parseFieldDescriptor (T k).2.2.1 = some (ty0 k)) (hnm : ∀ a, a < N → ∀ b, b < N → a ≠ b → (T a).2.1 ≠ (T b).2.1) (hk : k < N) (hT : (T k).1 = C ∧ (T k).2.2.2 = false ∧ ty0 k = .int) (hl : Cond.fieldLink (mj_y d).cls idx C (T k).2.1 (T k).2.2.1 ∈ wsL_law) (hr : mj_rk t k = false) (ht : t < 11) : mj_S d pc (oPutI (t, N) k) := by
  intro p l e s m args below meth c E post hC L st M z K h hK h1 h2 H locs ls hH hS hL
  unfold oPutI at h
  split at h
  · rename_i x o rest
    obtain ⟨g1, g2, h⟩ := h
    obtain ⟨hP, hz, hM⟩ := hH
    have ha := mj_ad_lt (E := E) g2 hM
    show W p l e _ s m args below meth c H locs z.1 z.2 _ (F0 m pc ls (.int x :: .ref (mj_ad E o) :: rest.map (mj_cv E)))
    rw [ha]
    refine mj_put hC.1 hC.2.1 hC.2.2.2.2.1 hin ty0 hty hnm hC.2.2.2.1 hC.2.2.2.2.2.2.2.2.1.1 hP mj_ws_D hS o ((mj_ws_at g2).trans (by rw [mj_ce_ob g1 ht])) hc k hk (hC.2.2.2.2.1 _ hl) (fun x hx => by rw [hT.1] at hx; exact hx) hT.2.1 ((hty k hk).trans (by rw [hT.2.2])) rfl rfl (by simpa using hk) hdg ?_
    exact fun H1 locs1 hz1 hP1 hS1 => hK _ _ _ _ _ h h1 h2 H1 locs1 ls ⟨mj_putH g1 g2 ht hk hr hM hP1, hz1.trans hz, hM⟩ hS1 hL
  · exact h.elim
theorem sPutZ {t N k idx : Nat} {C : String} {T : u_T} {ty0 : Nat → FieldType} (hdg : decode (mj_cc d) pc = .ok (.putfield idx, 3)) (hc : vwCl[t]? = some (C, T, N)) (hin : ∀ w ∈ u_ws C T N, w ∈ wsL_law) (hty : ∀ k, k < N → parseFieldDescriptor (T k).2.2.1 = some (ty0 k)) (hnm : ∀ a, a < N → ∀ b, b < N → a ≠ b → (T a).2.1 ≠ (T b).2.1) (hk : k < N) (hT : (T k).1 = C ∧ (T k).2.2.2 = false ∧ ty0 k = .boolean) (hl : Cond.fieldLink (mj_y d).cls idx C (T k).2.1 (T k).2.2.1 ∈ wsL_law) (hr : mj_rk t k = false) (ht : t < 11) : mj_S d pc (oPutZ (t, N) k) := by
  intro p l e s m args below meth c E post hC L st M z K h hK h1 h2 H locs ls hH hS hL
  unfold oPutZ at h
  split at h
  · rename_i x o rest
    obtain ⟨g1, g2, g3, h⟩ := h
    obtain ⟨hP, hz, hM⟩ := hH
    have ha := mj_ad_lt (E := E) g2 hM
    show W p l e _ s m args below meth c H locs z.1 z.2 _ (F0 m pc ls (.int x :: .ref (mj_ad E o) :: rest.map (mj_cv E)))
    rw [ha]
    refine mj_put hC.1 hC.2.1 hC.2.2.2.2.1 hin ty0 hty hnm hC.2.2.2.1 hC.2.2.2.2.2.2.2.2.1.1 hP mj_ws_D hS o ((mj_ws_at g2).trans (by rw [mj_ce_ob g1 ht])) hc k hk (hC.2.2.2.2.1 _ hl) (fun x hx => by rw [hT.1] at hx; exact hx) hT.2.1 ((hty k hk).trans (by rw [hT.2.2])) (by rcases g3 with rfl | rfl <;> rfl) (by rcases g3 with rfl | rfl <;> rfl) (by simpa using hk) hdg ?_
    exact fun H1 locs1 hz1 hP1 hS1 => hK _ _ _ _ _ h h1 h2 H1 locs1 ls ⟨mj_putH g1 g2 ht hk hr hM hP1, hz1.trans hz, hM⟩ hS1 hL
  · exact h.elim
theorem sPutR {t N k idx : Nat} {C : String} {T : u_T} {ty0 : Nat → FieldType} (hdg : decode (mj_cc d) pc = .ok (.putfield idx, 3)) (hc : vwCl[t]? = some (C, T, N)) (hin : ∀ w ∈ u_ws C T N, w ∈ wsL_law) (hty : ∀ k, k < N → parseFieldDescriptor (T k).2.2.1 = some (ty0 k)) (hnm : ∀ a, a < N → ∀ b, b < N → a ≠ b → (T a).2.1 ≠ (T b).2.1) (hk : k < N) (hT : (T k).1 = C ∧ (T k).2.2.2 = true ∧ (∀ a, narrow (ty0 k) (.ref a) = .ref a) ∧ ∀ a, fits (ty0 k) (.ref a) = true) (hy : (mj_y d).cls = C ∧ (mj_y d).name = "<init>") (hl : Cond.fieldLink (mj_y d).cls idx C (T k).2.1 (T k).2.2.1 ∈ wsL_law) (hr : mj_rk t k = true) (ht : t < 11) : mj_S d pc (oPutR (t, N) k) := by
  intro p l e s m args below meth c E post hC L st M z K h hK h1 h2 H locs ls hH hS hL
  unfold oPutR at h
  split at h
  · rename_i r o rest
    obtain ⟨g1, g2, h⟩ := h
    obtain ⟨hP, hz, hM⟩ := hH
    have ha := mj_ad_lt (E := E) g2 hM
    show W p l e _ s m args below meth c H locs z.1 z.2 _ (F0 m pc ls (.ref (mj_ad E r) :: .ref (mj_ad E o) :: rest.map (mj_cv E)))
    rw [ha]
    refine mj_putF hC.1 hC.2.1 hC.2.2.2.2.1 hin ty0 hty hnm hC.2.2.2.1 hC.2.2.2.2.2.2.2.2.1.1 hP mj_ws_D hS o ((mj_ws_at g2).trans (by rw [mj_ce_ob g1 ht])) hc k hk (hC.2.2.2.2.1 _ hl) (fun x hx => by rw [hT.1] at hx; exact hx) hT.2.1 (hC.2.2.2.2.2.2.2.1.trans hy.2) (hT.1.trans hy.1.symm) (hty k hk) (hT.2.2.1 _) (hT.2.2.2 _) (by simpa using hk) hdg ?_
    exact fun H1 locs1 hz1 hP1 hS1 => hK _ _ _ _ _ h h1 h2 H1 locs1 ls ⟨mj_putFH (x := some r) g1 g2 ht hk hr hP1, hz1.trans hz, hM⟩ hS1 hL
  · exact h.elim
end MJM
