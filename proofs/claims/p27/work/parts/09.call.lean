section MJA
variable {d : mj_D} {pc : Nat}
theorem mj_vin {i : Int32} {n : Nat} (h : vp_in i n) : i.toNatClampNeg < n := Nat.not_le.mp fun q => h (Or.inr q)
theorem sIald (hdg : decode (mj_cc d) pc = .ok (.iaload, 1)) : mj_S d pc oIald := by
  intro p l e s m args below meth c E post hC L st M z K h hK h1 h2 H locs ls hH hS hL
  unfold oIald at h
  split at h
  · rename_i i o rest
    obtain ⟨g1, g2, g3, h⟩ := h
    obtain ⟨hP, hz, hM⟩ := hH
    have ha := mj_ad_lt (E := E) g2 hM
    show W p l e _ s m args below meth c H locs z.1 z.2 _ (F0 m pc ls (.int i :: .ref (mj_ad E o) :: rest.map (mj_cv E)))
    rw [ha]
    refine va_iald hC.1 hC.2.1 hC.2.2.2.2.2.2.2.2.1.1 hP o 0 ((mj_ws_at g2).trans (by rw [mj_ce_int g1 (by decide) (by decide)])) rfl g3 hdg ?_
    exact hK _ _ _ _ _ h h1 h2 H locs ls ⟨hP, hz, hM⟩ hS hL
  · exact h.elim
theorem sZald (hdg : decode (mj_cc d) pc = .ok (.baload, 1)) : mj_S d pc oZald := by
  intro p l e s m args below meth c E post hC L st M z K h hK h1 h2 H locs ls hH hS hL
  unfold oZald at h
  split at h
  · rename_i i o rest
    obtain ⟨g1, g2, g3, h⟩ := h
    obtain ⟨hP, hz, hM⟩ := hH
    have ha := mj_ad_lt (E := E) g2 hM
    show W p l e _ s m args below meth c H locs z.1 z.2 _ (F0 m pc ls (.int i :: .ref (mj_ad E o) :: rest.map (mj_cv E)))
    rw [ha]
    refine va_zald hC.1 hC.2.1 hC.2.2.2.2.2.2.2.2.1.1 hP o 1 ((mj_ws_at g2).trans (by rw [mj_ce_int g1 (by decide) (by decide)])) rfl g3 hdg ?_
    exact hK _ _ _ _ _ h h1 h2 H locs ls ⟨hP, hz, hM⟩ hS hL
  · exact h.elim
theorem sAald {t : Nat} {C : String} (hdg : decode (mj_cc d) pc = .ok (.aaload, 1)) (h13 : 13 ≤ t) (hty : ∀ E : mj_E, (mj_ty E)[t - 11]? = some (E.2.1 (t - 11), .object C)) : mj_S d pc (oAald t) := by
  intro p l e s m args below meth c E post hC L st M z K h hK h1 h2 H locs ls hH hS hL
  unfold oAald at h
  split at h
  · rename_i i o rest
    obtain ⟨g1, g2, g3, h⟩ := h
    obtain ⟨hP, hz, hM⟩ := hH
    have ha := mj_ad_lt (E := E) g2 hM
    show W p l e _ s m args below meth c H locs z.1 z.2 _ (F0 m pc ls (.int i :: .ref (mj_ad E o) :: rest.map (mj_cv E)))
    rw [ha]
    refine va_aldq hC.1 hC.2.1 hC.2.2.2.2.2.2.2.2.1.1 hP o (t - 11) ((mj_ws_at g2).trans (by rw [mj_ce_ref g1 h13])) (hty E) g3 hdg ?_
    exact hK _ _ _ _ _ h h1 h2 H locs ls ⟨hP, hz, hM⟩ hS hL
  · exact h.elim
theorem mj_iastH {E : mj_E} {M : mj_M} {o t i : Nat} {x : Int32} {H1 : Heap} (g1 : (mj_sh o).1 = t) (ht : 11 ≤ t) (ht2 : t < 13) (g2 : o < M.1)
    (hP : va_P E.1 vwCl ((mj_ws E M).set o (E.2.2.1 + o, .inl (E.2.1 (t - 11), (mj_sh o).2, .inl (upd (M.2.2 o) i x)))) H1) : va_P E.1 vwCl (mj_ws E (M.1, M.2.1, mj_up M.2.2 o i x)) H1 := by
  rw [mj_ws_set (E := E) (M := M) (M' := (M.1, M.2.1, mj_up M.2.2 o i x)) (e := .inl (E.2.1 (t - 11), (mj_sh o).2, .inl (upd (M.2.2 o) i x))) rfl g2 (by rw [mj_ce_int g1 ht ht2]; simp only [mj_up_eq]) (fun q hq => mj_ce_up hq)] at hP
  exact hP
theorem sIast (hdg : decode (mj_cc d) pc = .ok (.iastore, 1)) : mj_S d pc oIast := by
  intro p l e s m args below meth c E post hC L st M z K h hK h1 h2 H locs ls hH hS hL
  unfold oIast at h
  split at h
  · rename_i x i o rest
    obtain ⟨g1, g2, g3, h⟩ := h
    obtain ⟨hP, hz, hM⟩ := hH
    have ha := mj_ad_lt (E := E) g2 hM
    show W p l e _ s m args below meth c H locs z.1 z.2 _ (F0 m pc ls (.int x :: .int i :: .ref (mj_ad E o) :: rest.map (mj_cv E)))
    rw [ha]
    have hcell : (mj_ws E M)[o]? = some (E.2.2.1 + o, .inl (E.2.1 0, (mj_sh o).2, .inl (M.2.2 o))) := (mj_ws_at g2).trans (by rw [mj_ce_int g1 (by decide) (by decide)])
    have hKt := (hC.2.2.2.2.2.2.2.2.1.1.2 0 _ rfl).1
    refine W.iast hC.1 hC.2.1 (hP o _ hcell) (hKt (mj_sh o).2 (fun j => .int (M.2.2 o j))) (fun q => by cases q) (by show ¬ (i < 0 ∨ (arrV _ _ _).slots.size ≤ _); rw [arrV_size]; exact g3) rfl rfl hdg fun H1 e z1 oq => ?_
    refine hK _ _ _ _ _ h h1 h2 H1 _ ls ⟨mj_iastH (t := 11) g1 (by decide) (by decide) g2 (hP.set mj_ws_D hcell ?_ oq), z1.trans hz, hM⟩ (hS.put z1 oq (mj_ws_D.2 o _ hcell)) hL
    show H1[_]? = some (vp_cell _ _)
    rw [e]
    rw [vp_cell_i, vp_cell_i, arrV_store]
    congr 2
    funext q
    by_cases hq : q = i.toNatClampNeg
    · subst hq
      simp [updV, upd]
    · simp [updV, upd, hq]
  · exact h.elim
theorem sZast (hdg : decode (mj_cc d) pc = .ok (.bastore, 1)) : mj_S d pc oZast := by
  intro p l e s m args below meth c E post hC L st M z K h hK h1 h2 H locs ls hH hS hL
  unfold oZast at h
  split at h
  · rename_i x i o rest
    obtain ⟨g1, g2, g3, g4, h⟩ := h
    obtain ⟨hP, hz, hM⟩ := hH
    have ha := mj_ad_lt (E := E) g2 hM
    show W p l e _ s m args below meth c H locs z.1 z.2 _ (F0 m pc ls (.int x :: .int i :: .ref (mj_ad E o) :: rest.map (mj_cv E)))
    rw [ha]
    have hcell : (mj_ws E M)[o]? = some (E.2.2.1 + o, .inl (E.2.1 1, (mj_sh o).2, .inl (M.2.2 o))) := (mj_ws_at g2).trans (by rw [mj_ce_int g1 (by decide) (by decide)])
    have hKt := (hC.2.2.2.2.2.2.2.2.1.1.2 1 _ rfl).1
    have hn : vp_nar .boolean x = x := by rcases g4 with rfl | rfl <;> rfl
    refine W.zast hC.1 hC.2.1 (hP o _ hcell) (hKt (mj_sh o).2 (fun j => .int (M.2.2 o j))) (fun q => by cases q) (by show ¬ (i < 0 ∨ (arrV _ _ _).slots.size ≤ _); rw [arrV_size]; exact g3) rfl rfl hdg fun H1 e z1 oq => ?_
    refine hK _ _ _ _ _ h h1 h2 H1 _ ls ⟨mj_iastH (t := 12) g1 (by decide) (by decide) g2 (hP.set mj_ws_D hcell ?_ oq), z1.trans hz, hM⟩ (hS.put z1 oq (mj_ws_D.2 o _ hcell)) hL
    show H1[_]? = some (vp_cell _ _)
    rw [e]
    rw [vp_cell_i, vp_cell_i, arrV_store]
    congr 2
    funext q
    by_cases hq : q = i.toNatClampNeg
    · subst hq
      simp [updV, upd]
      rcases g4 with rfl | rfl <;> rfl
    · simp [updV, upd, hq]
  · exact h.elim
theorem sLen (hdg : decode (mj_cc d) pc = .ok (.arraylength, 1)) : mj_S d pc oLen := by
  intro p l e s m args below meth c E post hC L st M z K h hK h1 h2 H locs ls hH hS hL
  unfold oLen at h
  split at h
  · rename_i o rest
    obtain ⟨g1, g3, g2, h⟩ := h
    obtain ⟨hP, hz, hM⟩ := hH
    have ha := mj_ad_lt (E := E) g2 hM
    show W p l e _ s m args below meth c H locs z.1 z.2 _ (F0 m pc ls (.ref (mj_ad E o) :: rest.map (mj_cv E)))
    rw [ha]
    have hc : ∃ x : vp_A, x.1 = (mj_sh o).2 ∧ (mj_ws E M)[o]? = some (E.2.2.1 + o, .inl (E.2.1 ((mj_sh o).1 - 11), x)) := by
      rw [mj_ws_at g2]
      by_cases h13 : (mj_sh o).1 < 13
      · exact ⟨((mj_sh o).2, .inl (M.2.2 o)), rfl, by rw [mj_ce_int rfl g1 h13]⟩
      · exact ⟨((mj_sh o).2, .inr (.inr (.inr (.inr (fun j => (M.2.1 o j).map (mj_ad E)))))), rfl, by rw [mj_ce_ref rfl (by omega)]⟩
    obtain ⟨x, hx, hcell⟩ := hc
    have ht : ∃ ty, (mj_ty E)[(mj_sh o).1 - 11]? = some (E.2.1 ((mj_sh o).1 - 11), ty) := by
      generalize (mj_sh o).1 = t at g1 g3
      have : t = 11 ∨ t = 12 ∨ t = 13 ∨ t = 14 ∨ t = 15 := by omega
      rcases this with rfl | rfl | rfl | rfl | rfl <;> exact ⟨_, rfl⟩
    obtain ⟨ty, ht⟩ := ht
    refine va_alen hC.1 hC.2.1 hC.2.2.2.2.2.2.2.2.1.1 hP o ((mj_sh o).1 - 11) hcell ht (v := Int32.ofNat (mj_sh o).2) (by rw [hx]) hdg ?_
    exact hK _ _ _ _ _ h h1 h2 H locs ls ⟨hP, hz, hM⟩ hS hL
  · exact h.elim
/-! ends -/
theorem sRetI (hdg : decode (mj_cc d) pc = .ok (.ireturn, 1)) (hr : mj_rt d = some .int) : mj_S d pc oRetI := by
  intro p l e s m args below meth c E post hC L st M z K h hK h1 h2 H locs ls hH hS hL
  unfold oRetI at h
  split at h
  · rename_i x
    refine W.widen h1 h2 ?_
    exact W.iret hC.1 hC.2.1 (hC.2.2.2.2.2.1.trans hr) (fun t ht hW => ⟨⟨some (.inl x), M, rfl, h, by rw [ht]; exact hH⟩, hS.F ht⟩) (fun q hq => hS.2.2 q hq) hdg hC.2.2.2.2.2.2.1
  · exact h.elim
theorem sRetZ (hdg : decode (mj_cc d) pc = .ok (.ireturn, 1)) (hr : mj_rt d = some .boolean) : mj_S d pc oRetZ := by
  intro p l e s m args below meth c E post hC L st M z K h hK h1 h2 H locs ls hH hS hL
  unfold oRetZ at h
  split at h
  · rename_i x
    obtain ⟨g, h⟩ := h
    refine W.widen h1 h2 ?_
    exact W.zret hC.1 hC.2.1 (hC.2.2.2.2.2.1.trans hr) (by rcases g with rfl | rfl <;> rfl) (fun t ht hW => ⟨⟨some (.inl x), M, rfl, h, by rw [ht]; exact hH⟩, hS.F ht⟩) (fun q hq => hS.2.2 q hq) hdg hC.2.2.2.2.2.2.1
  · exact h.elim
theorem sRetV (hdg : decode (mj_cc d) pc = .ok (.return_, 1)) (hr : mj_rt d = none) : mj_S d pc oRetV := by
  intro p l e s m args below meth c E post hC L st M z K h hK h1 h2 H locs ls hH hS hL
  unfold oRetV at h
  split at h
  · refine W.widen h1 h2 ?_
    exact W.vret hC.1 hC.2.1 (hC.2.2.2.2.2.1.trans hr) (fun t ht hW => ⟨⟨none, M, rfl, h, by rw [ht]; exact hH⟩, hS.F ht⟩) (fun q hq => hS.2.2 q hq) hdg hC.2.2.2.2.2.2.1
  · exact h.elim
theorem sRetA {n : String} (hdg : decode (mj_cc d) pc = .ok (.areturn, 1)) (hr : mj_rt d = some (.object n)) : mj_S d pc oRetA := by
  intro p l e s m args below meth c E post hC L st M z K h hK h1 h2 H locs ls hH hS hL
  unfold oRetA at h
  split at h
  · rename_i r
    refine W.widen h1 h2 ?_
    exact W.aret (v := mj_cv E (.inr r)) hC.1 hC.2.1 (hC.2.2.2.2.2.1.trans hr) (Or.inl ⟨n, rfl⟩) (by cases r with
      | none => exact Or.inl rfl
      | some a => exact Or.inr ⟨_, rfl⟩) (fun t ht hW => ⟨⟨some (.inr r), M, rfl, h, by rw [ht]; exact hH⟩, hS.F ht⟩) (fun q hq => hS.2.2 q hq) hdg hC.2.2.2.2.2.2.1
  · exact h.elim
/-! calls -/
def mj_sp : Nat → List mj_V → Option (List mj_V × List mj_V)
  | 0, st => some ([], st)
  | n + 1, a :: st => match mj_sp n st with
    | some (as, r) => some (as ++ [a], r)
    | none => none
  | _ + 1, [] => none
theorem mj_sp_eq : ∀ (n : Nat) (st as r : List mj_V), mj_sp n st = some (as, r) → st = as.reverse ++ r ∧ as.length = n
  | 0, st, as, r, h => by cases h; exact ⟨rfl, rfl⟩
  | n + 1, [], as, r, h => by cases h
  | n + 1, a :: st, as, r, h => by
    simp only [mj_sp] at h
    split at h
    · rename_i as' r' hs
      cases h
      obtain ⟨h1, h2⟩ := mj_sp_eq n st as' r hs
      exact ⟨by simp [h1], by simp [h2]⟩
    · cases h
def oCV (n : Nat) (t : Nat × Nat) (d' : mj_D) : mj_O := fun pc L st M z K _ => match mj_sp n st with
  | some (as, .inr (some o) :: rest) => mj_sh o = t ∧ o < M.1 ∧ rest.length ≤ 8 ∧ ∃ post, mj_R d' (.inr (some o) :: as) M post ∧ ∀ r M', post r M' → K (pc + 3) L (r.toList ++ rest) M' z
  | _ => False
def oCS (n : Nat) (d' : mj_D) : mj_O := fun pc L st M z K _ => match mj_sp n st with
  | some (as, rest) => rest.length ≤ 8 ∧ ∃ post, mj_R d' as M post ∧ ∀ r M', post r M' → K (pc + 3) L (r.toList ++ rest) M' z
  | _ => False
def oCI (n : Nat) (d' : mj_D) (bc bs : Nat) : mj_O := fun pc L st M z K _ => match mj_sp n st with
  | some (as, .inr (some o) :: rest) => rest.length ≤ 8 ∧ z.1 + mj_mc d' ≤ bc ∧ z.2 + mj_ms d' ≤ bs ∧ ∃ post, mj_R d' (.inr (some o) :: as) M post ∧ ∀ r M', post r M' → K (pc + 3) L (r.toList ++ rest) M' (z.1 + mj_mc d', z.2 + mj_ms d')
  | _ => False
theorem mj_blind {E : mj_E} {as : List mj_V} {M : mj_M} : FrameBlind (va_Pc (as.map (mj_cv E)) (mj_W E M)) := by
  intro a U g mk h
  obtain ⟨h1, h2, h3, h4⟩ := h
  exact ⟨h1, h2, mj_K.moved (u := U) (U := U.calling g mk a) (Vm.Alike.refl U.vm) h3, (show mj_X E (U.calling g mk a) U.heap from mj_X.same (u := U) (U := U.calling g mk a) rfl h4)⟩
theorem mj_WU {p : Program} {l : Launch} {e : Env} {s : State} {m : MethodId} {args : Array Value} {below : List Frame} {meth : Method} {c : Code} {E : mj_E} (hC : mj_C p l e s m args below meth c E d) {M : mj_M} {H : Heap} {locs : List Loc} (hH : mj_H E M H) (hS : va_S (mj_A E) s.heap H locs) (U : State) (hU : U.heap = H) (hW : s.WarmedH U.vm) : mj_W E M U := by
  refine ⟨by rw [hU]; exact hH, mj_K.moved hW.alike hC.2.2.2.2.2.2.2.2.1, mj_X.moved hW ?_⟩
  rw [hU]
  exact hC.2.2.2.2.2.2.2.2.2.1.kept hS.2.1
theorem mj_go {p : Program} {l : Launch} {e : Env} {R : Room} {s : State} {m : MethodId} {args : Array Value} {below : List Frame} {meth : Method} {c : Code} {E : mj_E} {H : Heap} {locs : List Loc} {cells slots mc ms : Nat} {Q : State → Prop} {ls : Array Slot} {st0 rest : List Value} {a : Array Value} {post : Option mj_V → mj_M → Prop} {H0 : Heap}
    (hr : va_Run p l e R s m args below meth c H locs cells slots mc ms (F0 m pc ls st0) rest (mj_Q E post a) (mj_A E)) (hS : va_S (mj_A E) H0 H locs)
    (kk : ∀ (r : Option mj_V) (M' : mj_M) (H1 : Heap) (locs1 : List Loc), post r M' → mj_H E M' H1 → va_S (mj_A E) H0 H1 locs1 → W p l e R s m args below meth c H1 locs1 (cells + mc) (slots + ms) Q (F0 m (pc + 3) ls ((r.map (mj_cv E)).toList ++ rest))) : W p l e R s m args below meth c H locs cells slots Q (F0 m pc ls st0) := by
  intro T hT X
  obtain ⟨v, st₀, t, T', L, h0, X', hL, e1, e2, ⟨⟨r, M', hv, hp, hH'⟩, hz, hk⟩, st⟩ := hr T hT X
  have hv' : v = r.map (mj_cv E) := Outcome.returned.inj hv
  subst hv'
  rw [h0] at hz hk
  obtain ⟨t2, a1, b1⟩ := kk r M' T'.heap (locs ++ L) hp (by rw [e1]; exact hH')
    ⟨Nat.le_trans hS.1 (by rw [e1]; exact hz), fun q h1 h2 => by rw [e1, hk q (Nat.lt_of_lt_of_le h1 hS.1) h2]; exact hS.2.1 q h1 h2, fun q hq => by
      rcases List.mem_append.mp hq with h | h
      · exact hS.2.2 q h
      · exact hL q h⟩ T' rfl X'
  exact ⟨t2, st t2 a1, b1⟩
theorem mj_sum (E : mj_E) : ∀ (rest : List mj_V), ((rest.map (mj_cv E)).map fun v => v.category).sum = rest.length
  | [] => rfl
  | a :: rest => by
    have h := mj_sum E rest
    simp only [List.map_cons, List.sum_cons, List.length_cons, mj_cat, h]
    omega
theorem mj_tl (E : mj_E) (r : Option mj_V) (rest : List mj_V) : (r.map (mj_cv E)).toList ++ rest.map (mj_cv E) = (r.toList ++ rest).map (mj_cv E) := by cases r <;> rfl
theorem mj_rev (E : mj_E) (as rest : List mj_V) : (as.reverse ++ rest).map (mj_cv E) = (as.map (mj_cv E)).reverse ++ rest.map (mj_cv E) := by simp
theorem sCV {idx n t N : Nat} {d' : mj_D} {C : String} {T : u_T} (hdg : decode (mj_cc d) pc = .ok (.invokevirtual idx, 3)) (hc : vwCl[t]? = some (C, T, N)) (ht : t < 11)
    (m1 : Cond.methodLink (mj_y d).cls idx (mj_y d') ∈ wsL_law) (m2 : Cond.instanceMethod (mj_y d') ∈ wsL_law) (m3 : Cond.selects C (mj_y d') (mj_y d') ∈ wsL_law) (m4 : Cond.initialized C ∈ wsL_law) (m5 : Cond.code (mj_y d') (mj_cc d') (mj_nl d') (mj_rt d') ∈ wsL_law)
    (hd : (mj_y d').cls = C ∧ (mj_y d').cls ≠ "java/lang/invoke/MethodHandle" ∧ (mj_y d').cls ≠ "java/lang/invoke/VarHandle" ∧ (parseMethodDescriptor (mj_y d').desc).map (fun q => q.parameters.length) = some n)
    (hR : mj_fr d' + 1 ≤ mj_fr d ∧ 8 + (mj_nl d' + 11) + mj_lo d' ≤ mj_lo d) (hm : mj_mc d' = 0 ∧ mj_ms d' = 0) : mj_S d pc (oCV n (t, N) d') := by
  intro p l e s m args below meth c E post hC L st M z K h hK h1 h2 H locs ls hH hS hL
  unfold oCV at h
  split at h
  · rename_i as o rest hsp
    obtain ⟨g1, g2, g3, post', hM, h⟩ := h
    obtain ⟨rfl, hlen⟩ := mj_sp_eq _ _ _ _ hsp
    have ha := mj_ad_lt (E := E) g2 hH.2.2
    rw [mj_rev]
    have hcw : CallW (mj_rm d) s args (mj_y d).cls C idx (mj_y d') (mj_cc d') (mj_nl d') (mj_rt d') (Cond.code (mj_y d') (mj_cc d') (mj_nl d') (mj_rt d') :: wsL_law) (mj_rm d') (mj_mc d') (mj_ms d') n :=
      cwV n hC.2.2.2.2.1 (wsL_gi (by
        intro w hw
        rcases List.mem_append.mp hw with hw | hw
        · simp only [List.mem_cons, List.not_mem_nil, or_false] at hw
          rcases hw with rfl | rfl | rfl | rfl
          · exact m1
          · exact m2
          · exact m3
          · exact m4
        · rcases List.mem_cons.mp hw with rfl | hw
          · exact m5
          · exact hw)) rfl rfl rfl hd hR
    have hrun := va_runV (p := p) (l := l) (e := e) (below := below) (meth := meth) (H := H) (locs := locs) (cells := z.1) (slots := z.2) (g := F0 m pc ls ((as.map (mj_cv E)).reverse ++ .ref (E.2.2.1 + o) :: rest.map (mj_cv E))) (b := E.2.2.1 + o) (As := as.map (mj_cv E)) (rest := rest.map (mj_cv E)) (cc := mj_cc d) (nL := mj_nl d) (Ts := wsL_law) ⟨hC.1, hC.2.1, hC.2.2.1, hC.2.2.2.1, hC.2.2.2.2.1⟩ (hM l E) hcw
      ⟨mj_blind, va_recv hC.2.2.2.2.2.2.2.2.1.1 hH.1 hc ((mj_ws_at g2).trans (by rw [mj_ce_ob g1 ht])), fun U hU hW => ⟨by show _ = ((mj_cv E (.inr (some o))) :: as.map (mj_cv E)).toArray; rw [mj_cvr, ha], mj_WU hC hH hS U hU hW⟩⟩
      rfl (by simpa using hlen) (hL.2.1) rfl (lv_room (by rw [mj_sum]; exact g3)) hdg ⟨by rw [hm.1]; exact h1, by rw [hm.2]; exact h2⟩
    have hst : (mj_cv E (.inr (some o))) = Value.ref (E.2.2.1 + o) := by rw [mj_cvr, ha]
    show W p l e _ s m args below meth c H locs z.1 z.2 _ (F0 m pc ls ((as.map (mj_cv E)).reverse ++ (mj_cv E (.inr (some o))) :: rest.map (mj_cv E)))
    rw [hst]
    refine mj_go hrun hS (fun r M' H1 locs1 hp hH1 hS1 => ?_)
    rw [mj_tl, hm.1, hm.2]
    exact hK _ _ _ _ _ (h r M' hp) h1 h2 H1 locs1 ls hH1 hS1 hL
  · exact h.elim
theorem sCS {idx n : Nat} {d' : mj_D} (hdg : decode (mj_cc d) pc = .ok (.invokestatic idx, 3))
    (m1 : Cond.methodLink (mj_y d).cls idx (mj_y d') ∈ wsL_law) (m2 : Cond.static (mj_y d') ∈ wsL_law) (m4 : Cond.initialized (mj_y d').cls ∈ wsL_law) (m5 : Cond.code (mj_y d') (mj_cc d') (mj_nl d') (mj_rt d') ∈ wsL_law)
    (hd : (mj_y d').cls ≠ "java/lang/invoke/MethodHandle" ∧ (mj_y d').cls ≠ "java/lang/invoke/VarHandle" ∧ (parseMethodDescriptor (mj_y d').desc).map (fun q => q.parameters.length) = some n)
    (hR : mj_fr d' + 1 ≤ mj_fr d ∧ 8 + (mj_nl d' + 11) + mj_lo d' ≤ mj_lo d) (hm : mj_mc d' = 0 ∧ mj_ms d' = 0) : mj_S d pc (oCS n d') := by
  intro p l e s m args below meth c E post hC L st M z K h hK h1 h2 H locs ls hH hS hL
  unfold oCS at h
  split at h
  · rename_i as rest hsp
    obtain ⟨g3, post', hM, h⟩ := h
    obtain ⟨rfl, hlen⟩ := mj_sp_eq _ _ _ _ hsp
    rw [mj_rev]
    have hcb : CallB (mj_rm d) s args (mj_y d).cls idx (mj_y d') (mj_cc d') (mj_nl d') (mj_rt d') (Cond.code (mj_y d') (mj_cc d') (mj_nl d') (mj_rt d') :: wsL_law) (mj_rm d') (mj_mc d') (mj_ms d') n :=
      callB_of n hC.2.2.2.2.1 (wsL_gi (by
        intro w hw
        rcases List.mem_cons.mp hw with rfl | hw
        · exact m5
        · exact hw)) rfl rfl rfl (hC.2.2.2.2.1 _ m4) (hC.2.2.2.2.1 _ m1) hd hR
    have hrun := va_runS (p := p) (l := l) (e := e) (below := below) (meth := meth) (H := H) (locs := locs) (cells := z.1) (slots := z.2) (g := F0 m pc ls ((as.map (mj_cv E)).reverse ++ rest.map (mj_cv E))) (As := as.map (mj_cv E)) (rest := rest.map (mj_cv E)) (cc := mj_cc d) (nL := mj_nl d) (Ts := wsL_law) ⟨hC.1, hC.2.1, hC.2.2.1, hC.2.2.2.1, hC.2.2.2.2.1⟩ (hM l E) ⟨hcb, hC.2.2.2.2.1 _ m2⟩
      ⟨mj_blind, fun U hU hW => ⟨rfl, mj_WU hC hH hS U hU hW⟩⟩
      rfl (by simpa using hlen) (hL.2.1) rfl (lv_room (by rw [mj_sum]; exact g3)) hdg ⟨by rw [hm.1]; exact h1, by rw [hm.2]; exact h2⟩
    refine mj_go hrun hS (fun r M' H1 locs1 hp hH1 hS1 => ?_)
    rw [mj_tl, hm.1, hm.2]
    exact hK _ _ _ _ _ (h r M' hp) h1 h2 H1 locs1 ls hH1 hS1 hL
  · exact h.elim
theorem sCI {idx n : Nat} {d' : mj_D} {bc bs : Nat} (hdg : decode (mj_cc d) pc = .ok (.invokespecial idx, 3)) (hb : bc = mj_mc d ∧ bs = mj_ms d)
    (m1 : Cond.methodLink (mj_y d).cls idx (mj_y d') ∈ wsL_law) (m2 : Cond.instanceMethod (mj_y d') ∈ wsL_law) (m4 : Cond.initialized (mj_y d').cls ∈ wsL_law) (m5 : Cond.code (mj_y d') (mj_cc d') (mj_nl d') none ∈ wsL_law) (hret : mj_rt d' = none) (hn : (mj_y d').name = "<init>")
    (hd : (mj_y d').cls ≠ "java/lang/invoke/MethodHandle" ∧ (mj_y d').cls ≠ "java/lang/invoke/VarHandle" ∧ (parseMethodDescriptor (mj_y d').desc).map (fun q => q.parameters.length) = some n)
    (hR : mj_fr d' + 1 ≤ mj_fr d ∧ 8 + (mj_nl d' + 11) + mj_lo d' ≤ mj_lo d) : mj_S d pc (oCI n d' bc bs) := by
  intro p l e s m args below meth c E post hC L st M z K h hK h1 h2 H locs ls hH hS hL
  unfold oCI at h
  split at h
  · rename_i as o rest hsp
    obtain ⟨g3, g4, g5, post', hM, h⟩ := h
    obtain ⟨rfl, hlen⟩ := mj_sp_eq _ _ _ _ hsp
    rw [mj_rev]
    have hMM := hM l E
    rw [hret] at hMM
    have hcb : CallB (mj_rm d) s args (mj_y d).cls idx (mj_y d') (mj_cc d') (mj_nl d') none (Cond.code (mj_y d') (mj_cc d') (mj_nl d') none :: wsL_law) (mj_rm d') (mj_mc d') (mj_ms d') n :=
      callB_of n hC.2.2.2.2.1 (wsL_gi (by
        intro w hw
        rcases List.mem_cons.mp hw with rfl | hw
        · exact m5
        · exact hw)) rfl rfl rfl (hC.2.2.2.2.1 _ m4) (hC.2.2.2.2.1 _ m1) hd hR
    have hrun := va_runI (p := p) (l := l) (e := e) (below := below) (meth := meth) (H := H) (locs := locs) (cells := z.1) (slots := z.2) (g := F0 m pc ls ((as.map (mj_cv E)).reverse ++ .ref (mj_ad E o) :: rest.map (mj_cv E))) (b := mj_ad E o) (As := as.map (mj_cv E)) (rest := rest.map (mj_cv E)) (cc := mj_cc d) (nL := mj_nl d) (Ts := wsL_law) ⟨hC.1, hC.2.1, hC.2.2.1, hC.2.2.2.1, hC.2.2.2.2.1⟩ hMM ⟨hcb, hn, hC.2.2.2.2.1 _ m2⟩
      ⟨mj_blind, fun U hU hW => ⟨rfl, mj_WU hC hH hS U hU hW⟩⟩
      rfl (by simpa using hlen) (hL.2.1) rfl (lv_room (by rw [mj_sum]; exact g3)) hdg ⟨by rw [hb.1] at g4; exact g4, by rw [hb.2] at g5; exact g5⟩
    show W p l e _ s m args below meth c H locs z.1 z.2 _ (F0 m pc ls ((as.map (mj_cv E)).reverse ++ (mj_cv E (.inr (some o))) :: rest.map (mj_cv E)))
    rw [mj_cvr]
    refine mj_go hrun hS (fun r M' H1 locs1 hp hH1 hS1 => ?_)
    rw [mj_tl]
    exact hK _ _ _ _ _ (h r M' hp) (by rw [hb.1] at g4; exact g4) (by rw [hb.2] at g5; exact g5) H1 locs1 ls hH1 hS1 hL
  · exact h.elim
end MJA
