section MJN
variable {d : mj_D} {pc : Nat}
theorem sGetIN {t N k idx : Nat} {C host : String} {T : u_T} (hdg : decode (mj_cc d) pc = .ok (.getfield idx, 3)) (hc : vwCl[t]? = some (C, T, N)) (hin : ∀ w ∈ u_ws C T N, w ∈ wsL_law) (hk : k < N) (hT : (T k).1 = C) (hl : Cond.fieldLinkNest (mj_y d).cls idx C (T k).2.1 (T k).2.2.1 host ∈ mj_nest) (hr : mj_rk t k = false) (ht : t < 11) : mj_S d pc (oGetI (t, N) k) := by
  intro p l e s m args below meth c E post hC L st M z K h hK h1 h2 H locs ls hH hS hL
  unfold oGetI at h
  split at h
  · rename_i o rest
    obtain ⟨g1, g2, h⟩ := h
    obtain ⟨hP, hz, hM⟩ := hH
    have ha := mj_ad_lt (E := E) g2 hM
    show W p l e _ s m args below meth c H locs z.1 z.2 _ (F0 m pc ls (.ref (mj_ad E o) :: rest.map (mj_cv E)))
    rw [ha]
    refine va_getN hC.1 hC.2.1 hC.2.2.2.2.1 hin hC.2.2.2.1 hC.2.2.2.2.2.2.2.2.1.1 hP o ((mj_ws_at g2).trans (by rw [mj_ce_ob g1 ht])) hc k hk (va_Nw.use (mj_nt (List.all_eq_true.mp mj_nestN _ hl)) (hC.2.2.2.2.2.2.2.2.2.1.2.2.2.2 _ hl)) (fun x hx => by rw [hT] at hx; exact hx) (v := .int (M.2.2 o k)) (by simp [hk, mj_fv, hr]) hdg ?_
    exact hK _ _ _ _ _ h h1 h2 H locs ls ⟨hP, hz, hM⟩ hS hL
  · exact h.elim
theorem sGetRN {t N k idx : Nat} {C host : String} {T : u_T} (hdg : decode (mj_cc d) pc = .ok (.getfield idx, 3)) (hc : vwCl[t]? = some (C, T, N)) (hin : ∀ w ∈ u_ws C T N, w ∈ wsL_law) (hk : k < N) (hT : (T k).1 = C) (hl : Cond.fieldLinkNest (mj_y d).cls idx C (T k).2.1 (T k).2.2.1 host ∈ mj_nest) (hr : mj_rk t k = true) (ht : t < 11) : mj_S d pc (oGetR (t, N) k) := by
  intro p l e s m args below meth c E post hC L st M z K h hK h1 h2 H locs ls hH hS hL
  unfold oGetR at h
  split at h
  · rename_i o rest
    obtain ⟨g1, g2, h⟩ := h
    obtain ⟨hP, hz, hM⟩ := hH
    have ha := mj_ad_lt (E := E) g2 hM
    show W p l e _ s m args below meth c H locs z.1 z.2 _ (F0 m pc ls (.ref (mj_ad E o) :: rest.map (mj_cv E)))
    rw [ha]
    refine va_getN hC.1 hC.2.1 hC.2.2.2.2.1 hin hC.2.2.2.1 hC.2.2.2.2.2.2.2.2.1.1 hP o ((mj_ws_at g2).trans (by rw [mj_ce_ob g1 ht])) hc k hk (va_Nw.use (mj_nt (List.all_eq_true.mp mj_nestN _ hl)) (hC.2.2.2.2.2.2.2.2.2.1.2.2.2.2 _ hl)) (fun x hx => by rw [hT] at hx; exact hx) (v := va_rf ((M.2.1 o k).map (mj_ad E))) (by simp [hk, mj_fv, hr]) hdg ?_
    exact hK _ _ _ _ _ h h1 h2 H locs ls ⟨hP, hz, hM⟩ hS hL
  · exact h.elim
theorem mj_putN {p : Program} {l : Launch} {e : Env} {R : Room} {s : State} {m : MethodId} {args : Array Value} {below : List Frame} {meth : Method} {c : Code} {H : Heap} {locs : List Loc} {cells slots : Nat} {Q : State → Prop} {cc : ByteArray} {pc : Nat} {ls : Array Slot} {rest : List Value} {D : va_G} {cl : List vw_C} {A : Nat → Prop} {a : Nat} {tys : List (ClassId × FieldType)} {ws : va_W} {H0 : Heap} (hexec : p.tables.exec = Jvm.exec) (hb : c.code = cc) {own ref C host : String} {T : u_T} {N ci index : Nat} {Ts : List Cond} (hts : ∀ w ∈ Ts, w.before args s = true) (hin : ∀ w ∈ u_ws C T N, w ∈ Ts) (ty0 : Nat → FieldType) (hty : ∀ k, k < N → parseFieldDescriptor (T k).2.2.1 = some (ty0 k)) (hnm : ∀ a, a < N → ∀ b, b < N → a ≠ b → (T a).2.1 ≠ (T b).2.1) (hown : s.vm.findClass own = some m.cls) (hK : va_K D cl tys s) (hP : va_P D cl ws H) (hD : va_D A ws) (hS0 : va_S A H0 H locs) (q0 : Nat) {fs : List Value} (he : ws[q0]? = some (a, .inr (ci, fs))) (hc : cl[ci]? = some (C, T, N)) (k : Nat) (hk : k < N) (hlink : (Cond.fieldLinkNest own index ref (T k).2.1 (T k).2.2.1 host).before args s = true) (hsame : ∀ x, s.fieldFound? (T k).1 (T k).2.1 (T k).2.2.1 = some x → s.fieldFound? ref (T k).2.1 (T k).2.2.1 = some x) (hfin : (T k).2.2.2 = false) {ty : FieldType} {v : Value} (hd : parseFieldDescriptor (T k).2.2.1 = some ty) (hn : narrow ty v = v) (hfit : fits ty v = true) (hl : k < fs.length)
    (hdg : decode cc pc = .ok (.putfield index, 3)) (kk : ∀ (H1 : Heap) (locs1 : List Loc), H1.size = H.size → va_P D cl (ws.set q0 (a, .inr (ci, fs.set k v))) H1 → va_S A H0 H1 locs1 → W p l e R s m args below meth c H1 locs1 cells slots Q (F0 m (pc + 3) ls rest)) : W p l e R s m args below meth c H locs cells slots Q (F0 m pc ls (v :: .ref a :: rest)) := by
  have hap := va_apart (own := own) hts hin ty0 hty hnm hK hc
  obtain ⟨r, h1, cell, q1, q2, q3, q4⟩ := hP q0 _ he
  have hr : r = (C, T, N) := Option.some.inj (h1.symm.trans hc)
  subst hr
  obtain ⟨hS, hfc, kC, hkC, hkind⟩ := hK.1 ci _ hc
  obtain ⟨cf, kf, fi, f, hi, hsl⟩ := hS k hk
  have hlay := hts _ (hin _ (u_in_lay hk))
  unfold u_lay at hlay
  rw [if_neg (by rw [hfin]; decide)] at hlay
  have hst := (u_facts hfc hkC (u_lays hts hin hk) hi).1
  have h6 := u_store hfc hkC hkind hlay hi hd hn hfit
  refine va_WputK hexec hb (f := f) hown hlink (hsame _ hi) hst (by rw [q2]; exact h6) q1 q3 (by rw [hsl]; exact k2_hasslot (q4 k hk)) rfl rfl hdg fun H' e1 e2 e3 => ?_
  rw [hsl] at e1 ⊢
  exact kk H' _ e2 (hP.set hD he ⟨_, hc, t_OB.to (V := updV (vp_V fs) k v) ⟨_, e1, q2, q3, t_set q4 hap hk v⟩ (fun j _ => vp_updV_set hl v j)⟩ e3) (hS0.put e2 e3 (hD.2 q0 _ he))
theorem sPutIN {t N k idx : Nat} {C host : String} {T : u_T} {ty0 : Nat → FieldType} (hdg : decode (mj_cc d) pc = .ok (.putfield idx, 3)) (hc : vwCl[t]? = some (C, T, N)) (hin : ∀ w ∈ u_ws C T N, w ∈ wsL_law) (hty : ∀ k, k < N → parseFieldDescriptor (T k).2.2.1 = some (ty0 k)) (hnm : ∀ a, a < N → ∀ b, b < N → a ≠ b → (T a).2.1 ≠ (T b).2.1) (hk : k < N) (hT : (T k).1 = C ∧ (T k).2.2.2 = false ∧ ty0 k = .int) (hl : Cond.fieldLinkNest (mj_y d).cls idx C (T k).2.1 (T k).2.2.1 host ∈ mj_nest) (hr : mj_rk t k = false) (ht : t < 11) : mj_S d pc (oPutI (t, N) k) := by
  intro p l e s m args below meth c E post hC L st M z K h hK h1 h2 H locs ls hH hS hL
  unfold oPutI at h
  split at h
  · rename_i x o rest
    obtain ⟨g1, g2, h⟩ := h
    obtain ⟨hP, hz, hM⟩ := hH
    have ha := mj_ad_lt (E := E) g2 hM
    show W p l e _ s m args below meth c H locs z.1 z.2 _ (F0 m pc ls (.int x :: .ref (mj_ad E o) :: rest.map (mj_cv E)))
    rw [ha]
    refine mj_putN hC.1 hC.2.1 hC.2.2.2.2.1 hin ty0 hty hnm hC.2.2.2.1 hC.2.2.2.2.2.2.2.2.1.1 hP mj_ws_D hS o ((mj_ws_at g2).trans (by rw [mj_ce_ob g1 ht])) hc k hk (va_Nw.use (mj_nt (List.all_eq_true.mp mj_nestN _ hl)) (hC.2.2.2.2.2.2.2.2.2.1.2.2.2.2 _ hl)) (fun x hx => by rw [hT.1] at hx; exact hx) hT.2.1 ((hty k hk).trans (by rw [hT.2.2])) rfl rfl (by simpa using hk) hdg ?_
    exact fun H1 locs1 hz1 hP1 hS1 => hK _ _ _ _ _ h h1 h2 H1 locs1 ls ⟨mj_putH g1 g2 ht hk hr hM hP1, hz1.trans hz, hM⟩ hS1 hL
  · exact h.elim
theorem sPutZN {t N k idx : Nat} {C host : String} {T : u_T} {ty0 : Nat → FieldType} (hdg : decode (mj_cc d) pc = .ok (.putfield idx, 3)) (hc : vwCl[t]? = some (C, T, N)) (hin : ∀ w ∈ u_ws C T N, w ∈ wsL_law) (hty : ∀ k, k < N → parseFieldDescriptor (T k).2.2.1 = some (ty0 k)) (hnm : ∀ a, a < N → ∀ b, b < N → a ≠ b → (T a).2.1 ≠ (T b).2.1) (hk : k < N) (hT : (T k).1 = C ∧ (T k).2.2.2 = false ∧ ty0 k = .boolean) (hl : Cond.fieldLinkNest (mj_y d).cls idx C (T k).2.1 (T k).2.2.1 host ∈ mj_nest) (hr : mj_rk t k = false) (ht : t < 11) : mj_S d pc (oPutZ (t, N) k) := by
  intro p l e s m args below meth c E post hC L st M z K h hK h1 h2 H locs ls hH hS hL
  unfold oPutZ at h
  split at h
  · rename_i x o rest
    obtain ⟨g1, g2, g3, h⟩ := h
    obtain ⟨hP, hz, hM⟩ := hH
    have ha := mj_ad_lt (E := E) g2 hM
    show W p l e _ s m args below meth c H locs z.1 z.2 _ (F0 m pc ls (.int x :: .ref (mj_ad E o) :: rest.map (mj_cv E)))
    rw [ha]
    refine mj_putN hC.1 hC.2.1 hC.2.2.2.2.1 hin ty0 hty hnm hC.2.2.2.1 hC.2.2.2.2.2.2.2.2.1.1 hP mj_ws_D hS o ((mj_ws_at g2).trans (by rw [mj_ce_ob g1 ht])) hc k hk (va_Nw.use (mj_nt (List.all_eq_true.mp mj_nestN _ hl)) (hC.2.2.2.2.2.2.2.2.2.1.2.2.2.2 _ hl)) (fun x hx => by rw [hT.1] at hx; exact hx) hT.2.1 ((hty k hk).trans (by rw [hT.2.2])) (by rcases g3 with rfl | rfl <;> rfl) (by rcases g3 with rfl | rfl <;> rfl) (by simpa using hk) hdg ?_
    exact fun H1 locs1 hz1 hP1 hS1 => hK _ _ _ _ _ h h1 h2 H1 locs1 ls ⟨mj_putH g1 g2 ht hk hr hM hP1, hz1.trans hz, hM⟩ hS1 hL
  · exact h.elim
theorem sGetsN {k idx : Nat} {host : String} (hdg : decode (mj_cc d) pc = .ok (.getstatic idx, 3)) (hk : k < 3) (hl : Cond.fieldLinkNest (mj_y d).cls idx "DebtorViews" (mj_xn k) "[I" host ∈ mj_nest) : mj_S d pc (oGets k) := by
  intro p l e s m args below meth c E post hC L st M z K h hK z1 z2 H locs ls hH hS hL
  refine va_getsN hC.1 hC.2.1 (hC.2.2.2.2.2.2.2.2.2.1.1 k hk).1 hS hC.2.2.2.1 (va_Nw.use (mj_nt (List.all_eq_true.mp mj_nestN _ hl)) (hC.2.2.2.2.2.2.2.2.2.1.2.2.2.2 _ hl)) (fun _ hx => hx) hdg ?_
  have h1 := hK _ _ _ _ _ h z1 z2 H locs ls hH hS hL
  rw [List.map_cons, mj_cvr, mj_adx] at h1
  exact h1
theorem sCSN {idx n : Nat} {d' : mj_D} {host : String} (hdg : decode (mj_cc d) pc = .ok (.invokestatic idx, 3))
    (m1 : Cond.methodLinkNest (mj_y d).cls idx (mj_y d') host ∈ mj_nest) (m2 : Cond.static (mj_y d') ∈ wsL_law) (m4 : Cond.initialized (mj_y d').cls ∈ wsL_law) (m5 : Cond.code (mj_y d') (mj_cc d') (mj_nl d') (mj_rt d') ∈ wsL_law)
    (hd : (mj_y d').cls ≠ "java/lang/invoke/MethodHandle" ∧ (mj_y d').cls ≠ "java/lang/invoke/VarHandle" ∧ (parseMethodDescriptor (mj_y d').desc).map (fun q => q.parameters.length) = some n)
    (hR : mj_fr d' + 1 ≤ mj_fr d ∧ 8 + (mj_nl d' + 11) + mj_lo d' ≤ mj_lo d) (hm : mj_mc d' = 0 ∧ mj_ms d' = 0) : mj_S d pc (oCS n d') := by
  intro p l e s m args below meth c E post hC L st M z K h hK h1 h2 H locs ls hH hS hL
  unfold oCS at h
  split at h
  · rename_i as rest hsp
    obtain ⟨g3, post', hM, h⟩ := h
    obtain ⟨rfl, hlen⟩ := mj_sp_eq _ _ _ _ hsp
    rw [mj_rev]
    have hcb : va_CN (mj_rm d) s args (mj_y d).cls idx (mj_y d') host (mj_cc d') (mj_nl d') (mj_rt d') (Cond.code (mj_y d') (mj_cc d') (mj_nl d') (mj_rt d') :: wsL_law) (mj_rm d') (mj_mc d') (mj_ms d') n :=
      va_cnB n hC.2.2.2.2.1 (wsL_gi (by
        intro w hw
        rcases List.mem_cons.mp hw with rfl | hw
        · exact m5
        · exact hw)) rfl rfl rfl (hC.2.2.2.2.2.2.2.2.2.1.2.2.2.2 _ m1) (hC.2.2.2.2.1 _ m4) hd hR
    have hrun := va_runSN (p := p) (l := l) (e := e) (below := below) (meth := meth) (H := H) (locs := locs) (cells := z.1) (slots := z.2) (g := F0 m pc ls ((as.map (mj_cv E)).reverse ++ rest.map (mj_cv E))) (As := as.map (mj_cv E)) (rest := rest.map (mj_cv E)) (cc := mj_cc d) (nL := mj_nl d) (Ts := wsL_law) ⟨hC.1, hC.2.1, hC.2.2.1, hC.2.2.2.1, hC.2.2.2.2.1⟩ (hM l E) ⟨hcb, hC.2.2.2.2.1 _ m2, trivial⟩
      ⟨mj_blind, fun U hU hW => ⟨rfl, mj_WU hC hH hS U hU hW⟩⟩
      rfl (by simpa using hlen) (hL.2.1) rfl (lv_room (by rw [mj_sum]; exact g3)) hdg ⟨by rw [hm.1]; exact h1, by rw [hm.2]; exact h2⟩
    refine mj_go hrun hS (fun r M' H1 locs1 hp hH1 hS1 => ?_)
    rw [mj_tl, hm.1, hm.2]
    exact hK _ _ _ _ _ (h r M' hp) h1 h2 H1 locs1 ls hH1 hS1 hL
  · exact h.elim
theorem sCIN {idx n : Nat} {d' : mj_D} {bc bs : Nat} {host : String} (hdg : decode (mj_cc d) pc = .ok (.invokespecial idx, 3)) (hb : bc = mj_mc d ∧ bs = mj_ms d)
    (m1 : Cond.methodLinkNest (mj_y d).cls idx (mj_y d') host ∈ mj_nest) (m2 : Cond.instanceMethod (mj_y d') ∈ wsL_law) (m4 : Cond.initialized (mj_y d').cls ∈ wsL_law) (m5 : Cond.code (mj_y d') (mj_cc d') (mj_nl d') none ∈ wsL_law) (hret : mj_rt d' = none) (hn : (mj_y d').name = "<init>")
    (hd : (mj_y d').cls ≠ "java/lang/invoke/MethodHandle" ∧ (mj_y d').cls ≠ "java/lang/invoke/VarHandle" ∧ (parseMethodDescriptor (mj_y d').desc).map (fun q => q.parameters.length) = some n)
    (hR : mj_fr d' + 1 ≤ mj_fr d ∧ 8 + (mj_nl d' + 11) + mj_lo d' ≤ mj_lo d) : mj_S d pc (oCI n d' bc bs) := by
  intro p l e s m args below meth c E post hC L st M z K h hK h1 h2 H locs ls hH hS hL
  unfold oCI at h
  split at h
  · rename_i as o rest hsp
    obtain ⟨g3, g4, g5, post', hM, h⟩ := h
    obtain ⟨rfl, hlen⟩ := mj_sp_eq _ _ _ _ hsp
    rw [mj_rev]
    have hMM := hM l E
    rw [hret] at hMM
    have hcb : va_CN (mj_rm d) s args (mj_y d).cls idx (mj_y d') host (mj_cc d') (mj_nl d') none (Cond.code (mj_y d') (mj_cc d') (mj_nl d') none :: wsL_law) (mj_rm d') (mj_mc d') (mj_ms d') n :=
      va_cnB n hC.2.2.2.2.1 (wsL_gi (by
        intro w hw
        rcases List.mem_cons.mp hw with rfl | hw
        · exact m5
        · exact hw)) rfl rfl rfl (hC.2.2.2.2.2.2.2.2.2.1.2.2.2.2 _ m1) (hC.2.2.2.2.1 _ m4) hd hR
    have hrun := va_runIN (p := p) (l := l) (e := e) (below := below) (meth := meth) (H := H) (locs := locs) (cells := z.1) (slots := z.2) (g := F0 m pc ls ((as.map (mj_cv E)).reverse ++ .ref (mj_ad E o) :: rest.map (mj_cv E))) (b := mj_ad E o) (As := as.map (mj_cv E)) (rest := rest.map (mj_cv E)) (cc := mj_cc d) (nL := mj_nl d) (Ts := wsL_law) ⟨hC.1, hC.2.1, hC.2.2.1, hC.2.2.2.1, hC.2.2.2.2.1⟩ hMM ⟨hcb, hn, hC.2.2.2.2.1 _ m2⟩
      ⟨mj_blind, fun U hU hW => ⟨rfl, mj_WU hC hH hS U hU hW⟩⟩
      rfl (by simpa using hlen) (hL.2.1) rfl (lv_room (by rw [mj_sum]; exact g3)) hdg ⟨by rw [hb.1] at g4; exact g4, by rw [hb.2] at g5; exact g5⟩
    show W p l e _ s m args below meth c H locs z.1 z.2 _ (F0 m pc ls ((as.map (mj_cv E)).reverse ++ (mj_cv E (.inr (some o))) :: rest.map (mj_cv E)))
    rw [mj_cvr]
    refine mj_go hrun hS (fun r M' H1 locs1 hp hH1 hS1 => ?_)
    rw [mj_tl]
    exact hK _ _ _ _ _ (h r M' hp) (by rw [hb.1] at g4; exact g4) (by rw [hb.2] at g5; exact g5) H1 locs1 ls hH1 hS1 hL
  · exact h.elim
end MJN
