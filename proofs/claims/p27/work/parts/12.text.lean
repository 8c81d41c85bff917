def oCJ (n : Nat) (d' : mj_D) : mj_O := fun pc L st M z K _ => match mj_sp n st with
  | some (as, .inr (some o) :: rest) => (∃ i, i < 8 ∧ o = 1010 + i) ∧ rest.length ≤ 8 ∧ ∃ post, mj_R d' (.inr (some o) :: as) M post ∧ ∀ r M', post r M' → K (pc + 3) L (r.toList ++ rest) M' z
  | _ => False
section MJS
variable {d : mj_D} {pc : Nat}
theorem sCJ {idx n : Nat} {d' : mj_D} (hdg : decode (mj_cc d) pc = .ok (.invokevirtual idx, 3))
    (m1 : Cond.methodLink (mj_y d).cls idx (mj_y d') ∈ wsL_law) (m2 : Cond.instanceMethod (mj_y d') ∈ wsL_law) (m3 : Cond.selects "java/lang/String" (mj_y d') (mj_y d') ∈ wsL_law) (m4 : Cond.initialized "java/lang/String" ∈ wsL_law) (m5 : Cond.code (mj_y d') (mj_cc d') (mj_nl d') (mj_rt d') ∈ wsL_law)
    (hd : (mj_y d').cls = "java/lang/String" ∧ (mj_y d').cls ≠ "java/lang/invoke/MethodHandle" ∧ (mj_y d').cls ≠ "java/lang/invoke/VarHandle" ∧ (parseMethodDescriptor (mj_y d').desc).map (fun q => q.parameters.length) = some n)
    (hR : mj_fr d' + 1 ≤ mj_fr d ∧ 8 + (mj_nl d' + 11) + mj_lo d' ≤ mj_lo d) (hm : mj_mc d' = 0 ∧ mj_ms d' = 0) : mj_S d pc (oCJ n d') := by
  intro p l e s m args below meth c E post hC L st M z K h hK h1 h2 H locs ls hH hS hL
  unfold oCJ at h
  split at h
  · rename_i as o rest hsp
    obtain ⟨⟨i, hi, rfl⟩, g3, post', hM, h⟩ := h
    obtain ⟨rfl, hlen⟩ := mj_sp_eq _ _ _ _ hsp
    have ha : mj_ad E (1010 + i) = E.2.2.2 (10 + i) := by rw [Nat.add_assoc 1000 10 i, mj_adx]
    rw [mj_rev]
    have hcw : CallW (mj_rm d) s args (mj_y d).cls "java/lang/String" idx (mj_y d') (mj_cc d') (mj_nl d') (mj_rt d') (Cond.code (mj_y d') (mj_cc d') (mj_nl d') (mj_rt d') :: wsL_law) (mj_rm d') (mj_mc d') (mj_ms d') n :=
      cwV n hC.2.2.2.2.1 (wsL_gi (by
        intro w hw
        rcases List.mem_append.mp hw with hw | hw
        · simp only [List.mem_cons, List.not_mem_nil, or_false] at hw
          rcases hw with rfl | rfl | rfl | rfl
          · exact m1
          · exact m2
          · exact m3
          · exact m4
        · rcases List.mem_cons.mp hw with rfl | hw
          · exact m5
          · exact hw)) rfl rfl rfl hd hR
    have hrun := va_runV (p := p) (l := l) (e := e) (below := below) (meth := meth) (H := H) (locs := locs) (cells := z.1) (slots := z.2) (g := F0 m pc ls ((as.map (mj_cv E)).reverse ++ .ref (E.2.2.2 (10 + i)) :: rest.map (mj_cv E))) (b := E.2.2.2 (10 + i)) (As := as.map (mj_cv E)) (rest := rest.map (mj_cv E)) (cc := mj_cc d) (nL := mj_nl d) (Ts := wsL_law) ⟨hC.1, hC.2.1, hC.2.2.1, hC.2.2.2.1, hC.2.2.2.2.1⟩ (hM l E) hcw
      ⟨mj_blind, vk_recv (adK := fun i => E.2.2.2 (10 + i)) (i := i) hC.2.2.2.2.2.2.2.2.2.1.2.1 hi hS, fun U hU hW => ⟨by show _ = ((mj_cv E (.inr (some (1010 + i)))) :: as.map (mj_cv E)).toArray; rw [mj_cvr, ha], mj_WU hC hH hS U hU hW⟩⟩
      rfl (by simpa using hlen) (hL.2.1) rfl (lv_room (by rw [mj_sum]; exact g3)) hdg ⟨by rw [hm.1]; exact h1, by rw [hm.2]; exact h2⟩
    have hst : (mj_cv E (.inr (some (1010 + i)))) = Value.ref (E.2.2.2 (10 + i)) := by rw [mj_cvr, ha]
    show W p l e _ s m args below meth c H locs z.1 z.2 _ (F0 m pc ls ((as.map (mj_cv E)).reverse ++ (mj_cv E (.inr (some (1010 + i)))) :: rest.map (mj_cv E)))
    rw [hst]
    refine mj_go hrun hS (fun r M' H1 locs1 hp hH1 hS1 => ?_)
    rw [mj_tl, hm.1, hm.2]
    exact hK _ _ _ _ _ (h r M' hp) h1 h2 H1 locs1 ls hH1 hS1 hL
  · exact h.elim
end MJS
