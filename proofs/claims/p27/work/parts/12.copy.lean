section MJZ
variable {d : mj_D} {pc : Nat}
theorem mj_nn (z : Int32) (hz : ¬ z < 0) : z.toInt = (z.toNatClampNeg : Int) := by
  have hz0 : (0 : Int) ≤ z.toInt := by
    have := Int32.not_lt.mp hz
    simpa using Int32.le_iff_toInt_le.mp this
  show z.toInt = ((z.toInt.toNat : Nat) : Int)
  omega
theorem sCpy {idx : Nat} (hdg : decode (mj_cc d) pc = .ok (.invokestatic idx, 3)) (m1 : Cond.methodLink (mj_y d).cls idx arraycopyName ∈ wsL_law) (m2 : Cond.native arraycopyName ∈ wsL_law) (m3 : Cond.static arraycopyName ∈ wsL_law) (m4 : Cond.initialized "java/lang/System" ∈ wsL_law) (hR : 1 ≤ mj_fr d ∧ 26 ≤ mj_lo d) : mj_S d pc oCpy := by
  intro p l e s m args below meth c E post hC L st M z K h hK h1 h2 H locs ls hH hS hL
  unfold oCpy at h
  split at h
  · rename_i n dp o1 sp o0 rest
    obtain ⟨g1, g2, g3, g4, g5, g6, g7, g8, g9, g10, h⟩ := h
    obtain ⟨hP, hz, hM⟩ := hH
    have g := hC.2.2.2.2.1
    show W p l e _ s m args below meth c H locs z.1 z.2 _ (F0 m pc ls (.int n :: .int dp :: .ref (mj_ad E o1) :: .int sp :: .ref (mj_ad E o0) :: rest.map (mj_cv E)))
    rw [mj_ad_lt (E := E) g3 hM, mj_ad_lt (E := E) g4 hM]
    have ha0 : (mj_ws E M)[o0]? = some (E.2.2.1 + o0, .inl (E.2.1 0, (mj_sh o0).2, .inl (M.2.2 o0))) := (mj_ws_at g3).trans (by rw [mj_ce_int g1 (by decide) (by decide)])
    have ha1 : (mj_ws E M)[o1]? = some (E.2.2.1 + o1, .inl (E.2.1 0, (mj_sh o1).2, .inl (M.2.2 o1))) := (mj_ws_at g4).trans (by rw [mj_ce_int g2 (by decide) (by decide)])
    have hK0 := (hC.2.2.2.2.2.2.2.2.1.1.2 0 _ rfl).1
    intro T hT X
    have hc0 : H[E.2.2.1 + o0]? = some (vp_cell (E.2.1 0) ((mj_sh o0).2, .inl (M.2.2 o0))) := hP o0 _ ha0
    have hc1 : H[E.2.2.1 + o1]? = some (vp_cell (E.2.1 0) ((mj_sh o1).2, .inl (M.2.2 o1))) := hP o1 _ ha1
    obtain ⟨-, k0, hk0, cm0, hkk0⟩ := hK0 (mj_sh o0).2 (fun j => .int (M.2.2 o0 j))
    obtain ⟨-, k1, hk1, cm1, hkk1⟩ := hK0 (mj_sh o1).2 (fun j => .int (M.2.2 o1 j))
    obtain ⟨vm', X', step⟩ := X.arraycopy hC.1 hC.2.2.2.1 (g _ m1) (g _ m2) (g _ m3) (g _ m4) (src := E.2.2.1 + o0) (dst := E.2.2.1 + o1) (cs := vp_cell (E.2.1 0) ((mj_sh o0).2, .inl (M.2.2 o0))) (cd := vp_cell (E.2.1 0) ((mj_sh o1).2, .inl (M.2.2 o1))) (srcPos := sp) (destPos := dp) (n := n) (by rw [hT]; exact hc0) (by rw [hT]; exact hc1)
      (fun _ h => by cases h) (fun _ h => by cases h) (fun h => by cases h) (fun h => by cases h) hk0 hk1 hkk0 hkk1 (by simp [show refKind .int = false from rfl]) g5 g6 g7
      (by rw [mj_nn sp g5, mj_nn n g7]; show ¬ _ > ((arrV _ (mj_sh o0).2 (fun j => .int (M.2.2 o0 j))).slots.size : Int); rw [arrV_size]; omega)
      (by rw [mj_nn dp g6, mj_nn n g7]; show ¬ _ > ((arrV _ (mj_sh o1).2 (fun j => .int (M.2.2 o1 j))).slots.size : Int); rw [arrV_size]; omega)
      (fun vm₁ _ i hi => by
        have e : (vp_cell (E.2.1 0) ((mj_sh o0).2, .inl (M.2.2 o0))).slots.getD (sp.toNatClampNeg + i) .null = .int (M.2.2 o0 (sp.toNatClampNeg + i)) := by
          show (arrV _ (mj_sh o0).2 (fun j => .int (M.2.2 o0 j))).slots.getD _ _ = _
          rw [Array.getD_eq_getD_getElem?, arrV_read _ _ (by omega)]
          rfl
        refine ⟨?_, ?_⟩
        · rw [e]
          rfl
        · rw [e]
          exact trivial)
      (g := F0 m pc ls (.int n :: .int dp :: .ref (E.2.2.1 + o1) :: .int sp :: .ref (E.2.2.1 + o0) :: rest.map (mj_cv E))) rfl (by rw [hC.2.2.1]; exact hL.2.1) (rest := rest.map (mj_cv E)) rfl (by rw [hC.2.1]; exact hdg) hR.1 (by rw [mj_sum]; show 2 * 0 + _ + (nativeFrameWords "java/lang/System" "arraycopy" 5 + 11) ≤ mj_lo d; rw [show nativeFrameWords "java/lang/System" "arraycopy" 5 = 7 from by decide +kernel]; omega)
    have e1 : copied (vp_cell (E.2.1 0) ((mj_sh o0).2, .inl (M.2.2 o0))) (vp_cell (E.2.1 0) ((mj_sh o1).2, .inl (M.2.2 o1))) sp dp n = vp_cell (E.2.1 0) ((mj_sh o1).2, .inl (va_cpy (M.2.2 o0) (M.2.2 o1) sp.toNatClampNeg dp.toNatClampNeg n.toNatClampNeg)) := va_copied (fun z => .int z) _ _ _ _ g8
    rw [e1] at X' step
    have hl : E.2.2.1 + o1 < H.size := (Array.getElem?_eq_some_iff.mp hc1).1
    generalize hcv : vp_cell (E.2.1 0) ((mj_sh o1).2, .inl (va_cpy (M.2.2 o0) (M.2.2 o1) sp.toNatClampNeg dp.toNatClampNeg n.toNatClampNeg)) = cv at X' step
    have hheap : ((T.setVm vm').setCell (E.2.2.1 + o1) cv).heap = H.setIfInBounds (E.2.2.1 + o1) cv := by rw [← hT]; rfl
    have oq : ∀ q : Nat, q ≠ E.2.2.1 + o1 → (H.setIfInBounds (E.2.2.1 + o1) cv)[q]? = H[q]? := fun q hq => by simp [Array.getElem?_setIfInBounds, Ne.symm hq]
    have hset : va_P E.1 vwCl (mj_ws E (M.1, M.2.1, mj_cp M.2.2 o1 (va_cpy (M.2.2 o0) (M.2.2 o1) sp.toNatClampNeg dp.toNatClampNeg n.toNatClampNeg))) (H.setIfInBounds (E.2.2.1 + o1) cv) := by
      rw [← mj_ws_set (E := E) (M := M) (M' := (M.1, M.2.1, mj_cp M.2.2 o1 (va_cpy (M.2.2 o0) (M.2.2 o1) sp.toNatClampNeg dp.toNatClampNeg n.toNatClampNeg))) (e := .inl (E.2.1 0, (mj_sh o1).2, .inl (va_cpy (M.2.2 o0) (M.2.2 o1) sp.toNatClampNeg dp.toNatClampNeg n.toNatClampNeg))) rfl g4 (by rw [mj_ce_int g2 (by decide) (by decide)]; simp only [mj_cp, if_true]) (fun q hq => by simp only [mj_ce, mj_cp, hq, if_false])]
      refine hP.set mj_ws_D ha1 ?_ oq
      show (H.setIfInBounds (E.2.2.1 + o1) cv)[E.2.2.1 + o1]? = some (vp_cell _ _)
      rw [hcv]
      simp [Array.getElem?_setIfInBounds, hl]
    obtain ⟨t, a1, b1⟩ := hK _ _ _ _ _ h h1 h2 (H.setIfInBounds (E.2.2.1 + o1) cv) _ ls ⟨hset, by simp; exact hz, hM⟩ ⟨by simp; exact hS.1, fun q q1 q2 => by
      rw [oq q (fun e => q2 (by rw [e]; exact mj_ws_D.2 o1 _ ha1))]
      exact hS.2.1 q q1 q2, fun q hq => by
      rcases List.mem_append.mp hq with h | h
      · exact hS.2.2 q h
      · obtain ⟨z, -, hz⟩ := List.mem_map.mp h
        rw [← hz]
        exact mj_ws_D.2 o1 _ ha1⟩ hL _ hheap X'
    exact ⟨t, step t a1, b1⟩
  · exact h.elim
end MJZ
