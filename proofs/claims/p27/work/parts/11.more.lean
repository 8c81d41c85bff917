def mj_tn (k : Nat) (a b : Nat → mj_O) : Nat → mj_O := fun pc => match Nat.blt pc k with
  | true => a pc
  | false => b pc
def mj_lf (k : Nat) (o : mj_O) : Nat → mj_O := fun pc => match Nat.beq pc k with
  | true => o
  | false => oStuck
def oMax : mj_O := fun pc L st M z K _ => match st with
  | .inl y :: .inl x :: rest => rest.length ≤ 8 ∧ K (pc + 3) L (.inl (if x < y then y else x) :: rest) M z
  | _ => False
def oMin : mj_O := fun pc L st M z K _ => match st with
  | .inl y :: .inl x :: rest => rest.length ≤ 8 ∧ K (pc + 3) L (.inl (if y < x then y else x) :: rest) M z
  | _ => False
def mj_cp (I : mj_I) (o : Nat) (f : Nat → Int32) : mj_I := fun o' => if o' = o then f else I o'
def oCpy : mj_O := fun pc L st M z K _ => match st with
  | .inl n :: .inl dp :: .inr (some o1) :: .inl sp :: .inr (some o0) :: rest => (mj_sh o0).1 = 11 ∧ (mj_sh o1).1 = 11 ∧ o0 < M.1 ∧ o1 < M.1 ∧ ¬ sp < 0 ∧ ¬ dp < 0 ∧ ¬ n < 0 ∧ sp.toNatClampNeg + n.toNatClampNeg ≤ (mj_sh o0).2 ∧ dp.toNatClampNeg + n.toNatClampNeg ≤ (mj_sh o1).2 ∧ rest.length ≤ 8 ∧
      K (pc + 3) L rest (M.1, M.2.1, mj_cp M.2.2 o1 (va_cpy (M.2.2 o0) (M.2.2 o1) sp.toNatClampNeg dp.toNatClampNeg n.toNatClampNeg)) z
  | _ => False
def oObj : mj_O := fun pc L st M z K _ => match st with
  | .inr (some _) :: rest => rest.length ≤ 8 ∧ K (pc + 3) L rest M z
  | _ => False
def mj_nI (I : mj_I) (o : Nat) : mj_I := fun o' => if o' = o then (fun _ => 0) else I o'
def mj_nF (F : mj_F) (o : Nat) : mj_F := fun o' => if o' = o then (fun _ => none) else F o'
def oNew (t : Nat × Nat) (bc bs : Nat) : mj_O := fun pc L st M z K _ =>
  mj_sh M.1 = t ∧ M.1 + 1 ≤ 1000 ∧ z.1 + 1 ≤ bc ∧ z.2 + t.2 ≤ bs ∧ K (pc + 3) L (.inr (some M.1) :: st) (M.1 + 1, mj_nF M.2.1 M.1, mj_nI M.2.2 M.1) (z.1 + 1, z.2 + t.2)
def oNewR (t w : Nat) (bc bs : Nat) : mj_O := fun pc L st M z K _ => match st with
  | .inl n :: rest => (mj_sh M.1).1 = t ∧ M.1 + 1 ≤ 1000 ∧ ¬ n < 0 ∧ n.toNatClampNeg = (mj_sh M.1).2 ∧ (mj_sh M.1).2 ≤ 100000 ∧ z.1 + 1 ≤ bc ∧ z.2 + (mj_sh M.1).2 ≤ bs ∧ K (pc + w) L (.inr (some M.1) :: rest) (M.1 + 1, mj_nF M.2.1 M.1, mj_nI M.2.2 M.1) (z.1 + 1, z.2 + (mj_sh M.1).2)
  | _ => False
def oAast (t : Nat) (c : Nat × Nat) : mj_O := fun pc L st M z K _ => match st with
  | .inr (some r) :: .inl i :: .inr (some o) :: rest => (mj_sh o).1 = t ∧ o < M.1 ∧ mj_sh r = c ∧ r < M.1 ∧ vp_in i (mj_sh o).2 ∧ K (pc + 1) L rest (M.1, mj_uF M.2.1 o i.toNatClampNeg (some r), M.2.2) z
  | _ => False
section MJY
variable {d : mj_D} {pc : Nat}
theorem sTn {k : Nat} {a b : Nat → mj_O} (ha : ∀ pc, mj_S d pc (a pc)) (hb : ∀ pc, mj_S d pc (b pc)) (pc : Nat) : mj_S d pc (mj_tn k a b pc) := by
  unfold mj_tn
  cases Nat.blt pc k
  · exact hb pc
  · exact ha pc
theorem sLf {k : Nat} {o : mj_O} (h : mj_S d k o) (pc : Nat) : mj_S d pc (mj_lf k o pc) := by
  unfold mj_lf
  cases hk : Nat.beq pc k
  · exact sStuck
  · rw [Nat.eq_of_beq_eq_true hk]; exact h
theorem sMax {idx : Nat} (hdg : decode (mj_cc d) pc = .ok (.invokestatic idx, 3)) (m1 : Cond.methodLink (mj_y d).cls idx Lib.Math.max.name ∈ wsL_law) (m2 : Cond.static Lib.Math.max.name ∈ wsL_law) (m3 : Cond.initialized "java/lang/Math" ∈ wsL_law) (m4 : Cond.code Lib.Math.max.name Lib.Math.max.code 2 (some .int) ∈ wsL_law) (hR : 1 ≤ mj_fr d ∧ 21 ≤ mj_lo d) : mj_S d pc oMax := by
  intro p l e s m args below meth c E post hC L st M z K h hK h1 h2 H locs ls hH hS hL
  unfold oMax at h
  split at h
  · rename_i y x rest
    have g := hC.2.2.2.2.1
    exact va_mmax hC.1 hC.2.1 (hC.2.2.1.trans hL.2.1.symm) hC.2.2.2.1 (g _ m1) (g _ m2) (g _ m3) (g _ m4) hR.1 (by rw [mj_sum]; show _ ≤ mj_lo d; have := h.1; omega) h1 h2 hdg (hK _ _ _ _ _ h.2 h1 h2 H locs ls hH hS hL)
  · exact h.elim
theorem sMin {idx : Nat} (hdg : decode (mj_cc d) pc = .ok (.invokestatic idx, 3)) (m1 : Cond.methodLink (mj_y d).cls idx Lib.Math.min.name ∈ wsL_law) (m2 : Cond.static Lib.Math.min.name ∈ wsL_law) (m3 : Cond.initialized "java/lang/Math" ∈ wsL_law) (m4 : Cond.code Lib.Math.min.name Lib.Math.min.code 2 (some .int) ∈ wsL_law) (hR : 1 ≤ mj_fr d ∧ 21 ≤ mj_lo d) : mj_S d pc oMin := by
  intro p l e s m args below meth c E post hC L st M z K h hK h1 h2 H locs ls hH hS hL
  unfold oMin at h
  split at h
  · rename_i y x rest
    have g := hC.2.2.2.2.1
    exact va_mmin hC.1 hC.2.1 (hC.2.2.1.trans hL.2.1.symm) hC.2.2.2.1 (g _ m1) (g _ m2) (g _ m3) (g _ m4) hR.1 (by rw [mj_sum]; show _ ≤ mj_lo d; have := h.1; omega) h1 h2 hdg (hK _ _ _ _ _ h.2 h1 h2 H locs ls hH hS hL)
  · exact h.elim
theorem sObj {idx : Nat} (hdg : decode (mj_cc d) pc = .ok (.invokespecial idx, 3)) (m1 : Cond.methodLink (mj_y d).cls idx Lib.objectInit ∈ wsL_law) (m2 : Cond.instanceMethod Lib.objectInit ∈ wsL_law) (m3 : Cond.code Lib.objectInit ⟨#[0xb1]⟩ 1 none ∈ wsL_law) (hR : 1 ≤ mj_fr d ∧ 20 ≤ mj_lo d) : mj_S d pc oObj := by
  intro p l e s m args below meth c E post hC L st M z K h hK h1 h2 H locs ls hH hS hL
  unfold oObj at h
  split at h
  · rename_i o rest
    have g := hC.2.2.2.2.1
    exact W.objInit hC.1 hC.2.1 hC.2.2.2.1 (g _ m1) (g _ m2) (g _ m3) rfl (hL.2.1.trans hC.2.2.1.symm) (a := mj_ad E o) (rest := rest.map (mj_cv E)) rfl hdg hR.1 (by rw [mj_sum]; show 2 * 0 + _ + 12 ≤ mj_lo d; have := h.1; omega) (hK _ _ _ _ _ h.2 h1 h2 H locs ls hH hS hL)
  · exact h.elim
theorem mj_ws_push {E : mj_E} {n : Nat} {F F' : mj_F} {I I' : mj_I} (hF : ∀ o, o < n → F' o = F o) (hI : ∀ o, o < n → I' o = I o) : mj_ws E (n + 1, F', I') = mj_ws E (n, F, I) ++ [(E.2.2.1 + n, mj_ce E (n + 1, F', I') n)] := by
  simp only [mj_ws, List.range_succ, List.map_append, List.map_cons, List.map_nil]
  congr 1
  apply List.map_congr_left
  intro o ho
  have ho := List.mem_range.mp ho
  simp only [mj_ce, hF o ho, hI o ho]
theorem mj_nI_lt {I : mj_I} {n o : Nat} (h : o < n) : mj_nI I n o = I o := if_neg (by omega)
theorem mj_nF_lt {F : mj_F} {n o : Nat} (h : o < n) : mj_nF F n o = F o := if_neg (by omega)
theorem mj_pushH {E : mj_E} {M : mj_M} {H H1 : Heap} (hP : va_P E.1 vwCl (mj_ws E M) H) (hz : H.size = E.2.2.1 + M.1) (z1 : H1.size = H.size + 1) (o1 : ∀ q, q < H.size → H1[q]? = H[q]?)
    (hc : va_at E.1 vwCl (E.2.2.1 + M.1, mj_ce E (M.1 + 1, mj_nF M.2.1 M.1, mj_nI M.2.2 M.1) M.1) H1) (hM : M.1 + 1 ≤ 1000) : mj_H E (M.1 + 1, mj_nF M.2.1 M.1, mj_nI M.2.2 M.1) H1 := by
  refine ⟨?_, by rw [z1, hz]; show _ = E.2.2.1 + (M.1 + 1); omega, hM⟩
  rw [mj_ws_push (F := M.2.1) (I := M.2.2) (fun o h => mj_nF_lt h) (fun o h => mj_nI_lt h)]
  refine (hP.kept (fun k x hx => o1 x.1 (hP k x hx).lt)).app (fun k x hx => ?_)
  have hz : k < 1 := (List.getElem?_eq_some_iff.mp hx).1
  rw [show k = 0 by omega] at hx
  cases hx
  exact hc
theorem mj_pushS {E : mj_E} {H0 H H1 : Heap} {locs : List Loc} (hS : va_S (mj_A E) H0 H locs) (z1 : H1.size = H.size + 1) (o1 : ∀ q, q < H.size → H1[q]? = H[q]?) : va_S (mj_A E) H0 H1 locs :=
  ⟨Nat.le_trans hS.1 (by omega), fun x h1 h2 => (o1 x (Nat.lt_of_lt_of_le h1 hS.1)).trans (hS.2.1 x h1 h2), hS.2.2⟩
theorem sNew {t N idx bc bs : Nat} {C : String} {T : u_T} {ty : Nat → FieldType} (hdg : decode (mj_cc d) pc = .ok (.new idx, 3)) (hc : vwCl[t]? = some (C, T, N)) (ht : t < 11) (hin : ∀ w ∈ u_ws C T N, w ∈ wsL_law) (hty : ∀ k, k < N → parseFieldDescriptor (T k).2.2.1 = some (ty k))
    (m1 : Cond.classLink (mj_y d).cls idx C ∈ wsL_law) (m2 : Cond.instantiable C N ∈ wsL_law) (m3 : Cond.initialized C ∈ wsL_law) (hdf : ∀ j, j < N → defaultValue (ty j) = if mj_rk t j = true then .null else .int 0) (hb : bc = mj_mc d ∧ bs = mj_ms d) : mj_S d pc (oNew (t, N) bc bs) := by
  intro p l e s m args below meth c E post hC L st M z K h hK h1 h2 H locs ls hH hS hL
  obtain ⟨g1, g2, g3, g4, h⟩ := h
  obtain ⟨hP, hz, hM⟩ := hH
  have g := hC.2.2.2.2.1
  have hKn := hC.2.2.2.2.2.2.2.2.1.1.1 t _ hc
  refine W.newcK hC.1 hC.2.1 hC.2.2.2.1 (g _ m1) (g _ m2) (g _ m3) rfl hdg (by show _ ≤ mj_mc d; rw [← hb.1]; exact g3) (by show _ ≤ mj_ms d; rw [← hb.2]; exact g4) hKn.2.1 hz fun H1 kC hkC e1 z1 o1 => ?_
  rw [← hz] at z1 o1
  have hcell : va_at E.1 vwCl (E.2.2.1 + M.1, mj_ce E (M.1 + 1, mj_nF M.2.1 M.1, mj_nI M.2.2 M.1) M.1) H1 := by
    rw [mj_ce_ob g1 ht]
    refine ⟨_, hc, (u_born ty g hin hKn hkC e1 hty).to (fun j hj => ?_)⟩
    rw [hdf j hj]
    have hj' : j < N := hj
    simp only [vp_V, mj_fv, mj_nF, mj_nI, if_true, List.getD_eq_getElem?_getD, List.getElem?_map, List.getElem?_range hj', Option.map_some, Option.getD_some, Option.map_none, va_rf]
  have h6 := hK _ _ _ _ _ h (by show z.1 + 1 ≤ mj_mc d; rw [← hb.1]; exact g3) (by show z.2 + N ≤ mj_ms d; rw [← hb.2]; exact g4) H1 locs ls (mj_pushH hP hz z1 o1 hcell g2) (mj_pushS hS z1 o1) hL
  rw [List.map_cons, mj_cvr, mj_ad, if_pos (by omega)] at h6
  exact h6
theorem sNewR {t bc bs : Nat} {atype : ArrayType} {ty : FieldType} (hdg : decode (mj_cc d) pc = .ok (.newarray atype, 2)) (hat : newarray.typeOf atype = ty) (m1 : Cond.arrayClass ty ∈ wsL_law) (ht : t = 11 ∧ ty = .int ∨ t = 12 ∧ ty = .boolean) (hb : bc = mj_mc d ∧ bs = mj_ms d) : mj_S d pc (oNewR t 2 bc bs) := by
  intro p l e s m args below meth c E post hC L st M z K h hK h1 h2 H locs ls hH hS hL
  unfold oNewR at h
  split at h
  · rename_i n rest
    obtain ⟨g1, g2, g5, g6, g7, g3, g4, h⟩ := h
    obtain ⟨hP, hz, hM⟩ := hH
    have g := hC.2.2.2.2.1
    subst hat
    refine va_newaK hC.1 hC.2.1 (g _ m1) rfl hdg rfl g5 g6 (by rcases ht with ⟨-, e⟩ | ⟨-, e⟩ <;> rw [e] <;> simp only [componentBytes] <;> omega) (by show _ ≤ mj_mc d; rw [← hb.1]; exact g3) (by show _ ≤ mj_ms d; rw [← hb.2]; exact g4) hz fun H1 cA e1 z1 o1 hAr hNm => ?_
    rw [← hz] at z1 o1
    have hcell : va_at E.1 vwCl (E.2.2.1 + M.1, mj_ce E (M.1 + 1, mj_nF M.2.1 M.1, mj_nI M.2.2 M.1) M.1) H1 := by
      rcases ht with ⟨rfl, e⟩ | ⟨rfl, e⟩
      · rw [mj_ce_int g1 (by decide) (by decide)]
        have hk := (hC.2.2.2.2.2.2.2.2.1.1.2 0 _ rfl).2
        rw [e] at hNm e1
        have hcA : cA = E.2.1 0 := Option.some.inj (hNm.symm.trans hk)
        show H1[_]? = some (vp_cell _ _)
        rw [e1, hcA, vp_cell_i]
        simp only [mj_nI, if_true]
        rfl
      · rw [mj_ce_int g1 (by decide) (by decide)]
        have hk := (hC.2.2.2.2.2.2.2.2.1.1.2 1 _ rfl).2
        rw [e] at hNm e1
        have hcA : cA = E.2.1 1 := Option.some.inj (hNm.symm.trans hk)
        show H1[_]? = some (vp_cell _ _)
        rw [e1, hcA, vp_cell_i]
        simp only [mj_nI, if_true]
        rfl
    have h6 := hK _ _ _ _ _ h (by show z.1 + 1 ≤ mj_mc d; rw [← hb.1]; exact g3) (by show z.2 + _ ≤ mj_ms d; rw [← hb.2]; exact g4) H1 locs ls (mj_pushH hP hz z1 o1 hcell g2) (mj_pushS hS z1 o1) hL
    rw [List.map_cons, mj_cvr, mj_ad, if_pos (by omega)] at h6
    exact h6
  · exact h.elim
theorem sNewQ {t idx bc bs : Nat} {C : String} (hdg : decode (mj_cc d) pc = .ok (.anewarray idx, 3)) (m1 : Cond.classLink (mj_y d).cls idx C ∈ wsL_law) (ht : t = 13 ∧ C = "DebtorViews$View" ∨ t = 14 ∧ C = "DebtorViews$Books" ∨ t = 15 ∧ C = "DebtorViews$State") (hb : bc = mj_mc d ∧ bs = mj_ms d) : mj_S d pc (oNewR t 3 bc bs) := by
  intro p l e s m args below meth c E post hC L st M z K h hK h1 h2 H locs ls hH hS hL
  unfold oNewR at h
  split at h
  · rename_i n rest
    obtain ⟨g1, g2, g5, g6, g7, g3, g4, h⟩ := h
    obtain ⟨hP, hz, hM⟩ := hH
    have g := hC.2.2.2.2.1
    have hKK := hC.2.2.2.2.2.2.2.2.1
    have hao : va_AO C s := by
      rcases ht with ⟨-, e⟩ | ⟨-, e⟩ | ⟨-, e⟩
      · rw [e]; exact hKK.2.1
      · rw [e]; exact hKK.2.2.1
      · rw [e]; exact hKK.2.2.2
    have hk : ∃ k : Nat, t = 11 + k ∧ 2 ≤ k ∧ (mj_ty E)[k]? = some (E.2.1 k, .object C) := by
      rcases ht with ⟨rfl, rfl⟩ | ⟨rfl, rfl⟩ | ⟨rfl, rfl⟩
      · exact ⟨2, rfl, by decide, rfl⟩
      · exact ⟨3, rfl, by decide, rfl⟩
      · exact ⟨4, rfl, by decide, rfl⟩
    obtain ⟨k, rfl, hk2, hkt⟩ := hk
    refine W.anew hC.1 hC.2.1 hC.2.2.2.1 (g _ m1) (va_AO.use hao) rfl hdg rfl g5 (by rw [g6]; omega) (by show _ ≤ mj_mc d; rw [← hb.1]; exact g3) (by show _ ≤ mj_ms d; rw [← hb.2, g6]; exact g4) fun cA kA comp f1 f2 f3 f4 => ?_
    generalize hH1 : H.push ({ cls := cA, slots := Array.replicate n.toNatClampNeg .null, vm := .none } : Cell) = H1
    have z1 : H1.size = H.size + 1 := by rw [← hH1, Array.size_push]
    have e1 : H1[H.size]? = some (arrV cA n.toNatClampNeg (fun _ => .null)) := by rw [← hH1, Array.getElem?_push_size, ← arrV_new]
    have o1 : ∀ q : Nat, q < H.size → H1[q]? = H[q]? := fun q hq => by rw [← hH1, Array.getElem?_push, if_neg (Nat.ne_of_lt hq)]
    have hcell : va_at E.1 vwCl (E.2.2.1 + M.1, mj_ce E (M.1 + 1, mj_nF M.2.1 M.1, mj_nI M.2.2 M.1) M.1) H1 := by
      rw [mj_ce_ref g1 (by omega)]
      obtain ⟨kA', comp', k1, k2, k3, k4⟩ := (hKK.1.2 k _ hkt).2
      have hcA : cA = E.2.1 k := Option.some.inj (f1.symm.trans k4)
      show H1[_]? = some (vp_cell _ _)
      rw [← hz, e1, hcA, vp_cell_q, g6, Nat.add_sub_cancel_left]
      simp only [mj_nF, if_true]
      rfl
    have h6 := hK _ _ _ _ _ h (by show z.1 + 1 ≤ mj_mc d; rw [← hb.1]; exact g3) (by show z.2 + _ ≤ mj_ms d; rw [← hb.2]; exact g4) H1 locs ls (mj_pushH hP hz z1 o1 hcell g2) (mj_pushS hS z1 o1) hL
    rw [List.map_cons, mj_cvr, mj_ad, if_pos (by omega), ← hz, ← g6] at h6
    exact h6
  · exact h.elim
theorem sAast {t ci N : Nat} {C : String} {T : u_T} (hdg : decode (mj_cc d) pc = .ok (.aastore, 1)) (hc : vwCl[ci]? = some (C, T, N)) (hci : ci < 11) (h13 : 13 ≤ t) (hty : ∀ E : mj_E, (mj_ty E)[t - 11]? = some (E.2.1 (t - 11), .object C)) : mj_S d pc (oAast t (ci, N)) := by
  intro p l e s m args below meth c E post hC L st M z K h hK h1 h2 H locs ls hH hS hL
  unfold oAast at h
  split at h
  · rename_i v i o rest
    obtain ⟨g1, g2, g3, g4, g5, h⟩ := h
    obtain ⟨hP, hz, hM⟩ := hH
    have hKK := hC.2.2.2.2.2.2.2.2.1.1
    have hlt : i.toNatClampNeg < (mj_sh o).2 := mj_vin g5
    have h0 : ¬ i < 0 := fun q => g5 (Or.inl q)
    show W p l e _ s m args below meth c H locs z.1 z.2 _ (F0 m pc ls (.ref (mj_ad E v) :: .int i :: .ref (mj_ad E o) :: rest.map (mj_cv E)))
    rw [mj_ad_lt (E := E) g2 hM, mj_ad_lt (E := E) g4 hM]
    have hcell : (mj_ws E M)[o]? = some (E.2.2.1 + o, .inl (E.2.1 (t - 11), (mj_sh o).2, .inr (.inr (.inr (.inr (fun j => (M.2.1 o j).map (mj_ad E))))))) := (mj_ws_at g2).trans (by rw [mj_ce_ref g1 h13])
    obtain ⟨r', hr', cellV, q1, q2, q3, -⟩ := hP v _ ((mj_ws_at g4).trans (by rw [mj_ce_ob g3 hci]))
    have hcls := (hKK.1 ci _ hc).2
    obtain ⟨kA, comp, k1, k2, k3, -⟩ := (hKK.2 _ _ (hty E)).2
    have hcomp : comp = E.1.1 ci := Option.some.inj (k3.symm.trans hcls.1)
    subst hcomp
    obtain ⟨kC, hkC, -⟩ := hcls.2
    refine W.aast hC.1 hC.2.1 (hP o _ hcell) (fun q h => by cases h) (fun h => by cases h) k1 k2 rfl hkC ⟨h0, by show _ < (arrV _ _ _).slots.size; rw [arrV_size]; exact hlt⟩ q1 (fun q h => by rw [q3] at h; cases h) (by rw [q2]; exact hkC) (by rw [q2]; exact va_assign hcls) rfl rfl hdg fun H1 e z1 oq => ?_
    have hset : va_P E.1 vwCl (mj_ws E (M.1, mj_uF M.2.1 o i.toNatClampNeg (some v), M.2.2)) H1 := by
      rw [← mj_ws_set (E := E) (M := M) (M' := (M.1, mj_uF M.2.1 o i.toNatClampNeg (some v), M.2.2)) (e := .inl (E.2.1 (t - 11), (mj_sh o).2, .inr (.inr (.inr (.inr (fun j => (va_up (M.2.1 o) i.toNatClampNeg (some v) j).map (mj_ad E))))))) rfl g2 (by rw [mj_ce_ref g1 h13]; simp only [mj_uF_eq]) (fun q hq => mj_ce_uF hq)]
      refine hP.set mj_ws_D hcell ?_ oq
      show H1[_]? = some (vp_cell _ _)
      rw [e]
      rw [vp_cell_q, vp_cell_q, arrV_store]
      congr 2
      funext q
      by_cases hq : q = i.toNatClampNeg
      · subst hq
        simp [updV, va_up, va_rf, mj_ad_lt (E := E) g4 hM]
      · simp [updV, va_up, hq]
    exact hK _ _ _ _ _ h h1 h2 H1 _ ls ⟨hset, z1.trans hz, hM⟩ (hS.put z1 oq (mj_ws_D.2 o _ hcell)) hL
  · exact h.elim
end MJY
