def mj_lg : List (Option mj_V) → Nat → Option mj_V
  | [], _ => none
  | a :: _, 0 => a
  | _ :: t, i + 1 => mj_lg t i
def mj_ls : List (Option mj_V) → Nat → mj_V → List (Option mj_V)
  | [], _, _ => []
  | _ :: t, 0, v => some v :: t
  | a :: t, i + 1, v => a :: mj_ls t i v
theorem mj_lg_get : ∀ (L : List (Option mj_V)) (i : Nat) (v : mj_V), mj_lg L i = some v → L[i]? = some (some v)
  | [], i, v, h => by cases i <;> cases h
  | a :: t, 0, v, h => by
    simp only [mj_lg] at h
    rw [h]; rfl
  | a :: t, i + 1, v, h => by
    rw [List.getElem?_cons_succ]
    exact mj_lg_get t i v h
theorem mj_ls_len : ∀ (L : List (Option mj_V)) (i : Nat) (v : mj_V), (mj_ls L i v).length = L.length
  | [], _, _ => rfl
  | _ :: _, 0, _ => rfl
  | _ :: t, i + 1, v => congrArg (· + 1) (mj_ls_len t i v)
theorem mj_ls_get : ∀ (L : List (Option mj_V)) (i : Nat) (v : mj_V) (j : Nat) (w : mj_V), (mj_ls L i v)[j]? = some (some w) → (j = i ∧ w = v) ∨ (j ≠ i ∧ L[j]? = some (some w))
  | [], i, v, j, w, h => by
    simp only [mj_ls] at h
    cases j <;> cases h
  | a :: t, 0, v, 0, w, h => by
    simp only [mj_ls, List.getElem?_cons_zero] at h
    cases h
    exact Or.inl ⟨rfl, rfl⟩
  | a :: t, 0, v, j + 1, w, h => by
    simp only [mj_ls, List.getElem?_cons_succ] at h
    exact Or.inr ⟨by omega, by rw [List.getElem?_cons_succ]; exact h⟩
  | a :: t, i + 1, v, 0, w, h => by
    simp only [mj_ls, List.getElem?_cons_zero] at h
    exact Or.inr ⟨by omega, by rw [List.getElem?_cons_zero]; exact h⟩
  | a :: t, i + 1, v, j + 1, w, h => by
    simp only [mj_ls, List.getElem?_cons_succ] at h
    rcases mj_ls_get t i v j w h with ⟨h1, h2⟩ | ⟨h1, h2⟩
    · exact Or.inl ⟨by omega, h2⟩
    · exact Or.inr ⟨by omega, by rw [List.getElem?_cons_succ]; exact h2⟩
def mj_lv (E : mj_E) (L : List (Option mj_V)) : List (Nat × Value) := (List.range L.length).filterMap (fun i => match L[i]? with
  | some (some v) => some (i, mj_cv E v)
  | _ => none)
theorem mj_L.has {E : mj_E} {nL : Nat} {L : List (Option mj_V)} {ls : Array Slot} (h : mj_L E nL L ls) : lv_has ls nL (mj_lv E L) := by
  refine ⟨h.2.1, h.2.2.1, fun q hq => ?_⟩
  obtain ⟨i, -, hi⟩ := List.mem_filterMap.mp hq
  revert hi
  cases hL : L[i]? with
  | none => intro hi; cases hi
  | some x =>
    cases x with
    | none => intro hi; cases hi
    | some v =>
      intro hi
      cases hi
      exact h.2.2.2 i v hL
theorem mj_L.at {E : mj_E} {nL i : Nat} {L : List (Option mj_V)} {ls : Array Slot} {v : mj_V} (h : mj_L E nL L ls) (hv : mj_lg L i = some v) : ls[i]? = some (.val (mj_cv E v)) := h.2.2.2 i v (mj_lg_get L i v hv)
theorem mj_L.put {E : mj_E} {nL i : Nat} {L : List (Option mj_V)} {ls ls' : Array Slot} {v : mj_V} (h : mj_L E nL L ls) (h' : lv_has ls' nL ((i, mj_cv E v) :: (mj_lv E L).filter (fun q => !(q.1 == i) && !(q.1 + 1 == i && q.2.category == 2)))) : mj_L E nL (mj_ls L i v) ls' := by
  refine ⟨(mj_ls_len L i v).trans h.1, h'.1, h'.2.1, fun j w hj => ?_⟩
  rcases mj_ls_get L i v j w hj with ⟨rfl, rfl⟩ | ⟨hne, hj⟩
  · exact h'.2.2 _ List.mem_cons_self
  · refine h'.2.2 (j, mj_cv E w) (List.mem_cons_of_mem _ (List.mem_filter.mpr ⟨List.mem_filterMap.mpr ⟨j, List.mem_range.mpr (List.getElem?_eq_some_iff.mp hj).1, ?_⟩, ?_⟩))
    · simp only [hj]
    · simp [hne, mj_cat]
/-! the operations -/
def oC (x : Int32) (n : Nat) : mj_O := fun pc L st M z K _ => K (pc + n) L (.inl x :: st) M z
def oNull : mj_O := fun pc L st M z K _ => K (pc + 1) L (.inr none :: st) M z
def oIld (i n : Nat) : mj_O := fun pc L st M z K _ => match mj_lg L i with
  | some (.inl x) => K (pc + n) L (.inl x :: st) M z
  | _ => False
def oAld (i n : Nat) : mj_O := fun pc L st M z K _ => match mj_lg L i with
  | some (.inr r) => K (pc + n) L (.inr r :: st) M z
  | _ => False
def oIst (i n : Nat) : mj_O := fun pc L st M z K _ => match st with
  | .inl x :: rest => K (pc + n) (mj_ls L i (.inl x)) rest M z
  | _ => False
def oAst (i n : Nat) : mj_O := fun pc L st M z K _ => match st with
  | .inr r :: rest => K (pc + n) (mj_ls L i (.inr r)) rest M z
  | _ => False
def oInc (i : Nat) (k : Int32) : mj_O := fun pc L st M z K _ => match mj_lg L i with
  | some (.inl x) => K (pc + 3) (mj_ls L i (.inl (x + k))) st M z
  | _ => False
def oBin (f : Int32 → Int32 → Int32) : mj_O := fun pc L st M z K _ => match st with
  | .inl y :: .inl x :: rest => K (pc + 1) L (.inl (f x y) :: rest) M z
  | _ => False
def oDiv (f : Int32 → Int32 → Int32) : mj_O := fun pc L st M z K _ => match st with
  | .inl y :: .inl x :: rest => (¬ y = 0) ∧ K (pc + 1) L (.inl (f x y) :: rest) M z
  | _ => False
def oUn (f : Int32 → Int32) : mj_O := fun pc L st M z K _ => match st with
  | .inl x :: rest => K (pc + 1) L (.inl (f x) :: rest) M z
  | _ => False
def oDup : mj_O := fun pc L st M z K _ => match st with
  | a :: rest => K (pc + 1) L (a :: a :: rest) M z
  | _ => False
def oPop : mj_O := fun pc L st M z K _ => match st with
  | _ :: rest => K (pc + 1) L rest M z
  | _ => False
def oDup2 : mj_O := fun pc L st M z K _ => match st with
  | a :: b :: rest => K (pc + 1) L (a :: b :: a :: b :: rest) M z
  | _ => False
def oIf (P Q : Int32 → Prop) (t : Nat) : mj_O := fun pc L st M z K _ => match st with
  | .inl x :: rest => (P x → K t L rest M z) ∧ (Q x → K (pc + 3) L rest M z)
  | _ => False
def oCmp (P Q : Int32 → Int32 → Prop) (t : Nat) : mj_O := fun pc L st M z K _ => match st with
  | .inl y :: .inl x :: rest => (P x y → K t L rest M z) ∧ (Q x y → K (pc + 3) L rest M z)
  | _ => False
def oIfNull (t : Nat) : mj_O := fun pc L st M z K _ => match st with
  | .inr r :: rest => match r with
    | none => K t L rest M z
    | some _ => K (pc + 3) L rest M z
  | _ => False
def oIfNN (t : Nat) : mj_O := fun pc L st M z K _ => match st with
  | .inr r :: rest => match r with
    | none => K (pc + 3) L rest M z
    | some _ => K t L rest M z
  | _ => False
def oGoto (t : Nat) : mj_O := fun _ L st M z K _ => K t L st M z
def mj_sw (x : Int32) (k : Nat → Prop) (df : Nat) : List (Int32 × Nat) → Prop
  | [] => k df
  | q :: r => (x = q.1 → k q.2) ∧ (¬ x = q.1 → mj_sw x k df r)
def oSw (cs : List (Int32 × Nat)) (df : Nat) : mj_O := fun _ L st M z K _ => match st with
  | .inl x :: rest => mj_sw x (fun t => K t L rest M z) df cs
  | _ => False
def oRetI : mj_O := fun _ _ st M z _ P => match st with
  | [.inl x] => P (some (.inl x)) M z
  | _ => False
def oRetZ : mj_O := fun _ _ st M z _ P => match st with
  | [.inl x] => (x = 0 ∨ x = 1) ∧ P (some (.inl x)) M z
  | _ => False
def oRetV : mj_O := fun _ _ st M z _ P => match st with
  | [] => P none M z
  | _ => False
def oRetA : mj_O := fun _ _ st M z _ P => match st with
  | [.inr r] => P (some (.inr r)) M z
  | _ => False
def oStuck : mj_O := fun _ _ _ _ _ _ _ => False
section MJO
variable {d : mj_D} {pc : Nat}
theorem sStuck : mj_S d pc oStuck := fun _ _ _ _ _ _ _ _ _ _ _ _ _ _ _ _ _ h => h.elim
theorem sC_iconst {n : Int} {v : Int32} (hdg : decode (mj_cc d) pc = .ok (.iconst n, 1)) (hv : Int32.ofInt n = v) : mj_S d pc (oC v 1) := by
  intro p l e s m args below meth c E post hC L st M z K h hK h1 h2 H locs ls hH hS hL
  exact lv_iconst hC.1 hC.2.1 hdg hv (hK _ _ _ _ _ h h1 h2 H locs ls hH hS hL)
theorem sC_bipush {n : Int} {v : Int32} (hdg : decode (mj_cc d) pc = .ok (.bipush n, 2)) (hv : (Int8.ofInt n).toInt32 = v) : mj_S d pc (oC v 2) := by
  intro p l e s m args below meth c E post hC L st M z K h hK h1 h2 H locs ls hH hS hL
  exact lv_bipush hC.1 hC.2.1 hdg hv (hK _ _ _ _ _ h h1 h2 H locs ls hH hS hL)
theorem sC_sipush {n : Int} {v : Int32} (hdg : decode (mj_cc d) pc = .ok (.sipush n, 3)) (hv : (Int16.ofInt n).toInt32 = v) : mj_S d pc (oC v 3) := by
  intro p l e s m args below meth c E post hC L st M z K h hK h1 h2 H locs ls hH hS hL
  exact lv_sipush hC.1 hC.2.1 hdg hv (hK _ _ _ _ _ h h1 h2 H locs ls hH hS hL)
theorem sC_ldc {k : Nat} {v : Int32} (hdg : decode (mj_cc d) pc = .ok (.ldc k, 2)) (hw : Cond.constant (mj_y d).cls k v ∈ wsL_law) : mj_S d pc (oC v 2) := by
  intro p l e s m args below meth c E post hC L st M z K h hK h1 h2 H locs ls hH hS hL
  exact lv_ldc hC.1 hC.2.1 hC.2.2.2.1 (hC.2.2.2.2.1 _ hw) hdg (hK _ _ _ _ _ h h1 h2 H locs ls hH hS hL)
theorem sC_ldcw {k : Nat} {v : Int32} (hdg : decode (mj_cc d) pc = .ok (.ldc_w k, 3)) (hw : Cond.constant (mj_y d).cls k v ∈ wsL_law) : mj_S d pc (oC v 3) := by
  intro p l e s m args below meth c E post hC L st M z K h hK h1 h2 H locs ls hH hS hL
  exact lv_ldcw hC.1 hC.2.1 hC.2.2.2.1 (hC.2.2.2.2.1 _ hw) hdg (hK _ _ _ _ _ h h1 h2 H locs ls hH hS hL)
theorem sNull (hdg : decode (mj_cc d) pc = .ok (.aconst_null, 1)) : mj_S d pc oNull := by
  intro p l e s m args below meth c E post hC L st M z K h hK h1 h2 H locs ls hH hS hL
  exact lv_null hC.1 hC.2.1 hdg (hK _ _ _ _ _ h h1 h2 H locs ls hH hS hL)
theorem sIld_n {k : Fin 4} {i : Nat} (hdg : decode (mj_cc d) pc = .ok (.iload_n k, 1)) (hi : (k : Nat) = i) : mj_S d pc (oIld i 1) := by
  intro p l e s m args below meth c E post hC L st M z K h hK h1 h2 H locs ls hH hS hL
  unfold oIld at h
  split at h
  · rename_i x hx
    exact lv_iload_n hC.1 hC.2.1 hdg hi (hL.at hx) (hK _ _ _ _ _ h h1 h2 H locs ls hH hS hL)
  · exact h.elim
theorem sIld {i : Nat} (hdg : decode (mj_cc d) pc = .ok (.iload i, 2)) : mj_S d pc (oIld i 2) := by
  intro p l e s m args below meth c E post hC L st M z K h hK h1 h2 H locs ls hH hS hL
  unfold oIld at h
  split at h
  · rename_i x hx
    exact lv_iload hC.1 hC.2.1 hdg (hL.at hx) (hK _ _ _ _ _ h h1 h2 H locs ls hH hS hL)
  · exact h.elim
theorem sAld_n {k : Fin 4} {i : Nat} (hdg : decode (mj_cc d) pc = .ok (.aload_n k, 1)) (hi : (k : Nat) = i) : mj_S d pc (oAld i 1) := by
  intro p l e s m args below meth c E post hC L st M z K h hK h1 h2 H locs ls hH hS hL
  unfold oAld at h
  split at h
  · rename_i r hx
    cases r with
    | none => exact lv_aload_nN hC.1 hC.2.1 hdg hi (hL.at hx) (hK _ _ _ _ _ h h1 h2 H locs ls hH hS hL)
    | some o => exact lv_aload_n hC.1 hC.2.1 hdg hi (hL.at hx) (hK _ _ _ _ _ h h1 h2 H locs ls hH hS hL)
  · exact h.elim
theorem sAld {i : Nat} (hdg : decode (mj_cc d) pc = .ok (.aload i, 2)) : mj_S d pc (oAld i 2) := by
  intro p l e s m args below meth c E post hC L st M z K h hK h1 h2 H locs ls hH hS hL
  unfold oAld at h
  split at h
  · rename_i r hx
    cases r with
    | none => exact lv_aloadN hC.1 hC.2.1 hdg (hL.at hx) (hK _ _ _ _ _ h h1 h2 H locs ls hH hS hL)
    | some o => exact lv_aload hC.1 hC.2.1 hdg (hL.at hx) (hK _ _ _ _ _ h h1 h2 H locs ls hH hS hL)
  · exact h.elim
theorem sIst_n {k : Fin 4} {i : Nat} (hdg : decode (mj_cc d) pc = .ok (.istore_n k, 1)) (hi : (k : Nat) = i) (hn : i < mj_nl d) : mj_S d pc (oIst i 1) := by
  intro p l e s m args below meth c E post hC L st M z K h hK h1 h2 H locs ls hH hS hL
  unfold oIst at h
  split at h
  · rename_i x rest
    exact lv_istore_n hC.1 hC.2.1 hdg hi hL.has hn rfl (fun ls' hl' => hK _ _ _ _ _ h h1 h2 H locs ls' hH hS (hL.put (v := .inl x) hl'))
  · exact h.elim
theorem sIst {i : Nat} (hdg : decode (mj_cc d) pc = .ok (.istore i, 2)) (hn : i < mj_nl d) : mj_S d pc (oIst i 2) := by
  intro p l e s m args below meth c E post hC L st M z K h hK h1 h2 H locs ls hH hS hL
  unfold oIst at h
  split at h
  · rename_i x rest
    exact lv_istore hC.1 hC.2.1 hdg hL.has hn rfl (fun ls' hl' => hK _ _ _ _ _ h h1 h2 H locs ls' hH hS (hL.put (v := .inl x) hl'))
  · exact h.elim
theorem sAst_n {k : Fin 4} {i : Nat} (hdg : decode (mj_cc d) pc = .ok (.astore_n k, 1)) (hi : (k : Nat) = i) (hn : i < mj_nl d) : mj_S d pc (oAst i 1) := by
  intro p l e s m args below meth c E post hC L st M z K h hK h1 h2 H locs ls hH hS hL
  unfold oAst at h
  split at h
  · rename_i r rest
    cases r with
    | none => exact lv_astore_nN hC.1 hC.2.1 hdg hi hL.has hn rfl (fun ls' hl' => hK _ _ _ _ _ h h1 h2 H locs ls' hH hS (hL.put (v := .inr none) hl'))
    | some o => exact lv_astore_n hC.1 hC.2.1 hdg hi hL.has hn rfl (fun ls' hl' => hK _ _ _ _ _ h h1 h2 H locs ls' hH hS (hL.put (v := .inr (some o)) hl'))
  · exact h.elim
theorem sAst {i : Nat} (hdg : decode (mj_cc d) pc = .ok (.astore i, 2)) (hn : i < mj_nl d) : mj_S d pc (oAst i 2) := by
  intro p l e s m args below meth c E post hC L st M z K h hK h1 h2 H locs ls hH hS hL
  unfold oAst at h
  split at h
  · rename_i r rest
    cases r with
    | none => exact lv_astoreN hC.1 hC.2.1 hdg hL.has hn rfl (fun ls' hl' => hK _ _ _ _ _ h h1 h2 H locs ls' hH hS (hL.put (v := .inr none) hl'))
    | some o => exact lv_astore hC.1 hC.2.1 hdg hL.has hn rfl (fun ls' hl' => hK _ _ _ _ _ h h1 h2 H locs ls' hH hS (hL.put (v := .inr (some o)) hl'))
  · exact h.elim
theorem mj_lv_idx {E : mj_E} {L : List (Option mj_V)} {i : Nat} {v : mj_V} (h : mj_lg L i = some v) : ∃ k : Nat, (mj_lv E L)[k]? = some (i, mj_cv E v) := by
  have h1 := mj_lg_get L i v h
  exact List.getElem?_of_mem (List.mem_filterMap.mpr ⟨i, List.mem_range.mpr (List.getElem?_eq_some_iff.mp h1).1, by simp only [h1]⟩)
theorem sInc {i : Nat} {n : Int} {k : Int32} (hdg : decode (mj_cc d) pc = .ok (.iinc i n, 3)) (hk : Int32.ofInt n = k) (hn : i < mj_nl d) : mj_S d pc (oInc i k) := by
  intro p l e s m args below meth c E post hC L st M z K h hK h1 h2 H locs ls hH hS hL
  unfold oInc at h
  split at h
  · rename_i x hx
    obtain ⟨q, hq⟩ := mj_lv_idx (E := E) hx
    exact lv_iinc hC.1 hC.2.1 hdg hL.has hq (by rw [hk]) hn rfl (fun ls' hl' => hK _ _ _ _ _ h h1 h2 H locs ls' hH hS (hL.put (v := .inl (x + k)) hl'))
  · exact h.elim
theorem sAdd (hdg : decode (mj_cc d) pc = .ok (.iadd, 1)) : mj_S d pc (oBin (fun x y => x + y)) := by
  intro p l e s m args below meth c E post hC L st M z K h hK h1 h2 H locs ls hH hS hL
  unfold oBin at h
  split at h
  · exact lv_iadd hC.1 hC.2.1 hdg (hK _ _ _ _ _ h h1 h2 H locs ls hH hS hL)
  · exact h.elim
theorem sSub (hdg : decode (mj_cc d) pc = .ok (.isub, 1)) : mj_S d pc (oBin (fun x y => x - y)) := by
  intro p l e s m args below meth c E post hC L st M z K h hK h1 h2 H locs ls hH hS hL
  unfold oBin at h
  split at h
  · exact lv_isub hC.1 hC.2.1 hdg (hK _ _ _ _ _ h h1 h2 H locs ls hH hS hL)
  · exact h.elim
theorem sMul (hdg : decode (mj_cc d) pc = .ok (.imul, 1)) : mj_S d pc (oBin (fun x y => x * y)) := by
  intro p l e s m args below meth c E post hC L st M z K h hK h1 h2 H locs ls hH hS hL
  unfold oBin at h
  split at h
  · exact lv_imul hC.1 hC.2.1 hdg (hK _ _ _ _ _ h h1 h2 H locs ls hH hS hL)
  · exact h.elim
theorem sAnd (hdg : decode (mj_cc d) pc = .ok (.iand, 1)) : mj_S d pc (oBin (fun x y => x &&& y)) := by
  intro p l e s m args below meth c E post hC L st M z K h hK h1 h2 H locs ls hH hS hL
  unfold oBin at h
  split at h
  · exact lv_iand hC.1 hC.2.1 hdg (hK _ _ _ _ _ h h1 h2 H locs ls hH hS hL)
  · exact h.elim
theorem sOr (hdg : decode (mj_cc d) pc = .ok (.ior, 1)) : mj_S d pc (oBin (fun x y => x ||| y)) := by
  intro p l e s m args below meth c E post hC L st M z K h hK h1 h2 H locs ls hH hS hL
  unfold oBin at h
  split at h
  · exact lv_ior hC.1 hC.2.1 hdg (hK _ _ _ _ _ h h1 h2 H locs ls hH hS hL)
  · exact h.elim
theorem sXor (hdg : decode (mj_cc d) pc = .ok (.ixor, 1)) : mj_S d pc (oBin (fun x y => x ^^^ y)) := by
  intro p l e s m args below meth c E post hC L st M z K h hK h1 h2 H locs ls hH hS hL
  unfold oBin at h
  split at h
  · exact lv_ixor hC.1 hC.2.1 hdg (hK _ _ _ _ _ h h1 h2 H locs ls hH hS hL)
  · exact h.elim
theorem sShl (hdg : decode (mj_cc d) pc = .ok (.ishl, 1)) : mj_S d pc (oBin (fun x y => x <<< (y &&& 31))) := by
  intro p l e s m args below meth c E post hC L st M z K h hK h1 h2 H locs ls hH hS hL
  unfold oBin at h
  split at h
  · exact lv_ishl hC.1 hC.2.1 hdg (hK _ _ _ _ _ h h1 h2 H locs ls hH hS hL)
  · exact h.elim
theorem sShr (hdg : decode (mj_cc d) pc = .ok (.ishr, 1)) : mj_S d pc (oBin (fun x y => x >>> (y &&& 31))) := by
  intro p l e s m args below meth c E post hC L st M z K h hK h1 h2 H locs ls hH hS hL
  unfold oBin at h
  split at h
  · exact lv_ishr hC.1 hC.2.1 hdg (hK _ _ _ _ _ h h1 h2 H locs ls hH hS hL)
  · exact h.elim
theorem sUshr (hdg : decode (mj_cc d) pc = .ok (.iushr, 1)) : mj_S d pc (oBin (fun x y => (x.toUInt32 >>> (y.toUInt32 &&& Int32.toUInt32 31)).toInt32)) := by
  intro p l e s m args below meth c E post hC L st M z K h hK h1 h2 H locs ls hH hS hL
  unfold oBin at h
  split at h
  · exact lv_iushr hC.1 hC.2.1 hdg rfl (hK _ _ _ _ _ h h1 h2 H locs ls hH hS hL)
  · exact h.elim
theorem sNeg (hdg : decode (mj_cc d) pc = .ok (.ineg, 1)) : mj_S d pc (oUn (fun x => -x)) := by
  intro p l e s m args below meth c E post hC L st M z K h hK h1 h2 H locs ls hH hS hL
  unfold oUn at h
  split at h
  · exact lv_ineg hC.1 hC.2.1 hdg (hK _ _ _ _ _ h h1 h2 H locs ls hH hS hL)
  · exact h.elim
theorem sI2c (hdg : decode (mj_cc d) pc = .ok (.i2c, 1)) : mj_S d pc (oUn (fun x => (x.toUInt32 % 65536).toInt32)) := by
  intro p l e s m args below meth c E post hC L st M z K h hK h1 h2 H locs ls hH hS hL
  unfold oUn at h
  split at h
  · exact lv_i2c hC.1 hC.2.1 hdg rfl (hK _ _ _ _ _ h h1 h2 H locs ls hH hS hL)
  · exact h.elim
theorem sDup (hdg : decode (mj_cc d) pc = .ok (.dup, 1)) : mj_S d pc oDup := by
  intro p l e s m args below meth c E post hC L st M z K h hK h1 h2 H locs ls hH hS hL
  unfold oDup at h
  split at h
  · exact lv_dup hC.1 hC.2.1 hdg (mj_cat E _) (hK _ _ _ _ _ h h1 h2 H locs ls hH hS hL)
  · exact h.elim
theorem sPop (hdg : decode (mj_cc d) pc = .ok (.pop, 1)) : mj_S d pc oPop := by
  intro p l e s m args below meth c E post hC L st M z K h hK h1 h2 H locs ls hH hS hL
  unfold oPop at h
  split at h
  · exact lv_pop hC.1 hC.2.1 hdg (mj_cat E _) (hK _ _ _ _ _ h h1 h2 H locs ls hH hS hL)
  · exact h.elim
theorem sDup2 (hdg : decode (mj_cc d) pc = .ok (.dup2, 1)) : mj_S d pc oDup2 := by
  intro p l e s m args below meth c E post hC L st M z K h hK h1 h2 H locs ls hH hS hL
  unfold oDup2 at h
  split at h
  · exact lv_dup2_11 hC.1 hC.2.1 hdg (mj_cat E _) (mj_cat E _) (hK _ _ _ _ _ h h1 h2 H locs ls hH hS hL)
  · exact h.elim
theorem sGoto {off : Int} {t : Nat} (hdg : decode (mj_cc d) pc = .ok (.goto off, 3)) (ht : (pc : Int) + off = (t : Int)) : mj_S d pc (oGoto t) := by
  intro p l e s m args below meth c E post hC L st M z K h hK h1 h2 H locs ls hH hS hL
  exact lv_goto hC.1 hC.2.1 hdg ht (hK _ _ _ _ _ h h1 h2 H locs ls hH hS hL)
theorem sIfNull {off : Int} {t : Nat} (hdg : decode (mj_cc d) pc = .ok (.ifnull off, 3)) (ht : (pc : Int) + off = (t : Int)) : mj_S d pc (oIfNull t) := by
  intro p l e s m args below meth c E post hC L st M z K h hK h1 h2 H locs ls hH hS hL
  unfold oIfNull at h
  split at h
  · rename_i r rest
    cases r with
    | none => exact lv_ifnullN hC.1 hC.2.1 hdg ht (hK _ _ _ _ _ h h1 h2 H locs ls hH hS hL)
    | some o => exact lv_ifnull hC.1 hC.2.1 hdg (hK _ _ _ _ _ h h1 h2 H locs ls hH hS hL)
  · exact h.elim
theorem sIfNN {off : Int} {t : Nat} (hdg : decode (mj_cc d) pc = .ok (.ifnonnull off, 3)) (ht : (pc : Int) + off = (t : Int)) : mj_S d pc (oIfNN t) := by
  intro p l e s m args below meth c E post hC L st M z K h hK h1 h2 H locs ls hH hS hL
  unfold oIfNN at h
  split at h
  · rename_i r rest
    cases r with
    | none => exact lv_ifnonnullN hC.1 hC.2.1 hdg (hK _ _ _ _ _ h h1 h2 H locs ls hH hS hL)
    | some o => exact lv_ifnonnull hC.1 hC.2.1 hdg ht (hK _ _ _ _ _ h h1 h2 H locs ls hH hS hL)
  · exact h.elim
theorem sDiv (hdg : decode (mj_cc d) pc = .ok (.idiv, 1)) : mj_S d pc (oDiv (fun x y => x / y)) := by
  intro p l e s m args below meth c E post hC L st M z K h hK h1 h2 H locs ls hH hS hL
  unfold oDiv at h
  split at h
  · exact lv_idiv hC.1 hC.2.1 hdg h.1 (hK _ _ _ _ _ h.2 h1 h2 H locs ls hH hS hL)
  · exact h.elim
theorem sRem (hdg : decode (mj_cc d) pc = .ok (.irem, 1)) : mj_S d pc (oDiv (fun x y => x - x / y * y)) := by
  intro p l e s m args below meth c E post hC L st M z K h hK h1 h2 H locs ls hH hS hL
  unfold oDiv at h
  split at h
  · exact lv_irem hC.1 hC.2.1 hdg h.1 (hK _ _ _ _ _ h.2 h1 h2 H locs ls hH hS hL)
  · exact h.elim
theorem sIf_eq {off : Int} {t : Nat} (hdg : decode (mj_cc d) pc = .ok (.ifCond .eq off, 3)) (ht : (pc : Int) + off = (t : Int)) : mj_S d pc (oIf (fun x => x = 0) (fun x => ¬ x = 0) t) := by
  intro p l e s m args below meth c E post hC L st M z K h hK h1 h2 H locs ls hH hS hL
  unfold oIf at h
  split at h
  · exact lv_if_eq hC.1 hC.2.1 hdg ht (fun q => hK _ _ _ _ _ (h.1 q) h1 h2 H locs ls hH hS hL) (fun q => hK _ _ _ _ _ (h.2 q) h1 h2 H locs ls hH hS hL)
  · exact h.elim
theorem sIf_ne {off : Int} {t : Nat} (hdg : decode (mj_cc d) pc = .ok (.ifCond .ne off, 3)) (ht : (pc : Int) + off = (t : Int)) : mj_S d pc (oIf (fun x => ¬ x = 0) (fun x => x = 0) t) := by
  intro p l e s m args below meth c E post hC L st M z K h hK h1 h2 H locs ls hH hS hL
  unfold oIf at h
  split at h
  · exact lv_if_ne hC.1 hC.2.1 hdg ht (fun q => hK _ _ _ _ _ (h.1 q) h1 h2 H locs ls hH hS hL) (fun q => hK _ _ _ _ _ (h.2 q) h1 h2 H locs ls hH hS hL)
  · exact h.elim
theorem sIf_lt {off : Int} {t : Nat} (hdg : decode (mj_cc d) pc = .ok (.ifCond .lt off, 3)) (ht : (pc : Int) + off = (t : Int)) : mj_S d pc (oIf (fun x => x < 0) (fun x => ¬ x < 0) t) := by
  intro p l e s m args below meth c E post hC L st M z K h hK h1 h2 H locs ls hH hS hL
  unfold oIf at h
  split at h
  · exact lv_if_lt hC.1 hC.2.1 hdg ht (fun q => hK _ _ _ _ _ (h.1 q) h1 h2 H locs ls hH hS hL) (fun q => hK _ _ _ _ _ (h.2 q) h1 h2 H locs ls hH hS hL)
  · exact h.elim
theorem sIf_ge {off : Int} {t : Nat} (hdg : decode (mj_cc d) pc = .ok (.ifCond .ge off, 3)) (ht : (pc : Int) + off = (t : Int)) : mj_S d pc (oIf (fun x => 0 ≤ x) (fun x => ¬ 0 ≤ x) t) := by
  intro p l e s m args below meth c E post hC L st M z K h hK h1 h2 H locs ls hH hS hL
  unfold oIf at h
  split at h
  · exact lv_if_ge hC.1 hC.2.1 hdg ht (fun q => hK _ _ _ _ _ (h.1 q) h1 h2 H locs ls hH hS hL) (fun q => hK _ _ _ _ _ (h.2 q) h1 h2 H locs ls hH hS hL)
  · exact h.elim
theorem sIf_gt {off : Int} {t : Nat} (hdg : decode (mj_cc d) pc = .ok (.ifCond .gt off, 3)) (ht : (pc : Int) + off = (t : Int)) : mj_S d pc (oIf (fun x => 0 < x) (fun x => ¬ 0 < x) t) := by
  intro p l e s m args below meth c E post hC L st M z K h hK h1 h2 H locs ls hH hS hL
  unfold oIf at h
  split at h
  · exact lv_if_gt hC.1 hC.2.1 hdg ht (fun q => hK _ _ _ _ _ (h.1 q) h1 h2 H locs ls hH hS hL) (fun q => hK _ _ _ _ _ (h.2 q) h1 h2 H locs ls hH hS hL)
  · exact h.elim
theorem sIf_le {off : Int} {t : Nat} (hdg : decode (mj_cc d) pc = .ok (.ifCond .le off, 3)) (ht : (pc : Int) + off = (t : Int)) : mj_S d pc (oIf (fun x => x ≤ 0) (fun x => ¬ x ≤ 0) t) := by
  intro p l e s m args below meth c E post hC L st M z K h hK h1 h2 H locs ls hH hS hL
  unfold oIf at h
  split at h
  · exact lv_if_le hC.1 hC.2.1 hdg ht (fun q => hK _ _ _ _ _ (h.1 q) h1 h2 H locs ls hH hS hL) (fun q => hK _ _ _ _ _ (h.2 q) h1 h2 H locs ls hH hS hL)
  · exact h.elim
theorem sCmp_eq {off : Int} {t : Nat} (hdg : decode (mj_cc d) pc = .ok (.if_icmp .eq off, 3)) (ht : (pc : Int) + off = (t : Int)) : mj_S d pc (oCmp (fun x y => x = y) (fun x y => ¬ x = y) t) := by
  intro p l e s m args below meth c E post hC L st M z K h hK h1 h2 H locs ls hH hS hL
  unfold oCmp at h
  split at h
  · exact lv_icmp_eq hC.1 hC.2.1 hdg ht (fun q => hK _ _ _ _ _ (h.1 q) h1 h2 H locs ls hH hS hL) (fun q => hK _ _ _ _ _ (h.2 q) h1 h2 H locs ls hH hS hL)
  · exact h.elim
theorem sCmp_ne {off : Int} {t : Nat} (hdg : decode (mj_cc d) pc = .ok (.if_icmp .ne off, 3)) (ht : (pc : Int) + off = (t : Int)) : mj_S d pc (oCmp (fun x y => ¬ x = y) (fun x y => x = y) t) := by
  intro p l e s m args below meth c E post hC L st M z K h hK h1 h2 H locs ls hH hS hL
  unfold oCmp at h
  split at h
  · exact lv_icmp_ne hC.1 hC.2.1 hdg ht (fun q => hK _ _ _ _ _ (h.1 q) h1 h2 H locs ls hH hS hL) (fun q => hK _ _ _ _ _ (h.2 q) h1 h2 H locs ls hH hS hL)
  · exact h.elim
theorem sCmp_lt {off : Int} {t : Nat} (hdg : decode (mj_cc d) pc = .ok (.if_icmp .lt off, 3)) (ht : (pc : Int) + off = (t : Int)) : mj_S d pc (oCmp (fun x y => x < y) (fun x y => ¬ x < y) t) := by
  intro p l e s m args below meth c E post hC L st M z K h hK h1 h2 H locs ls hH hS hL
  unfold oCmp at h
  split at h
  · exact lv_icmp_lt hC.1 hC.2.1 hdg ht (fun q => hK _ _ _ _ _ (h.1 q) h1 h2 H locs ls hH hS hL) (fun q => hK _ _ _ _ _ (h.2 q) h1 h2 H locs ls hH hS hL)
  · exact h.elim
theorem sCmp_ge {off : Int} {t : Nat} (hdg : decode (mj_cc d) pc = .ok (.if_icmp .ge off, 3)) (ht : (pc : Int) + off = (t : Int)) : mj_S d pc (oCmp (fun x y => y ≤ x) (fun x y => ¬ y ≤ x) t) := by
  intro p l e s m args below meth c E post hC L st M z K h hK h1 h2 H locs ls hH hS hL
  unfold oCmp at h
  split at h
  · exact lv_icmp_ge hC.1 hC.2.1 hdg ht (fun q => hK _ _ _ _ _ (h.1 q) h1 h2 H locs ls hH hS hL) (fun q => hK _ _ _ _ _ (h.2 q) h1 h2 H locs ls hH hS hL)
  · exact h.elim
theorem sCmp_gt {off : Int} {t : Nat} (hdg : decode (mj_cc d) pc = .ok (.if_icmp .gt off, 3)) (ht : (pc : Int) + off = (t : Int)) : mj_S d pc (oCmp (fun x y => y < x) (fun x y => ¬ y < x) t) := by
  intro p l e s m args below meth c E post hC L st M z K h hK h1 h2 H locs ls hH hS hL
  unfold oCmp at h
  split at h
  · exact lv_icmp_gt hC.1 hC.2.1 hdg ht (fun q => hK _ _ _ _ _ (h.1 q) h1 h2 H locs ls hH hS hL) (fun q => hK _ _ _ _ _ (h.2 q) h1 h2 H locs ls hH hS hL)
  · exact h.elim
theorem sCmp_le {off : Int} {t : Nat} (hdg : decode (mj_cc d) pc = .ok (.if_icmp .le off, 3)) (ht : (pc : Int) + off = (t : Int)) : mj_S d pc (oCmp (fun x y => x ≤ y) (fun x y => ¬ x ≤ y) t) := by
  intro p l e s m args below meth c E post hC L st M z K h hK h1 h2 H locs ls hH hS hL
  unfold oCmp at h
  split at h
  · exact lv_icmp_le hC.1 hC.2.1 hdg ht (fun q => hK _ _ _ _ _ (h.1 q) h1 h2 H locs ls hH hS hL) (fun q => hK _ _ _ _ _ (h.2 q) h1 h2 H locs ls hH hS hL)
  · exact h.elim
end MJO
