abbrev mj_V : Type := Int32 ⊕ Option Nat
abbrev mj_F : Type := Nat → Nat → Option Nat
abbrev mj_I : Type := Nat → Nat → Int32
abbrev mj_M : Type := Nat × mj_F × mj_I
abbrev mj_E : Type := va_G × (Nat → ClassId) × Nat × (Nat → Nat)
def mj_ad (E : mj_E) (o : Nat) : Nat := if o < 1000 then E.2.2.1 + o else E.2.2.2 (o - 1000)
def mj_cv (E : mj_E) (v : mj_V) : Value := match v with
  | .inl x => .int x
  | .inr r => va_rf (r.map (mj_ad E))
theorem mj_cvi (E : mj_E) (x : Int32) : mj_cv E (.inl x) = .int x := rfl
theorem mj_cvr (E : mj_E) (o : Nat) : mj_cv E (.inr (some o)) = .ref (mj_ad E o) := rfl
theorem mj_cvn (E : mj_E) : mj_cv E (.inr none) = .null := rfl
theorem mj_cat (E : mj_E) (v : mj_V) : (mj_cv E v).category = 1 := by
  rcases v with x | _ | o <;> rfl
/-- the shapes of the cells, by place: kind (0 to 10 an object of vwCl, 11 int row, 12 boolean row, 13 to 15 rows of views, books, states), size -/
def mj_shB : List (Nat × Nat) := (0, 12) :: (2, 3) :: (11, 200) :: (11, 200) :: (13, 8) :: (11, 6) :: (11, 8) :: List.replicate 8 (8, 11)
def mj_shS : List (Nat × Nat) := (5, 3) :: (mj_shB ++ ((14, 2) :: (12, 2) :: (mj_shB ++ mj_shB)))
def mj_shl : List (Nat × Nat) := List.flatten [[(9, 5), (3, 8), (7, 2), (11, 40)], mj_shS, [(1, 3), (15, 5)], mj_shS, mj_shS, mj_shS, mj_shS, mj_shS, [(4, 2), (6, 1), (11, 24), (11, 8)], mj_shB]
def mj_sh (o : Nat) : Nat × Nat := mj_shl.getD o (99, 0)
/-- the references that stand once all is made -/
def mj_rc (t o k : Nat) : Option Nat := match t with
  | 0 => match k with
    | 0 => some (o + 1)
    | 1 => some (o + 4)
    | 2 => some (o + 5)
    | _ => some (o + 6)
  | 1 => some (o + 1)
  | 2 => match k with
    | 0 => some (o + 1)
    | _ => some (o + 2)
  | 3 => some (o + 1)
  | 4 => match k with
    | 0 => some (o + 1)
    | _ => some (o + 3)
  | 5 => match k with
    | 0 => some (o + 1)
    | 1 => some (o + 16)
    | _ => some (o + 17)
  | 6 => some (o + 1)
  | 7 => some (o + 1)
  | 9 => match k with
    | 0 => some (o + 1)
    | 1 => some (o + 4)
    | 2 => some (o + 52)
    | 3 => some (o + 294)
    | _ => some (o + 298)
  | 10 => match k with
    | 0 => some (o + 1)
    | 1 => some (o + 2)
    | 3 => some (o + 3)
    | 5 => some (o + 4)
    | 6 => some (o + 5)
    | 7 => some (o + 6)
    | _ => some (o + 7)
  | 13 => some (o + 3 + k)
  | 14 => some (o + 2 + 15 * k)
  | _ => some (o + 1 + 48 * k)
def mj_RC : mj_F := fun o k => mj_rc (mj_sh o).1 o k
/-- which fields hold references -/
def mj_rk (t k : Nat) : Bool := match t with
  | 0 => decide (k < 4)
  | 1 => decide (k < 1)
  | 2 => decide (k < 2)
  | 3 => decide (k < 1)
  | 4 => true
  | 5 => true
  | 6 => true
  | 7 => decide (k < 1)
  | 9 => true
  | 10 => decide (k < 2) || decide (k = 3) || decide (k = 5) || decide (k = 6) || decide (k = 7) || decide (k = 8)
  | _ => false
def mj_fv (E : mj_E) (f : Nat → Option Nat) (g : Nat → Int32) (t k : Nat) : Value := if mj_rk t k = true then va_rf ((f k).map (mj_ad E)) else .int (g k)
def mj_ce (E : mj_E) (M : mj_M) (o : Nat) : va_E :=
  if (mj_sh o).1 < 11 then .inr ((mj_sh o).1, (List.range (mj_sh o).2).map (mj_fv E (M.2.1 o) (M.2.2 o) (mj_sh o).1))
  else if (mj_sh o).1 < 13 then .inl (E.2.1 ((mj_sh o).1 - 11), (mj_sh o).2, .inl (M.2.2 o))
  else .inl (E.2.1 ((mj_sh o).1 - 11), (mj_sh o).2, .inr (.inr (.inr (.inr (fun j => (M.2.1 o j).map (mj_ad E))))))
def mj_ws (E : mj_E) (M : mj_M) : va_W := (List.range M.1).map (fun o => (E.2.2.1 + o, mj_ce E M o))
def mj_ty (E : mj_E) : List (ClassId × FieldType) := [(E.2.1 0, .int), (E.2.1 1, .boolean), (E.2.1 2, .object "DebtorViews$View"), (E.2.1 3, .object "DebtorViews$Books"), (E.2.1 4, .object "DebtorViews$State")]
def mj_A (E : mj_E) : Nat → Prop := fun q => E.2.2.1 ≤ q
def mj_H (E : mj_E) (M : mj_M) (H : Heap) : Prop := va_P E.1 vwCl (mj_ws E M) H ∧ H.size = E.2.2.1 + M.1 ∧ M.1 ≤ 1000
def mj_K (E : mj_E) (U : State) : Prop := va_K E.1 vwCl (mj_ty E) U ∧ va_AO "DebtorViews$View" U ∧ va_AO "DebtorViews$Books" U ∧ va_AO "DebtorViews$State" U
theorem mj_K.moved {E : mj_E} {u U : State} (hvm : u.vm.Alike U.vm) (h : mj_K E u) : mj_K E U := ⟨h.1.moved hvm, h.2.1.moved hvm, h.2.2.1.moved hvm, h.2.2.2.moved hvm⟩
/-- what stands outside: the three static rows, the eight texts -/
def mj_xn (k : Nat) : String := match k with
  | 0 => "LEAST_SETTING"
  | 1 => "MOST_SETTING"
  | _ => "FIRST_SETTING"
def mj_xc (k j : Nat) : Int32 := match k with
  | 0 => [0, 1, 0, 0, 0, 0].getD j 0
  | 1 => [20, 20, 500, 100, 1, 2].getD j 0
  | _ => [1, 2, 30, 5, 0, 0].getD j 0
def mj_si (i : Nat) : Nat := [99, 101, 103, 105, 107, 67, 69, 82].getD i 0
def mj_st (i : Nat) : String := ["sum", "count", "most", "join", "less", "a", "b", "-"].getD i ""
def mj_sn : List Nat := [3, 5, 4, 4, 4, 1, 1, 1]
def mj_sb : List (List Int32) := [[115, 117, 109], [99, 111, 117, 110, 116], [109, 111, 115, 116], [106, 111, 105, 110], [108, 101, 115, 115], [97], [98], [45]]
def mj_nest : List Cond := [
  Cond.fieldLinkNest "DebtorViews$Reader" 84 "DebtorViews$Text" "length" "I" "DebtorViews",
  Cond.fieldLinkNest "DebtorViews" 201 "DebtorViews$Text" "length" "I" "DebtorViews",
  Cond.fieldLinkNest "DebtorViews" 100 "DebtorViews$Reader" "text" "LDebtorViews$Text;" "DebtorViews",
  Cond.fieldLinkNest "DebtorViews" 80 "DebtorViews$Reader" "fault" "I" "DebtorViews",
  Cond.fieldLinkNest "DebtorViews" 84 "DebtorViews$Reader" "kind" "I" "DebtorViews",
  Cond.fieldLinkNest "DebtorViews" 109 "DebtorViews$Reader" "table" "I" "DebtorViews",
  Cond.fieldLinkNest "DebtorViews" 87 "DebtorViews$Reader" "first" "I" "DebtorViews",
  Cond.fieldLinkNest "DebtorViews" 90 "DebtorViews$Reader" "last" "I" "DebtorViews",
  Cond.fieldLinkNest "DebtorViews$Replay" 58 "DebtorViews$Log" "end" "I" "DebtorViews",
  Cond.fieldLinkNest "DebtorViews$Books" 67 "DebtorViews$Log" "end" "I" "DebtorViews",
  Cond.fieldLinkNest "DebtorViews" 183 "DebtorViews$Log" "end" "I" "DebtorViews",
  Cond.fieldLinkNest "DebtorViews$Books" 35 "DebtorViews$View" "exists" "Z" "DebtorViews",
  Cond.fieldLinkNest "DebtorViews" 125 "DebtorViews$View" "exists" "Z" "DebtorViews",
  Cond.fieldLinkNest "DebtorViews$Replay" 66 "DebtorViews$View" "kind" "I" "DebtorViews",
  Cond.fieldLinkNest "DebtorViews" 241 "DebtorViews$View" "kind" "I" "DebtorViews",
  Cond.fieldLinkNest "DebtorViews" 245 "DebtorViews$View" "table" "I" "DebtorViews",
  Cond.fieldLinkNest "DebtorViews$Replay" 90 "DebtorViews$View" "first" "I" "DebtorViews",
  Cond.fieldLinkNest "DebtorViews" 246 "DebtorViews$View" "first" "I" "DebtorViews",
  Cond.fieldLinkNest "DebtorViews$Replay" 93 "DebtorViews$View" "last" "I" "DebtorViews",
  Cond.fieldLinkNest "DebtorViews" 247 "DebtorViews$View" "last" "I" "DebtorViews",
  Cond.fieldLinkNest "DebtorViews$Books" 74 "DebtorViews$View" "cells" "I" "DebtorViews",
  Cond.fieldLinkNest "DebtorViews$Books" 77 "DebtorViews$View" "keys" "I" "DebtorViews",
  Cond.fieldLinkNest "DebtorViews" 161 "DebtorViews$View" "bankrupt" "Z" "DebtorViews",
  Cond.fieldLinkNest "DebtorViews$Books" 88 "DebtorViews$View" "bankrupt" "Z" "DebtorViews",
  Cond.fieldLinkNest "DebtorViews$Books" 101 "DebtorViews$View" "place" "I" "DebtorViews",
  Cond.fieldLinkNest "DebtorViews" 248 "DebtorViews$View" "place" "I" "DebtorViews",
  Cond.fieldLinkNest "DebtorViews$Books" 115 "DebtorViews$View" "debt" "I" "DebtorViews",
  Cond.fieldLinkNest "DebtorViews" 254 "DebtorViews$View" "debt" "I" "DebtorViews",
  Cond.fieldLinkNest "DebtorViews" 260 "DebtorViews$View" "spent" "I" "DebtorViews",
  Cond.fieldLinkNest "DebtorViews$Books" 142 "DebtorViews$View" "spent" "I" "DebtorViews",
  Cond.fieldLinkNest "DebtorViews$Books" 32 "DebtorViews" "FIRST_SETTING" "[I" "DebtorViews",
  Cond.fieldLinkNest "DebtorViews$Replay" 25 "DebtorViews$Books" "log" "LDebtorViews$Log;" "DebtorViews",
  Cond.fieldLinkNest "DebtorViews" 52 "DebtorViews$Books" "log" "LDebtorViews$Log;" "DebtorViews",
  Cond.fieldLinkNest "DebtorViews" 97 "DebtorViews$Books" "defined" "I" "DebtorViews",
  Cond.fieldLinkNest "DebtorViews" 150 "DebtorViews$Books" "treasury" "I" "DebtorViews",
  Cond.fieldLinkNest "DebtorViews" 204 "DebtorViews$Books" "received" "I" "DebtorViews",
  Cond.fieldLinkNest "DebtorViews" 207 "DebtorViews$Books" "spentOnDebts" "I" "DebtorViews",
  Cond.fieldLinkNest "DebtorViews" 210 "DebtorViews$Books" "spentOnArrears" "I" "DebtorViews",
  Cond.fieldLinkNest "DebtorViews" 213 "DebtorViews$Books" "spentOnFounding" "I" "DebtorViews",
  Cond.fieldLinkNest "DebtorViews" 216 "DebtorViews$Books" "writtenOff" "I" "DebtorViews",
  Cond.fieldLinkNest "DebtorViews" 222 "DebtorViews$Books" "ticks" "I" "DebtorViews",
  Cond.fieldLinkNest "DebtorViews" 49 "DebtorViews$State" "books" "LDebtorViews$Books;" "DebtorViews",
  Cond.fieldLinkNest "DebtorViews" 192 "DebtorViews$History" "size" "I" "DebtorViews",
  Cond.methodLinkNest "DebtorViews" 11 yX3_init "DebtorViews",
  Cond.methodLinkNest "DebtorViews$Reader" 11 yX7_init "DebtorViews",
  Cond.methodLinkNest "DebtorViews$Books" 11 yX2_init "DebtorViews",
  Cond.methodLinkNest "DebtorViews$Books" 31 yX8_init "DebtorViews",
  Cond.methodLinkNest "DebtorViews" 32 yX4_init "DebtorViews",
  Cond.methodLinkNest "DebtorViews$Replay" 11 yX6_init "DebtorViews",
  Cond.methodLinkNest "DebtorViews$View" 47 yX9_cellOf "DebtorViews",
  Cond.methodLinkNest "DebtorViews$View" 57 yX9_amount "DebtorViews",
  Cond.methodLinkNest "DebtorViews$View" 60 yX9_presence "DebtorViews"]
def mj_isN (w : Cond) : Bool := match w with
  | .fieldLinkNest _ _ _ _ _ _ => true
  | .methodLinkNest _ _ _ _ => true
  | _ => false
theorem mj_nestN : mj_nest.all mj_isN = true := by decide +kernel
theorem mj_nw {w : Cond} (hw : mj_isN w = true) {s U : State} (hW : s.WarmedH U.vm) (h : va_Nw w s) : va_Nw w U := by
  unfold mj_isN at hw
  split at hw
  · exact h.warmF hW
  · exact h.warmM hW
  · cases hw
theorem mj_nt {w : Cond} (hw : mj_isN w = true) : w.onTables = true := by
  unfold mj_isN at hw
  split at hw
  · rfl
  · rfl
  · cases hw
/-- the JDK's two statics that the texts' methods read -/
def mj_Y (E : mj_E) (U : State) (H : Heap) : Prop := va_Z "java/lang/String" "COMPACT_STRINGS" "Z" (.int 1) (mj_A E) U H ∧ ∃ r : Option Nat, va_Z "jdk/internal/util/Preconditions" "SIOOBE_FORMATTER" "Ljava/util/function/BiFunction;" (mj_cv E (.inr r)) (mj_A E) U H
theorem mj_Y.moved {E : mj_E} {u U : State} {H : Heap} (hvm : u.vm.Alike U.vm) (h : mj_Y E u H) : mj_Y E U H := by
  obtain ⟨h1, r, h2⟩ := h
  exact ⟨va_Z.moved hvm h1, r, va_Z.moved hvm h2⟩
theorem mj_Y.kept {E : mj_E} {U : State} {H H1 : Heap} (h : mj_Y E U H) (hq : ∀ a : Nat, a < H.size → ¬ mj_A E a → H1[a]? = H[a]?) : mj_Y E U H1 := by
  obtain ⟨h1, r, h2⟩ := h
  exact ⟨h1.kept hq, r, h2.kept hq⟩
def mj_X (E : mj_E) (U : State) (H : Heap) : Prop :=
  (∀ k, k < 3 → va_Z "DebtorViews" (mj_xn k) "[I" (.ref (E.2.2.2 k)) (mj_A E) U H ∧ va_T .int (E.2.2.2 k) 6 (fun j => .int (mj_xc k j)) (mj_A E) U H) ∧
  vk_S 8 mj_sn mj_sb (fun i => E.2.2.2 (10 + i)) (fun i => E.2.2.2 (30 + i)) (mj_A E) U H ∧ (∀ i, i < 8 → vk_R "DebtorViews$Reader" (mj_si i) (mj_st i) (E.2.2.2 (10 + i)) U) ∧
  mj_Y E U H ∧ ∀ w ∈ mj_nest, va_Nw w U
theorem mj_X.moved {E : mj_E} {u U : State} {H : Heap} (hW : u.WarmedH U.vm) (h : mj_X E u H) : mj_X E U H :=
  ⟨fun k hk => ⟨va_Z.moved hW.alike (h.1 k hk).1, va_T.moved hW.alike (h.1 k hk).2⟩, h.2.1.moved hW.alike, fun i hi => (h.2.2.1 i hi).warm hW, h.2.2.2.1.moved hW.alike, fun w hw => mj_nw (List.all_eq_true.mp mj_nestN w hw) hW (h.2.2.2.2 w hw)⟩
theorem mj_X.same {E : mj_E} {u U : State} {H : Heap} (hv : U.vm = u.vm) (h : mj_X E u H) : mj_X E U H :=
  have hA : u.vm.Alike U.vm := by rw [hv]; exact Vm.Alike.refl _
  ⟨fun k hk => ⟨va_Z.moved hA (h.1 k hk).1, va_T.moved hA (h.1 k hk).2⟩, h.2.1.moved hA, fun i hi => (h.2.2.1 i hi).same hv, h.2.2.2.1.moved hA, fun w hw => va_Nw.same (mj_nt (List.all_eq_true.mp mj_nestN w hw)) hv.symm (h.2.2.2.2 w hw)⟩
theorem mj_X.kept {E : mj_E} {U : State} {H H1 : Heap} (h : mj_X E U H) (hq : ∀ a : Nat, a < H.size → ¬ mj_A E a → H1[a]? = H[a]?) : mj_X E U H1 :=
  ⟨fun k hk => ⟨(h.1 k hk).1.kept hq, (h.1 k hk).2.kept hq⟩, h.2.1.kept hq, h.2.2.1, h.2.2.2.1.kept hq, h.2.2.2.2⟩
/-- the world: cells, tables, what stands outside -/
def mj_W (E : mj_E) (M : mj_M) (U : State) : Prop := mj_H E M U.heap ∧ mj_K E U ∧ mj_X E U U.heap
abbrev mj_D : Type := MethodName × ByteArray × Nat × Option FieldType × Nat × Nat × Nat × Nat
def mj_rm (d : mj_D) : Room := { frames := d.2.2.2.2.1, cells := d.2.2.2.2.2.2.1, slots := d.2.2.2.2.2.2.2, locals := d.2.2.2.2.2.1 }
abbrev mj_y (d : mj_D) : MethodName := d.1
abbrev mj_cc (d : mj_D) : ByteArray := d.2.1
abbrev mj_nl (d : mj_D) : Nat := d.2.2.1
abbrev mj_rt (d : mj_D) : Option FieldType := d.2.2.2.1
abbrev mj_fr (d : mj_D) : Nat := d.2.2.2.2.1
abbrev mj_lo (d : mj_D) : Nat := d.2.2.2.2.2.1
abbrev mj_mc (d : mj_D) : Nat := d.2.2.2.2.2.2.1
abbrev mj_ms (d : mj_D) : Nat := d.2.2.2.2.2.2.2
def mj_Q (E : mj_E) (post : Option mj_V → mj_M → Prop) : Array Value → State → Outcome → State → Prop := fun _ st oc t =>
  (∃ (r : Option mj_V) (M : mj_M), oc = .returned (r.map (mj_cv E)) ∧ post r M ∧ mj_H E M t.heap) ∧ va_F (mj_A E) st t
/-- a method's run: from the memory M with these arguments it returns, and post holds of its answer and the memory then -/
def mj_R (d : mj_D) (as : List mj_V) (M : mj_M) (post : Option mj_V → mj_M → Prop) : Prop :=
  ∀ (l : Launch) (E : mj_E), Met l (mj_y d) (.code (mj_y d) (mj_cc d) (mj_nl d) (mj_rt d) :: wsL_law) (mj_rm d) (va_Pc (as.map (mj_cv E)) (mj_W E M)) (mj_Q E post) (mj_mc d) (mj_ms d) (mj_A E)
abbrev mj_P : Type := List (Option mj_V) → List mj_V → mj_M → Nat × Nat → Prop
abbrev mj_O : Type := Nat → List (Option mj_V) → List mj_V → mj_M → Nat × Nat → (Nat → mj_P) → (Option mj_V → mj_M → Nat × Nat → Prop) → Prop
def mj_L (E : mj_E) (nL : Nat) (L : List (Option mj_V)) (ls : Array Slot) : Prop := L.length = nL ∧ ls.size = nL ∧ lv_wf ls ∧ ∀ (i : Nat) (v : mj_V), L[i]? = some (some v) → ls[i]? = some (.val (mj_cv E v))
section MJ
variable {p : Program} {l : Launch} {e : Env} {s : State} {m : MethodId} {args : Array Value} {below : List Frame} {meth : Method} {c : Code} {E : mj_E} {d : mj_D} {post : Option mj_V → mj_M → Prop}
/-- where a walk of method d stands -/
def mj_C (p : Program) (l : Launch) (e : Env) (s : State) (m : MethodId) (args : Array Value) (below : List Frame) (meth : Method) (c : Code) (E : mj_E) (d : mj_D) : Prop :=
  p.tables.exec = Jvm.exec ∧ c.code = mj_cc d ∧ c.maxLocals = mj_nl d ∧ s.vm.findClass (mj_y d).cls = some m.cls ∧ (∀ w ∈ wsL_law, w.before args s = true) ∧ meth.sig.returnType = mj_rt d ∧ meth.locks = false ∧ meth.name = (mj_y d).name ∧ mj_K E s ∧ mj_X E s s.heap ∧ E.2.2.1 ≤ s.heap.size
def mj_G (p : Program) (l : Launch) (e : Env) (s : State) (m : MethodId) (args : Array Value) (below : List Frame) (meth : Method) (c : Code) (E : mj_E) (d : mj_D) (post : Option mj_V → mj_M → Prop) (pc : Nat) (L : List (Option mj_V)) (st : List mj_V) (M : mj_M) (z : Nat × Nat) : Prop :=
  z.1 ≤ mj_mc d → z.2 ≤ mj_ms d → ∀ (H : Heap) (locs : List Loc) (ls : Array Slot), mj_H E M H → va_S (mj_A E) s.heap H locs → mj_L E (mj_nl d) L ls →
    W p l e (mj_rm d) s m args below meth c H locs z.1 z.2 (MQ below (mj_Q E post) args s (mj_mc d) (mj_ms d) (mj_A E)) (F0 m pc ls (st.map (mj_cv E)))
/-- what is owed at a return -/
def mj_Z (d : mj_D) (post : Option mj_V → mj_M → Prop) : Option mj_V → mj_M → Nat × Nat → Prop := fun v M _ => post v M
/-- an operation is sound at a place of method d -/
def mj_S (d : mj_D) (pc : Nat) (op : mj_O) : Prop :=
  ∀ (p : Program) (l : Launch) (e : Env) (s : State) (m : MethodId) (args : Array Value) (below : List Frame) (meth : Method) (c : Code) (E : mj_E) (post : Option mj_V → mj_M → Prop), mj_C p l e s m args below meth c E d →
  ∀ (L : List (Option mj_V)) (st : List mj_V) (M : mj_M) (z : Nat × Nat) (K : Nat → mj_P), op pc L st M z K (mj_Z d post) →
    (∀ pc' L' st' M' z', K pc' L' st' M' z' → mj_G p l e s m args below meth c E d post pc' L' st' M' z') → mj_G p l e s m args below meth c E d post pc L st M z
def mj_bk (T : Nat → mj_O) (stop : Nat → Bool) : Nat → mj_O
  | 0 => fun pc L st M z K _ => K pc L st M z
  | n + 1 => fun pc L st M z K P => T pc pc L st M z (fun pc' L' st' M' z' => match stop pc' with
    | true => K pc' L' st' M' z'
    | false => mj_bk T stop n pc' L' st' M' z' K P) P
/-- a rule: what is shown by the text of the operations holds of the machine; K is what is known at the stops -/
theorem mj_bk_sound {T : Nat → mj_O} (hT : ∀ pc, mj_S d pc (T pc)) (stop : Nat → Bool) (hC : mj_C p l e s m args below meth c E d) {K : Nat → mj_P} (hK : ∀ pc' L' st' M' z', K pc' L' st' M' z' → mj_G p l e s m args below meth c E d post pc' L' st' M' z') :
    ∀ (n pc : Nat) (L : List (Option mj_V)) (st : List mj_V) (M : mj_M) (z : Nat × Nat), (T pc = T pc → mj_bk T stop n pc L st M z K (mj_Z d post) → mj_G p l e s m args below meth c E d post pc L st M z) := by
  intro n
  induction n with
  | zero => exact fun pc L st M z _ h => hK _ _ _ _ _ h
  | succ n ih =>
    intro pc L st M z _ h
    refine hT pc p l e s m args below meth c E post hC L st M z _ h ?_
    intro pc' L' st' M' z' h'
    revert h'
    cases stop pc' with
    | true => exact fun h' => hK _ _ _ _ _ h'
    | false => exact fun h' => ih _ _ _ _ _ rfl h'
end MJ
