def mj_J (d : mj_D) (post : Option mj_V → mj_M → Prop) (pc : Nat) (L : List (Option mj_V)) (st : List mj_V) (M : mj_M) (z : Nat × Nat) : Prop :=
  ∀ (p : Program) (l : Launch) (e : Env) (s : State) (m : MethodId) (args : Array Value) (below : List Frame) (meth : Method) (c : Code) (E : mj_E), mj_C p l e s m args below meth c E d → mj_G p l e s m args below meth c E d post pc L st M z
theorem mj_run {d : mj_D} {post : Option mj_V → mj_M → Prop} {T : Nat → mj_O} (hT : ∀ pc, mj_S d pc (T pc)) (stop : Nat → Bool) (n : Nat) {pc : Nat} {L : List (Option mj_V)} {st : List mj_V} {M : mj_M} {z : Nat × Nat}
    (h : mj_bk T stop n pc L st M z (fun pc' L' st' M' z' => mj_J d post pc' L' st' M' z') (mj_Z d post)) : mj_J d post pc L st M z :=
  fun p l e s m args below meth c E hC => mj_bk_sound hT stop hC (K := fun pc' L' st' M' z' => mj_J d post pc' L' st' M' z') (fun _ _ _ _ _ h' => h' p l e s m args below meth c E hC) n pc L st M z rfl h
theorem mj_args (E : mj_E) : ∀ (as : List mj_V) (i : Nat) (k : Nat) (v : mj_V) (j : Nat), (as.map some ++ List.replicate k none)[j]? = some (some v) → (i + j, mj_cv E v) ∈ lv_args i (as.map (mj_cv E))
  | [], i, k, v, j, h => by
    rw [List.map_nil, List.nil_append] at h
    rw [List.getElem?_replicate] at h
    split at h
    · cases h
    · cases h
  | a :: as, i, k, v, 0, h => by
    simp only [List.map_cons, List.cons_append, List.getElem?_cons_zero] at h
    cases h
    simp [lv_args]
  | a :: as, i, k, v, j + 1, h => by
    simp only [List.map_cons, List.cons_append, List.getElem?_cons_succ] at h
    have h1 := mj_args E as (i + 1) k v j h
    have hc := mj_cat E a
    simp only [List.map_cons, lv_args, hc]
    refine List.mem_cons_of_mem _ ?_
    rw [show i + (j + 1) = i + 1 + j by omega]
    exact h1
theorem mj_slen (E : mj_E) : ∀ as : List mj_V, (lg_sl (as.map (mj_cv E))).length = as.length
  | [] => rfl
  | a :: as => by
    have h := mj_slen E as
    have hc := mj_cat E a
    simp only [lg_sl, List.map_cons, List.flatMap_cons, hc, List.length_append, List.length_cons] at h ⊢
    simp only [h]
    simp
    omega
def mj_en (as : List mj_V) (n : Nat) : List (Option mj_V) := as.map some ++ List.replicate (n - as.length) none
theorem mj_enter {d : mj_D} {as : List mj_V} {M : mj_M} {post : Option mj_V → mj_M → Prop} (hy : plainName (mj_y d).cls = true) (hn : as.length ≤ mj_nl d) (h : mj_J d post 0 (mj_en as (mj_nl d)) [] M (0, 0)) : mj_R d as M post := by
  intro l E
  refine Met.ofW (cc := mj_cc d) (maxL := mj_nl d) (ret := mj_rt d) hy rfl ?_
  intro p e s m args below meth c s₁ B hml hv
  obtain ⟨rfl, hH, hK, hX⟩ := hv
  have hts : ∀ w ∈ wsL_law, w.before (as.map (mj_cv E)).toArray s = true := fun w hw => atoms_spec (ws := .code (mj_y d) (mj_cc d) (mj_nl d) (mj_rt d) :: wsL_law) B.pre w (List.mem_cons_of_mem _ hw)
  have hC : mj_C p l e s m (as.map (mj_cv E)).toArray below meth c E d := ⟨B.exec, B.bytes, hml, findClass_of_methodNamed B.named, hts, B.returns, B.notSynchronized, (name_of_methodNamed B.named B.method).1, hK, hX, by rw [hH.2.1]; omega⟩
  rw [lg_entry_eq]
  have hl := lv_entry (as.map (mj_cv E)) (n := mj_nl d) (by rw [mj_slen]; exact hn)
  refine h p l e s m _ below meth c E hC (Nat.zero_le _) (Nat.zero_le _) s.heap [] _ hH va_S.rf ⟨?_, hl.1, hl.2.1, fun i v hi => ?_⟩
  · simp [mj_en]; omega
  · have h1 := mj_args E as 0 _ v i hi
    rw [Nat.zero_add] at h1
    exact hl.2.2 _ h1
section MJX
variable {d : mj_D} {pc : Nat}
theorem mj_sw_or {x : Int32} {k : Nat → Prop} {df : Nat} : ∀ (cs : List (Int32 × Nat)), mj_sw x k df cs → (∃ q ∈ cs, x = q.1 ∧ k q.2) ∨ ((∀ q ∈ cs, ¬ x = q.1) ∧ k df)
  | [], h => Or.inr ⟨fun q hq => absurd hq List.not_mem_nil, h⟩
  | q :: r, h => by
    by_cases hx : x = q.1
    · exact Or.inl ⟨q, List.mem_cons_self, hx, h.1 hx⟩
    · rcases mj_sw_or r (h.2 hx) with ⟨q', h1, h2⟩ | ⟨h1, h2⟩
      · exact Or.inl ⟨q', List.mem_cons_of_mem _ h1, h2⟩
      · refine Or.inr ⟨fun q' hq' => ?_, h2⟩
        rcases List.mem_cons.mp hq' with rfl | hq'
        · exact hx
        · exact h1 q' hq'
theorem sTsw {dflt lo hi : Int} {offs : Array Int} {len df : Nat} {cs : List (Int32 × Nat)} (hdg : decode (mj_cc d) pc = .ok (.tableswitch dflt lo hi offs, len)) (hdf : (pc : Int) + dflt = (df : Int))
    (h1 : ∀ q ∈ cs, ¬ q.1.toInt < lo ∧ ¬ hi < q.1.toInt ∧ offs[(q.1.toInt - lo).toNat]? = some ((q.2 : Int) - pc)) (h2 : ∀ i, i < (hi - lo + 1).toNat → ∃ q ∈ cs, q.1 = Int32.ofInt (lo + i)) : mj_S d pc (oSw cs df) := by
  intro p l e s m args below meth c E post hC L st M z K h hK z1 z2 H locs ls hH hS hL
  unfold oSw at h
  split at h
  · rename_i x rest
    rcases mj_sw_or cs h with ⟨q, hq, rfl, hk⟩ | ⟨hn, hk⟩
    · obtain ⟨g1, g2, g3⟩ := h1 q hq
      exact lv_tableIn hC.1 hC.2.1 hdg g1 g2 g3 (by omega) (hK _ _ _ _ _ hk z1 z2 H locs ls hH hS hL)
    · refine lv_tableOut hC.1 hC.2.1 hdg ?_ hdf (hK _ _ _ _ _ hk z1 z2 H locs ls hH hS hL)
      rcases Int.lt_or_le x.toInt lo with g | g
      · exact Or.inl g
      · refine Or.inr (Int.not_le.mp fun g2 => ?_)
        obtain ⟨q, hq, e⟩ := h2 (x.toInt - lo).toNat (by omega)
        refine hn q hq ?_
        rw [e, show lo + ((x.toInt - lo).toNat : Int) = x.toInt by omega, Int32.ofInt_toInt]
  · exact h.elim
theorem mj_lsw {x : Int32} {k : Nat → Prop} {df : Nat} {dflt : Int} (hdf : (pc : Int) + dflt = (df : Int)) : ∀ (ps : List (Int × Int)) (cs : List (Int32 × Nat)), cs.map (fun q => (q.1.toInt, (q.2 : Int) - pc)) = ps → mj_sw x k df cs → ∃ t : Nat, k t ∧ (pc : Int) + Op.lookupswitch.offset ps dflt x.toInt = (t : Int)
  | [], [], _, h => ⟨df, h, hdf⟩
  | [], _ :: _, e, _ => by cases e
  | _ :: _, [], e, _ => by cases e
  | (a, o) :: r, q :: cs, e, h => by
    simp only [List.map_cons, List.cons.injEq, Prod.mk.injEq] at e
    obtain ⟨⟨e1, e2⟩, e3⟩ := e
    rw [Op.lookupswitch.offset_cons]
    by_cases hx : x = q.1
    · refine ⟨q.2, h.1 hx, ?_⟩
      rw [if_pos (by rw [hx]; exact e1.symm)]
      omega
    · rw [if_neg (fun g => hx (Int32.toInt_inj.mp (by rw [e1]; exact g.symm)))]
      exact mj_lsw hdf r cs e3 (h.2 hx)
theorem sLsw {dflt : Int} {ps : Array (Int × Int)} {len df : Nat} {cs : List (Int32 × Nat)} (hdg : decode (mj_cc d) pc = .ok (.lookupswitch dflt ps, len)) (hdf : (pc : Int) + dflt = (df : Int)) (hp : (ps.toList.zip (ps.toList.drop 1)).all (fun (a, next) => a.1 < next.1) = true)
    (hcs : cs.map (fun q => (q.1.toInt, (q.2 : Int) - pc)) = ps.toList) : mj_S d pc (oSw cs df) := by
  intro p l e s m args below meth c E post hC L st M z K h hK z1 z2 H locs ls hH hS hL
  unfold oSw at h
  split at h
  · rename_i x rest
    obtain ⟨t, hk, ht⟩ := mj_lsw hdf ps.toList cs hcs h
    exact lv_lookup hC.1 hC.2.1 hdg hp rfl ht (hK _ _ _ _ _ hk z1 z2 H locs ls hH hS hL)
  · exact h.elim
theorem mj_adx (E : mj_E) (k : Nat) : mj_ad E (1000 + k) = E.2.2.2 k := by
  unfold mj_ad
  rw [if_neg (by omega), Nat.add_sub_cancel_left]
theorem sGets {k idx : Nat} (hdg : decode (mj_cc d) pc = .ok (.getstatic idx, 3)) (hk : k < 3) (hl : Cond.fieldLink (mj_y d).cls idx "DebtorViews" (mj_xn k) "[I" ∈ wsL_law) : mj_S d pc (oGets k) := by
  intro p l e s m args below meth c E post hC L st M z K h hK z1 z2 H locs ls hH hS hL
  refine va_gets hC.1 hC.2.1 (hC.2.2.2.2.2.2.2.2.2.1.1 k hk).1 hS hC.2.2.2.1 (hC.2.2.2.2.1 _ hl) (fun _ hx => hx) hdg ?_
  have h1 := hK _ _ _ _ _ h z1 z2 H locs ls hH hS hL
  rw [List.map_cons, mj_cvr, mj_adx] at h1
  exact h1
theorem sXald {k : Nat} (hdg : decode (mj_cc d) pc = .ok (.iaload, 1)) (hk : k < 3) : mj_S d pc (oXald k) := by
  intro p l e s m args below meth c E post hC L st M z K h hK z1 z2 H locs ls hH hS hL
  unfold oXald at h
  split at h
  · rename_i i o rest
    obtain ⟨rfl, g, h⟩ := h
    show W p l e _ s m args below meth c H locs z.1 z.2 _ (F0 m pc ls (.int i :: .ref (mj_ad E (1000 + k)) :: rest.map (mj_cv E)))
    rw [mj_adx]
    exact va_ti hC.1 hC.2.1 (hC.2.2.2.2.2.2.2.2.2.1.1 k hk).2 hS g (v := .int (mj_xc k i.toNatClampNeg)) rfl hdg (hK _ _ _ _ _ h z1 z2 H locs ls hH hS hL)
  · exact h.elim
theorem sXlen {k : Nat} (hdg : decode (mj_cc d) pc = .ok (.arraylength, 1)) (hk : k < 3) : mj_S d pc (oXlen k) := by
  intro p l e s m args below meth c E post hC L st M z K h hK z1 z2 H locs ls hH hS hL
  unfold oXlen at h
  split at h
  · rename_i o rest
    obtain ⟨rfl, h⟩ := h
    show W p l e _ s m args below meth c H locs z.1 z.2 _ (F0 m pc ls (.ref (mj_ad E (1000 + k)) :: rest.map (mj_cv E)))
    rw [mj_adx]
    exact va_tlen hC.1 hC.2.1 (hC.2.2.2.2.2.2.2.2.2.1.1 k hk).2 hS (v := 6) rfl hdg (hK _ _ _ _ _ h z1 z2 H locs ls hH hS hL)
  · exact h.elim
theorem sLdcS {i idx : Nat} (hdg : decode (mj_cc d) pc = .ok (.ldc idx, 2)) (hi : i < 8) (hy : (mj_y d).cls = "DebtorViews$Reader") (hx : mj_si i = idx) : mj_S d pc (oLdcS i) := by
  intro p l e s m args below meth c E post hC L st M z K h hK z1 z2 H locs ls hH hS hL
  have h3 := hC.2.2.2.2.2.2.2.2.2.1.2.2.1 i hi
  rw [hx, ← hy] at h3
  refine va_ldcS hC.1 hC.2.1 hC.2.2.2.1 h3 hdg ?_
  have h1 := hK _ _ _ _ _ h z1 z2 H locs ls hH hS hL
  rw [List.map_cons, mj_cvr, Nat.add_assoc 1000 10 i, mj_adx] at h1
  exact h1
end MJX
