set_option maxRecDepth 20000 in
theorem ww_nest : ∀ w ∈ mj_nest, w ∈ lw_tbl := ww_of _ [(1, 40), (1, 41), (1, 49), (1, 53), (1, 55), (1, 57), (1, 59), (1, 61), (1, 100), (1, 101), (1, 102), (1, 118), (1, 119), (1, 121), (1, 122), (1, 124), (1, 126), (1, 127), (1, 129), (1, 130), (1, 132), (1, 134), (1, 136), (1, 137), (1, 139), (1, 140), (1, 142), (1, 143), (1, 145), (1, 146), (1, 170), (1, 173), (1, 174), (1, 178), (1, 180), (1, 182), (1, 184), (1, 186), (1, 188), (1, 190), (1, 192), (1, 221), (2, 4), (1, 28), (1, 34), (1, 93), (1, 113), (2, 14), (2, 20), (3, 27), (4, 26), (4, 29)] (by decide +kernel)
set_option maxRecDepth 20000 in
theorem ww_texts : ∀ w ∈ (List.range 8).map (fun i => Cond.stringRef "DebtorViews$Reader" (mj_si i) (mj_st i)), w ∈ lw_tbl := ww_of _ [(2, 156), (2, 157), (2, 158), (2, 159), (2, 160), (2, 221), (2, 222), (2, 231)] (by decide +kernel)
theorem ww_rows : ∀ w ∈ (List.range 3).map (fun k => Cond.laysStatic "DebtorViews" (mj_xn k) "[I"), w ∈ lw_tbl := ww_of _ [(3, 101), (3, 103), (1, 171)] (by decide +kernel)
section ENV
variable {s : State} {A : Array Value} {b : Nat}
theorem ev_one {C : String} {T : u_T} {N : Nat} (hts : ∀ w ∈ wsL_law, w.before A s = true) (hin : ∀ w ∈ u_ws C T N, w ∈ wsL_law) (hi : Cond.instantiable C N ∈ wsL_law) : ∃ x : ClassId × (Nat → Nat), ∀ q : vw_C, some (C, T, N) = some q → u_Kn s q.1 q.2.1 q.2.2 x.1 x.2 := by
  obtain ⟨cC, iS, h⟩ := u_known (C := C) (T := T) (N := N) (n := N) hts hin (hts _ hi)
  exact ⟨(cC, iS), fun q hq => by cases hq; exact h⟩
theorem ev_cls (hts : ∀ w ∈ wsL_law, w.before A s = true) : ∃ f : Nat → ClassId × (Nat → Nat), ∀ (c : Nat) (q : vw_C), vwCl[c]? = some q → u_Kn s q.1 q.2.1 q.2.2 (f c).1 (f c).2 := by
  have h : ∀ c : Nat, ∃ x : ClassId × (Nat → Nat), ∀ q : vw_C, vwCl[c]? = some q → u_Kn s q.1 q.2.1 q.2.2 x.1 x.2 := by
    intro c
    match c with
    | 0 => exact ev_one (C := RX0) (T := TX0) (N := 12) hts inlX0 (List.mem_of_getElem? (i := 28) (by decide +kernel))
    | 1 => exact ev_one (C := RX1) (T := TX1) (N := 3) hts inlX1 (List.mem_of_getElem? (i := 20) (by decide +kernel))
    | 2 => exact ev_one (C := RX2) (T := TX2) (N := 3) hts inlX2 (List.mem_of_getElem? (i := 58) (by decide +kernel))
    | 3 => exact ev_one (C := RX3) (T := TX3) (N := 8) hts inlX3 (List.mem_of_getElem? (i := 12) (by decide +kernel))
    | 4 => exact ev_one (C := RX4) (T := TX4) (N := 2) hts inlX4 (List.mem_of_getElem? (i := 24) (by decide +kernel))
    | 5 => exact ev_one (C := RX5) (T := TX5) (N := 3) hts inlX5 (List.mem_of_getElem? (i := 16) (by decide +kernel))
    | 6 => exact ev_one (C := RX6) (T := TX6) (N := 1) hts inlX6 (List.mem_of_getElem? (i := 86) (by decide +kernel))
    | 7 => exact ev_one (C := RX7) (T := TX7) (N := 2) hts inlX7 (List.mem_of_getElem? (i := 35) (by decide +kernel))
    | 8 => exact ev_one (C := RX8) (T := TX8) (N := 11) hts inlX8 (List.mem_of_getElem? (i := 65) (by decide +kernel))
    | 9 => exact ev_one (C := RX9) (T := TX9) (N := 5) hts inlX9 (List.mem_of_getElem? (i := 1) (by decide +kernel))
    | n + 10 => exact ⟨(0, fun _ => 0), fun q hq => by simp [vwCl] at hq⟩
  exact ⟨fun c => (h c).choose, fun c => (h c).choose_spec⟩
theorem ev_int (h : (Cond.arrayClass .int).before A s = true) : ∃ cA, ArrOfT s cA .int ∧ va_RA s cA .int := by
  obtain ⟨c, k, comp, h1, h2, h3⟩ := Cond.arrayClass_spec h
  exact ⟨c, fun n z => ⟨fun k h => (by cases h), k, h2, comp, h3⟩, h1⟩
theorem ev_boolean (h : (Cond.arrayClass .boolean).before A s = true) : ∃ cA, ArrOfT s cA .boolean ∧ va_RA s cA .boolean := by
  obtain ⟨c, k, comp, h1, h2, h3⟩ := Cond.arrayClass_spec h
  exact ⟨c, fun n z => ⟨fun k h => (by cases h), k, h2, comp, h3⟩, h1⟩
theorem ev_obj {C : String} (h : (Cond.arrayOver (.object C)).before A s = true) : ∃ cA, ArrOfT s cA (.object C) ∧ va_RA s cA (.object C) := by
  obtain ⟨comp, c, k, f1, f2, f3, f4, f5⟩ := Cond.arrayOver_spec h
  exact ⟨c, fun n z => ⟨fun k h => (by cases h), k, f3, comp, f4⟩, k, comp, f3, f4, f1, f5⟩
theorem ev_K (hts : ∀ w ∈ lw_tbl, w.before A s = true) : ∃ (D : va_G) (cA : Nat → ClassId), ∀ (n : Nat) (ad : Nat → Nat), mj_K (D, cA, n, ad) s := by
  obtain ⟨f, hf⟩ := ev_cls (fun w hw => hts w (wsL_law_in w hw))
  have w2 := hts (.arrayOver (.object "DebtorViews$View")) (ww_in 1 _ (List.mem_of_getElem? (i := 111) (by decide +kernel)))
  have w3 := hts (.arrayOver (.object "DebtorViews$Books")) (ww_in 1 _ (List.mem_of_getElem? (i := 219) (by decide +kernel)))
  have w4 := hts (.arrayOver (.object "DebtorViews$State")) (ww_in 1 _ (List.mem_of_getElem? (i := 239) (by decide +kernel)))
  obtain ⟨c0, h0⟩ := ev_int (hts (.arrayClass .int) (ww_in 1 _ (List.mem_of_getElem? (i := 47) (by decide +kernel))))
  obtain ⟨c1, h1⟩ := ev_boolean (hts (.arrayClass .boolean) (ww_in 1 _ (List.mem_of_getElem? (i := 231) (by decide +kernel))))
  obtain ⟨c2, h2⟩ := ev_obj w2
  obtain ⟨c3, h3⟩ := ev_obj w3
  obtain ⟨c4, h4⟩ := ev_obj w4
  refine ⟨(fun c => (f c).1, fun c => (f c).2), fun k => match k with | 0 => c0 | 1 => c1 | 2 => c2 | 3 => c3 | _ => c4, fun n ad => ⟨⟨hf, fun k q hk => ?_⟩, va_AO.of w2, va_AO.of w3, va_AO.of w4⟩⟩
  match k, hk with
  | 0, hk => cases hk; exact h0
  | 1, hk => cases hk; exact h1
  | 2, hk => cases hk; exact h2
  | 3, hk => cases hk; exact h3
  | 4, hk => cases hk; exact h4
  | n + 5, hk => simp [mj_ty] at hk
abbrev ev_fl : List Cond := flatC (Cond.and given_1 narrow_1)
abbrev ev_rt (k : Nat) : Term := .static "DebtorViews" (mj_xn k) "[I"
abbrev ev_st (i : Nat) : Term := .string "DebtorViews$Reader" (mj_si i)
abbrev ev_sv (i : Nat) : Term := .field (ev_st i) "java/lang/String" "value" "[B"
set_option maxRecDepth 20000 in
theorem ew_r1 : ∀ k, k < 3 → Cond.arrayOf (ev_rt k) .int ∈ ev_fl := by decide +kernel
set_option maxRecDepth 20000 in
theorem ew_r2 : ∀ k, k < 3 → Cond.eq (.length (ev_rt k)) (.int (Int32.ofNat 6)) ∈ ev_fl := by decide +kernel
set_option maxRecDepth 20000 in
theorem ew_r3 : ∀ k, k < 3 → ∀ j, j < 6 → Cond.eq (.elem (ev_rt k) (.int (Int32.ofNat j))) (.int (mj_xc k j)) ∈ ev_fl := by decide +kernel
set_option maxRecDepth 20000 in
theorem ew_s1 : ∀ i, i < 8 → Cond.exactly (ev_st i) "java/lang/String" ∈ ev_fl := by decide +kernel
set_option maxRecDepth 20000 in
theorem ew_s2 : ∀ i, i < 8 → Cond.eq (.field (ev_st i) "java/lang/String" "coder" "B") (.int 0) ∈ ev_fl := by decide +kernel
set_option maxRecDepth 20000 in
theorem ew_s3 : ∀ i, i < 8 → Cond.arrayOf (ev_sv i) .byte ∈ ev_fl := by decide +kernel
set_option maxRecDepth 20000 in
theorem ew_s4 : ∀ i, i < 8 → Cond.eq (.length (ev_sv i)) (.int (Int32.ofNat (mj_sn.getD i 0))) ∈ ev_fl := by decide +kernel
set_option maxRecDepth 20000 in
theorem ew_s5 : ∀ i, i < 8 → ∀ j, j < mj_sn.getD i 0 → Cond.eq (.elem (ev_sv i) (.int (Int32.ofNat j))) (.int ((mj_sb.getD i []).getD j 0)) ∈ ev_fl := by decide +kernel
set_option maxRecDepth 20000 in
theorem ew_s6 : ∀ i, i < 8 → ∀ j, j < 8 → i ≠ j → (Cond.not (Cond.eq (ev_st i) (ev_st j)) ∈ ev_fl ∨ Cond.not (Cond.eq (ev_st j) (ev_st i)) ∈ ev_fl) := by decide +kernel
set_option maxRecDepth 20000 in
theorem ew_c : Cond.eq (.static "java/lang/String" "COMPACT_STRINGS" "Z") (.int 1) ∈ ev_fl := by decide +kernel
set_option maxRecDepth 20000 in
theorem ew_f : Cond.isRef (.static "jdk/internal/util/Preconditions" "SIOOBE_FORMATTER" "Ljava/util/function/BiFunction;") ∈ ev_fl := by decide +kernel
theorem ev_hA : ∀ a : Nat, a < s.heap.size → ¬ (fun q : Nat => s.heap.size ≤ q) a := fun _ h => Nat.not_le.mpr h
theorem ev_rows (hts : ∀ w ∈ lw_tbl, w.before A s = true) (hf : ∀ w ∈ ev_fl, w.before A s = true) : ∃ ad : Nat → Nat, ∀ k, k < 3 → va_Z "DebtorViews" (mj_xn k) "[I" (.ref (ad k)) (fun q : Nat => s.heap.size ≤ q) s s.heap ∧ va_T .int (ad k) 6 (fun j => .int (mj_xc k j)) (fun q : Nat => s.heap.size ≤ q) s s.heap := by
  have h : ∀ k : Nat, ∃ t : Nat, k < 3 → va_Z "DebtorViews" (mj_xn k) "[I" (.ref t) (fun q : Nat => s.heap.size ≤ q) s s.heap ∧ va_T .int t 6 (fun j => .int (mj_xc k j)) (fun q : Nat => s.heap.size ≤ q) s s.heap := by
    intro k
    by_cases hk : k < 3
    · obtain ⟨t, h1, h2⟩ := va_Tof (args := A) (s := s) (tm := ev_rt k) (ty := .int) (N := 6) (f := fun j => .int (mj_xc k j)) (A := fun q : Nat => s.heap.size ≤ q) (by decide) (hf _ (ew_r1 k hk)) (va_eqt (hf _ (ew_r2 k hk))) (fun j hj => va_eqt (hf _ (ew_r3 k hk j hj))) ev_hA
      exact ⟨t, fun _ => ⟨va_Zref (hts _ (ww_rows _ (List.mem_map.mpr ⟨k, List.mem_range.mpr hk, rfl⟩))) (hts (.initialized "DebtorViews") (ww_in 1 _ (List.mem_of_getElem? (i := 1) (by decide +kernel)))) h1 ev_hA, h2⟩⟩
    · exact ⟨0, fun h => absurd h hk⟩
  exact ⟨fun c => (h c).choose, fun c => (h c).choose_spec⟩
theorem ev_texts (hf : ∀ w ∈ ev_fl, w.before A s = true) : ∃ adK adV : Nat → Nat, vk_S 8 mj_sn mj_sb adK adV (fun q : Nat => s.heap.size ≤ q) s s.heap ∧ ∀ i, i < 8 → (ev_st i).eval A s none [] s = some (.ref (adK i)) :=
  vk_Sof (tm := ev_st) (by decide) (fun i hi => hf _ (ew_s1 i hi)) (fun i hi => hf _ (ew_s2 i hi)) (fun i hi => hf _ (ew_s3 i hi)) (fun i hi => hf _ (ew_s4 i hi)) (fun i hi j hj => hf _ (ew_s5 i hi j hj)) (fun i j hi hj hne => (ew_s6 i hi j hj hne).elim (fun h => Or.inl (hf _ h)) (fun h => Or.inr (hf _ h))) ev_hA
theorem ev_S {f g adK adV : Nat → Nat} {B : Nat → Prop} {U : State} {H : Heap} (h : vk_S 8 mj_sn mj_sb adK adV B U H) (hf : ∀ i, i < 8 → f i = adK i) (hg : ∀ i, i < 8 → g i = adV i) : vk_S 8 mj_sn mj_sb f g B U H :=
  ⟨fun i hi => by rw [hf i hi, hg i hi]; exact h.1 i hi, fun i j hi hj he => h.2 i j hi hj (by rw [← hf i hi, ← hf j hj]; exact he)⟩
def ev_ad (ad adK adV : Nat → Nat) (b t : Nat) (k : Nat) : Nat := if k < 10 then ad k else if k < 30 then adK (k - 10) else if k < 50 then adV (k - 30) else if k = 50 then b else t
/-- the environment at the start: the tables' classes, the rows and the texts that stand outside, the script at its place -/
theorem ev_W (hts : ∀ w ∈ lw_tbl, w.before A s = true) (hf : ∀ w ∈ ev_fl, w.before A s = true) : ∃ E : mj_E, E.2.2.1 = s.heap.size ∧ E.2.2.2 50 = b ∧ mj_K E s ∧ mj_X E s s.heap := by
  obtain ⟨D, cA, hK⟩ := ev_K hts
  obtain ⟨ad, hR⟩ := ev_rows hts hf
  obtain ⟨adK, adV, hS, hv⟩ := ev_texts hf
  have hC := va_Zof (A := fun q : Nat => s.heap.size ≤ q) (hts (.laysStatic "java/lang/String" "COMPACT_STRINGS" "Z") (ww_in 2 _ (List.mem_of_getElem? (i := 174) (by decide +kernel)))) (hts (.initialized "java/lang/String") (ww_in 1 _ (List.mem_of_getElem? (i := 14) (by decide +kernel)))) (va_eqt (hf _ ew_c)) ev_hA
  have hF := va_Zqof (A := fun q : Nat => s.heap.size ≤ q) (hts (.laysStatic "jdk/internal/util/Preconditions" "SIOOBE_FORMATTER" "Ljava/util/function/BiFunction;") (ww_in 2 _ (List.mem_of_getElem? (i := 190) (by decide +kernel)))) (hts (.initialized "jdk/internal/util/Preconditions") (ww_in 1 _ (List.mem_of_getElem? (i := 16) (by decide +kernel)))) (hf _ ew_f) ev_hA
  obtain ⟨t, hF⟩ : ∃ t : Nat, ∀ E : mj_E, E.2.2.2 60 = t → ∃ r : Option Nat, va_Z "jdk/internal/util/Preconditions" "SIOOBE_FORMATTER" "Ljava/util/function/BiFunction;" (mj_cv E (.inr r)) (fun q : Nat => s.heap.size ≤ q) s s.heap := by
    rcases hF with h | ⟨t, h⟩
    · exact ⟨0, fun E _ => ⟨none, h⟩⟩
    · exact ⟨t, fun E hE => ⟨some 1060, by rw [show mj_cv E (.inr (some 1060)) = .ref (E.2.2.2 60) from rfl, hE]; exact h⟩⟩
  refine ⟨(D, cA, s.heap.size, ev_ad ad adK adV b t), rfl, rfl, hK _ _, fun k hk => ?_, ?_, fun i hi => ?_, ⟨hC, hF _ rfl⟩, fun w hw => ?_⟩
  · rw [show (D, cA, s.heap.size, ev_ad ad adK adV b t).2.2.2 k = ad k from if_pos (Nat.lt_trans hk (by decide))]
    exact hR k hk
  · refine ev_S hS (fun i hi => ?_) (fun i hi => ?_)
    · show ev_ad ad adK adV b t (10 + i) = adK i
      unfold ev_ad
      rw [if_neg (by omega), if_pos (by omega), Nat.add_sub_cancel_left]
    · show ev_ad ad adK adV b t (30 + i) = adV i
      unfold ev_ad
      rw [if_neg (by omega), if_neg (by omega), if_pos (by omega), Nat.add_sub_cancel_left]
  · have e : ev_ad ad adK adV b t (10 + i) = adK i := by
      unfold ev_ad
      rw [if_neg (by omega), if_pos (by omega), Nat.add_sub_cancel_left]
    show vk_R "DebtorViews$Reader" (mj_si i) (mj_st i) (ev_ad ad adK adV b t (10 + i)) s
    rw [e]
    exact vk_R.of (hts _ (ww_texts _ (List.mem_map.mpr ⟨i, List.mem_range.mpr hi, rfl⟩))) (hv i hi)
  · exact va_Nw.of (mj_nt (List.all_eq_true.mp mj_nestN w hw)) (hts w (ww_nest w hw))
end ENV
