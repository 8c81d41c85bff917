theorem wd_c0 : Cond.constantLong RL 8 (7566701) ∈ wsL_law := List.mem_of_getElem? (i := 400) (by decide +kernel)
theorem wd_c1 : Cond.constantLong RL 10 (427071729268) ∈ wsL_law := List.mem_of_getElem? (i := 401) (by decide +kernel)
theorem wd_c2 : Cond.constantLong RL 12 (1836020596) ∈ wsL_law := List.mem_of_getElem? (i := 402) (by decide +kernel)
theorem wd_c3 : Cond.constantLong RL 14 (1785686382) ∈ wsL_law := List.mem_of_getElem? (i := 403) (by decide +kernel)
theorem wd_c4 : Cond.constantLong RL 16 (1818588019) ∈ wsL_law := List.mem_of_getElem? (i := 404) (by decide +kernel)
theorem wd_c5 : Cond.constantLong RL 18 (255) ∈ wsL_law := List.mem_of_getElem? (i := 405) (by decide +kernel)
theorem wd_m1 : Cond.methodLink RL 20 yX9_append ∈ wsL_law := List.mem_of_getElem? (i := 406) (by decide +kernel)
theorem wd_m2 : Cond.instanceMethod yX9_append ∈ wsL_law := List.mem_of_getElem? (i := 407) (by decide +kernel)
theorem wd_m3 : Cond.selects RX9 yX9_append yX9_append ∈ wsL_law := List.mem_of_getElem? (i := 408) (by decide +kernel)
theorem wd_m4 : Cond.initialized RX9 ∈ wsL_law := List.mem_of_getElem? (i := 2) (by decide +kernel)
theorem wd_m5 : Cond.code yX9_append cX9_append 2 (some .int) ∈ wsL_law := List.mem_of_getElem? (i := 409) (by decide +kernel)
section Wd
variable {p : Program} {l : Launch} {e : Env} {s : State} {m : MethodId} {args : Array Value} {below : List Frame} {meth : Method} {c : Code} {E : mj_E} {post : Option mj_V → mj_M → Prop}
/-- where a walk of word stands: locals lv, stack st, memory M -/
def WG (p : Program) (l : Launch) (e : Env) (s : State) (m : MethodId) (args : Array Value) (below : List Frame) (meth : Method) (c : Code) (E : mj_E) (post : Option mj_V → mj_M → Prop) (pc : Nat) (lv : List (Nat × Value)) (st : List Value) (M : mj_M) : Prop :=
  ∀ (H : Heap) (locs : List Loc) (ls : Array Slot), mj_H E M H → va_S (mj_A E) s.heap H locs → lv_has ls 6 lv → W p l e (mj_rm D_L_word) s m args below meth c H locs 0 0 (MQ below (mj_Q E post) args s (mj_mc D_L_word) (mj_ms D_L_word) (mj_A E)) (F0 m pc ls st)
theorem wd_call (hC : mj_C p l e s m args below meth c E D_L_word) {a : Int32} {M : mj_M} {post' : Option mj_V → mj_M → Prop} (hM : mj_R D_X9_append [.inr (some 0), .inl a] M post') (h0 : 0 < M.1) {lv : List (Nat × Value)} (kk : ∀ r M', post' r M' → WG p l e s m args below meth c E post 80 lv ((r.map (mj_cv E)).toList) M') : WG p l e s m args below meth c E post 77 lv [.int a, .ref (mj_ad E 0)] M := by
  intro H locs ls hH hS hl
  have ha := mj_ad_lt (E := E) h0 hH.2.2
  have hcw : CallW (mj_rm D_L_word) s args (mj_y D_L_word).cls RX9 20 (mj_y D_X9_append) (mj_cc D_X9_append) (mj_nl D_X9_append) (mj_rt D_X9_append) (Cond.code (mj_y D_X9_append) (mj_cc D_X9_append) (mj_nl D_X9_append) (mj_rt D_X9_append) :: wsL_law) (mj_rm D_X9_append) (mj_mc D_X9_append) (mj_ms D_X9_append) 1 :=
    cwV 1 hC.2.2.2.2.1 (wsL_gi (by
      intro w hw
      rcases List.mem_append.mp hw with hw | hw
      · simp only [List.mem_cons, List.not_mem_nil, or_false] at hw
        rcases hw with rfl | rfl | rfl | rfl
        · exact wd_m1
        · exact wd_m2
        · exact wd_m3
        · exact wd_m4
      · rcases List.mem_cons.mp hw with rfl | hw
        · exact wd_m5
        · exact hw)) rfl rfl rfl ⟨rfl, by decide, by decide, by decide⟩ ⟨by decide, by decide⟩
  have hrun := va_runV (p := p) (l := l) (e := e) (below := below) (meth := meth) (H := H) (locs := locs) (cells := 0) (slots := 0) (g := F0 m 77 ls (([.inl a] : List mj_V).map (mj_cv E) ++ .ref (E.2.2.1 + 0) :: [])) (b := E.2.2.1 + 0) (As := ([.inl a] : List mj_V).map (mj_cv E)) (rest := []) (cc := mj_cc D_L_word) (nL := mj_nl D_L_word) (Ts := wsL_law) ⟨hC.1, hC.2.1, hC.2.2.1, hC.2.2.2.1, hC.2.2.2.2.1⟩ (hM l E) hcw
    ⟨mj_blind, va_recv hC.2.2.2.2.2.2.2.2.1.1 hH.1 (show vwCl[9]? = some (RX9, TX9, 5) from rfl) ((mj_ws_at h0).trans (by rw [mj_ce_ob (show mj_sh 0 = (9, 5) from s_0) (by decide)])), fun U hU hW => ⟨by show _ = ((mj_cv E (.inr (some 0))) :: ([.inl a] : List mj_V).map (mj_cv E)).toArray; rw [mj_cvr, ha], mj_WU hC hH hS U hU hW⟩⟩
    rfl rfl (hl.1) rfl (lv_room (by decide)) dL_word_77 ⟨by decide, by decide⟩
  rw [ha]
  refine mj_go hrun hS (fun r M' H1 locs1 hp hH1 hS1 => ?_)
  rw [List.append_nil]
  exact kk r M' hp H1 locs1 ls hH1 hS1 hl
def wl (E : mj_E) (x : Int64) (k : Int32) : List (Nat × Value) := [(4, .int k), (2, .long x), (0, .ref (mj_ad E 0))]
theorem wd_step (hC : mj_C p l e s m args below meth c E D_L_word) {I J : mj_I} {t : List Int32} {x : Int64} {k k' a : Int32} (hk : ¬ k < 0) (hk' : k + -1 = k') (ha : ((x >>> ((8 * k).toInt64 &&& 63)) &&& 255).toInt32 = a) (hok : a = 0 ∨ (1 ≤ a ∧ a ≤ 255)) (h : TXT I J t) (ht : t.length < 40)
    (kk : ∀ J', TXT I J' (if a = 0 then t else t ++ [a]) → WG p l e s m args below meth c E post 50 (wl E x k') [] (mj_w J')) : WG p l e s m args below meth c E post 50 (wl E x k) [] (mj_w J) := by
  intro H locs ls hH hS hl
  have hx := hC.1
  have hb := hC.2.1
  have hl : lv_has ls 6 [(4, .int k), (2, .long x), (0, .ref (mj_ad E 0))] := hl
  refine lv_iload hx hb dL_word_50 (lv_at hl 0 rfl) ?_
  refine lv_if_lt hx hb (tgt := 87) dL_word_52 (by decide) (fun q => absurd q hk) (fun _ => ?_)
  refine lv_lload_n hx hb dL_word_55 rfl (lv_at hl 1 rfl) ?_
  refine lv_bipush hx hb dL_word_56 (v := 8) (by decide) ?_
  refine lv_iload hx hb dL_word_58 (lv_at hl 0 rfl) ?_
  refine lv_imul hx hb dL_word_60 ?_
  refine lv_lshr hx hb dL_word_61 rfl ?_
  refine lv_ldc2 hx hb hC.2.2.2.1 (hC.2.2.2.2.1 _ wd_c5) dL_word_62 ?_
  refine lv_land hx hb dL_word_65 ?_
  refine lv_l2i hx hb dL_word_66 ha ?_
  refine lv_istore hx hb dL_word_67 hl (by decide) rfl (fun ls1 hl1 => ?_)
  have hl1 : lv_has ls1 6 [(5, .int a), (4, .int k), (2, .long x), (0, .ref (mj_ad E 0))] := hl1
  refine lv_iload hx hb dL_word_69 (lv_at hl1 0 rfl) ?_
  have fin : ∀ (J' : mj_I), TXT I J' (if a = 0 then t else t ++ [a]) → WG p l e s m args below meth c E post 81 [(5, .int a), (4, .int k), (2, .long x), (0, .ref (mj_ad E 0))] [] (mj_w J') := by
    intro J' hJ H1 locs1 ls2 hH1 hS1 hl2
    refine lv_iinc (k := 1) hx hb dL_word_81 hl2 rfl hk' (by decide) rfl (fun ls3 hl3 => ?_)
    refine lv_goto hx hb (tgt := 50) dL_word_84 (by decide) ?_
    have hl3 : lv_has ls3 6 [(4, .int k'), (5, .int a), (2, .long x), (0, .ref (mj_ad E 0))] := hl3
    exact kk J' hJ H1 locs1 ls3 hH1 hS1 (lv_sub hl3 [0, 2, 3] rfl)
  refine lv_if_eq hx hb (tgt := 81) dL_word_71 (by decide) (fun q => ?_) (fun q => ?_)
  · exact fin J (by rw [if_pos q]; exact h) H locs ls1 hH hS hl1
  · refine lv_aload_n hx hb dL_word_74 rfl (lv_at hl1 3 rfl) ?_
    refine lv_iload hx hb dL_word_75 (lv_at hl1 0 rfl) ?_
    refine wd_call hC (A_app h (hok.resolve_left q) ht) (show 0 < 313 by decide) (lv := [(5, .int a), (4, .int k), (2, .long x), (0, .ref (mj_ad E 0))]) ?_ H locs ls1 hH hS hl1
    rintro _ _ ⟨J1, rfl, ⟨y, rfl⟩, h1⟩ H1 locs1 ls2 hH1 hS1 hl2
    refine lv_pop hx hb dL_word_80 rfl ?_
    exact fin J1 (by rw [if_neg q]; exact h1) H1 locs1 ls2 hH1 hS1 hl2
theorem wd_end (hC : mj_C p l e s m args below meth c E D_L_word) {J : mj_I} {x : Int64} (hp : post none (mj_w J)) : WG p l e s m args below meth c E post 50 (wl E x (-1)) [] (mj_w J) := by
  intro H locs ls hH hS hl
  have hx := hC.1
  have hb := hC.2.1
  have hl : lv_has ls 6 [(4, .int (-1)), (2, .long x), (0, .ref (mj_ad E 0))] := hl
  refine lv_iload hx hb dL_word_50 (lv_at hl 0 rfl) ?_
  refine lv_if_lt hx hb (tgt := 87) dL_word_52 (by decide) (fun _ => ?_) (fun q => absurd (by decide) q)
  exact W.vret hC.1 hC.2.1 (hC.2.2.2.2.2.1.trans rfl) (fun t ht hW => ⟨⟨none, mj_w J, rfl, hp, by rw [ht]; exact hH⟩, hS.F ht⟩) (fun q hq => hS.2.2 q hq) dL_word_87 hC.2.2.2.2.2.2.1
/-- the letters of a word, by the constant's bytes -/
def wdA (x : Int64) (k : Int32) : Int32 := ((x >>> ((8 * k).toInt64 &&& 63)) &&& 255).toInt32
theorem wd_tail (hC : mj_C p l e s m args below meth c E D_L_word) {I J : mj_I} {t w : List Int32} {x : Int64} (a3 a2 a1 a0 : Int32) (h4 : wdA x 4 = 0 ∨ (1 ≤ wdA x 4 ∧ wdA x 4 ≤ 255)) (h3 : wdA x 3 = 0 ∨ (1 ≤ wdA x 3 ∧ wdA x 3 ≤ 255)) (h2 : wdA x 2 = 0 ∨ (1 ≤ wdA x 2 ∧ wdA x 2 ≤ 255)) (h1 : wdA x 1 = 0 ∨ (1 ≤ wdA x 1 ∧ wdA x 1 ≤ 255)) (h0 : wdA x 0 = 0 ∨ (1 ≤ wdA x 0 ∧ wdA x 0 ≤ 255))
    (hw : ((if wdA x 4 = 0 then [] else [wdA x 4]) ++ ((if wdA x 3 = 0 then [] else [wdA x 3]) ++ ((if wdA x 2 = 0 then [] else [wdA x 2]) ++ ((if wdA x 1 = 0 then [] else [wdA x 1]) ++ (if wdA x 0 = 0 then [] else [wdA x 0]))))) = w) (h : TXT I J t) (ht : t.length ≤ 30)
    (hp : ∀ J', TXT I J' (t ++ w) → post none (mj_w J')) : WG p l e s m args below meth c E post 46 [(1, .int a3), (0, .ref (mj_ad E 0))] [.long x] (mj_w J) := by
  intro H locs ls hH hS hl
  have hx := hC.1
  have hb := hC.2.1
  have eq : ∀ (a : Int32) (u : List Int32), (if a = 0 then u else u ++ [a]) = u ++ (if a = 0 then [] else [a]) := by
    intro a u
    split
    · rw [List.append_nil]
    · rfl
  have ll : ∀ a : Int32, (if a = 0 then ([] : List Int32) else [a]).length ≤ 1 := by
    intro a
    split <;> simp
  refine lv_lstore_n hx hb dL_word_46 rfl hl (by decide) rfl (fun ls1 hl1 => ?_)
  refine lv_iconst hx hb dL_word_47 (v := 4) (by decide) ?_
  refine lv_istore hx hb dL_word_48 hl1 (by decide) rfl (fun ls2 hl2 => ?_)
  have hl2 : lv_has ls2 6 [(4, .int 4), (2, .long x), (1, .int a3), (0, .ref (mj_ad E 0))] := hl2
  refine wd_step hC (a := wdA x 4) (k' := 3) (by decide) (by decide) rfl h4 h (by omega) (fun J1 g1 => ?_) H locs ls2 hH hS (lv_sub hl2 [0, 1, 3] rfl)
  rw [eq] at g1
  have l1 := ll (wdA x 4)
  refine wd_step hC (a := wdA x 3) (k' := 2) (by decide) (by decide) rfl h3 g1 (by rw [List.length_append]; omega) (fun J2 g2 => ?_)
  rw [eq] at g2
  have l2 := ll (wdA x 3)
  refine wd_step hC (a := wdA x 2) (k' := 1) (by decide) (by decide) rfl h2 g2 (by rw [List.length_append, List.length_append]; omega) (fun J3 g3 => ?_)
  rw [eq] at g3
  have l3 := ll (wdA x 2)
  refine wd_step hC (a := wdA x 1) (k' := 0) (by decide) (by decide) rfl h1 g3 (by rw [List.length_append, List.length_append, List.length_append]; omega) (fun J4 g4 => ?_)
  rw [eq] at g4
  have l4 := ll (wdA x 1)
  refine wd_step hC (a := wdA x 0) (k' := -1) (by decide) (by decide) rfl h0 g4 (by rw [List.length_append, List.length_append, List.length_append, List.length_append]; omega) (fun J5 g5 => ?_)
  rw [eq] at g5
  refine wd_end hC (hp J5 ?_)
  rw [← hw]
  simp only [List.append_assoc] at g5
  exact g5
end Wd
theorem C_L_word {I J : mj_I} {t : List Int32} {kd : Nat} (hk : kd < 5) (h : TXT I J t) (ht : t.length ≤ 30) : mj_R D_L_word [.inr (some 0), .inl (nI kd)] (mj_w J) (mj_px (fun r J' => r = none ∧ TXT I J' (t ++ mj_sb.getD kd []))) := by
  refine mj_enter (by decide +kernel) (Nat.le_of_ble_eq_true rfl) ?_
  intro p l e s m args below meth c E hC z1 z2
  have hx := hC.1
  have hb := hC.2.1
  have hh : WG p l e s m args below meth c E (mj_px (fun r J' => r = none ∧ TXT I J' (t ++ mj_sb.getD kd []))) 0 [(0, .ref (mj_ad E 0)), (1, .int (nI kd))] [] (mj_w J) := by
   rcases (show kd = 0 ∨ kd = 1 ∨ kd = 2 ∨ kd = 3 ∨ kd = 4 by omega) with rfl | rfl | rfl | rfl | rfl
   · intro H locs ls hH hS hl
     refine lv_iload_n hx hb dL_word_0 rfl (lv_at hl 1 rfl) ?_
     refine lv_if_ne hx hb (tgt := 10) dL_word_1 (by decide) (fun q => absurd (by decide) q) (fun _ => ?_)
     refine lv_ldc2 hx hb hC.2.2.2.1 (hC.2.2.2.2.1 _ wd_c0) dL_word_4 ?_
     refine lv_goto hx hb (tgt := 46) dL_word_7 (by decide) ?_
     exact wd_tail hC (w := mj_sb.getD 0 []) _ 0 0 0 (by decide +kernel) (by decide +kernel) (by decide +kernel) (by decide +kernel) (by decide +kernel) (by decide +kernel) h ht (fun J1 g => ⟨J1, rfl, rfl, g⟩) H locs ls hH hS (lv_sub hl [1, 0] rfl)
   · intro H locs ls hH hS hl
     refine lv_iload_n hx hb dL_word_0 rfl (lv_at hl 1 rfl) ?_
     refine lv_if_ne hx hb (tgt := 10) dL_word_1 (by decide) (fun _ => ?_) (fun q => absurd q (by decide))
     refine lv_iload_n hx hb dL_word_10 rfl (lv_at hl 1 rfl) ?_
     refine lv_iconst hx hb dL_word_11 (v := 1) (by decide) ?_
     refine lv_icmp_ne hx hb (tgt := 21) dL_word_12 (by decide) (fun q => absurd (by decide) q) (fun _ => ?_)
     refine lv_ldc2 hx hb hC.2.2.2.1 (hC.2.2.2.2.1 _ wd_c1) dL_word_15 ?_
     refine lv_goto hx hb (tgt := 46) dL_word_18 (by decide) ?_
     exact wd_tail hC (w := mj_sb.getD 1 []) _ 0 0 0 (by decide +kernel) (by decide +kernel) (by decide +kernel) (by decide +kernel) (by decide +kernel) (by decide +kernel) h ht (fun J1 g => ⟨J1, rfl, rfl, g⟩) H locs ls hH hS (lv_sub hl [1, 0] rfl)
   · intro H locs ls hH hS hl
     refine lv_iload_n hx hb dL_word_0 rfl (lv_at hl 1 rfl) ?_
     refine lv_if_ne hx hb (tgt := 10) dL_word_1 (by decide) (fun _ => ?_) (fun q => absurd q (by decide))
     refine lv_iload_n hx hb dL_word_10 rfl (lv_at hl 1 rfl) ?_
     refine lv_iconst hx hb dL_word_11 (v := 1) (by decide) ?_
     refine lv_icmp_ne hx hb (tgt := 21) dL_word_12 (by decide) (fun _ => ?_) (fun q => absurd q (by decide))
     refine lv_iload_n hx hb dL_word_21 rfl (lv_at hl 1 rfl) ?_
     refine lv_iconst hx hb dL_word_22 (v := 2) (by decide) ?_
     refine lv_icmp_ne hx hb (tgt := 32) dL_word_23 (by decide) (fun q => absurd (by decide) q) (fun _ => ?_)
     refine lv_ldc2 hx hb hC.2.2.2.1 (hC.2.2.2.2.1 _ wd_c2) dL_word_26 ?_
     refine lv_goto hx hb (tgt := 46) dL_word_29 (by decide) ?_
     exact wd_tail hC (w := mj_sb.getD 2 []) _ 0 0 0 (by decide +kernel) (by decide +kernel) (by decide +kernel) (by decide +kernel) (by decide +kernel) (by decide +kernel) h ht (fun J1 g => ⟨J1, rfl, rfl, g⟩) H locs ls hH hS (lv_sub hl [1, 0] rfl)
   · intro H locs ls hH hS hl
     refine lv_iload_n hx hb dL_word_0 rfl (lv_at hl 1 rfl) ?_
     refine lv_if_ne hx hb (tgt := 10) dL_word_1 (by decide) (fun _ => ?_) (fun q => absurd q (by decide))
     refine lv_iload_n hx hb dL_word_10 rfl (lv_at hl 1 rfl) ?_
     refine lv_iconst hx hb dL_word_11 (v := 1) (by decide) ?_
     refine lv_icmp_ne hx hb (tgt := 21) dL_word_12 (by decide) (fun _ => ?_) (fun q => absurd q (by decide))
     refine lv_iload_n hx hb dL_word_21 rfl (lv_at hl 1 rfl) ?_
     refine lv_iconst hx hb dL_word_22 (v := 2) (by decide) ?_
     refine lv_icmp_ne hx hb (tgt := 32) dL_word_23 (by decide) (fun _ => ?_) (fun q => absurd q (by decide))
     refine lv_iload_n hx hb dL_word_32 rfl (lv_at hl 1 rfl) ?_
     refine lv_iconst hx hb dL_word_33 (v := 3) (by decide) ?_
     refine lv_icmp_ne hx hb (tgt := 43) dL_word_34 (by decide) (fun q => absurd (by decide) q) (fun _ => ?_)
     refine lv_ldc2 hx hb hC.2.2.2.1 (hC.2.2.2.2.1 _ wd_c3) dL_word_37 ?_
     refine lv_goto hx hb (tgt := 46) dL_word_40 (by decide) ?_
     exact wd_tail hC (w := mj_sb.getD 3 []) _ 0 0 0 (by decide +kernel) (by decide +kernel) (by decide +kernel) (by decide +kernel) (by decide +kernel) (by decide +kernel) h ht (fun J1 g => ⟨J1, rfl, rfl, g⟩) H locs ls hH hS (lv_sub hl [1, 0] rfl)
   · intro H locs ls hH hS hl
     refine lv_iload_n hx hb dL_word_0 rfl (lv_at hl 1 rfl) ?_
     refine lv_if_ne hx hb (tgt := 10) dL_word_1 (by decide) (fun _ => ?_) (fun q => absurd q (by decide))
     refine lv_iload_n hx hb dL_word_10 rfl (lv_at hl 1 rfl) ?_
     refine lv_iconst hx hb dL_word_11 (v := 1) (by decide) ?_
     refine lv_icmp_ne hx hb (tgt := 21) dL_word_12 (by decide) (fun _ => ?_) (fun q => absurd q (by decide))
     refine lv_iload_n hx hb dL_word_21 rfl (lv_at hl 1 rfl) ?_
     refine lv_iconst hx hb dL_word_22 (v := 2) (by decide) ?_
     refine lv_icmp_ne hx hb (tgt := 32) dL_word_23 (by decide) (fun _ => ?_) (fun q => absurd q (by decide))
     refine lv_iload_n hx hb dL_word_32 rfl (lv_at hl 1 rfl) ?_
     refine lv_iconst hx hb dL_word_33 (v := 3) (by decide) ?_
     refine lv_icmp_ne hx hb (tgt := 43) dL_word_34 (by decide) (fun _ => ?_) (fun q => absurd q (by decide))
     refine lv_ldc2 hx hb hC.2.2.2.1 (hC.2.2.2.2.1 _ wd_c4) dL_word_43 ?_
     exact wd_tail hC (w := mj_sb.getD 4 []) _ 0 0 0 (by decide +kernel) (by decide +kernel) (by decide +kernel) (by decide +kernel) (by decide +kernel) (by decide +kernel) h ht (fun J1 g => ⟨J1, rfl, rfl, g⟩) H locs ls hH hS (lv_sub hl [1, 0] rfl)
  intro H locs ls hH hS hL
  refine hh H locs ls hH hS ⟨hL.2.1, hL.2.2.1, fun q hq => ?_⟩
  simp only [List.mem_cons, List.not_mem_nil, or_false] at hq
  rcases hq with rfl | rfl
  · exact hL.2.2.2 0 (.inr (some 0)) rfl
  · exact hL.2.2.2 1 (.inl (nI kd)) rfl
