/-! the texts: places 1010 + i (the text), 1030 + i (its row of bytes) -/
def oStrV : mj_O := fun pc L st M z K _ => match st with
  | .inr (some o) :: rest => ∃ i, i < 8 ∧ o = 1010 + i ∧ K (pc + 3) L (.inr (some (1030 + i)) :: rest) M z
  | _ => False
def oStrC : mj_O := fun pc L st M z K _ => match st with
  | .inr (some o) :: rest => ∃ i, i < 8 ∧ o = 1010 + i ∧ K (pc + 3) L (.inl 0 :: rest) M z
  | _ => False
def oCmpS : mj_O := fun pc L st M z K _ => K (pc + 3) L (.inl 1 :: st) M z
def oFmt : mj_O := fun pc L st M z K _ => ∀ r : Option Nat, K (pc + 3) L (.inr r :: st) M z
def oBlen : mj_O := fun pc L st M z K _ => match st with
  | .inr (some o) :: rest => ∃ i, i < 8 ∧ o = 1030 + i ∧ K (pc + 1) L (.inl (nI (mj_sn.getD i 0)) :: rest) M z
  | _ => False
def oBald : mj_O := fun pc L st M z K _ => match st with
  | .inl x :: .inr (some o) :: rest => ∃ i, i < 8 ∧ o = 1030 + i ∧ vp_in x (mj_sn.getD i 0) ∧ K (pc + 1) L (.inl ((mj_sb.getD i []).getD x.toNatClampNeg 0) :: rest) M z
  | _ => False
def oRetN (ty : FieldType) : mj_O := fun _ _ st M z _ P => match st with
  | [.inl x] => narrow ty (.int x) = .int x ∧ P (some (.inl x)) M z
  | _ => False
section MJT
variable {d : mj_D} {pc : Nat}
theorem mj_ad1 (E : mj_E) (i : Nat) : mj_ad E (1010 + i) = E.2.2.2 (10 + i) := by rw [Nat.add_assoc 1000 10 i, mj_adx]
theorem mj_ad3 (E : mj_E) (i : Nat) : mj_ad E (1030 + i) = E.2.2.2 (30 + i) := by rw [Nat.add_assoc 1000 30 i, mj_adx]
theorem sStrV {idx : Nat} (hdg : decode (mj_cc d) pc = .ok (.getfield idx, 3)) (hl : Cond.fieldLink (mj_y d).cls idx "java/lang/String" "value" "[B" ∈ wsL_law) : mj_S d pc oStrV := by
  intro p l e s m args below meth c E post hC L st M z K h hK z1 z2 H locs ls hH hS hL
  unfold oStrV at h
  split at h
  · rename_i o rest
    obtain ⟨i, hi, rfl, h⟩ := h
    show W p l e _ s m args below meth c H locs z.1 z.2 _ (F0 m pc ls (.ref (mj_ad E (1010 + i)) :: rest.map (mj_cv E)))
    rw [mj_ad1]
    have h1 := hK _ _ _ _ _ h z1 z2 H locs ls hH hS hL
    rw [List.map_cons, mj_cvr, mj_ad3] at h1
    exact vk_getf hC.1 hC.2.1 (hC.2.2.2.2.2.2.2.2.2.1.2.1.1 i hi).2.2.1 hS hC.2.2.2.1 (hC.2.2.2.2.1 _ hl) (fun _ hx => hx) hdg h1
  · exact h.elim
theorem sStrC {idx : Nat} (hdg : decode (mj_cc d) pc = .ok (.getfield idx, 3)) (hl : Cond.fieldLink (mj_y d).cls idx "java/lang/String" "coder" "B" ∈ wsL_law) : mj_S d pc oStrC := by
  intro p l e s m args below meth c E post hC L st M z K h hK z1 z2 H locs ls hH hS hL
  unfold oStrC at h
  split at h
  · rename_i o rest
    obtain ⟨i, hi, rfl, h⟩ := h
    show W p l e _ s m args below meth c H locs z.1 z.2 _ (F0 m pc ls (.ref (mj_ad E (1010 + i)) :: rest.map (mj_cv E)))
    rw [mj_ad1]
    have h1 := hK _ _ _ _ _ h z1 z2 H locs ls hH hS hL
    exact vk_getf hC.1 hC.2.1 (hC.2.2.2.2.2.2.2.2.2.1.2.1.1 i hi).2.1 hS hC.2.2.2.1 (hC.2.2.2.2.1 _ hl) (fun _ hx => hx) hdg h1
  · exact h.elim
theorem sCmpS {idx : Nat} (hdg : decode (mj_cc d) pc = .ok (.getstatic idx, 3)) (hl : Cond.fieldLink (mj_y d).cls idx "java/lang/String" "COMPACT_STRINGS" "Z" ∈ wsL_law) : mj_S d pc oCmpS := by
  intro p l e s m args below meth c E post hC L st M z K h hK z1 z2 H locs ls hH hS hL
  exact va_gets hC.1 hC.2.1 hC.2.2.2.2.2.2.2.2.2.1.2.2.2.1.1 hS hC.2.2.2.1 (hC.2.2.2.2.1 _ hl) (fun _ hx => hx) hdg (hK _ _ _ _ _ h z1 z2 H locs ls hH hS hL)
theorem sFmt {idx : Nat} (hdg : decode (mj_cc d) pc = .ok (.getstatic idx, 3)) (hl : Cond.fieldLink (mj_y d).cls idx "jdk/internal/util/Preconditions" "SIOOBE_FORMATTER" "Ljava/util/function/BiFunction;" ∈ wsL_law) : mj_S d pc oFmt := by
  intro p l e s m args below meth c E post hC L st M z K h hK z1 z2 H locs ls hH hS hL
  obtain ⟨r, hZ⟩ := hC.2.2.2.2.2.2.2.2.2.1.2.2.2.1.2
  exact va_gets hC.1 hC.2.1 hZ hS hC.2.2.2.1 (hC.2.2.2.2.1 _ hl) (fun _ hx => hx) hdg (hK _ _ _ _ _ (h r) z1 z2 H locs ls hH hS hL)
theorem sBlen (hdg : decode (mj_cc d) pc = .ok (.arraylength, 1)) : mj_S d pc oBlen := by
  intro p l e s m args below meth c E post hC L st M z K h hK z1 z2 H locs ls hH hS hL
  unfold oBlen at h
  split at h
  · rename_i o rest
    obtain ⟨i, hi, rfl, h⟩ := h
    show W p l e _ s m args below meth c H locs z.1 z.2 _ (F0 m pc ls (.ref (mj_ad E (1030 + i)) :: rest.map (mj_cv E)))
    rw [mj_ad3]
    exact va_tlen hC.1 hC.2.1 (hC.2.2.2.2.2.2.2.2.2.1.2.1.1 i hi).2.2.2 hS rfl hdg (hK _ _ _ _ _ h z1 z2 H locs ls hH hS hL)
  · exact h.elim
theorem sBald (hdg : decode (mj_cc d) pc = .ok (.baload, 1)) : mj_S d pc oBald := by
  intro p l e s m args below meth c E post hC L st M z K h hK z1 z2 H locs ls hH hS hL
  unfold oBald at h
  split at h
  · rename_i x o rest
    obtain ⟨i, hi, rfl, g, h⟩ := h
    show W p l e _ s m args below meth c H locs z.1 z.2 _ (F0 m pc ls (.int x :: .ref (mj_ad E (1030 + i)) :: rest.map (mj_cv E)))
    rw [mj_ad3]
    exact va_tb hC.1 hC.2.1 (hC.2.2.2.2.2.2.2.2.2.1.2.1.1 i hi).2.2.2 hS g (v := .int ((mj_sb.getD i []).getD x.toNatClampNeg 0)) rfl hdg (hK _ _ _ _ _ h z1 z2 H locs ls hH hS hL)
  · exact h.elim
theorem sRetN {ty : FieldType} (hdg : decode (mj_cc d) pc = .ok (.ireturn, 1)) (hr : mj_rt d = some ty) : mj_S d pc (oRetN ty) := by
  intro p l e s m args below meth c E post hC L st M z K h hK h1 h2 H locs ls hH hS hL
  unfold oRetN at h
  split at h
  · rename_i x
    obtain ⟨g, h⟩ := h
    refine W.widen h1 h2 ?_
    exact W.zret hC.1 hC.2.1 (hC.2.2.2.2.2.1.trans hr) g (fun t ht hW => ⟨⟨some (.inl x), M, rfl, h, by rw [ht]; exact hH⟩, hS.F ht⟩) (fun q hq => hS.2.2 q hq) hdg hC.2.2.2.2.2.2.1
  · exact h.elim
end MJT
theorem mWs_473 : Cond.fieldLink RJ0 38 "java/lang/String" "COMPACT_STRINGS" "Z" ∈ wsL_law := List.mem_of_getElem? (i := 473) (by decide +kernel)
theorem mWs_474 : Cond.fieldLink RJ0 15 "java/lang/String" "coder" "B" ∈ wsL_law := List.mem_of_getElem? (i := 474) (by decide +kernel)
theorem mWs_468 : Cond.fieldLink RJ0 9 "java/lang/String" "value" "[B" ∈ wsL_law := List.mem_of_getElem? (i := 468) (by decide +kernel)
theorem mWs_469 : Cond.methodLink RJ0 335 yJ0_coder_7d493 ∈ wsL_law := List.mem_of_getElem? (i := 469) (by decide +kernel)
theorem mWs_470 : Cond.instanceMethod yJ0_coder_7d493 ∈ wsL_law := List.mem_of_getElem? (i := 470) (by decide +kernel)
theorem mWs_471 : Cond.selects RJ0 yJ0_coder_7d493 yJ0_coder_7d493 ∈ wsL_law := List.mem_of_getElem? (i := 471) (by decide +kernel)
theorem mWs_466 : Cond.initialized RJ0 ∈ wsL_law := List.mem_of_getElem? (i := 466) (by decide +kernel)
theorem mWs_472 : Cond.code yJ0_coder_7d493 cJ0_coder_7d493 1 (some .byte) ∈ wsL_law := List.mem_of_getElem? (i := 472) (by decide +kernel)
theorem mWs_490 : Cond.fieldLink RJ0 1053 "jdk/internal/util/Preconditions" "SIOOBE_FORMATTER" "Ljava/util/function/BiFunction;" ∈ wsL_law := List.mem_of_getElem? (i := 490) (by decide +kernel)
theorem mWs_491 : Cond.methodLink RJ0 1059 yJ3_checkIndex_8e157 ∈ wsL_law := List.mem_of_getElem? (i := 491) (by decide +kernel)
theorem mWs_492 : Cond.static yJ3_checkIndex_8e157 ∈ wsL_law := List.mem_of_getElem? (i := 492) (by decide +kernel)
theorem mWs_493 : Cond.initialized RJ3 ∈ wsL_law := List.mem_of_getElem? (i := 493) (by decide +kernel)
theorem mWs_494 : Cond.code yJ3_checkIndex_8e157 cJ3_checkIndex_8e157 3 (some .int) ∈ wsL_law := List.mem_of_getElem? (i := 494) (by decide +kernel)
theorem mWs_487 : Cond.methodLink RJ1 9 yJ0_checkIndex_df160 ∈ wsL_law := List.mem_of_getElem? (i := 487) (by decide +kernel)
theorem mWs_488 : Cond.static yJ0_checkIndex_df160 ∈ wsL_law := List.mem_of_getElem? (i := 488) (by decide +kernel)
theorem mWs_489 : Cond.code yJ0_checkIndex_df160 cJ0_checkIndex_df160 2 none ∈ wsL_law := List.mem_of_getElem? (i := 489) (by decide +kernel)
theorem mWs_479 : Cond.methodLink RJ0 492 yJ0_isLatin1_aae02 ∈ wsL_law := List.mem_of_getElem? (i := 479) (by decide +kernel)
theorem mWs_480 : Cond.instanceMethod yJ0_isLatin1_aae02 ∈ wsL_law := List.mem_of_getElem? (i := 480) (by decide +kernel)
theorem mWs_481 : Cond.selects RJ0 yJ0_isLatin1_aae02 yJ0_isLatin1_aae02 ∈ wsL_law := List.mem_of_getElem? (i := 481) (by decide +kernel)
theorem mWs_482 : Cond.code yJ0_isLatin1_aae02 cJ0_isLatin1_aae02 1 (some .boolean) ∈ wsL_law := List.mem_of_getElem? (i := 482) (by decide +kernel)
theorem mWs_483 : Cond.methodLink RJ0 495 yJ1_charAt_3b067 ∈ wsL_law := List.mem_of_getElem? (i := 483) (by decide +kernel)
theorem mWs_484 : Cond.static yJ1_charAt_3b067 ∈ wsL_law := List.mem_of_getElem? (i := 484) (by decide +kernel)
theorem mWs_485 : Cond.initialized RJ1 ∈ wsL_law := List.mem_of_getElem? (i := 485) (by decide +kernel)
theorem mWs_486 : Cond.code yJ1_charAt_3b067 cJ1_charAt_3b067 2 (some .char) ∈ wsL_law := List.mem_of_getElem? (i := 486) (by decide +kernel)
def T_J0_coder_7d493 : Nat → mj_O := mj_tn 7 (mj_tn 3 (mj_lf 0 (oCmpS)) (mj_tn 6 (mj_lf 3 (oIf (fun x => x = 0) (fun x => ¬ x = 0) 13)) (mj_lf 6 (oAld 0 1)))) (mj_tn 10 (mj_lf 7 (oStrC)) (mj_tn 14 (mj_lf 10 (oGoto 14)) (mj_lf 14 (oRetN .byte))))
set_option maxRecDepth 100000 in
theorem S_J0_coder_7d493 : ∀ pc, mj_S D_J0_coder_7d493 pc (T_J0_coder_7d493 pc) := sTn (sTn (sLf (sCmpS dJ0_coder_7d493_0 mWs_473)) (sTn (sLf (sIf_eq dJ0_coder_7d493_3 (by decide))) (sLf (sAld_n dJ0_coder_7d493_6 rfl)))) (sTn (sLf (sStrC dJ0_coder_7d493_7 mWs_474)) (sTn (sLf (sGoto dJ0_coder_7d493_10 (by decide))) (sLf (sRetN dJ0_coder_7d493_14 rfl))))
def T_J0_length_8abf5 : Nat → mj_O := mj_tn 5 (mj_tn 1 (mj_lf 0 (oAld 0 1)) (mj_tn 4 (mj_lf 1 (oStrV)) (mj_lf 4 (oBlen)))) (mj_tn 9 (mj_tn 6 (mj_lf 5 (oAld 0 1)) (mj_lf 6 (oCJ 0 D_J0_coder_7d493))) (mj_tn 10 (mj_lf 9 (oBin (fun x y => x >>> (y &&& 31)))) (mj_lf 10 (oRetI))))
set_option maxRecDepth 100000 in
theorem S_J0_length_8abf5 : ∀ pc, mj_S D_J0_length_8abf5 pc (T_J0_length_8abf5 pc) := sTn (sTn (sLf (sAld_n dJ0_length_8abf5_0 rfl)) (sTn (sLf (sStrV dJ0_length_8abf5_1 mWs_468)) (sLf (sBlen dJ0_length_8abf5_4)))) (sTn (sTn (sLf (sAld_n dJ0_length_8abf5_5 rfl)) (sLf (sCJ dJ0_length_8abf5_6 mWs_469 mWs_470 mWs_471 mWs_466 mWs_472 ⟨rfl, by decide, by decide, by decide⟩ ⟨by decide, by decide⟩ ⟨rfl, rfl⟩))) (sTn (sLf (sShr dJ0_length_8abf5_9)) (sLf (sRetI dJ0_length_8abf5_10 rfl))))
def T_J0_isLatin1_aae02 : Nat → mj_O := mj_tn 10 (mj_tn 6 (mj_tn 3 (mj_lf 0 (oCmpS)) (mj_lf 3 (oIf (fun x => x = 0) (fun x => ¬ x = 0) 17))) (mj_tn 7 (mj_lf 6 (oAld 0 1)) (mj_lf 7 (oStrC)))) (mj_tn 14 (mj_tn 13 (mj_lf 10 (oIf (fun x => ¬ x = 0) (fun x => x = 0) 17)) (mj_lf 13 (oC 1 1))) (mj_tn 17 (mj_lf 14 (oGoto 18)) (mj_tn 18 (mj_lf 17 (oC 0 1)) (mj_lf 18 (oRetZ)))))
set_option maxRecDepth 100000 in
theorem S_J0_isLatin1_aae02 : ∀ pc, mj_S D_J0_isLatin1_aae02 pc (T_J0_isLatin1_aae02 pc) := sTn (sTn (sTn (sLf (sCmpS dJ0_isLatin1_aae02_0 mWs_473)) (sLf (sIf_eq dJ0_isLatin1_aae02_3 (by decide)))) (sTn (sLf (sAld_n dJ0_isLatin1_aae02_6 rfl)) (sLf (sStrC dJ0_isLatin1_aae02_7 mWs_474)))) (sTn (sTn (sLf (sIf_ne dJ0_isLatin1_aae02_10 (by decide))) (sLf (sC_iconst dJ0_isLatin1_aae02_13 (by decide)))) (sTn (sLf (sGoto dJ0_isLatin1_aae02_14 (by decide))) (sTn (sLf (sC_iconst dJ0_isLatin1_aae02_17 (by decide))) (sLf (sRetZ dJ0_isLatin1_aae02_18 rfl)))))
def T_J3_checkIndex_8e157 : Nat → mj_O := mj_tn 5 (mj_tn 1 (mj_lf 0 (oIld 0 1)) (mj_tn 4 (mj_lf 1 (oIf (fun x => x < 0) (fun x => ¬ x < 0) 9)) (mj_lf 4 (oIld 0 1)))) (mj_tn 16 (mj_tn 6 (mj_lf 5 (oIld 1 1)) (mj_lf 6 (oCmp (fun x y => x < y) (fun x y => ¬ x < y) 16))) (mj_tn 17 (mj_lf 16 (oIld 0 1)) (mj_lf 17 (oRetI))))
set_option maxRecDepth 100000 in
theorem S_J3_checkIndex_8e157 : ∀ pc, mj_S D_J3_checkIndex_8e157 pc (T_J3_checkIndex_8e157 pc) := sTn (sTn (sLf (sIld_n dJ3_checkIndex_8e157_0 rfl)) (sTn (sLf (sIf_lt dJ3_checkIndex_8e157_1 (by decide))) (sLf (sIld_n dJ3_checkIndex_8e157_4 rfl)))) (sTn (sTn (sLf (sIld_n dJ3_checkIndex_8e157_5 rfl)) (sLf (sCmp_lt dJ3_checkIndex_8e157_6 (by decide)))) (sTn (sLf (sIld_n dJ3_checkIndex_8e157_16 rfl)) (sLf (sRetI dJ3_checkIndex_8e157_17 rfl))))
def T_J0_checkIndex_df160 : Nat → mj_O := mj_tn 5 (mj_tn 1 (mj_lf 0 (oIld 0 1)) (mj_tn 2 (mj_lf 1 (oIld 1 1)) (mj_lf 2 (oFmt)))) (mj_tn 8 (mj_lf 5 (oCS 3 D_J3_checkIndex_8e157)) (mj_tn 9 (mj_lf 8 (oPop)) (mj_lf 9 (oRetV))))
set_option maxRecDepth 100000 in
theorem S_J0_checkIndex_df160 : ∀ pc, mj_S D_J0_checkIndex_df160 pc (T_J0_checkIndex_df160 pc) := sTn (sTn (sLf (sIld_n dJ0_checkIndex_df160_0 rfl)) (sTn (sLf (sIld_n dJ0_checkIndex_df160_1 rfl)) (sLf (sFmt dJ0_checkIndex_df160_2 mWs_490)))) (sTn (sLf (sCS dJ0_checkIndex_df160_5 mWs_491 mWs_492 mWs_493 mWs_494 ⟨by decide, by decide, by decide⟩ ⟨by decide, by decide⟩ ⟨rfl, rfl⟩)) (sTn (sLf (sPop dJ0_checkIndex_df160_8)) (sLf (sRetV dJ0_checkIndex_df160_9 rfl))))
def T_J1_charAt_3b067 : Nat → mj_O := mj_tn 7 (mj_tn 2 (mj_tn 1 (mj_lf 0 (oIld 1 1)) (mj_lf 1 (oAld 0 1))) (mj_tn 3 (mj_lf 2 (oBlen)) (mj_tn 6 (mj_lf 3 (oCS 2 D_J0_checkIndex_df160)) (mj_lf 6 (oAld 0 1))))) (mj_tn 12 (mj_tn 8 (mj_lf 7 (oIld 1 1)) (mj_tn 9 (mj_lf 8 (oBald)) (mj_lf 9 (oC 255 3)))) (mj_tn 13 (mj_lf 12 (oBin (fun x y => x &&& y))) (mj_tn 14 (mj_lf 13 (oUn (fun x => (x.toUInt32 % 65536).toInt32))) (mj_lf 14 (oRetN .char)))))
set_option maxRecDepth 100000 in
theorem S_J1_charAt_3b067 : ∀ pc, mj_S D_J1_charAt_3b067 pc (T_J1_charAt_3b067 pc) := sTn (sTn (sTn (sLf (sIld_n dJ1_charAt_3b067_0 rfl)) (sLf (sAld_n dJ1_charAt_3b067_1 rfl))) (sTn (sLf (sBlen dJ1_charAt_3b067_2)) (sTn (sLf (sCS dJ1_charAt_3b067_3 mWs_487 mWs_488 mWs_466 mWs_489 ⟨by decide, by decide, by decide⟩ ⟨by decide, by decide⟩ ⟨rfl, rfl⟩)) (sLf (sAld_n dJ1_charAt_3b067_6 rfl))))) (sTn (sTn (sLf (sIld_n dJ1_charAt_3b067_7 rfl)) (sTn (sLf (sBald dJ1_charAt_3b067_8)) (sLf (sC_sipush dJ1_charAt_3b067_9 (by decide))))) (sTn (sLf (sAnd dJ1_charAt_3b067_12)) (sTn (sLf (sI2c dJ1_charAt_3b067_13)) (sLf (sRetN dJ1_charAt_3b067_14 rfl)))))
def T_J0_charAt_5068e : Nat → mj_O := mj_tn 8 (mj_tn 4 (mj_tn 1 (mj_lf 0 (oAld 0 1)) (mj_lf 1 (oCJ 0 D_J0_isLatin1_aae02))) (mj_tn 7 (mj_lf 4 (oIf (fun x => x = 0) (fun x => ¬ x = 0) 16)) (mj_lf 7 (oAld 0 1)))) (mj_tn 12 (mj_tn 11 (mj_lf 8 (oStrV)) (mj_lf 11 (oIld 1 1))) (mj_tn 15 (mj_lf 12 (oCS 2 D_J1_charAt_3b067)) (mj_lf 15 (oRetN .char))))
set_option maxRecDepth 100000 in
theorem S_J0_charAt_5068e : ∀ pc, mj_S D_J0_charAt_5068e pc (T_J0_charAt_5068e pc) := sTn (sTn (sTn (sLf (sAld_n dJ0_charAt_5068e_0 rfl)) (sLf (sCJ dJ0_charAt_5068e_1 mWs_479 mWs_480 mWs_481 mWs_466 mWs_482 ⟨rfl, by decide, by decide, by decide⟩ ⟨by decide, by decide⟩ ⟨rfl, rfl⟩))) (sTn (sLf (sIf_eq dJ0_charAt_5068e_4 (by decide))) (sLf (sAld_n dJ0_charAt_5068e_7 rfl)))) (sTn (sTn (sLf (sStrV dJ0_charAt_5068e_8 mWs_468)) (sLf (sIld_n dJ0_charAt_5068e_11 rfl))) (sTn (sLf (sCS dJ0_charAt_5068e_12 mWs_483 mWs_484 mWs_485 mWs_486 ⟨by decide, by decide, by decide⟩ ⟨by decide, by decide⟩ ⟨rfl, rfl⟩)) (sLf (sRetN dJ0_charAt_5068e_15 rfl))))
theorem st_n : ∀ i, i < 8 → nI (mj_sn.getD i 0) >>> ((0 : Int32) &&& 31) = nI (mj_sn.getD i 0) := by decide +kernel
theorem st_b : ∀ i, i < 8 → ∀ j, j < 5 → (((mj_sb.getD i []).getD j 0 &&& 255).toUInt32 % 65536).toInt32 = (mj_sb.getD i []).getD j 0 := by decide +kernel
theorem st_c : ∀ i, i < 8 → ∀ j, j < 5 → narrow .char (.int ((mj_sb.getD i []).getD j 0)) = .int ((mj_sb.getD i []).getD j 0) := by decide +kernel
theorem st_l : ∀ i, i < 8 → mj_sn.getD i 0 ≤ 5 := by decide
section St61
variable {I : mj_I}
theorem C_J0_coder {i : Nat} (hi : i < 8) : mj_R D_J0_coder_7d493 [.inr (some (1010 + i))] (mj_w I) (mj_ex (some (.inl 0)) I) := by
  refine mj_enter (by decide +kernel) (Nat.le_of_ble_eq_true rfl) ?_
  refine mj_op1 S_J0_coder_7d493 rfl (?_)
  refine J_if S_J0_coder_7d493 rfl (fun c3 => False.elim (absurd c3 (by decide))) (fun c3 => ?_)
  refine J_ald S_J0_coder_7d493 rfl rfl ?_
  refine mj_op1 S_J0_coder_7d493 rfl (⟨i, hi, rfl, ?_⟩)
  refine J_goto S_J0_coder_7d493 rfl ?_
  exact mj_op1 S_J0_coder_7d493 rfl ⟨rfl, rfl, rfl⟩
theorem C_J0_length {i : Nat} (hi : i < 8) : mj_R D_J0_length_8abf5 [.inr (some (1010 + i))] (mj_w I) (mj_ex (some (.inl (nI (mj_sn.getD i 0)))) I) := by
  refine mj_enter (by decide +kernel) (Nat.le_of_ble_eq_true rfl) ?_
  refine J_ald S_J0_length_8abf5 rfl rfl ?_
  refine mj_op1 S_J0_length_8abf5 rfl (⟨i, hi, rfl, ?_⟩)
  refine mj_op1 S_J0_length_8abf5 rfl (⟨i, hi, rfl, ?_⟩)
  refine J_ald S_J0_length_8abf5 rfl rfl ?_
  refine J_CJx S_J0_length_8abf5 rfl rfl hi (by simp) (C_J0_coder hi) rfl ?_
  refine J_bin S_J0_length_8abf5 rfl ?_
  rw [st_n i hi]
  refine J_retI S_J0_length_8abf5 rfl ?_
  exact ⟨rfl, rfl⟩
theorem C_J0_isLatin1 {i : Nat} (hi : i < 8) : mj_R D_J0_isLatin1_aae02 [.inr (some (1010 + i))] (mj_w I) (mj_ex (some (.inl 1)) I) := by
  refine mj_enter (by decide +kernel) (Nat.le_of_ble_eq_true rfl) ?_
  refine mj_op1 S_J0_isLatin1_aae02 rfl (?_)
  refine J_if S_J0_isLatin1_aae02 rfl (fun c3 => False.elim (absurd c3 (by decide))) (fun c3 => ?_)
  refine J_ald S_J0_isLatin1_aae02 rfl rfl ?_
  refine mj_op1 S_J0_isLatin1_aae02 rfl (⟨i, hi, rfl, ?_⟩)
  refine J_if S_J0_isLatin1_aae02 rfl (fun c10 => False.elim (absurd rfl c10)) (fun c10 => ?_)
  refine J_C S_J0_isLatin1_aae02 rfl ?_
  refine J_goto S_J0_isLatin1_aae02 rfl ?_
  refine J_retZ S_J0_isLatin1_aae02 rfl (by decide) ?_
  exact ⟨rfl, rfl⟩
theorem C_J3_checkIndex {j n : Nat} {r : Option Nat} (hj : j < n) (hn : n < 2 ^ 31) : mj_R D_J3_checkIndex_8e157 [.inl (nI j), .inl (nI n), .inr r] (mj_w I) (mj_ex (some (.inl (nI j))) I) := by
  refine mj_enter (by decide +kernel) (Nat.le_of_ble_eq_true rfl) ?_
  refine J_ild S_J3_checkIndex_8e157 rfl rfl ?_
  refine J_if S_J3_checkIndex_8e157 rfl (fun c1 => False.elim (nI_pos (by omega) c1)) (fun c1 => ?_)
  refine J_ild S_J3_checkIndex_8e157 rfl rfl ?_
  refine J_ild S_J3_checkIndex_8e157 rfl rfl ?_
  refine J_cmp S_J3_checkIndex_8e157 rfl (fun c6 => ?_) (fun c6 => False.elim (c6 (nI_lt hj hn)))
  refine J_ild S_J3_checkIndex_8e157 rfl rfl ?_
  refine J_retI S_J3_checkIndex_8e157 rfl ?_
  exact ⟨rfl, rfl⟩
theorem C_J0_checkIndex {j n : Nat} (hj : j < n) (hn : n < 2 ^ 31) : mj_R D_J0_checkIndex_df160 [.inl (nI j), .inl (nI n)] (mj_w I) (mj_ex none I) := by
  refine mj_enter (by decide +kernel) (Nat.le_of_ble_eq_true rfl) ?_
  refine J_ild S_J0_checkIndex_df160 rfl rfl ?_
  refine J_ild S_J0_checkIndex_df160 rfl rfl ?_
  refine mj_op1 S_J0_checkIndex_df160 rfl (fun r => ?_)
  refine J_CSx S_J0_checkIndex_df160 rfl rfl (by simp) (C_J3_checkIndex hj hn) rfl ?_
  refine J_pop S_J0_checkIndex_df160 rfl ?_
  refine J_retV S_J0_checkIndex_df160 rfl ?_
  exact ⟨rfl, rfl⟩
theorem C_J1_charAt {i j : Nat} (hi : i < 8) (hj : j < mj_sn.getD i 0) : mj_R D_J1_charAt_3b067 [.inr (some (1030 + i)), .inl (nI j)] (mj_w I) (mj_ex (some (.inl ((mj_sb.getD i []).getD j 0))) I) := by
  have hl := st_l i hi
  refine mj_enter (by decide +kernel) (Nat.le_of_ble_eq_true rfl) ?_
  refine J_ild S_J1_charAt_3b067 rfl rfl ?_
  refine J_ald S_J1_charAt_3b067 rfl rfl ?_
  refine mj_op1 S_J1_charAt_3b067 rfl (⟨i, hi, rfl, ?_⟩)
  refine J_CSx S_J1_charAt_3b067 rfl rfl (by simp) (C_J0_checkIndex hj (by omega)) rfl ?_
  refine J_ald S_J1_charAt_3b067 rfl rfl ?_
  refine J_ild S_J1_charAt_3b067 rfl rfl ?_
  refine mj_op1 S_J1_charAt_3b067 rfl (⟨i, hi, rfl, vp_in_nI hj (by omega), ?_⟩)
  rw [nI_clamp (show j < 2 ^ 31 by omega)]
  refine J_C S_J1_charAt_3b067 rfl ?_
  refine J_bin S_J1_charAt_3b067 rfl ?_
  refine J_un S_J1_charAt_3b067 rfl ?_
  rw [st_b i hi j (by omega)]
  exact mj_op1 S_J1_charAt_3b067 rfl ⟨st_c i hi j (by omega), rfl, rfl⟩
theorem C_J0_charAt {i j : Nat} (hi : i < 8) (hj : j < mj_sn.getD i 0) : mj_R D_J0_charAt_5068e [.inr (some (1010 + i)), .inl (nI j)] (mj_w I) (mj_ex (some (.inl ((mj_sb.getD i []).getD j 0))) I) := by
  have hl := st_l i hi
  refine mj_enter (by decide +kernel) (Nat.le_of_ble_eq_true rfl) ?_
  refine J_ald S_J0_charAt_5068e rfl rfl ?_
  refine J_CJx S_J0_charAt_5068e rfl rfl hi (by simp) (C_J0_isLatin1 hi) rfl ?_
  refine J_if S_J0_charAt_5068e rfl (fun c4 => False.elim (absurd c4 (by decide))) (fun c4 => ?_)
  refine J_ald S_J0_charAt_5068e rfl rfl ?_
  refine mj_op1 S_J0_charAt_5068e rfl (⟨i, hi, rfl, ?_⟩)
  refine J_ild S_J0_charAt_5068e rfl rfl ?_
  refine J_CSx S_J0_charAt_5068e rfl rfl (by simp) (C_J1_charAt hi hj) rfl ?_
  exact mj_op1 S_J0_charAt_5068e rfl ⟨st_c i hi j (by omega), rfl, rfl⟩
end St61
