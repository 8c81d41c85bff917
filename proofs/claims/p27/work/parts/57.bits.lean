theorem mWj_150 : Cond.constant RJ6 265 (1431655765) ∈ wsL_law := List.mem_of_getElem? (i := 150) (by decide +kernel)
theorem mWj_151 : Cond.constant RJ6 266 (858993459) ∈ wsL_law := List.mem_of_getElem? (i := 151) (by decide +kernel)
theorem mWj_152 : Cond.constant RJ6 267 (252645135) ∈ wsL_law := List.mem_of_getElem? (i := 152) (by decide +kernel)
def T_J6_bitCount_0f7a4 : Nat → mj_O := mj_tn 27 (mj_tn 14 (mj_tn 7 (mj_tn 2 (mj_tn 1 (mj_lf 0 (oIld 0 1)) (mj_lf 1 (oIld 0 1))) (mj_tn 3 (mj_lf 2 (oC 1 1)) (mj_tn 4 (mj_lf 3 (oBin (fun x y => (x.toUInt32 >>> (y.toUInt32 &&& Int32.toUInt32 31)).toInt32))) (mj_lf 4 (oC 1431655765 3))))) (mj_tn 9 (mj_tn 8 (mj_lf 7 (oBin (fun x y => x &&& y))) (mj_lf 8 (oBin (fun x y => x - y)))) (mj_tn 10 (mj_lf 9 (oIst 0 1)) (mj_tn 11 (mj_lf 10 (oIld 0 1)) (mj_lf 11 (oC 858993459 3)))))) (mj_tn 21 (mj_tn 16 (mj_tn 15 (mj_lf 14 (oBin (fun x y => x &&& y))) (mj_lf 15 (oIld 0 1))) (mj_tn 17 (mj_lf 16 (oC 2 1)) (mj_tn 18 (mj_lf 17 (oBin (fun x y => (x.toUInt32 >>> (y.toUInt32 &&& Int32.toUInt32 31)).toInt32))) (mj_lf 18 (oC 858993459 3))))) (mj_tn 24 (mj_tn 22 (mj_lf 21 (oBin (fun x y => x &&& y))) (mj_tn 23 (mj_lf 22 (oBin (fun x y => x + y))) (mj_lf 23 (oIst 0 1)))) (mj_tn 25 (mj_lf 24 (oIld 0 1)) (mj_tn 26 (mj_lf 25 (oIld 0 1)) (mj_lf 26 (oC 4 1))))))) (mj_tn 40 (mj_tn 34 (mj_tn 29 (mj_tn 28 (mj_lf 27 (oBin (fun x y => (x.toUInt32 >>> (y.toUInt32 &&& Int32.toUInt32 31)).toInt32))) (mj_lf 28 (oBin (fun x y => x + y)))) (mj_tn 32 (mj_lf 29 (oC 252645135 3)) (mj_tn 33 (mj_lf 32 (oBin (fun x y => x &&& y))) (mj_lf 33 (oIst 0 1))))) (mj_tn 36 (mj_tn 35 (mj_lf 34 (oIld 0 1)) (mj_lf 35 (oIld 0 1))) (mj_tn 38 (mj_lf 36 (oC 8 2)) (mj_tn 39 (mj_lf 38 (oBin (fun x y => (x.toUInt32 >>> (y.toUInt32 &&& Int32.toUInt32 31)).toInt32))) (mj_lf 39 (oBin (fun x y => x + y))))))) (mj_tn 46 (mj_tn 42 (mj_tn 41 (mj_lf 40 (oIst 0 1)) (mj_lf 41 (oIld 0 1))) (mj_tn 43 (mj_lf 42 (oIld 0 1)) (mj_tn 45 (mj_lf 43 (oC 16 2)) (mj_lf 45 (oBin (fun x y => (x.toUInt32 >>> (y.toUInt32 &&& Int32.toUInt32 31)).toInt32)))))) (mj_tn 49 (mj_tn 47 (mj_lf 46 (oBin (fun x y => x + y))) (mj_tn 48 (mj_lf 47 (oIst 0 1)) (mj_lf 48 (oIld 0 1)))) (mj_tn 51 (mj_lf 49 (oC 63 2)) (mj_tn 52 (mj_lf 51 (oBin (fun x y => x &&& y))) (mj_lf 52 (oRetI)))))))
set_option maxRecDepth 100000 in
theorem S_J6_bitCount_0f7a4 : ∀ pc, mj_S D_J6_bitCount_0f7a4 pc (T_J6_bitCount_0f7a4 pc) := sTn (sTn (sTn (sTn (sTn (sLf (sIld_n dJ6_bitCount_0f7a4_0 rfl)) (sLf (sIld_n dJ6_bitCount_0f7a4_1 rfl))) (sTn (sLf (sC_iconst dJ6_bitCount_0f7a4_2 (by decide))) (sTn (sLf (sUshr dJ6_bitCount_0f7a4_3)) (sLf (sC_ldcw dJ6_bitCount_0f7a4_4 mWj_150))))) (sTn (sTn (sLf (sAnd dJ6_bitCount_0f7a4_7)) (sLf (sSub dJ6_bitCount_0f7a4_8))) (sTn (sLf (sIst_n dJ6_bitCount_0f7a4_9 rfl (by decide))) (sTn (sLf (sIld_n dJ6_bitCount_0f7a4_10 rfl)) (sLf (sC_ldcw dJ6_bitCount_0f7a4_11 mWj_151)))))) (sTn (sTn (sTn (sLf (sAnd dJ6_bitCount_0f7a4_14)) (sLf (sIld_n dJ6_bitCount_0f7a4_15 rfl))) (sTn (sLf (sC_iconst dJ6_bitCount_0f7a4_16 (by decide))) (sTn (sLf (sUshr dJ6_bitCount_0f7a4_17)) (sLf (sC_ldcw dJ6_bitCount_0f7a4_18 mWj_151))))) (sTn (sTn (sLf (sAnd dJ6_bitCount_0f7a4_21)) (sTn (sLf (sAdd dJ6_bitCount_0f7a4_22)) (sLf (sIst_n dJ6_bitCount_0f7a4_23 rfl (by decide))))) (sTn (sLf (sIld_n dJ6_bitCount_0f7a4_24 rfl)) (sTn (sLf (sIld_n dJ6_bitCount_0f7a4_25 rfl)) (sLf (sC_iconst dJ6_bitCount_0f7a4_26 (by decide)))))))) (sTn (sTn (sTn (sTn (sLf (sUshr dJ6_bitCount_0f7a4_27)) (sLf (sAdd dJ6_bitCount_0f7a4_28))) (sTn (sLf (sC_ldcw dJ6_bitCount_0f7a4_29 mWj_152)) (sTn (sLf (sAnd dJ6_bitCount_0f7a4_32)) (sLf (sIst_n dJ6_bitCount_0f7a4_33 rfl (by decide)))))) (sTn (sTn (sLf (sIld_n dJ6_bitCount_0f7a4_34 rfl)) (sLf (sIld_n dJ6_bitCount_0f7a4_35 rfl))) (sTn (sLf (sC_bipush dJ6_bitCount_0f7a4_36 (by decide))) (sTn (sLf (sUshr dJ6_bitCount_0f7a4_38)) (sLf (sAdd dJ6_bitCount_0f7a4_39)))))) (sTn (sTn (sTn (sLf (sIst_n dJ6_bitCount_0f7a4_40 rfl (by decide))) (sLf (sIld_n dJ6_bitCount_0f7a4_41 rfl))) (sTn (sLf (sIld_n dJ6_bitCount_0f7a4_42 rfl)) (sTn (sLf (sC_bipush dJ6_bitCount_0f7a4_43 (by decide))) (sLf (sUshr dJ6_bitCount_0f7a4_45))))) (sTn (sTn (sLf (sAdd dJ6_bitCount_0f7a4_46)) (sTn (sLf (sIst_n dJ6_bitCount_0f7a4_47 rfl (by decide))) (sLf (sIld_n dJ6_bitCount_0f7a4_48 rfl)))) (sTn (sLf (sC_bipush dJ6_bitCount_0f7a4_49 (by decide))) (sTn (sLf (sAnd dJ6_bitCount_0f7a4_51)) (sLf (sRetI dJ6_bitCount_0f7a4_52 rfl)))))))
def bcF (x : Int32) : Int32 :=
  let sh := fun (x y : Int32) => (x.toUInt32 >>> (y.toUInt32 &&& Int32.toUInt32 31)).toInt32
  let a := x - (sh x 1 &&& 1431655765)
  let b := (a &&& 858993459) + (sh a 2 &&& 858993459)
  let c := (b + sh b 4) &&& 252645135
  let d := c + sh c 8
  (d + sh d 16) &&& 63
theorem bc_256 : ∀ m, m < 256 → bcF (nI m) = nI (m % 2 + m / 2 % 2 + m / 4 % 2 + m / 8 % 2 + m / 16 % 2 + m / 32 % 2 + m / 64 % 2 + m / 128 % 2) := by decide +kernel
theorem C_J6_bitCount {I : mj_I} {x : Int32} : mj_R D_J6_bitCount_0f7a4 [.inl x] (mj_w I) (mj_ex (some (.inl (bcF x))) I) := by
  refine mj_enter (by decide +kernel) (Nat.le_of_ble_eq_true rfl) ?_
  refine J_ild S_J6_bitCount_0f7a4 rfl rfl ?_
  refine J_ild S_J6_bitCount_0f7a4 rfl rfl ?_
  refine J_C S_J6_bitCount_0f7a4 rfl ?_
  refine J_bin S_J6_bitCount_0f7a4 rfl ?_
  refine J_C S_J6_bitCount_0f7a4 rfl ?_
  refine J_bin S_J6_bitCount_0f7a4 rfl ?_
  refine J_bin S_J6_bitCount_0f7a4 rfl ?_
  refine J_ist S_J6_bitCount_0f7a4 rfl rfl ?_
  refine J_ild S_J6_bitCount_0f7a4 rfl rfl ?_
  refine J_C S_J6_bitCount_0f7a4 rfl ?_
  refine J_bin S_J6_bitCount_0f7a4 rfl ?_
  refine J_ild S_J6_bitCount_0f7a4 rfl rfl ?_
  refine J_C S_J6_bitCount_0f7a4 rfl ?_
  refine J_bin S_J6_bitCount_0f7a4 rfl ?_
  refine J_C S_J6_bitCount_0f7a4 rfl ?_
  refine J_bin S_J6_bitCount_0f7a4 rfl ?_
  refine J_bin S_J6_bitCount_0f7a4 rfl ?_
  refine J_ist S_J6_bitCount_0f7a4 rfl rfl ?_
  refine J_ild S_J6_bitCount_0f7a4 rfl rfl ?_
  refine J_ild S_J6_bitCount_0f7a4 rfl rfl ?_
  refine J_C S_J6_bitCount_0f7a4 rfl ?_
  refine J_bin S_J6_bitCount_0f7a4 rfl ?_
  refine J_bin S_J6_bitCount_0f7a4 rfl ?_
  refine J_C S_J6_bitCount_0f7a4 rfl ?_
  refine J_bin S_J6_bitCount_0f7a4 rfl ?_
  refine J_ist S_J6_bitCount_0f7a4 rfl rfl ?_
  refine J_ild S_J6_bitCount_0f7a4 rfl rfl ?_
  refine J_ild S_J6_bitCount_0f7a4 rfl rfl ?_
  refine J_C S_J6_bitCount_0f7a4 rfl ?_
  refine J_bin S_J6_bitCount_0f7a4 rfl ?_
  refine J_bin S_J6_bitCount_0f7a4 rfl ?_
  refine J_ist S_J6_bitCount_0f7a4 rfl rfl ?_
  refine J_ild S_J6_bitCount_0f7a4 rfl rfl ?_
  refine J_ild S_J6_bitCount_0f7a4 rfl rfl ?_
  refine J_C S_J6_bitCount_0f7a4 rfl ?_
  refine J_bin S_J6_bitCount_0f7a4 rfl ?_
  refine J_bin S_J6_bitCount_0f7a4 rfl ?_
  refine J_ist S_J6_bitCount_0f7a4 rfl rfl ?_
  refine J_ild S_J6_bitCount_0f7a4 rfl rfl ?_
  refine J_C S_J6_bitCount_0f7a4 rfl ?_
  refine J_bin S_J6_bitCount_0f7a4 rfl ?_
  refine J_retI S_J6_bitCount_0f7a4 rfl ?_
  exact ⟨rfl, rfl⟩
