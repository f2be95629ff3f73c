def tJ13_bitCount_95d88 : List PT := [x_lload 0 1, x_lload 0 1, x_push (.int (nI 1)) 1, x_li (fun a b => (a.toUInt64 >>> (b.toInt64.toUInt64 &&& Int64.toUInt64 63)).toInt64), x_push (.long 6148914691236517205) 3, x_bad, x_bad, x_ll (fun a b => a &&& b), x_ll (fun a b => a - b), x_lstore 0 1, x_lload 0 1, x_push (.long 3689348814741910323) 3, x_bad, x_bad, x_ll (fun a b => a &&& b), x_lload 0 1, x_push (.int (nI 2)) 1, x_li (fun a b => (a.toUInt64 >>> (b.toInt64.toUInt64 &&& Int64.toUInt64 63)).toInt64), x_push (.long 3689348814741910323) 3, x_bad, x_bad, x_ll (fun a b => a &&& b), x_ll (fun a b => a + b), x_lstore 0 1, x_lload 0 1, x_lload 0 1, x_push (.int (nI 4)) 1, x_li (fun a b => (a.toUInt64 >>> (b.toInt64.toUInt64 &&& Int64.toUInt64 63)).toInt64), x_ll (fun a b => a + b), x_push (.long 1085102592571150095) 3, x_bad, x_bad, x_ll (fun a b => a &&& b), x_lstore 0 1, x_lload 0 1, x_lload 0 1, x_push (.int (nI 8)) 2, x_bad, x_li (fun a b => (a.toUInt64 >>> (b.toInt64.toUInt64 &&& Int64.toUInt64 63)).toInt64), x_ll (fun a b => a + b), x_lstore 0 1, x_lload 0 1, x_lload 0 1, x_push (.int (nI 16)) 2, x_bad, x_li (fun a b => (a.toUInt64 >>> (b.toInt64.toUInt64 &&& Int64.toUInt64 63)).toInt64), x_ll (fun a b => a + b), x_lstore 0 1, x_lload 0 1, x_lload 0 1, x_push (.int (nI 32)) 2, x_bad, x_li (fun a b => (a.toUInt64 >>> (b.toInt64.toUInt64 &&& Int64.toUInt64 63)).toInt64), x_ll (fun a b => a + b), x_lstore 0 1, x_lload 0 1, x_l2i, x_push (.int (nI 127)) 2, x_bad, x_ii (fun a b => a &&& b), x_iret]
set_option maxRecDepth 20000 in
theorem okJ13_bitCount_95d88 : SndT RJ13 cJ13_bitCount_95d88 mJ13_bitCount_95d88.2.2.1 mJ13_bitCount_95d88.2.2.2.2.1 mJ13_bitCount_95d88.2.2.2.2.2 false mJ13_bitCount_95d88.2.2.2.1 0 tJ13_bitCount_95d88 := ⟨s_lload_n (k := 0) (i := 0) (by decide +kernel) rfl, s_lload_n (k := 0) (i := 0) (by decide +kernel) rfl, s_iconst (n := 1) (by decide +kernel) (by decide +kernel), s_lushr (by decide +kernel), s_ldc2 (by decide +kernel) tb_627, s_bad, s_bad, s_land (by decide +kernel), s_lsub (by decide +kernel), s_lstore_n (k := 0) (i := 0) (by decide +kernel) rfl (by decide), s_lload_n (k := 0) (i := 0) (by decide +kernel) rfl, s_ldc2 (by decide +kernel) tb_628, s_bad, s_bad, s_land (by decide +kernel), s_lload_n (k := 0) (i := 0) (by decide +kernel) rfl, s_iconst (n := 2) (by decide +kernel) (by decide +kernel), s_lushr (by decide +kernel), s_ldc2 (by decide +kernel) tb_628, s_bad, s_bad, s_land (by decide +kernel), s_ladd (by decide +kernel), s_lstore_n (k := 0) (i := 0) (by decide +kernel) rfl (by decide), s_lload_n (k := 0) (i := 0) (by decide +kernel) rfl, s_lload_n (k := 0) (i := 0) (by decide +kernel) rfl, s_iconst (n := 4) (by decide +kernel) (by decide +kernel), s_lushr (by decide +kernel), s_ladd (by decide +kernel), s_ldc2 (by decide +kernel) tb_629, s_bad, s_bad, s_land (by decide +kernel), s_lstore_n (k := 0) (i := 0) (by decide +kernel) rfl (by decide), s_lload_n (k := 0) (i := 0) (by decide +kernel) rfl, s_lload_n (k := 0) (i := 0) (by decide +kernel) rfl, s_bipush (n := 8) (by decide +kernel) (by decide +kernel), s_bad, s_lushr (by decide +kernel), s_ladd (by decide +kernel), s_lstore_n (k := 0) (i := 0) (by decide +kernel) rfl (by decide), s_lload_n (k := 0) (i := 0) (by decide +kernel) rfl, s_lload_n (k := 0) (i := 0) (by decide +kernel) rfl, s_bipush (n := 16) (by decide +kernel) (by decide +kernel), s_bad, s_lushr (by decide +kernel), s_ladd (by decide +kernel), s_lstore_n (k := 0) (i := 0) (by decide +kernel) rfl (by decide), s_lload_n (k := 0) (i := 0) (by decide +kernel) rfl, s_lload_n (k := 0) (i := 0) (by decide +kernel) rfl, s_bipush (n := 32) (by decide +kernel) (by decide +kernel), s_bad, s_lushr (by decide +kernel), s_ladd (by decide +kernel), s_lstore_n (k := 0) (i := 0) (by decide +kernel) rfl (by decide), s_lload_n (k := 0) (i := 0) (by decide +kernel) rfl, s_l2i (by decide +kernel), s_bipush (n := 127) (by decide +kernel) (by decide +kernel), s_bad, s_iand (by decide +kernel), s_iret (by decide +kernel) rfl, trivial⟩
theorem kJ13_bitCount_95d88_0 : List.getD tJ13_bitCount_95d88 0 x_bad = x_lload 0 1 := rfl
theorem kJ13_bitCount_95d88_1 : List.getD tJ13_bitCount_95d88 1 x_bad = x_lload 0 1 := rfl
theorem kJ13_bitCount_95d88_2 : List.getD tJ13_bitCount_95d88 2 x_bad = x_push (.int (nI 1)) 1 := rfl
theorem kJ13_bitCount_95d88_3 : List.getD tJ13_bitCount_95d88 3 x_bad = x_li (fun a b => (a.toUInt64 >>> (b.toInt64.toUInt64 &&& Int64.toUInt64 63)).toInt64) := rfl
theorem kJ13_bitCount_95d88_4 : List.getD tJ13_bitCount_95d88 4 x_bad = x_push (.long 6148914691236517205) 3 := rfl
theorem kJ13_bitCount_95d88_7 : List.getD tJ13_bitCount_95d88 7 x_bad = x_ll (fun a b => a &&& b) := rfl
theorem kJ13_bitCount_95d88_8 : List.getD tJ13_bitCount_95d88 8 x_bad = x_ll (fun a b => a - b) := rfl
theorem kJ13_bitCount_95d88_9 : List.getD tJ13_bitCount_95d88 9 x_bad = x_lstore 0 1 := rfl
theorem kJ13_bitCount_95d88_10 : List.getD tJ13_bitCount_95d88 10 x_bad = x_lload 0 1 := rfl
theorem kJ13_bitCount_95d88_11 : List.getD tJ13_bitCount_95d88 11 x_bad = x_push (.long 3689348814741910323) 3 := rfl
theorem kJ13_bitCount_95d88_14 : List.getD tJ13_bitCount_95d88 14 x_bad = x_ll (fun a b => a &&& b) := rfl
theorem kJ13_bitCount_95d88_15 : List.getD tJ13_bitCount_95d88 15 x_bad = x_lload 0 1 := rfl
theorem kJ13_bitCount_95d88_16 : List.getD tJ13_bitCount_95d88 16 x_bad = x_push (.int (nI 2)) 1 := rfl
theorem kJ13_bitCount_95d88_17 : List.getD tJ13_bitCount_95d88 17 x_bad = x_li (fun a b => (a.toUInt64 >>> (b.toInt64.toUInt64 &&& Int64.toUInt64 63)).toInt64) := rfl
theorem kJ13_bitCount_95d88_18 : List.getD tJ13_bitCount_95d88 18 x_bad = x_push (.long 3689348814741910323) 3 := rfl
theorem kJ13_bitCount_95d88_21 : List.getD tJ13_bitCount_95d88 21 x_bad = x_ll (fun a b => a &&& b) := rfl
theorem kJ13_bitCount_95d88_22 : List.getD tJ13_bitCount_95d88 22 x_bad = x_ll (fun a b => a + b) := rfl
theorem kJ13_bitCount_95d88_23 : List.getD tJ13_bitCount_95d88 23 x_bad = x_lstore 0 1 := rfl
theorem kJ13_bitCount_95d88_24 : List.getD tJ13_bitCount_95d88 24 x_bad = x_lload 0 1 := rfl
theorem kJ13_bitCount_95d88_25 : List.getD tJ13_bitCount_95d88 25 x_bad = x_lload 0 1 := rfl
theorem kJ13_bitCount_95d88_26 : List.getD tJ13_bitCount_95d88 26 x_bad = x_push (.int (nI 4)) 1 := rfl
theorem kJ13_bitCount_95d88_27 : List.getD tJ13_bitCount_95d88 27 x_bad = x_li (fun a b => (a.toUInt64 >>> (b.toInt64.toUInt64 &&& Int64.toUInt64 63)).toInt64) := rfl
theorem kJ13_bitCount_95d88_28 : List.getD tJ13_bitCount_95d88 28 x_bad = x_ll (fun a b => a + b) := rfl
theorem kJ13_bitCount_95d88_29 : List.getD tJ13_bitCount_95d88 29 x_bad = x_push (.long 1085102592571150095) 3 := rfl
theorem kJ13_bitCount_95d88_32 : List.getD tJ13_bitCount_95d88 32 x_bad = x_ll (fun a b => a &&& b) := rfl
theorem kJ13_bitCount_95d88_33 : List.getD tJ13_bitCount_95d88 33 x_bad = x_lstore 0 1 := rfl
theorem kJ13_bitCount_95d88_34 : List.getD tJ13_bitCount_95d88 34 x_bad = x_lload 0 1 := rfl
theorem kJ13_bitCount_95d88_35 : List.getD tJ13_bitCount_95d88 35 x_bad = x_lload 0 1 := rfl
theorem kJ13_bitCount_95d88_36 : List.getD tJ13_bitCount_95d88 36 x_bad = x_push (.int (nI 8)) 2 := rfl
theorem kJ13_bitCount_95d88_38 : List.getD tJ13_bitCount_95d88 38 x_bad = x_li (fun a b => (a.toUInt64 >>> (b.toInt64.toUInt64 &&& Int64.toUInt64 63)).toInt64) := rfl
theorem kJ13_bitCount_95d88_39 : List.getD tJ13_bitCount_95d88 39 x_bad = x_ll (fun a b => a + b) := rfl
theorem kJ13_bitCount_95d88_40 : List.getD tJ13_bitCount_95d88 40 x_bad = x_lstore 0 1 := rfl
theorem kJ13_bitCount_95d88_41 : List.getD tJ13_bitCount_95d88 41 x_bad = x_lload 0 1 := rfl
theorem kJ13_bitCount_95d88_42 : List.getD tJ13_bitCount_95d88 42 x_bad = x_lload 0 1 := rfl
theorem kJ13_bitCount_95d88_43 : List.getD tJ13_bitCount_95d88 43 x_bad = x_push (.int (nI 16)) 2 := rfl
theorem kJ13_bitCount_95d88_45 : List.getD tJ13_bitCount_95d88 45 x_bad = x_li (fun a b => (a.toUInt64 >>> (b.toInt64.toUInt64 &&& Int64.toUInt64 63)).toInt64) := rfl
theorem kJ13_bitCount_95d88_46 : List.getD tJ13_bitCount_95d88 46 x_bad = x_ll (fun a b => a + b) := rfl
theorem kJ13_bitCount_95d88_47 : List.getD tJ13_bitCount_95d88 47 x_bad = x_lstore 0 1 := rfl
theorem kJ13_bitCount_95d88_48 : List.getD tJ13_bitCount_95d88 48 x_bad = x_lload 0 1 := rfl
theorem kJ13_bitCount_95d88_49 : List.getD tJ13_bitCount_95d88 49 x_bad = x_lload 0 1 := rfl
theorem kJ13_bitCount_95d88_50 : List.getD tJ13_bitCount_95d88 50 x_bad = x_push (.int (nI 32)) 2 := rfl
theorem kJ13_bitCount_95d88_52 : List.getD tJ13_bitCount_95d88 52 x_bad = x_li (fun a b => (a.toUInt64 >>> (b.toInt64.toUInt64 &&& Int64.toUInt64 63)).toInt64) := rfl
theorem kJ13_bitCount_95d88_53 : List.getD tJ13_bitCount_95d88 53 x_bad = x_ll (fun a b => a + b) := rfl
theorem kJ13_bitCount_95d88_54 : List.getD tJ13_bitCount_95d88 54 x_bad = x_lstore 0 1 := rfl
theorem kJ13_bitCount_95d88_55 : List.getD tJ13_bitCount_95d88 55 x_bad = x_lload 0 1 := rfl
theorem kJ13_bitCount_95d88_56 : List.getD tJ13_bitCount_95d88 56 x_bad = x_l2i := rfl
theorem kJ13_bitCount_95d88_57 : List.getD tJ13_bitCount_95d88 57 x_bad = x_push (.int (nI 127)) 2 := rfl
theorem kJ13_bitCount_95d88_59 : List.getD tJ13_bitCount_95d88 59 x_bad = x_ii (fun a b => a &&& b) := rfl
theorem kJ13_bitCount_95d88_60 : List.getD tJ13_bitCount_95d88 60 x_bad = x_iret := rfl
def tJ6_bitCount_0f7a4 : List PT := [x_iload 0 1, x_iload 0 1, x_push (.int (nI 1)) 1, x_ii (fun a b => (a.toUInt32 >>> (b.toUInt32 &&& Int32.toUInt32 31)).toInt32), x_push (.int 1431655765) 3, x_bad, x_bad, x_ii (fun a b => a &&& b), x_ii (fun a b => a - b), x_istore 0 1, x_iload 0 1, x_push (.int 858993459) 3, x_bad, x_bad, x_ii (fun a b => a &&& b), x_iload 0 1, x_push (.int (nI 2)) 1, x_ii (fun a b => (a.toUInt32 >>> (b.toUInt32 &&& Int32.toUInt32 31)).toInt32), x_push (.int 858993459) 3, x_bad, x_bad, x_ii (fun a b => a &&& b), x_ii (fun a b => a + b), x_istore 0 1, x_iload 0 1, x_iload 0 1, x_push (.int (nI 4)) 1, x_ii (fun a b => (a.toUInt32 >>> (b.toUInt32 &&& Int32.toUInt32 31)).toInt32), x_ii (fun a b => a + b), x_push (.int 252645135) 3, x_bad, x_bad, x_ii (fun a b => a &&& b), x_istore 0 1, x_iload 0 1, x_iload 0 1, x_push (.int (nI 8)) 2, x_bad, x_ii (fun a b => (a.toUInt32 >>> (b.toUInt32 &&& Int32.toUInt32 31)).toInt32), x_ii (fun a b => a + b), x_istore 0 1, x_iload 0 1, x_iload 0 1, x_push (.int (nI 16)) 2, x_bad, x_ii (fun a b => (a.toUInt32 >>> (b.toUInt32 &&& Int32.toUInt32 31)).toInt32), x_ii (fun a b => a + b), x_istore 0 1, x_iload 0 1, x_push (.int (nI 63)) 2, x_bad, x_ii (fun a b => a &&& b), x_iret]
set_option maxRecDepth 20000 in
theorem okJ6_bitCount_0f7a4 : SndT RJ6 cJ6_bitCount_0f7a4 mJ6_bitCount_0f7a4.2.2.1 mJ6_bitCount_0f7a4.2.2.2.2.1 mJ6_bitCount_0f7a4.2.2.2.2.2 false mJ6_bitCount_0f7a4.2.2.2.1 0 tJ6_bitCount_0f7a4 := ⟨s_iload_n (k := 0) (i := 0) (by decide +kernel) rfl, s_iload_n (k := 0) (i := 0) (by decide +kernel) rfl, s_iconst (n := 1) (by decide +kernel) (by decide +kernel), s_iushr (by decide +kernel), s_ldcw (by decide +kernel) tb_734, s_bad, s_bad, s_iand (by decide +kernel), s_isub (by decide +kernel), s_istore_n (k := 0) (i := 0) (by decide +kernel) rfl (by decide), s_iload_n (k := 0) (i := 0) (by decide +kernel) rfl, s_ldcw (by decide +kernel) tb_735, s_bad, s_bad, s_iand (by decide +kernel), s_iload_n (k := 0) (i := 0) (by decide +kernel) rfl, s_iconst (n := 2) (by decide +kernel) (by decide +kernel), s_iushr (by decide +kernel), s_ldcw (by decide +kernel) tb_735, s_bad, s_bad, s_iand (by decide +kernel), s_iadd (by decide +kernel), s_istore_n (k := 0) (i := 0) (by decide +kernel) rfl (by decide), s_iload_n (k := 0) (i := 0) (by decide +kernel) rfl, s_iload_n (k := 0) (i := 0) (by decide +kernel) rfl, s_iconst (n := 4) (by decide +kernel) (by decide +kernel), s_iushr (by decide +kernel), s_iadd (by decide +kernel), s_ldcw (by decide +kernel) tb_736, s_bad, s_bad, s_iand (by decide +kernel), s_istore_n (k := 0) (i := 0) (by decide +kernel) rfl (by decide), s_iload_n (k := 0) (i := 0) (by decide +kernel) rfl, s_iload_n (k := 0) (i := 0) (by decide +kernel) rfl, s_bipush (n := 8) (by decide +kernel) (by decide +kernel), s_bad, s_iushr (by decide +kernel), s_iadd (by decide +kernel), s_istore_n (k := 0) (i := 0) (by decide +kernel) rfl (by decide), s_iload_n (k := 0) (i := 0) (by decide +kernel) rfl, s_iload_n (k := 0) (i := 0) (by decide +kernel) rfl, s_bipush (n := 16) (by decide +kernel) (by decide +kernel), s_bad, s_iushr (by decide +kernel), s_iadd (by decide +kernel), s_istore_n (k := 0) (i := 0) (by decide +kernel) rfl (by decide), s_iload_n (k := 0) (i := 0) (by decide +kernel) rfl, s_bipush (n := 63) (by decide +kernel) (by decide +kernel), s_bad, s_iand (by decide +kernel), s_iret (by decide +kernel) rfl, trivial⟩
theorem kJ6_bitCount_0f7a4_0 : List.getD tJ6_bitCount_0f7a4 0 x_bad = x_iload 0 1 := rfl
theorem kJ6_bitCount_0f7a4_1 : List.getD tJ6_bitCount_0f7a4 1 x_bad = x_iload 0 1 := rfl
theorem kJ6_bitCount_0f7a4_2 : List.getD tJ6_bitCount_0f7a4 2 x_bad = x_push (.int (nI 1)) 1 := rfl
theorem kJ6_bitCount_0f7a4_3 : List.getD tJ6_bitCount_0f7a4 3 x_bad = x_ii (fun a b => (a.toUInt32 >>> (b.toUInt32 &&& Int32.toUInt32 31)).toInt32) := rfl
theorem kJ6_bitCount_0f7a4_4 : List.getD tJ6_bitCount_0f7a4 4 x_bad = x_push (.int 1431655765) 3 := rfl
theorem kJ6_bitCount_0f7a4_7 : List.getD tJ6_bitCount_0f7a4 7 x_bad = x_ii (fun a b => a &&& b) := rfl
theorem kJ6_bitCount_0f7a4_8 : List.getD tJ6_bitCount_0f7a4 8 x_bad = x_ii (fun a b => a - b) := rfl
theorem kJ6_bitCount_0f7a4_9 : List.getD tJ6_bitCount_0f7a4 9 x_bad = x_istore 0 1 := rfl
theorem kJ6_bitCount_0f7a4_10 : List.getD tJ6_bitCount_0f7a4 10 x_bad = x_iload 0 1 := rfl
theorem kJ6_bitCount_0f7a4_11 : List.getD tJ6_bitCount_0f7a4 11 x_bad = x_push (.int 858993459) 3 := rfl
theorem kJ6_bitCount_0f7a4_14 : List.getD tJ6_bitCount_0f7a4 14 x_bad = x_ii (fun a b => a &&& b) := rfl
theorem kJ6_bitCount_0f7a4_15 : List.getD tJ6_bitCount_0f7a4 15 x_bad = x_iload 0 1 := rfl
theorem kJ6_bitCount_0f7a4_16 : List.getD tJ6_bitCount_0f7a4 16 x_bad = x_push (.int (nI 2)) 1 := rfl
theorem kJ6_bitCount_0f7a4_17 : List.getD tJ6_bitCount_0f7a4 17 x_bad = x_ii (fun a b => (a.toUInt32 >>> (b.toUInt32 &&& Int32.toUInt32 31)).toInt32) := rfl
theorem kJ6_bitCount_0f7a4_18 : List.getD tJ6_bitCount_0f7a4 18 x_bad = x_push (.int 858993459) 3 := rfl
theorem kJ6_bitCount_0f7a4_21 : List.getD tJ6_bitCount_0f7a4 21 x_bad = x_ii (fun a b => a &&& b) := rfl
theorem kJ6_bitCount_0f7a4_22 : List.getD tJ6_bitCount_0f7a4 22 x_bad = x_ii (fun a b => a + b) := rfl
theorem kJ6_bitCount_0f7a4_23 : List.getD tJ6_bitCount_0f7a4 23 x_bad = x_istore 0 1 := rfl
theorem kJ6_bitCount_0f7a4_24 : List.getD tJ6_bitCount_0f7a4 24 x_bad = x_iload 0 1 := rfl
theorem kJ6_bitCount_0f7a4_25 : List.getD tJ6_bitCount_0f7a4 25 x_bad = x_iload 0 1 := rfl
theorem kJ6_bitCount_0f7a4_26 : List.getD tJ6_bitCount_0f7a4 26 x_bad = x_push (.int (nI 4)) 1 := rfl
theorem kJ6_bitCount_0f7a4_27 : List.getD tJ6_bitCount_0f7a4 27 x_bad = x_ii (fun a b => (a.toUInt32 >>> (b.toUInt32 &&& Int32.toUInt32 31)).toInt32) := rfl
theorem kJ6_bitCount_0f7a4_28 : List.getD tJ6_bitCount_0f7a4 28 x_bad = x_ii (fun a b => a + b) := rfl
theorem kJ6_bitCount_0f7a4_29 : List.getD tJ6_bitCount_0f7a4 29 x_bad = x_push (.int 252645135) 3 := rfl
theorem kJ6_bitCount_0f7a4_32 : List.getD tJ6_bitCount_0f7a4 32 x_bad = x_ii (fun a b => a &&& b) := rfl
theorem kJ6_bitCount_0f7a4_33 : List.getD tJ6_bitCount_0f7a4 33 x_bad = x_istore 0 1 := rfl
theorem kJ6_bitCount_0f7a4_34 : List.getD tJ6_bitCount_0f7a4 34 x_bad = x_iload 0 1 := rfl
theorem kJ6_bitCount_0f7a4_35 : List.getD tJ6_bitCount_0f7a4 35 x_bad = x_iload 0 1 := rfl
theorem kJ6_bitCount_0f7a4_36 : List.getD tJ6_bitCount_0f7a4 36 x_bad = x_push (.int (nI 8)) 2 := rfl
theorem kJ6_bitCount_0f7a4_38 : List.getD tJ6_bitCount_0f7a4 38 x_bad = x_ii (fun a b => (a.toUInt32 >>> (b.toUInt32 &&& Int32.toUInt32 31)).toInt32) := rfl
theorem kJ6_bitCount_0f7a4_39 : List.getD tJ6_bitCount_0f7a4 39 x_bad = x_ii (fun a b => a + b) := rfl
theorem kJ6_bitCount_0f7a4_40 : List.getD tJ6_bitCount_0f7a4 40 x_bad = x_istore 0 1 := rfl
theorem kJ6_bitCount_0f7a4_41 : List.getD tJ6_bitCount_0f7a4 41 x_bad = x_iload 0 1 := rfl
theorem kJ6_bitCount_0f7a4_42 : List.getD tJ6_bitCount_0f7a4 42 x_bad = x_iload 0 1 := rfl
theorem kJ6_bitCount_0f7a4_43 : List.getD tJ6_bitCount_0f7a4 43 x_bad = x_push (.int (nI 16)) 2 := rfl
theorem kJ6_bitCount_0f7a4_45 : List.getD tJ6_bitCount_0f7a4 45 x_bad = x_ii (fun a b => (a.toUInt32 >>> (b.toUInt32 &&& Int32.toUInt32 31)).toInt32) := rfl
theorem kJ6_bitCount_0f7a4_46 : List.getD tJ6_bitCount_0f7a4 46 x_bad = x_ii (fun a b => a + b) := rfl
theorem kJ6_bitCount_0f7a4_47 : List.getD tJ6_bitCount_0f7a4 47 x_bad = x_istore 0 1 := rfl
theorem kJ6_bitCount_0f7a4_48 : List.getD tJ6_bitCount_0f7a4 48 x_bad = x_iload 0 1 := rfl
theorem kJ6_bitCount_0f7a4_49 : List.getD tJ6_bitCount_0f7a4 49 x_bad = x_push (.int (nI 63)) 2 := rfl
theorem kJ6_bitCount_0f7a4_51 : List.getD tJ6_bitCount_0f7a4 51 x_bad = x_ii (fun a b => a &&& b) := rfl
theorem kJ6_bitCount_0f7a4_52 : List.getD tJ6_bitCount_0f7a4 52 x_bad = x_iret := rfl
def tJ9_max_7cf53 : List PT := [x_iload 0 1, x_iload 1 1, x_icmp (fun a b => a < b) 9, x_bad, x_bad, x_iload 0 1, x_goto 10, x_bad, x_bad, x_iload 1 1, x_iret]
set_option maxRecDepth 20000 in
theorem okJ9_max_7cf53 : SndT RJ9 cJ9_max_7cf53 mJ9_max_7cf53.2.2.1 mJ9_max_7cf53.2.2.2.2.1 mJ9_max_7cf53.2.2.2.2.2 false mJ9_max_7cf53.2.2.2.1 0 tJ9_max_7cf53 := ⟨s_iload_n (k := 0) (i := 0) (by decide +kernel) rfl, s_iload_n (k := 1) (i := 1) (by decide +kernel) rfl, s_icmp_lt (off := 7) (by decide +kernel) (by decide), s_bad, s_bad, s_iload_n (k := 0) (i := 0) (by decide +kernel) rfl, s_goto (off := 4) (by decide +kernel) (by decide), s_bad, s_bad, s_iload_n (k := 1) (i := 1) (by decide +kernel) rfl, s_iret (by decide +kernel) rfl, trivial⟩
theorem kJ9_max_7cf53_0 : List.getD tJ9_max_7cf53 0 x_bad = x_iload 0 1 := rfl
theorem kJ9_max_7cf53_1 : List.getD tJ9_max_7cf53 1 x_bad = x_iload 1 1 := rfl
theorem kJ9_max_7cf53_2 : List.getD tJ9_max_7cf53 2 x_bad = x_icmp (fun a b => a < b) 9 := rfl
theorem kJ9_max_7cf53_5 : List.getD tJ9_max_7cf53 5 x_bad = x_iload 0 1 := rfl
theorem kJ9_max_7cf53_6 : List.getD tJ9_max_7cf53 6 x_bad = x_goto 10 := rfl
theorem kJ9_max_7cf53_9 : List.getD tJ9_max_7cf53 9 x_bad = x_iload 1 1 := rfl
theorem kJ9_max_7cf53_10 : List.getD tJ9_max_7cf53 10 x_bad = x_iret := rfl
def tX1_become : List PT := [x_aload 0 1, x_aload 1 1, x_getL 1 0, x_bad, x_bad, x_putL 1 0, x_bad, x_bad, x_aload 0 1, x_aload 1 1, x_getL 1 1, x_bad, x_bad, x_putL 1 1, x_bad, x_bad, x_vret]
set_option maxRecDepth 20000 in
theorem okX1_become : SndT RX1 cX1_become mX1_become.2.2.1 mX1_become.2.2.2.2.1 mX1_become.2.2.2.2.2 false mX1_become.2.2.2.1 0 tX1_become := ⟨s_aload_n (k := 0) (i := 0) (by decide +kernel) rfl, s_aload_n (k := 1) (i := 1) (by decide +kernel) rfl, s_getL (by decide +kernel) fl_RX1_7 rfl, s_bad, s_bad, s_putL (by decide +kernel) fl_RX1_7 fp_1_0 rfl, s_bad, s_bad, s_aload_n (k := 0) (i := 0) (by decide +kernel) rfl, s_aload_n (k := 1) (i := 1) (by decide +kernel) rfl, s_getL (by decide +kernel) fl_RX1_13 rfl, s_bad, s_bad, s_putL (by decide +kernel) fl_RX1_13 fp_1_1 rfl, s_bad, s_bad, s_vret (by decide +kernel) rfl, trivial⟩
theorem kX1_become_0 : List.getD tX1_become 0 x_bad = x_aload 0 1 := rfl
theorem kX1_become_1 : List.getD tX1_become 1 x_bad = x_aload 1 1 := rfl
theorem kX1_become_2 : List.getD tX1_become 2 x_bad = x_getL 1 0 := rfl
theorem kX1_become_5 : List.getD tX1_become 5 x_bad = x_putL 1 0 := rfl
theorem kX1_become_8 : List.getD tX1_become 8 x_bad = x_aload 0 1 := rfl
theorem kX1_become_9 : List.getD tX1_become 9 x_bad = x_aload 1 1 := rfl
theorem kX1_become_10 : List.getD tX1_become 10 x_bad = x_getL 1 1 := rfl
theorem kX1_become_13 : List.getD tX1_become 13 x_bad = x_putL 1 1 := rfl
theorem kX1_become_16 : List.getD tX1_become 16 x_bad = x_vret := rfl
def tX1_clear : List PT := [x_aload 0 1, x_push (.long 0) 1, x_putL 1 0, x_bad, x_bad, x_aload 0 1, x_push (.long 0) 1, x_putL 1 1, x_bad, x_bad, x_vret]
set_option maxRecDepth 20000 in
theorem okX1_clear : SndT RX1 cX1_clear mX1_clear.2.2.1 mX1_clear.2.2.2.2.1 mX1_clear.2.2.2.2.2 false mX1_clear.2.2.2.1 0 tX1_clear := ⟨s_aload_n (k := 0) (i := 0) (by decide +kernel) rfl, s_lconst (n := 0) (by decide +kernel) (by decide +kernel), s_putL (by decide +kernel) fl_RX1_7 fp_1_0 rfl, s_bad, s_bad, s_aload_n (k := 0) (i := 0) (by decide +kernel) rfl, s_lconst (n := 0) (by decide +kernel) (by decide +kernel), s_putL (by decide +kernel) fl_RX1_13 fp_1_1 rfl, s_bad, s_bad, s_vret (by decide +kernel) rfl, trivial⟩
theorem kX1_clear_0 : List.getD tX1_clear 0 x_bad = x_aload 0 1 := rfl
theorem kX1_clear_1 : List.getD tX1_clear 1 x_bad = x_push (.long 0) 1 := rfl
theorem kX1_clear_2 : List.getD tX1_clear 2 x_bad = x_putL 1 0 := rfl
theorem kX1_clear_5 : List.getD tX1_clear 5 x_bad = x_aload 0 1 := rfl
theorem kX1_clear_6 : List.getD tX1_clear 6 x_bad = x_push (.long 0) 1 := rfl
theorem kX1_clear_7 : List.getD tX1_clear 7 x_bad = x_putL 1 1 := rfl
theorem kX1_clear_10 : List.getD tX1_clear 10 x_bad = x_vret := rfl
def tX1_has : List PT := [x_iload 1 1, x_push (.int (nI 64)) 2, x_bad, x_icmp (fun a b => b ≤ a) 15, x_bad, x_bad, x_aload 0 1, x_getL 1 0, x_bad, x_bad, x_iload 1 1, x_li (fun a b => (a.toUInt64 >>> (b.toInt64.toUInt64 &&& Int64.toUInt64 63)).toInt64), x_goto 24, x_bad, x_bad, x_aload 0 1, x_getL 1 1, x_bad, x_bad, x_iload 1 1, x_push (.int (nI 64)) 2, x_bad, x_ii (fun a b => a - b), x_li (fun a b => (a.toUInt64 >>> (b.toInt64.toUInt64 &&& Int64.toUInt64 63)).toInt64), x_lstore 2 1, x_lload 2 1, x_push (.long 1) 1, x_ll (fun a b => a &&& b), x_push (.long 0) 1, x_lcmp, x_if (fun a => a = 0) 37, x_bad, x_bad, x_push (.int (nI 1)) 1, x_goto 38, x_bad, x_bad, x_push (.int (nI 0)) 1, x_zret]
set_option maxRecDepth 20000 in
theorem okX1_has : SndT RX1 cX1_has mX1_has.2.2.1 mX1_has.2.2.2.2.1 mX1_has.2.2.2.2.2 false mX1_has.2.2.2.1 0 tX1_has := ⟨s_iload_n (k := 1) (i := 1) (by decide +kernel) rfl, s_bipush (n := 64) (by decide +kernel) (by decide +kernel), s_bad, s_icmp_ge (off := 12) (by decide +kernel) (by decide), s_bad, s_bad, s_aload_n (k := 0) (i := 0) (by decide +kernel) rfl, s_getL (by decide +kernel) fl_RX1_7 rfl, s_bad, s_bad, s_iload_n (k := 1) (i := 1) (by decide +kernel) rfl, s_lushr (by decide +kernel), s_goto (off := 12) (by decide +kernel) (by decide), s_bad, s_bad, s_aload_n (k := 0) (i := 0) (by decide +kernel) rfl, s_getL (by decide +kernel) fl_RX1_13 rfl, s_bad, s_bad, s_iload_n (k := 1) (i := 1) (by decide +kernel) rfl, s_bipush (n := 64) (by decide +kernel) (by decide +kernel), s_bad, s_isub (by decide +kernel), s_lushr (by decide +kernel), s_lstore_n (k := 2) (i := 2) (by decide +kernel) rfl (by decide), s_lload_n (k := 2) (i := 2) (by decide +kernel) rfl, s_lconst (n := 1) (by decide +kernel) (by decide +kernel), s_land (by decide +kernel), s_lconst (n := 0) (by decide +kernel) (by decide +kernel), s_lcmp (by decide +kernel), s_if_eq (off := 7) (by decide +kernel) (by decide), s_bad, s_bad, s_iconst (n := 1) (by decide +kernel) (by decide +kernel), s_goto (off := 4) (by decide +kernel) (by decide), s_bad, s_bad, s_iconst (n := 0) (by decide +kernel) (by decide +kernel), s_zret (by decide +kernel) rfl, trivial⟩
theorem kX1_has_0 : List.getD tX1_has 0 x_bad = x_iload 1 1 := rfl
theorem kX1_has_1 : List.getD tX1_has 1 x_bad = x_push (.int (nI 64)) 2 := rfl
theorem kX1_has_3 : List.getD tX1_has 3 x_bad = x_icmp (fun a b => b ≤ a) 15 := rfl
theorem kX1_has_6 : List.getD tX1_has 6 x_bad = x_aload 0 1 := rfl
theorem kX1_has_7 : List.getD tX1_has 7 x_bad = x_getL 1 0 := rfl
theorem kX1_has_10 : List.getD tX1_has 10 x_bad = x_iload 1 1 := rfl
theorem kX1_has_11 : List.getD tX1_has 11 x_bad = x_li (fun a b => (a.toUInt64 >>> (b.toInt64.toUInt64 &&& Int64.toUInt64 63)).toInt64) := rfl
theorem kX1_has_12 : List.getD tX1_has 12 x_bad = x_goto 24 := rfl
theorem kX1_has_15 : List.getD tX1_has 15 x_bad = x_aload 0 1 := rfl
theorem kX1_has_16 : List.getD tX1_has 16 x_bad = x_getL 1 1 := rfl
theorem kX1_has_19 : List.getD tX1_has 19 x_bad = x_iload 1 1 := rfl
theorem kX1_has_20 : List.getD tX1_has 20 x_bad = x_push (.int (nI 64)) 2 := rfl
theorem kX1_has_22 : List.getD tX1_has 22 x_bad = x_ii (fun a b => a - b) := rfl
theorem kX1_has_23 : List.getD tX1_has 23 x_bad = x_li (fun a b => (a.toUInt64 >>> (b.toInt64.toUInt64 &&& Int64.toUInt64 63)).toInt64) := rfl
theorem kX1_has_24 : List.getD tX1_has 24 x_bad = x_lstore 2 1 := rfl
theorem kX1_has_25 : List.getD tX1_has 25 x_bad = x_lload 2 1 := rfl
theorem kX1_has_26 : List.getD tX1_has 26 x_bad = x_push (.long 1) 1 := rfl
theorem kX1_has_27 : List.getD tX1_has 27 x_bad = x_ll (fun a b => a &&& b) := rfl
theorem kX1_has_28 : List.getD tX1_has 28 x_bad = x_push (.long 0) 1 := rfl
theorem kX1_has_29 : List.getD tX1_has 29 x_bad = x_lcmp := rfl
theorem kX1_has_30 : List.getD tX1_has 30 x_bad = x_if (fun a => a = 0) 37 := rfl
theorem kX1_has_33 : List.getD tX1_has 33 x_bad = x_push (.int (nI 1)) 1 := rfl
theorem kX1_has_34 : List.getD tX1_has 34 x_bad = x_goto 38 := rfl
theorem kX1_has_37 : List.getD tX1_has 37 x_bad = x_push (.int (nI 0)) 1 := rfl
theorem kX1_has_38 : List.getD tX1_has 38 x_bad = x_zret := rfl
def tX1_holds : List PT := [x_aload 1 1, x_getL 1 0, x_bad, x_bad, x_aload 0 1, x_getL 1 0, x_bad, x_bad, x_push (.long (-1)) 3, x_bad, x_bad, x_ll (fun a b => a ^^^ b), x_ll (fun a b => a &&& b), x_push (.long 0) 1, x_lcmp, x_ifn (fun a => a = 0) 40, x_bad, x_bad, x_aload 1 1, x_getL 1 1, x_bad, x_bad, x_aload 0 1, x_getL 1 1, x_bad, x_bad, x_push (.long (-1)) 3, x_bad, x_bad, x_ll (fun a b => a ^^^ b), x_ll (fun a b => a &&& b), x_push (.long 0) 1, x_lcmp, x_ifn (fun a => a = 0) 40, x_bad, x_bad, x_push (.int (nI 1)) 1, x_goto 41, x_bad, x_bad, x_push (.int (nI 0)) 1, x_zret]
set_option maxRecDepth 20000 in
theorem okX1_holds : SndT RX1 cX1_holds mX1_holds.2.2.1 mX1_holds.2.2.2.2.1 mX1_holds.2.2.2.2.2 false mX1_holds.2.2.2.1 0 tX1_holds := ⟨s_aload_n (k := 1) (i := 1) (by decide +kernel) rfl, s_getL (by decide +kernel) fl_RX1_7 rfl, s_bad, s_bad, s_aload_n (k := 0) (i := 0) (by decide +kernel) rfl, s_getL (by decide +kernel) fl_RX1_7 rfl, s_bad, s_bad, s_ldc2 (by decide +kernel) tb_634, s_bad, s_bad, s_lxor (by decide +kernel), s_land (by decide +kernel), s_lconst (n := 0) (by decide +kernel) (by decide +kernel), s_lcmp (by decide +kernel), s_if_ne (off := 25) (by decide +kernel) (by decide), s_bad, s_bad, s_aload_n (k := 1) (i := 1) (by decide +kernel) rfl, s_getL (by decide +kernel) fl_RX1_13 rfl, s_bad, s_bad, s_aload_n (k := 0) (i := 0) (by decide +kernel) rfl, s_getL (by decide +kernel) fl_RX1_13 rfl, s_bad, s_bad, s_ldc2 (by decide +kernel) tb_634, s_bad, s_bad, s_lxor (by decide +kernel), s_land (by decide +kernel), s_lconst (n := 0) (by decide +kernel) (by decide +kernel), s_lcmp (by decide +kernel), s_if_ne (off := 7) (by decide +kernel) (by decide), s_bad, s_bad, s_iconst (n := 1) (by decide +kernel) (by decide +kernel), s_goto (off := 4) (by decide +kernel) (by decide), s_bad, s_bad, s_iconst (n := 0) (by decide +kernel) (by decide +kernel), s_zret (by decide +kernel) rfl, trivial⟩
theorem kX1_holds_0 : List.getD tX1_holds 0 x_bad = x_aload 1 1 := rfl
theorem kX1_holds_1 : List.getD tX1_holds 1 x_bad = x_getL 1 0 := rfl
theorem kX1_holds_4 : List.getD tX1_holds 4 x_bad = x_aload 0 1 := rfl
theorem kX1_holds_5 : List.getD tX1_holds 5 x_bad = x_getL 1 0 := rfl
theorem kX1_holds_8 : List.getD tX1_holds 8 x_bad = x_push (.long (-1)) 3 := rfl
theorem kX1_holds_11 : List.getD tX1_holds 11 x_bad = x_ll (fun a b => a ^^^ b) := rfl
theorem kX1_holds_12 : List.getD tX1_holds 12 x_bad = x_ll (fun a b => a &&& b) := rfl
theorem kX1_holds_13 : List.getD tX1_holds 13 x_bad = x_push (.long 0) 1 := rfl
theorem kX1_holds_14 : List.getD tX1_holds 14 x_bad = x_lcmp := rfl
theorem kX1_holds_15 : List.getD tX1_holds 15 x_bad = x_ifn (fun a => a = 0) 40 := rfl
theorem kX1_holds_18 : List.getD tX1_holds 18 x_bad = x_aload 1 1 := rfl
theorem kX1_holds_19 : List.getD tX1_holds 19 x_bad = x_getL 1 1 := rfl
theorem kX1_holds_22 : List.getD tX1_holds 22 x_bad = x_aload 0 1 := rfl
theorem kX1_holds_23 : List.getD tX1_holds 23 x_bad = x_getL 1 1 := rfl
theorem kX1_holds_26 : List.getD tX1_holds 26 x_bad = x_push (.long (-1)) 3 := rfl
theorem kX1_holds_29 : List.getD tX1_holds 29 x_bad = x_ll (fun a b => a ^^^ b) := rfl
theorem kX1_holds_30 : List.getD tX1_holds 30 x_bad = x_ll (fun a b => a &&& b) := rfl
theorem kX1_holds_31 : List.getD tX1_holds 31 x_bad = x_push (.long 0) 1 := rfl
theorem kX1_holds_32 : List.getD tX1_holds 32 x_bad = x_lcmp := rfl
theorem kX1_holds_33 : List.getD tX1_holds 33 x_bad = x_ifn (fun a => a = 0) 40 := rfl
theorem kX1_holds_36 : List.getD tX1_holds 36 x_bad = x_push (.int (nI 1)) 1 := rfl
theorem kX1_holds_37 : List.getD tX1_holds 37 x_bad = x_goto 41 := rfl
theorem kX1_holds_40 : List.getD tX1_holds 40 x_bad = x_push (.int (nI 0)) 1 := rfl
theorem kX1_holds_41 : List.getD tX1_holds 41 x_bad = x_zret := rfl
def tX1_join : List PT := [x_aload 0 1, x_dup, x_getL 1 0, x_bad, x_bad, x_aload 1 1, x_getL 1 0, x_bad, x_bad, x_ll (fun a b => a ||| b), x_putL 1 0, x_bad, x_bad, x_aload 0 1, x_dup, x_getL 1 1, x_bad, x_bad, x_aload 1 1, x_getL 1 1, x_bad, x_bad, x_ll (fun a b => a ||| b), x_putL 1 1, x_bad, x_bad, x_vret]
set_option maxRecDepth 20000 in
theorem okX1_join : SndT RX1 cX1_join mX1_join.2.2.1 mX1_join.2.2.2.2.1 mX1_join.2.2.2.2.2 false mX1_join.2.2.2.1 0 tX1_join := ⟨s_aload_n (k := 0) (i := 0) (by decide +kernel) rfl, s_dup (by decide +kernel), s_getL (by decide +kernel) fl_RX1_7 rfl, s_bad, s_bad, s_aload_n (k := 1) (i := 1) (by decide +kernel) rfl, s_getL (by decide +kernel) fl_RX1_7 rfl, s_bad, s_bad, s_lor (by decide +kernel), s_putL (by decide +kernel) fl_RX1_7 fp_1_0 rfl, s_bad, s_bad, s_aload_n (k := 0) (i := 0) (by decide +kernel) rfl, s_dup (by decide +kernel), s_getL (by decide +kernel) fl_RX1_13 rfl, s_bad, s_bad, s_aload_n (k := 1) (i := 1) (by decide +kernel) rfl, s_getL (by decide +kernel) fl_RX1_13 rfl, s_bad, s_bad, s_lor (by decide +kernel), s_putL (by decide +kernel) fl_RX1_13 fp_1_1 rfl, s_bad, s_bad, s_vret (by decide +kernel) rfl, trivial⟩
theorem kX1_join_0 : List.getD tX1_join 0 x_bad = x_aload 0 1 := rfl
theorem kX1_join_1 : List.getD tX1_join 1 x_bad = x_dup := rfl
theorem kX1_join_2 : List.getD tX1_join 2 x_bad = x_getL 1 0 := rfl
theorem kX1_join_5 : List.getD tX1_join 5 x_bad = x_aload 1 1 := rfl
theorem kX1_join_6 : List.getD tX1_join 6 x_bad = x_getL 1 0 := rfl
theorem kX1_join_9 : List.getD tX1_join 9 x_bad = x_ll (fun a b => a ||| b) := rfl
theorem kX1_join_10 : List.getD tX1_join 10 x_bad = x_putL 1 0 := rfl
theorem kX1_join_13 : List.getD tX1_join 13 x_bad = x_aload 0 1 := rfl
theorem kX1_join_14 : List.getD tX1_join 14 x_bad = x_dup := rfl
theorem kX1_join_15 : List.getD tX1_join 15 x_bad = x_getL 1 1 := rfl
theorem kX1_join_18 : List.getD tX1_join 18 x_bad = x_aload 1 1 := rfl
theorem kX1_join_19 : List.getD tX1_join 19 x_bad = x_getL 1 1 := rfl
theorem kX1_join_22 : List.getD tX1_join 22 x_bad = x_ll (fun a b => a ||| b) := rfl
theorem kX1_join_23 : List.getD tX1_join 23 x_bad = x_putL 1 1 := rfl
theorem kX1_join_26 : List.getD tX1_join 26 x_bad = x_vret := rfl
def tX1_meets : List PT := [x_aload 0 1, x_getL 1 0, x_bad, x_bad, x_aload 1 1, x_getL 1 0, x_bad, x_bad, x_ll (fun a b => a &&& b), x_push (.long 0) 1, x_lcmp, x_ifn (fun a => a = 0) 28, x_bad, x_bad, x_aload 0 1, x_getL 1 1, x_bad, x_bad, x_aload 1 1, x_getL 1 1, x_bad, x_bad, x_ll (fun a b => a &&& b), x_push (.long 0) 1, x_lcmp, x_if (fun a => a = 0) 32, x_bad, x_bad, x_push (.int (nI 1)) 1, x_goto 33, x_bad, x_bad, x_push (.int (nI 0)) 1, x_zret]
set_option maxRecDepth 20000 in
theorem okX1_meets : SndT RX1 cX1_meets mX1_meets.2.2.1 mX1_meets.2.2.2.2.1 mX1_meets.2.2.2.2.2 false mX1_meets.2.2.2.1 0 tX1_meets := ⟨s_aload_n (k := 0) (i := 0) (by decide +kernel) rfl, s_getL (by decide +kernel) fl_RX1_7 rfl, s_bad, s_bad, s_aload_n (k := 1) (i := 1) (by decide +kernel) rfl, s_getL (by decide +kernel) fl_RX1_7 rfl, s_bad, s_bad, s_land (by decide +kernel), s_lconst (n := 0) (by decide +kernel) (by decide +kernel), s_lcmp (by decide +kernel), s_if_ne (off := 17) (by decide +kernel) (by decide), s_bad, s_bad, s_aload_n (k := 0) (i := 0) (by decide +kernel) rfl, s_getL (by decide +kernel) fl_RX1_13 rfl, s_bad, s_bad, s_aload_n (k := 1) (i := 1) (by decide +kernel) rfl, s_getL (by decide +kernel) fl_RX1_13 rfl, s_bad, s_bad, s_land (by decide +kernel), s_lconst (n := 0) (by decide +kernel) (by decide +kernel), s_lcmp (by decide +kernel), s_if_eq (off := 7) (by decide +kernel) (by decide), s_bad, s_bad, s_iconst (n := 1) (by decide +kernel) (by decide +kernel), s_goto (off := 4) (by decide +kernel) (by decide), s_bad, s_bad, s_iconst (n := 0) (by decide +kernel) (by decide +kernel), s_zret (by decide +kernel) rfl, trivial⟩
theorem kX1_meets_0 : List.getD tX1_meets 0 x_bad = x_aload 0 1 := rfl
theorem kX1_meets_1 : List.getD tX1_meets 1 x_bad = x_getL 1 0 := rfl
theorem kX1_meets_4 : List.getD tX1_meets 4 x_bad = x_aload 1 1 := rfl
theorem kX1_meets_5 : List.getD tX1_meets 5 x_bad = x_getL 1 0 := rfl
theorem kX1_meets_8 : List.getD tX1_meets 8 x_bad = x_ll (fun a b => a &&& b) := rfl
theorem kX1_meets_9 : List.getD tX1_meets 9 x_bad = x_push (.long 0) 1 := rfl
theorem kX1_meets_10 : List.getD tX1_meets 10 x_bad = x_lcmp := rfl
theorem kX1_meets_11 : List.getD tX1_meets 11 x_bad = x_ifn (fun a => a = 0) 28 := rfl
theorem kX1_meets_14 : List.getD tX1_meets 14 x_bad = x_aload 0 1 := rfl
theorem kX1_meets_15 : List.getD tX1_meets 15 x_bad = x_getL 1 1 := rfl
theorem kX1_meets_18 : List.getD tX1_meets 18 x_bad = x_aload 1 1 := rfl
theorem kX1_meets_19 : List.getD tX1_meets 19 x_bad = x_getL 1 1 := rfl
theorem kX1_meets_22 : List.getD tX1_meets 22 x_bad = x_ll (fun a b => a &&& b) := rfl
theorem kX1_meets_23 : List.getD tX1_meets 23 x_bad = x_push (.long 0) 1 := rfl
theorem kX1_meets_24 : List.getD tX1_meets 24 x_bad = x_lcmp := rfl
theorem kX1_meets_25 : List.getD tX1_meets 25 x_bad = x_if (fun a => a = 0) 32 := rfl
theorem kX1_meets_28 : List.getD tX1_meets 28 x_bad = x_push (.int (nI 1)) 1 := rfl
theorem kX1_meets_29 : List.getD tX1_meets 29 x_bad = x_goto 33 := rfl
theorem kX1_meets_32 : List.getD tX1_meets 32 x_bad = x_push (.int (nI 0)) 1 := rfl
theorem kX1_meets_33 : List.getD tX1_meets 33 x_bad = x_zret := rfl
def tX1_put : List PT := [x_iload 1 1, x_push (.int (nI 64)) 2, x_bad, x_icmp (fun a b => b ≤ a) 21, x_bad, x_bad, x_aload 0 1, x_dup, x_getL 1 0, x_bad, x_bad, x_push (.long 1) 1, x_iload 1 1, x_li (fun a b => a <<< (b.toInt64 &&& 63)), x_ll (fun a b => a ||| b), x_putL 1 0, x_bad, x_bad, x_goto 36, x_bad, x_bad, x_aload 0 1, x_dup, x_getL 1 1, x_bad, x_bad, x_push (.long 1) 1, x_iload 1 1, x_push (.int (nI 64)) 2, x_bad, x_ii (fun a b => a - b), x_li (fun a b => a <<< (b.toInt64 &&& 63)), x_ll (fun a b => a ||| b), x_putL 1 1, x_bad, x_bad, x_vret]
set_option maxRecDepth 20000 in
theorem okX1_put : SndT RX1 cX1_put mX1_put.2.2.1 mX1_put.2.2.2.2.1 mX1_put.2.2.2.2.2 false mX1_put.2.2.2.1 0 tX1_put := ⟨s_iload_n (k := 1) (i := 1) (by decide +kernel) rfl, s_bipush (n := 64) (by decide +kernel) (by decide +kernel), s_bad, s_icmp_ge (off := 18) (by decide +kernel) (by decide), s_bad, s_bad, s_aload_n (k := 0) (i := 0) (by decide +kernel) rfl, s_dup (by decide +kernel), s_getL (by decide +kernel) fl_RX1_7 rfl, s_bad, s_bad, s_lconst (n := 1) (by decide +kernel) (by decide +kernel), s_iload_n (k := 1) (i := 1) (by decide +kernel) rfl, s_lshl (by decide +kernel), s_lor (by decide +kernel), s_putL (by decide +kernel) fl_RX1_7 fp_1_0 rfl, s_bad, s_bad, s_goto (off := 18) (by decide +kernel) (by decide), s_bad, s_bad, s_aload_n (k := 0) (i := 0) (by decide +kernel) rfl, s_dup (by decide +kernel), s_getL (by decide +kernel) fl_RX1_13 rfl, s_bad, s_bad, s_lconst (n := 1) (by decide +kernel) (by decide +kernel), s_iload_n (k := 1) (i := 1) (by decide +kernel) rfl, s_bipush (n := 64) (by decide +kernel) (by decide +kernel), s_bad, s_isub (by decide +kernel), s_lshl (by decide +kernel), s_lor (by decide +kernel), s_putL (by decide +kernel) fl_RX1_13 fp_1_1 rfl, s_bad, s_bad, s_vret (by decide +kernel) rfl, trivial⟩
theorem kX1_put_0 : List.getD tX1_put 0 x_bad = x_iload 1 1 := rfl
theorem kX1_put_1 : List.getD tX1_put 1 x_bad = x_push (.int (nI 64)) 2 := rfl
theorem kX1_put_3 : List.getD tX1_put 3 x_bad = x_icmp (fun a b => b ≤ a) 21 := rfl
theorem kX1_put_6 : List.getD tX1_put 6 x_bad = x_aload 0 1 := rfl
theorem kX1_put_7 : List.getD tX1_put 7 x_bad = x_dup := rfl
theorem kX1_put_8 : List.getD tX1_put 8 x_bad = x_getL 1 0 := rfl
theorem kX1_put_11 : List.getD tX1_put 11 x_bad = x_push (.long 1) 1 := rfl
theorem kX1_put_12 : List.getD tX1_put 12 x_bad = x_iload 1 1 := rfl
theorem kX1_put_13 : List.getD tX1_put 13 x_bad = x_li (fun a b => a <<< (b.toInt64 &&& 63)) := rfl
theorem kX1_put_14 : List.getD tX1_put 14 x_bad = x_ll (fun a b => a ||| b) := rfl
theorem kX1_put_15 : List.getD tX1_put 15 x_bad = x_putL 1 0 := rfl
theorem kX1_put_18 : List.getD tX1_put 18 x_bad = x_goto 36 := rfl
theorem kX1_put_21 : List.getD tX1_put 21 x_bad = x_aload 0 1 := rfl
theorem kX1_put_22 : List.getD tX1_put 22 x_bad = x_dup := rfl
theorem kX1_put_23 : List.getD tX1_put 23 x_bad = x_getL 1 1 := rfl
theorem kX1_put_26 : List.getD tX1_put 26 x_bad = x_push (.long 1) 1 := rfl
theorem kX1_put_27 : List.getD tX1_put 27 x_bad = x_iload 1 1 := rfl
theorem kX1_put_28 : List.getD tX1_put 28 x_bad = x_push (.int (nI 64)) 2 := rfl
theorem kX1_put_30 : List.getD tX1_put 30 x_bad = x_ii (fun a b => a - b) := rfl
theorem kX1_put_31 : List.getD tX1_put 31 x_bad = x_li (fun a b => a <<< (b.toInt64 &&& 63)) := rfl
theorem kX1_put_32 : List.getD tX1_put 32 x_bad = x_ll (fun a b => a ||| b) := rfl
theorem kX1_put_33 : List.getD tX1_put 33 x_bad = x_putL 1 1 := rfl
theorem kX1_put_36 : List.getD tX1_put 36 x_bad = x_vret := rfl
def tX1_remove : List PT := [x_aload 0 1, x_aload 0 1, x_getL 1 0, x_bad, x_bad, x_aload 1 1, x_getL 1 0, x_bad, x_bad, x_push (.long (-1)) 3, x_bad, x_bad, x_ll (fun a b => a ^^^ b), x_ll (fun a b => a &&& b), x_putL 1 0, x_bad, x_bad, x_aload 0 1, x_aload 0 1, x_getL 1 1, x_bad, x_bad, x_aload 1 1, x_getL 1 1, x_bad, x_bad, x_push (.long (-1)) 3, x_bad, x_bad, x_ll (fun a b => a ^^^ b), x_ll (fun a b => a &&& b), x_putL 1 1, x_bad, x_bad, x_vret]
set_option maxRecDepth 20000 in
theorem okX1_remove : SndT RX1 cX1_remove mX1_remove.2.2.1 mX1_remove.2.2.2.2.1 mX1_remove.2.2.2.2.2 false mX1_remove.2.2.2.1 0 tX1_remove := ⟨s_aload_n (k := 0) (i := 0) (by decide +kernel) rfl, s_aload_n (k := 0) (i := 0) (by decide +kernel) rfl, s_getL (by decide +kernel) fl_RX1_7 rfl, s_bad, s_bad, s_aload_n (k := 1) (i := 1) (by decide +kernel) rfl, s_getL (by decide +kernel) fl_RX1_7 rfl, s_bad, s_bad, s_ldc2 (by decide +kernel) tb_634, s_bad, s_bad, s_lxor (by decide +kernel), s_land (by decide +kernel), s_putL (by decide +kernel) fl_RX1_7 fp_1_0 rfl, s_bad, s_bad, s_aload_n (k := 0) (i := 0) (by decide +kernel) rfl, s_aload_n (k := 0) (i := 0) (by decide +kernel) rfl, s_getL (by decide +kernel) fl_RX1_13 rfl, s_bad, s_bad, s_aload_n (k := 1) (i := 1) (by decide +kernel) rfl, s_getL (by decide +kernel) fl_RX1_13 rfl, s_bad, s_bad, s_ldc2 (by decide +kernel) tb_634, s_bad, s_bad, s_lxor (by decide +kernel), s_land (by decide +kernel), s_putL (by decide +kernel) fl_RX1_13 fp_1_1 rfl, s_bad, s_bad, s_vret (by decide +kernel) rfl, trivial⟩
theorem kX1_remove_0 : List.getD tX1_remove 0 x_bad = x_aload 0 1 := rfl
theorem kX1_remove_1 : List.getD tX1_remove 1 x_bad = x_aload 0 1 := rfl
theorem kX1_remove_2 : List.getD tX1_remove 2 x_bad = x_getL 1 0 := rfl
theorem kX1_remove_5 : List.getD tX1_remove 5 x_bad = x_aload 1 1 := rfl
theorem kX1_remove_6 : List.getD tX1_remove 6 x_bad = x_getL 1 0 := rfl
theorem kX1_remove_9 : List.getD tX1_remove 9 x_bad = x_push (.long (-1)) 3 := rfl
theorem kX1_remove_12 : List.getD tX1_remove 12 x_bad = x_ll (fun a b => a ^^^ b) := rfl
theorem kX1_remove_13 : List.getD tX1_remove 13 x_bad = x_ll (fun a b => a &&& b) := rfl
theorem kX1_remove_14 : List.getD tX1_remove 14 x_bad = x_putL 1 0 := rfl
theorem kX1_remove_17 : List.getD tX1_remove 17 x_bad = x_aload 0 1 := rfl
theorem kX1_remove_18 : List.getD tX1_remove 18 x_bad = x_aload 0 1 := rfl
theorem kX1_remove_19 : List.getD tX1_remove 19 x_bad = x_getL 1 1 := rfl
theorem kX1_remove_22 : List.getD tX1_remove 22 x_bad = x_aload 1 1 := rfl
theorem kX1_remove_23 : List.getD tX1_remove 23 x_bad = x_getL 1 1 := rfl
theorem kX1_remove_26 : List.getD tX1_remove 26 x_bad = x_push (.long (-1)) 3 := rfl
theorem kX1_remove_29 : List.getD tX1_remove 29 x_bad = x_ll (fun a b => a ^^^ b) := rfl
theorem kX1_remove_30 : List.getD tX1_remove 30 x_bad = x_ll (fun a b => a &&& b) := rfl
theorem kX1_remove_31 : List.getD tX1_remove 31 x_bad = x_putL 1 1 := rfl
theorem kX1_remove_34 : List.getD tX1_remove 34 x_bad = x_vret := rfl
def tX1_same : List PT := [x_aload 0 1, x_getL 1 0, x_bad, x_bad, x_aload 1 1, x_getL 1 0, x_bad, x_bad, x_lcmp, x_ifn (fun a => a = 0) 28, x_bad, x_bad, x_aload 0 1, x_getL 1 1, x_bad, x_bad, x_aload 1 1, x_getL 1 1, x_bad, x_bad, x_lcmp, x_ifn (fun a => a = 0) 28, x_bad, x_bad, x_push (.int (nI 1)) 1, x_goto 29, x_bad, x_bad, x_push (.int (nI 0)) 1, x_zret]
set_option maxRecDepth 20000 in
theorem okX1_same : SndT RX1 cX1_same mX1_same.2.2.1 mX1_same.2.2.2.2.1 mX1_same.2.2.2.2.2 false mX1_same.2.2.2.1 0 tX1_same := ⟨s_aload_n (k := 0) (i := 0) (by decide +kernel) rfl, s_getL (by decide +kernel) fl_RX1_7 rfl, s_bad, s_bad, s_aload_n (k := 1) (i := 1) (by decide +kernel) rfl, s_getL (by decide +kernel) fl_RX1_7 rfl, s_bad, s_bad, s_lcmp (by decide +kernel), s_if_ne (off := 19) (by decide +kernel) (by decide), s_bad, s_bad, s_aload_n (k := 0) (i := 0) (by decide +kernel) rfl, s_getL (by decide +kernel) fl_RX1_13 rfl, s_bad, s_bad, s_aload_n (k := 1) (i := 1) (by decide +kernel) rfl, s_getL (by decide +kernel) fl_RX1_13 rfl, s_bad, s_bad, s_lcmp (by decide +kernel), s_if_ne (off := 7) (by decide +kernel) (by decide), s_bad, s_bad, s_iconst (n := 1) (by decide +kernel) (by decide +kernel), s_goto (off := 4) (by decide +kernel) (by decide), s_bad, s_bad, s_iconst (n := 0) (by decide +kernel) (by decide +kernel), s_zret (by decide +kernel) rfl, trivial⟩
theorem kX1_same_0 : List.getD tX1_same 0 x_bad = x_aload 0 1 := rfl
theorem kX1_same_1 : List.getD tX1_same 1 x_bad = x_getL 1 0 := rfl
theorem kX1_same_4 : List.getD tX1_same 4 x_bad = x_aload 1 1 := rfl
theorem kX1_same_5 : List.getD tX1_same 5 x_bad = x_getL 1 0 := rfl
theorem kX1_same_8 : List.getD tX1_same 8 x_bad = x_lcmp := rfl
theorem kX1_same_9 : List.getD tX1_same 9 x_bad = x_ifn (fun a => a = 0) 28 := rfl
theorem kX1_same_12 : List.getD tX1_same 12 x_bad = x_aload 0 1 := rfl
theorem kX1_same_13 : List.getD tX1_same 13 x_bad = x_getL 1 1 := rfl
theorem kX1_same_16 : List.getD tX1_same 16 x_bad = x_aload 1 1 := rfl
theorem kX1_same_17 : List.getD tX1_same 17 x_bad = x_getL 1 1 := rfl
theorem kX1_same_20 : List.getD tX1_same 20 x_bad = x_lcmp := rfl
theorem kX1_same_21 : List.getD tX1_same 21 x_bad = x_ifn (fun a => a = 0) 28 := rfl
theorem kX1_same_24 : List.getD tX1_same 24 x_bad = x_push (.int (nI 1)) 1 := rfl
theorem kX1_same_25 : List.getD tX1_same 25 x_bad = x_goto 29 := rfl
theorem kX1_same_28 : List.getD tX1_same 28 x_bad = x_push (.int (nI 0)) 1 := rfl
theorem kX1_same_29 : List.getD tX1_same 29 x_bad = x_zret := rfl
def tX2_begin : List PT := [x_aload 0 1, x_push (.int (nI 0)) 1, x_putI 2 0, x_bad, x_bad, x_aload 0 1, x_push (.int (nI 0)) 1, x_putI 2 1, x_bad, x_bad, x_aload 0 1, x_push (.int (nI 0)) 1, x_putI 2 2, x_bad, x_bad, x_vret]
set_option maxRecDepth 20000 in
theorem okX2_begin : SndT RX2 cX2_begin mX2_begin.2.2.1 mX2_begin.2.2.2.2.1 mX2_begin.2.2.2.2.2 false mX2_begin.2.2.2.1 0 tX2_begin := ⟨s_aload_n (k := 0) (i := 0) (by decide +kernel) rfl, s_iconst (n := 0) (by decide +kernel) (by decide +kernel), s_putI (by decide +kernel) fl_RX2_7 fp_2_0 rfl, s_bad, s_bad, s_aload_n (k := 0) (i := 0) (by decide +kernel) rfl, s_iconst (n := 0) (by decide +kernel) (by decide +kernel), s_putI (by decide +kernel) fl_RX2_13 fp_2_1 rfl, s_bad, s_bad, s_aload_n (k := 0) (i := 0) (by decide +kernel) rfl, s_iconst (n := 0) (by decide +kernel) (by decide +kernel), s_putI (by decide +kernel) fl_RX2_16 fp_2_2 rfl, s_bad, s_bad, s_vret (by decide +kernel) rfl, trivial⟩
theorem kX2_begin_0 : List.getD tX2_begin 0 x_bad = x_aload 0 1 := rfl
theorem kX2_begin_1 : List.getD tX2_begin 1 x_bad = x_push (.int (nI 0)) 1 := rfl
theorem kX2_begin_2 : List.getD tX2_begin 2 x_bad = x_putI 2 0 := rfl
theorem kX2_begin_5 : List.getD tX2_begin 5 x_bad = x_aload 0 1 := rfl
theorem kX2_begin_6 : List.getD tX2_begin 6 x_bad = x_push (.int (nI 0)) 1 := rfl
theorem kX2_begin_7 : List.getD tX2_begin 7 x_bad = x_putI 2 1 := rfl
theorem kX2_begin_10 : List.getD tX2_begin 10 x_bad = x_aload 0 1 := rfl
theorem kX2_begin_11 : List.getD tX2_begin 11 x_bad = x_push (.int (nI 0)) 1 := rfl
theorem kX2_begin_12 : List.getD tX2_begin 12 x_bad = x_putI 2 2 := rfl
theorem kX2_begin_15 : List.getD tX2_begin 15 x_bad = x_vret := rfl
def tX2_mixed : List PT := [x_aload 0 1, x_getI 2 0, x_bad, x_bad, x_aload 0 1, x_getI 2 1, x_bad, x_bad, x_ii (fun a b => a &&& b), x_aload 0 1, x_getI 2 0, x_bad, x_bad, x_aload 0 1, x_getI 2 2, x_bad, x_bad, x_ii (fun a b => a &&& b), x_ii (fun a b => a ||| b), x_aload 0 1, x_getI 2 1, x_bad, x_bad, x_aload 0 1, x_getI 2 2, x_bad, x_bad, x_ii (fun a b => a &&& b), x_ii (fun a b => a ||| b), x_iret]
set_option maxRecDepth 20000 in
theorem okX2_mixed : SndT RX2 cX2_mixed mX2_mixed.2.2.1 mX2_mixed.2.2.2.2.1 mX2_mixed.2.2.2.2.2 false mX2_mixed.2.2.2.1 0 tX2_mixed := ⟨s_aload_n (k := 0) (i := 0) (by decide +kernel) rfl, s_getI (by decide +kernel) fl_RX2_7 rfl, s_bad, s_bad, s_aload_n (k := 0) (i := 0) (by decide +kernel) rfl, s_getI (by decide +kernel) fl_RX2_13 rfl, s_bad, s_bad, s_iand (by decide +kernel), s_aload_n (k := 0) (i := 0) (by decide +kernel) rfl, s_getI (by decide +kernel) fl_RX2_7 rfl, s_bad, s_bad, s_aload_n (k := 0) (i := 0) (by decide +kernel) rfl, s_getI (by decide +kernel) fl_RX2_16 rfl, s_bad, s_bad, s_iand (by decide +kernel), s_ior (by decide +kernel), s_aload_n (k := 0) (i := 0) (by decide +kernel) rfl, s_getI (by decide +kernel) fl_RX2_13 rfl, s_bad, s_bad, s_aload_n (k := 0) (i := 0) (by decide +kernel) rfl, s_getI (by decide +kernel) fl_RX2_16 rfl, s_bad, s_bad, s_iand (by decide +kernel), s_ior (by decide +kernel), s_iret (by decide +kernel) rfl, trivial⟩
theorem kX2_mixed_0 : List.getD tX2_mixed 0 x_bad = x_aload 0 1 := rfl
theorem kX2_mixed_1 : List.getD tX2_mixed 1 x_bad = x_getI 2 0 := rfl
theorem kX2_mixed_4 : List.getD tX2_mixed 4 x_bad = x_aload 0 1 := rfl
theorem kX2_mixed_5 : List.getD tX2_mixed 5 x_bad = x_getI 2 1 := rfl
theorem kX2_mixed_8 : List.getD tX2_mixed 8 x_bad = x_ii (fun a b => a &&& b) := rfl
theorem kX2_mixed_9 : List.getD tX2_mixed 9 x_bad = x_aload 0 1 := rfl
theorem kX2_mixed_10 : List.getD tX2_mixed 10 x_bad = x_getI 2 0 := rfl
theorem kX2_mixed_13 : List.getD tX2_mixed 13 x_bad = x_aload 0 1 := rfl
theorem kX2_mixed_14 : List.getD tX2_mixed 14 x_bad = x_getI 2 2 := rfl
theorem kX2_mixed_17 : List.getD tX2_mixed 17 x_bad = x_ii (fun a b => a &&& b) := rfl
theorem kX2_mixed_18 : List.getD tX2_mixed 18 x_bad = x_ii (fun a b => a ||| b) := rfl
theorem kX2_mixed_19 : List.getD tX2_mixed 19 x_bad = x_aload 0 1 := rfl
theorem kX2_mixed_20 : List.getD tX2_mixed 20 x_bad = x_getI 2 1 := rfl
theorem kX2_mixed_23 : List.getD tX2_mixed 23 x_bad = x_aload 0 1 := rfl
theorem kX2_mixed_24 : List.getD tX2_mixed 24 x_bad = x_getI 2 2 := rfl
theorem kX2_mixed_27 : List.getD tX2_mixed 27 x_bad = x_ii (fun a b => a &&& b) := rfl
theorem kX2_mixed_28 : List.getD tX2_mixed 28 x_bad = x_ii (fun a b => a ||| b) := rfl
theorem kX2_mixed_29 : List.getD tX2_mixed 29 x_bad = x_iret := rfl
def tX2_take : List PT := [x_push (.int (nI 1)) 1, x_aload 1 1, x_getR 3 3, x_bad, x_bad, x_iload 2 1, x_iald, x_ii (fun a b => a <<< (b &&& 31)), x_istore 4 2, x_bad, x_iload 3 1, x_aload 1 1, x_getR 3 2, x_bad, x_bad, x_iload 2 1, x_iald, x_ii (fun a b => a >>> (b &&& 31)), x_push (.int (nI 1)) 1, x_ii (fun a b => a &&& b), x_istore 5 2, x_bad, x_iload 3 1, x_aload 1 1, x_getR 3 4, x_bad, x_bad, x_iload 2 1, x_iald, x_ii (fun a b => a >>> (b &&& 31)), x_push (.int (nI 1)) 1, x_ii (fun a b => a &&& b), x_istore 6 2, x_bad, x_iload 5 2, x_bad, x_iload 6 2, x_bad, x_icmpn (fun a b => a = b) 55, x_bad, x_bad, x_aload 0 1, x_dup, x_getI 2 2, x_bad, x_bad, x_iload 4 2, x_bad, x_ii (fun a b => a ||| b), x_putI 2 2, x_bad, x_bad, x_goto 86, x_bad, x_bad, x_iload 6 2, x_bad, x_push (.int (nI 1)) 1, x_icmpn (fun a b => a = b) 75, x_bad, x_bad, x_aload 0 1, x_dup, x_getI 2 0, x_bad, x_bad, x_iload 4 2, x_bad, x_ii (fun a b => a ||| b), x_putI 2 0, x_bad, x_bad, x_goto 86, x_bad, x_bad, x_aload 0 1, x_dup, x_getI 2 1, x_bad, x_bad, x_iload 4 2, x_bad, x_ii (fun a b => a ||| b), x_putI 2 1, x_bad, x_bad, x_vret]
set_option maxRecDepth 20000 in
theorem okX2_take : SndT RX2 cX2_take mX2_take.2.2.1 mX2_take.2.2.2.2.1 mX2_take.2.2.2.2.2 false mX2_take.2.2.2.1 0 tX2_take := ⟨s_iconst (n := 1) (by decide +kernel) (by decide +kernel), s_aload_n (k := 1) (i := 1) (by decide +kernel) rfl, s_getR (by decide +kernel) fl_RX2_35 rfl, s_bad, s_bad, s_iload_n (k := 2) (i := 2) (by decide +kernel) rfl, s_iald (by decide +kernel), s_ishl (by decide +kernel), s_istore (by decide +kernel) (by decide), s_bad, s_iload_n (k := 3) (i := 3) (by decide +kernel) rfl, s_aload_n (k := 1) (i := 1) (by decide +kernel) rfl, s_getR (by decide +kernel) fl_RX2_39 rfl, s_bad, s_bad, s_iload_n (k := 2) (i := 2) (by decide +kernel) rfl, s_iald (by decide +kernel), s_ishr (by decide +kernel), s_iconst (n := 1) (by decide +kernel) (by decide +kernel), s_iand (by decide +kernel), s_istore (by decide +kernel) (by decide), s_bad, s_iload_n (k := 3) (i := 3) (by decide +kernel) rfl, s_aload_n (k := 1) (i := 1) (by decide +kernel) rfl, s_getR (by decide +kernel) fl_RX2_42 rfl, s_bad, s_bad, s_iload_n (k := 2) (i := 2) (by decide +kernel) rfl, s_iald (by decide +kernel), s_ishr (by decide +kernel), s_iconst (n := 1) (by decide +kernel) (by decide +kernel), s_iand (by decide +kernel), s_istore (by decide +kernel) (by decide), s_bad, s_iload (by decide +kernel), s_bad, s_iload (by decide +kernel), s_bad, s_icmp_ne (off := 17) (by decide +kernel) (by decide), s_bad, s_bad, s_aload_n (k := 0) (i := 0) (by decide +kernel) rfl, s_dup (by decide +kernel), s_getI (by decide +kernel) fl_RX2_16 rfl, s_bad, s_bad, s_iload (by decide +kernel), s_bad, s_ior (by decide +kernel), s_putI (by decide +kernel) fl_RX2_16 fp_2_2 rfl, s_bad, s_bad, s_goto (off := 34) (by decide +kernel) (by decide), s_bad, s_bad, s_iload (by decide +kernel), s_bad, s_iconst (n := 1) (by decide +kernel) (by decide +kernel), s_icmp_ne (off := 17) (by decide +kernel) (by decide), s_bad, s_bad, s_aload_n (k := 0) (i := 0) (by decide +kernel) rfl, s_dup (by decide +kernel), s_getI (by decide +kernel) fl_RX2_7 rfl, s_bad, s_bad, s_iload (by decide +kernel), s_bad, s_ior (by decide +kernel), s_putI (by decide +kernel) fl_RX2_7 fp_2_0 rfl, s_bad, s_bad, s_goto (off := 14) (by decide +kernel) (by decide), s_bad, s_bad, s_aload_n (k := 0) (i := 0) (by decide +kernel) rfl, s_dup (by decide +kernel), s_getI (by decide +kernel) fl_RX2_13 rfl, s_bad, s_bad, s_iload (by decide +kernel), s_bad, s_ior (by decide +kernel), s_putI (by decide +kernel) fl_RX2_13 fp_2_1 rfl, s_bad, s_bad, s_vret (by decide +kernel) rfl, trivial⟩
theorem kX2_take_0 : List.getD tX2_take 0 x_bad = x_push (.int (nI 1)) 1 := rfl
theorem kX2_take_1 : List.getD tX2_take 1 x_bad = x_aload 1 1 := rfl
theorem kX2_take_2 : List.getD tX2_take 2 x_bad = x_getR 3 3 := rfl
theorem kX2_take_5 : List.getD tX2_take 5 x_bad = x_iload 2 1 := rfl
theorem kX2_take_6 : List.getD tX2_take 6 x_bad = x_iald := rfl
theorem kX2_take_7 : List.getD tX2_take 7 x_bad = x_ii (fun a b => a <<< (b &&& 31)) := rfl
theorem kX2_take_8 : List.getD tX2_take 8 x_bad = x_istore 4 2 := rfl
theorem kX2_take_10 : List.getD tX2_take 10 x_bad = x_iload 3 1 := rfl
theorem kX2_take_11 : List.getD tX2_take 11 x_bad = x_aload 1 1 := rfl
theorem kX2_take_12 : List.getD tX2_take 12 x_bad = x_getR 3 2 := rfl
theorem kX2_take_15 : List.getD tX2_take 15 x_bad = x_iload 2 1 := rfl
theorem kX2_take_16 : List.getD tX2_take 16 x_bad = x_iald := rfl
theorem kX2_take_17 : List.getD tX2_take 17 x_bad = x_ii (fun a b => a >>> (b &&& 31)) := rfl
theorem kX2_take_18 : List.getD tX2_take 18 x_bad = x_push (.int (nI 1)) 1 := rfl
theorem kX2_take_19 : List.getD tX2_take 19 x_bad = x_ii (fun a b => a &&& b) := rfl
theorem kX2_take_20 : List.getD tX2_take 20 x_bad = x_istore 5 2 := rfl
theorem kX2_take_22 : List.getD tX2_take 22 x_bad = x_iload 3 1 := rfl
theorem kX2_take_23 : List.getD tX2_take 23 x_bad = x_aload 1 1 := rfl
theorem kX2_take_24 : List.getD tX2_take 24 x_bad = x_getR 3 4 := rfl
theorem kX2_take_27 : List.getD tX2_take 27 x_bad = x_iload 2 1 := rfl
theorem kX2_take_28 : List.getD tX2_take 28 x_bad = x_iald := rfl
theorem kX2_take_29 : List.getD tX2_take 29 x_bad = x_ii (fun a b => a >>> (b &&& 31)) := rfl
theorem kX2_take_30 : List.getD tX2_take 30 x_bad = x_push (.int (nI 1)) 1 := rfl
theorem kX2_take_31 : List.getD tX2_take 31 x_bad = x_ii (fun a b => a &&& b) := rfl
theorem kX2_take_32 : List.getD tX2_take 32 x_bad = x_istore 6 2 := rfl
theorem kX2_take_34 : List.getD tX2_take 34 x_bad = x_iload 5 2 := rfl
theorem kX2_take_36 : List.getD tX2_take 36 x_bad = x_iload 6 2 := rfl
theorem kX2_take_38 : List.getD tX2_take 38 x_bad = x_icmpn (fun a b => a = b) 55 := rfl
theorem kX2_take_41 : List.getD tX2_take 41 x_bad = x_aload 0 1 := rfl
theorem kX2_take_42 : List.getD tX2_take 42 x_bad = x_dup := rfl
theorem kX2_take_43 : List.getD tX2_take 43 x_bad = x_getI 2 2 := rfl
theorem kX2_take_46 : List.getD tX2_take 46 x_bad = x_iload 4 2 := rfl
theorem kX2_take_48 : List.getD tX2_take 48 x_bad = x_ii (fun a b => a ||| b) := rfl
theorem kX2_take_49 : List.getD tX2_take 49 x_bad = x_putI 2 2 := rfl
theorem kX2_take_52 : List.getD tX2_take 52 x_bad = x_goto 86 := rfl
theorem kX2_take_55 : List.getD tX2_take 55 x_bad = x_iload 6 2 := rfl
theorem kX2_take_57 : List.getD tX2_take 57 x_bad = x_push (.int (nI 1)) 1 := rfl
theorem kX2_take_58 : List.getD tX2_take 58 x_bad = x_icmpn (fun a b => a = b) 75 := rfl
theorem kX2_take_61 : List.getD tX2_take 61 x_bad = x_aload 0 1 := rfl
theorem kX2_take_62 : List.getD tX2_take 62 x_bad = x_dup := rfl
theorem kX2_take_63 : List.getD tX2_take 63 x_bad = x_getI 2 0 := rfl
theorem kX2_take_66 : List.getD tX2_take 66 x_bad = x_iload 4 2 := rfl
theorem kX2_take_68 : List.getD tX2_take 68 x_bad = x_ii (fun a b => a ||| b) := rfl
theorem kX2_take_69 : List.getD tX2_take 69 x_bad = x_putI 2 0 := rfl
theorem kX2_take_72 : List.getD tX2_take 72 x_bad = x_goto 86 := rfl
theorem kX2_take_75 : List.getD tX2_take 75 x_bad = x_aload 0 1 := rfl
theorem kX2_take_76 : List.getD tX2_take 76 x_bad = x_dup := rfl
theorem kX2_take_77 : List.getD tX2_take 77 x_bad = x_getI 2 1 := rfl
theorem kX2_take_80 : List.getD tX2_take 80 x_bad = x_iload 4 2 := rfl
theorem kX2_take_82 : List.getD tX2_take 82 x_bad = x_ii (fun a b => a ||| b) := rfl
theorem kX2_take_83 : List.getD tX2_take 83 x_bad = x_putI 2 1 := rfl
theorem kX2_take_86 : List.getD tX2_take 86 x_bad = x_vret := rfl
def tX3_allStates : List PT := [x_push (.int (nI 1)) 1, x_aload 0 1, x_getI 3 0, x_bad, x_bad, x_ii (fun a b => a <<< (b &&& 31)), x_push (.int (nI 1)) 1, x_ii (fun a b => a - b), x_iret]
set_option maxRecDepth 20000 in
theorem okX3_allStates : SndT RX3 cX3_allStates mX3_allStates.2.2.1 mX3_allStates.2.2.2.2.1 mX3_allStates.2.2.2.2.2 false mX3_allStates.2.2.2.1 0 tX3_allStates := ⟨s_iconst (n := 1) (by decide +kernel) (by decide +kernel), s_aload_n (k := 0) (i := 0) (by decide +kernel) rfl, s_getI (by decide +kernel) fl_RX3_9 rfl, s_bad, s_bad, s_ishl (by decide +kernel), s_iconst (n := 1) (by decide +kernel) (by decide +kernel), s_isub (by decide +kernel), s_iret (by decide +kernel) rfl, trivial⟩
theorem kX3_allStates_0 : List.getD tX3_allStates 0 x_bad = x_push (.int (nI 1)) 1 := rfl
theorem kX3_allStates_1 : List.getD tX3_allStates 1 x_bad = x_aload 0 1 := rfl
theorem kX3_allStates_2 : List.getD tX3_allStates 2 x_bad = x_getI 3 0 := rfl
theorem kX3_allStates_5 : List.getD tX3_allStates 5 x_bad = x_ii (fun a b => a <<< (b &&& 31)) := rfl
theorem kX3_allStates_6 : List.getD tX3_allStates 6 x_bad = x_push (.int (nI 1)) 1 := rfl
theorem kX3_allStates_7 : List.getD tX3_allStates 7 x_bad = x_ii (fun a b => a - b) := rfl
theorem kX3_allStates_8 : List.getD tX3_allStates 8 x_bad = x_iret := rfl
def tX3_append : List PT := [x_aload 0 1, x_getI 3 1, x_bad, x_bad, x_push (.int (nI 24)) 2, x_bad, x_icmp (fun a b => b ≤ a) 49, x_bad, x_bad, x_aload 0 1, x_getR 3 2, x_bad, x_bad, x_aload 0 1, x_getI 3 1, x_bad, x_bad, x_iload 1 1, x_iast, x_aload 0 1, x_getR 3 3, x_bad, x_bad, x_aload 0 1, x_getI 3 1, x_bad, x_bad, x_iload 2 1, x_iast, x_aload 0 1, x_getR 3 4, x_bad, x_bad, x_aload 0 1, x_getI 3 1, x_bad, x_bad, x_iload 3 1, x_iast, x_aload 0 1, x_dup, x_getI 3 1, x_bad, x_bad, x_push (.int (nI 1)) 1, x_ii (fun a b => a + b), x_putI 3 1, x_bad, x_bad, x_vret]
set_option maxRecDepth 20000 in
theorem okX3_append : SndT RX3 cX3_append mX3_append.2.2.1 mX3_append.2.2.2.2.1 mX3_append.2.2.2.2.2 false mX3_append.2.2.2.1 0 tX3_append := ⟨s_aload_n (k := 0) (i := 0) (by decide +kernel) rfl, s_getI (by decide +kernel) fl_RX3_15 rfl, s_bad, s_bad, s_bipush (n := 24) (by decide +kernel) (by decide +kernel), s_bad, s_icmp_ge (off := 43) (by decide +kernel) (by decide), s_bad, s_bad, s_aload_n (k := 0) (i := 0) (by decide +kernel) rfl, s_getR (by decide +kernel) fl_RX3_18 rfl, s_bad, s_bad, s_aload_n (k := 0) (i := 0) (by decide +kernel) rfl, s_getI (by decide +kernel) fl_RX3_15 rfl, s_bad, s_bad, s_iload_n (k := 1) (i := 1) (by decide +kernel) rfl, s_iast (by decide +kernel), s_aload_n (k := 0) (i := 0) (by decide +kernel) rfl, s_getR (by decide +kernel) fl_RX3_22 rfl, s_bad, s_bad, s_aload_n (k := 0) (i := 0) (by decide +kernel) rfl, s_getI (by decide +kernel) fl_RX3_15 rfl, s_bad, s_bad, s_iload_n (k := 2) (i := 2) (by decide +kernel) rfl, s_iast (by decide +kernel), s_aload_n (k := 0) (i := 0) (by decide +kernel) rfl, s_getR (by decide +kernel) fl_RX3_25 rfl, s_bad, s_bad, s_aload_n (k := 0) (i := 0) (by decide +kernel) rfl, s_getI (by decide +kernel) fl_RX3_15 rfl, s_bad, s_bad, s_iload_n (k := 3) (i := 3) (by decide +kernel) rfl, s_iast (by decide +kernel), s_aload_n (k := 0) (i := 0) (by decide +kernel) rfl, s_dup (by decide +kernel), s_getI (by decide +kernel) fl_RX3_15 rfl, s_bad, s_bad, s_iconst (n := 1) (by decide +kernel) (by decide +kernel), s_iadd (by decide +kernel), s_putI (by decide +kernel) fl_RX3_15 fp_3_1 rfl, s_bad, s_bad, s_vret (by decide +kernel) rfl, trivial⟩
theorem kX3_append_0 : List.getD tX3_append 0 x_bad = x_aload 0 1 := rfl
theorem kX3_append_1 : List.getD tX3_append 1 x_bad = x_getI 3 1 := rfl
theorem kX3_append_4 : List.getD tX3_append 4 x_bad = x_push (.int (nI 24)) 2 := rfl
theorem kX3_append_6 : List.getD tX3_append 6 x_bad = x_icmp (fun a b => b ≤ a) 49 := rfl
theorem kX3_append_9 : List.getD tX3_append 9 x_bad = x_aload 0 1 := rfl
theorem kX3_append_10 : List.getD tX3_append 10 x_bad = x_getR 3 2 := rfl
theorem kX3_append_13 : List.getD tX3_append 13 x_bad = x_aload 0 1 := rfl
theorem kX3_append_14 : List.getD tX3_append 14 x_bad = x_getI 3 1 := rfl
theorem kX3_append_17 : List.getD tX3_append 17 x_bad = x_iload 1 1 := rfl
theorem kX3_append_18 : List.getD tX3_append 18 x_bad = x_iast := rfl
theorem kX3_append_19 : List.getD tX3_append 19 x_bad = x_aload 0 1 := rfl
theorem kX3_append_20 : List.getD tX3_append 20 x_bad = x_getR 3 3 := rfl
theorem kX3_append_23 : List.getD tX3_append 23 x_bad = x_aload 0 1 := rfl
theorem kX3_append_24 : List.getD tX3_append 24 x_bad = x_getI 3 1 := rfl
theorem kX3_append_27 : List.getD tX3_append 27 x_bad = x_iload 2 1 := rfl
theorem kX3_append_28 : List.getD tX3_append 28 x_bad = x_iast := rfl
theorem kX3_append_29 : List.getD tX3_append 29 x_bad = x_aload 0 1 := rfl
theorem kX3_append_30 : List.getD tX3_append 30 x_bad = x_getR 3 4 := rfl
theorem kX3_append_33 : List.getD tX3_append 33 x_bad = x_aload 0 1 := rfl
theorem kX3_append_34 : List.getD tX3_append 34 x_bad = x_getI 3 1 := rfl
theorem kX3_append_37 : List.getD tX3_append 37 x_bad = x_iload 3 1 := rfl
theorem kX3_append_38 : List.getD tX3_append 38 x_bad = x_iast := rfl
theorem kX3_append_39 : List.getD tX3_append 39 x_bad = x_aload 0 1 := rfl
theorem kX3_append_40 : List.getD tX3_append 40 x_bad = x_dup := rfl
theorem kX3_append_41 : List.getD tX3_append 41 x_bad = x_getI 3 1 := rfl
theorem kX3_append_44 : List.getD tX3_append 44 x_bad = x_push (.int (nI 1)) 1 := rfl
theorem kX3_append_45 : List.getD tX3_append 45 x_bad = x_ii (fun a b => a + b) := rfl
theorem kX3_append_46 : List.getD tX3_append 46 x_bad = x_putI 3 1 := rfl
theorem kX3_append_49 : List.getD tX3_append 49 x_bad = x_vret := rfl
def tX3_arcsWith : List PT := [x_push (.int (nI 0)) 1, x_istore 2 1, x_push (.int (nI 0)) 1, x_istore 3 1, x_iload 3 1, x_aload 0 1, x_getI 3 1, x_bad, x_bad, x_icmp (fun a b => b ≤ a) 31, x_bad, x_bad, x_aload 0 1, x_getR 3 3, x_bad, x_bad, x_iload 3 1, x_iald, x_iload 1 1, x_icmpn (fun a b => a = b) 25, x_bad, x_bad, x_iinc 2 (nI 1), x_bad, x_bad, x_iinc 3 (nI 1), x_bad, x_bad, x_goto 4, x_bad, x_bad, x_iload 2 1, x_iret]
set_option maxRecDepth 20000 in
theorem okX3_arcsWith : SndT RX3 cX3_arcsWith mX3_arcsWith.2.2.1 mX3_arcsWith.2.2.2.2.1 mX3_arcsWith.2.2.2.2.2 false mX3_arcsWith.2.2.2.1 0 tX3_arcsWith := ⟨s_iconst (n := 0) (by decide +kernel) (by decide +kernel), s_istore_n (k := 2) (i := 2) (by decide +kernel) rfl (by decide), s_iconst (n := 0) (by decide +kernel) (by decide +kernel), s_istore_n (k := 3) (i := 3) (by decide +kernel) rfl (by decide), s_iload_n (k := 3) (i := 3) (by decide +kernel) rfl, s_aload_n (k := 0) (i := 0) (by decide +kernel) rfl, s_getI (by decide +kernel) fl_RX3_15 rfl, s_bad, s_bad, s_icmp_ge (off := 22) (by decide +kernel) (by decide), s_bad, s_bad, s_aload_n (k := 0) (i := 0) (by decide +kernel) rfl, s_getR (by decide +kernel) fl_RX3_22 rfl, s_bad, s_bad, s_iload_n (k := 3) (i := 3) (by decide +kernel) rfl, s_iald (by decide +kernel), s_iload_n (k := 1) (i := 1) (by decide +kernel) rfl, s_icmp_ne (off := 6) (by decide +kernel) (by decide), s_bad, s_bad, s_iinc (n := 1) (by decide +kernel) (by decide +kernel) (by decide), s_bad, s_bad, s_iinc (n := 1) (by decide +kernel) (by decide +kernel) (by decide), s_bad, s_bad, s_goto (off := (-24)) (by decide +kernel) (by decide), s_bad, s_bad, s_iload_n (k := 2) (i := 2) (by decide +kernel) rfl, s_iret (by decide +kernel) rfl, trivial⟩
theorem kX3_arcsWith_0 : List.getD tX3_arcsWith 0 x_bad = x_push (.int (nI 0)) 1 := rfl
theorem kX3_arcsWith_1 : List.getD tX3_arcsWith 1 x_bad = x_istore 2 1 := rfl
theorem kX3_arcsWith_2 : List.getD tX3_arcsWith 2 x_bad = x_push (.int (nI 0)) 1 := rfl
theorem kX3_arcsWith_3 : List.getD tX3_arcsWith 3 x_bad = x_istore 3 1 := rfl
theorem kX3_arcsWith_4 : List.getD tX3_arcsWith 4 x_bad = x_iload 3 1 := rfl
theorem kX3_arcsWith_5 : List.getD tX3_arcsWith 5 x_bad = x_aload 0 1 := rfl
theorem kX3_arcsWith_6 : List.getD tX3_arcsWith 6 x_bad = x_getI 3 1 := rfl
theorem kX3_arcsWith_9 : List.getD tX3_arcsWith 9 x_bad = x_icmp (fun a b => b ≤ a) 31 := rfl
theorem kX3_arcsWith_12 : List.getD tX3_arcsWith 12 x_bad = x_aload 0 1 := rfl
theorem kX3_arcsWith_13 : List.getD tX3_arcsWith 13 x_bad = x_getR 3 3 := rfl
theorem kX3_arcsWith_16 : List.getD tX3_arcsWith 16 x_bad = x_iload 3 1 := rfl
theorem kX3_arcsWith_17 : List.getD tX3_arcsWith 17 x_bad = x_iald := rfl
theorem kX3_arcsWith_18 : List.getD tX3_arcsWith 18 x_bad = x_iload 1 1 := rfl
theorem kX3_arcsWith_19 : List.getD tX3_arcsWith 19 x_bad = x_icmpn (fun a b => a = b) 25 := rfl
theorem kX3_arcsWith_22 : List.getD tX3_arcsWith 22 x_bad = x_iinc 2 (nI 1) := rfl
theorem kX3_arcsWith_25 : List.getD tX3_arcsWith 25 x_bad = x_iinc 3 (nI 1) := rfl
theorem kX3_arcsWith_28 : List.getD tX3_arcsWith 28 x_bad = x_goto 4 := rfl
theorem kX3_arcsWith_31 : List.getD tX3_arcsWith 31 x_bad = x_iload 2 1 := rfl
theorem kX3_arcsWith_32 : List.getD tX3_arcsWith 32 x_bad = x_iret := rfl
def tX3_become : List PT := [x_aload 0 1, x_aload 1 1, x_getI 3 0, x_bad, x_bad, x_putI 3 0, x_bad, x_bad, x_aload 0 1, x_aload 1 1, x_getI 3 1, x_bad, x_bad, x_putI 3 1, x_bad, x_bad, x_push (.int (nI 0)) 1, x_istore 2 1, x_iload 2 1, x_aload 0 1, x_getI 3 1, x_bad, x_bad, x_icmp (fun a b => b ≤ a) 68, x_bad, x_bad, x_aload 0 1, x_getR 3 2, x_bad, x_bad, x_iload 2 1, x_aload 1 1, x_getR 3 2, x_bad, x_bad, x_iload 2 1, x_iald, x_iast, x_aload 0 1, x_getR 3 3, x_bad, x_bad, x_iload 2 1, x_aload 1 1, x_getR 3 3, x_bad, x_bad, x_iload 2 1, x_iald, x_iast, x_aload 0 1, x_getR 3 4, x_bad, x_bad, x_iload 2 1, x_aload 1 1, x_getR 3 4, x_bad, x_bad, x_iload 2 1, x_iald, x_iast, x_iinc 2 (nI 1), x_bad, x_bad, x_goto 18, x_bad, x_bad, x_vret]
set_option maxRecDepth 20000 in
theorem okX3_become : SndT RX3 cX3_become mX3_become.2.2.1 mX3_become.2.2.2.2.1 mX3_become.2.2.2.2.2 false mX3_become.2.2.2.1 0 tX3_become := ⟨s_aload_n (k := 0) (i := 0) (by decide +kernel) rfl, s_aload_n (k := 1) (i := 1) (by decide +kernel) rfl, s_getI (by decide +kernel) fl_RX3_9 rfl, s_bad, s_bad, s_putI (by decide +kernel) fl_RX3_9 fp_3_0 rfl, s_bad, s_bad, s_aload_n (k := 0) (i := 0) (by decide +kernel) rfl, s_aload_n (k := 1) (i := 1) (by decide +kernel) rfl, s_getI (by decide +kernel) fl_RX3_15 rfl, s_bad, s_bad, s_putI (by decide +kernel) fl_RX3_15 fp_3_1 rfl, s_bad, s_bad, s_iconst (n := 0) (by decide +kernel) (by decide +kernel), s_istore_n (k := 2) (i := 2) (by decide +kernel) rfl (by decide), s_iload_n (k := 2) (i := 2) (by decide +kernel) rfl, s_aload_n (k := 0) (i := 0) (by decide +kernel) rfl, s_getI (by decide +kernel) fl_RX3_15 rfl, s_bad, s_bad, s_icmp_ge (off := 45) (by decide +kernel) (by decide), s_bad, s_bad, s_aload_n (k := 0) (i := 0) (by decide +kernel) rfl, s_getR (by decide +kernel) fl_RX3_18 rfl, s_bad, s_bad, s_iload_n (k := 2) (i := 2) (by decide +kernel) rfl, s_aload_n (k := 1) (i := 1) (by decide +kernel) rfl, s_getR (by decide +kernel) fl_RX3_18 rfl, s_bad, s_bad, s_iload_n (k := 2) (i := 2) (by decide +kernel) rfl, s_iald (by decide +kernel), s_iast (by decide +kernel), s_aload_n (k := 0) (i := 0) (by decide +kernel) rfl, s_getR (by decide +kernel) fl_RX3_22 rfl, s_bad, s_bad, s_iload_n (k := 2) (i := 2) (by decide +kernel) rfl, s_aload_n (k := 1) (i := 1) (by decide +kernel) rfl, s_getR (by decide +kernel) fl_RX3_22 rfl, s_bad, s_bad, s_iload_n (k := 2) (i := 2) (by decide +kernel) rfl, s_iald (by decide +kernel), s_iast (by decide +kernel), s_aload_n (k := 0) (i := 0) (by decide +kernel) rfl, s_getR (by decide +kernel) fl_RX3_25 rfl, s_bad, s_bad, s_iload_n (k := 2) (i := 2) (by decide +kernel) rfl, s_aload_n (k := 1) (i := 1) (by decide +kernel) rfl, s_getR (by decide +kernel) fl_RX3_25 rfl, s_bad, s_bad, s_iload_n (k := 2) (i := 2) (by decide +kernel) rfl, s_iald (by decide +kernel), s_iast (by decide +kernel), s_iinc (n := 1) (by decide +kernel) (by decide +kernel) (by decide), s_bad, s_bad, s_goto (off := (-47)) (by decide +kernel) (by decide), s_bad, s_bad, s_vret (by decide +kernel) rfl, trivial⟩
theorem kX3_become_0 : List.getD tX3_become 0 x_bad = x_aload 0 1 := rfl
theorem kX3_become_1 : List.getD tX3_become 1 x_bad = x_aload 1 1 := rfl
theorem kX3_become_2 : List.getD tX3_become 2 x_bad = x_getI 3 0 := rfl
theorem kX3_become_5 : List.getD tX3_become 5 x_bad = x_putI 3 0 := rfl
theorem kX3_become_8 : List.getD tX3_become 8 x_bad = x_aload 0 1 := rfl
theorem kX3_become_9 : List.getD tX3_become 9 x_bad = x_aload 1 1 := rfl
theorem kX3_become_10 : List.getD tX3_become 10 x_bad = x_getI 3 1 := rfl
theorem kX3_become_13 : List.getD tX3_become 13 x_bad = x_putI 3 1 := rfl
theorem kX3_become_16 : List.getD tX3_become 16 x_bad = x_push (.int (nI 0)) 1 := rfl
theorem kX3_become_17 : List.getD tX3_become 17 x_bad = x_istore 2 1 := rfl
theorem kX3_become_18 : List.getD tX3_become 18 x_bad = x_iload 2 1 := rfl
theorem kX3_become_19 : List.getD tX3_become 19 x_bad = x_aload 0 1 := rfl
theorem kX3_become_20 : List.getD tX3_become 20 x_bad = x_getI 3 1 := rfl
theorem kX3_become_23 : List.getD tX3_become 23 x_bad = x_icmp (fun a b => b ≤ a) 68 := rfl
theorem kX3_become_26 : List.getD tX3_become 26 x_bad = x_aload 0 1 := rfl
theorem kX3_become_27 : List.getD tX3_become 27 x_bad = x_getR 3 2 := rfl
theorem kX3_become_30 : List.getD tX3_become 30 x_bad = x_iload 2 1 := rfl
theorem kX3_become_31 : List.getD tX3_become 31 x_bad = x_aload 1 1 := rfl
theorem kX3_become_32 : List.getD tX3_become 32 x_bad = x_getR 3 2 := rfl
theorem kX3_become_35 : List.getD tX3_become 35 x_bad = x_iload 2 1 := rfl
theorem kX3_become_36 : List.getD tX3_become 36 x_bad = x_iald := rfl
theorem kX3_become_37 : List.getD tX3_become 37 x_bad = x_iast := rfl
theorem kX3_become_38 : List.getD tX3_become 38 x_bad = x_aload 0 1 := rfl
theorem kX3_become_39 : List.getD tX3_become 39 x_bad = x_getR 3 3 := rfl
theorem kX3_become_42 : List.getD tX3_become 42 x_bad = x_iload 2 1 := rfl
theorem kX3_become_43 : List.getD tX3_become 43 x_bad = x_aload 1 1 := rfl
theorem kX3_become_44 : List.getD tX3_become 44 x_bad = x_getR 3 3 := rfl
theorem kX3_become_47 : List.getD tX3_become 47 x_bad = x_iload 2 1 := rfl
theorem kX3_become_48 : List.getD tX3_become 48 x_bad = x_iald := rfl
theorem kX3_become_49 : List.getD tX3_become 49 x_bad = x_iast := rfl
theorem kX3_become_50 : List.getD tX3_become 50 x_bad = x_aload 0 1 := rfl
theorem kX3_become_51 : List.getD tX3_become 51 x_bad = x_getR 3 4 := rfl
theorem kX3_become_54 : List.getD tX3_become 54 x_bad = x_iload 2 1 := rfl
theorem kX3_become_55 : List.getD tX3_become 55 x_bad = x_aload 1 1 := rfl
theorem kX3_become_56 : List.getD tX3_become 56 x_bad = x_getR 3 4 := rfl
theorem kX3_become_59 : List.getD tX3_become 59 x_bad = x_iload 2 1 := rfl
theorem kX3_become_60 : List.getD tX3_become 60 x_bad = x_iald := rfl
theorem kX3_become_61 : List.getD tX3_become 61 x_bad = x_iast := rfl
theorem kX3_become_62 : List.getD tX3_become 62 x_bad = x_iinc 2 (nI 1) := rfl
theorem kX3_become_65 : List.getD tX3_become 65 x_bad = x_goto 18 := rfl
theorem kX3_become_68 : List.getD tX3_become 68 x_bad = x_vret := rfl
def tX3_clear : List PT := [x_aload 0 1, x_push (.int (nI 1)) 1, x_putI 3 0, x_bad, x_bad, x_aload 0 1, x_push (.int (nI 0)) 1, x_putI 3 1, x_bad, x_bad, x_vret]
set_option maxRecDepth 20000 in
theorem okX3_clear : SndT RX3 cX3_clear mX3_clear.2.2.1 mX3_clear.2.2.2.2.1 mX3_clear.2.2.2.2.2 false mX3_clear.2.2.2.1 0 tX3_clear := ⟨s_aload_n (k := 0) (i := 0) (by decide +kernel) rfl, s_iconst (n := 1) (by decide +kernel) (by decide +kernel), s_putI (by decide +kernel) fl_RX3_9 fp_3_0 rfl, s_bad, s_bad, s_aload_n (k := 0) (i := 0) (by decide +kernel) rfl, s_iconst (n := 0) (by decide +kernel) (by decide +kernel), s_putI (by decide +kernel) fl_RX3_15 fp_3_1 rfl, s_bad, s_bad, s_vret (by decide +kernel) rfl, trivial⟩
theorem kX3_clear_0 : List.getD tX3_clear 0 x_bad = x_aload 0 1 := rfl
theorem kX3_clear_1 : List.getD tX3_clear 1 x_bad = x_push (.int (nI 1)) 1 := rfl
theorem kX3_clear_2 : List.getD tX3_clear 2 x_bad = x_putI 3 0 := rfl
theorem kX3_clear_5 : List.getD tX3_clear 5 x_bad = x_aload 0 1 := rfl
theorem kX3_clear_6 : List.getD tX3_clear 6 x_bad = x_push (.int (nI 0)) 1 := rfl
theorem kX3_clear_7 : List.getD tX3_clear 7 x_bad = x_putI 3 1 := rfl
theorem kX3_clear_10 : List.getD tX3_clear 10 x_bad = x_vret := rfl
def tX3_reachableStates : List PT := [x_push (.int (nI 1)) 1, x_istore 1 1, x_push (.int (nI 0)) 1, x_istore 2 1, x_iload 2 1, x_push (.int (nI 10)) 2, x_bad, x_icmp (fun a b => b ≤ a) 56, x_bad, x_bad, x_push (.int (nI 0)) 1, x_istore 3 1, x_iload 3 1, x_aload 0 1, x_getI 3 1, x_bad, x_bad, x_icmp (fun a b => b ≤ a) 50, x_bad, x_bad, x_iload 1 1, x_aload 0 1, x_getR 3 2, x_bad, x_bad, x_iload 3 1, x_iald, x_ii (fun a b => a >>> (b &&& 31)), x_push (.int (nI 1)) 1, x_ii (fun a b => a &&& b), x_if (fun a => a = 0) 44, x_bad, x_bad, x_iload 1 1, x_push (.int (nI 1)) 1, x_aload 0 1, x_getR 3 4, x_bad, x_bad, x_iload 3 1, x_iald, x_ii (fun a b => a <<< (b &&& 31)), x_ii (fun a b => a ||| b), x_istore 1 1, x_iinc 3 (nI 1), x_bad, x_bad, x_goto 12, x_bad, x_bad, x_iinc 2 (nI 1), x_bad, x_bad, x_goto 4, x_bad, x_bad, x_iload 1 1, x_iret]
set_option maxRecDepth 20000 in
theorem okX3_reachableStates : SndT RX3 cX3_reachableStates mX3_reachableStates.2.2.1 mX3_reachableStates.2.2.2.2.1 mX3_reachableStates.2.2.2.2.2 false mX3_reachableStates.2.2.2.1 0 tX3_reachableStates := ⟨s_iconst (n := 1) (by decide +kernel) (by decide +kernel), s_istore_n (k := 1) (i := 1) (by decide +kernel) rfl (by decide), s_iconst (n := 0) (by decide +kernel) (by decide +kernel), s_istore_n (k := 2) (i := 2) (by decide +kernel) rfl (by decide), s_iload_n (k := 2) (i := 2) (by decide +kernel) rfl, s_bipush (n := 10) (by decide +kernel) (by decide +kernel), s_bad, s_icmp_ge (off := 49) (by decide +kernel) (by decide), s_bad, s_bad, s_iconst (n := 0) (by decide +kernel) (by decide +kernel), s_istore_n (k := 3) (i := 3) (by decide +kernel) rfl (by decide), s_iload_n (k := 3) (i := 3) (by decide +kernel) rfl, s_aload_n (k := 0) (i := 0) (by decide +kernel) rfl, s_getI (by decide +kernel) fl_RX3_15 rfl, s_bad, s_bad, s_icmp_ge (off := 33) (by decide +kernel) (by decide), s_bad, s_bad, s_iload_n (k := 1) (i := 1) (by decide +kernel) rfl, s_aload_n (k := 0) (i := 0) (by decide +kernel) rfl, s_getR (by decide +kernel) fl_RX3_18 rfl, s_bad, s_bad, s_iload_n (k := 3) (i := 3) (by decide +kernel) rfl, s_iald (by decide +kernel), s_ishr (by decide +kernel), s_iconst (n := 1) (by decide +kernel) (by decide +kernel), s_iand (by decide +kernel), s_if_eq (off := 14) (by decide +kernel) (by decide), s_bad, s_bad, s_iload_n (k := 1) (i := 1) (by decide +kernel) rfl, s_iconst (n := 1) (by decide +kernel) (by decide +kernel), s_aload_n (k := 0) (i := 0) (by decide +kernel) rfl, s_getR (by decide +kernel) fl_RX3_25 rfl, s_bad, s_bad, s_iload_n (k := 3) (i := 3) (by decide +kernel) rfl, s_iald (by decide +kernel), s_ishl (by decide +kernel), s_ior (by decide +kernel), s_istore_n (k := 1) (i := 1) (by decide +kernel) rfl (by decide), s_iinc (n := 1) (by decide +kernel) (by decide +kernel) (by decide), s_bad, s_bad, s_goto (off := (-35)) (by decide +kernel) (by decide), s_bad, s_bad, s_iinc (n := 1) (by decide +kernel) (by decide +kernel) (by decide), s_bad, s_bad, s_goto (off := (-49)) (by decide +kernel) (by decide), s_bad, s_bad, s_iload_n (k := 1) (i := 1) (by decide +kernel) rfl, s_iret (by decide +kernel) rfl, trivial⟩
theorem kX3_reachableStates_0 : List.getD tX3_reachableStates 0 x_bad = x_push (.int (nI 1)) 1 := rfl
theorem kX3_reachableStates_1 : List.getD tX3_reachableStates 1 x_bad = x_istore 1 1 := rfl
theorem kX3_reachableStates_2 : List.getD tX3_reachableStates 2 x_bad = x_push (.int (nI 0)) 1 := rfl
theorem kX3_reachableStates_3 : List.getD tX3_reachableStates 3 x_bad = x_istore 2 1 := rfl
theorem kX3_reachableStates_4 : List.getD tX3_reachableStates 4 x_bad = x_iload 2 1 := rfl
theorem kX3_reachableStates_5 : List.getD tX3_reachableStates 5 x_bad = x_push (.int (nI 10)) 2 := rfl
theorem kX3_reachableStates_7 : List.getD tX3_reachableStates 7 x_bad = x_icmp (fun a b => b ≤ a) 56 := rfl
theorem kX3_reachableStates_10 : List.getD tX3_reachableStates 10 x_bad = x_push (.int (nI 0)) 1 := rfl
theorem kX3_reachableStates_11 : List.getD tX3_reachableStates 11 x_bad = x_istore 3 1 := rfl
theorem kX3_reachableStates_12 : List.getD tX3_reachableStates 12 x_bad = x_iload 3 1 := rfl
theorem kX3_reachableStates_13 : List.getD tX3_reachableStates 13 x_bad = x_aload 0 1 := rfl
theorem kX3_reachableStates_14 : List.getD tX3_reachableStates 14 x_bad = x_getI 3 1 := rfl
theorem kX3_reachableStates_17 : List.getD tX3_reachableStates 17 x_bad = x_icmp (fun a b => b ≤ a) 50 := rfl
theorem kX3_reachableStates_20 : List.getD tX3_reachableStates 20 x_bad = x_iload 1 1 := rfl
theorem kX3_reachableStates_21 : List.getD tX3_reachableStates 21 x_bad = x_aload 0 1 := rfl
theorem kX3_reachableStates_22 : List.getD tX3_reachableStates 22 x_bad = x_getR 3 2 := rfl
theorem kX3_reachableStates_25 : List.getD tX3_reachableStates 25 x_bad = x_iload 3 1 := rfl
theorem kX3_reachableStates_26 : List.getD tX3_reachableStates 26 x_bad = x_iald := rfl
theorem kX3_reachableStates_27 : List.getD tX3_reachableStates 27 x_bad = x_ii (fun a b => a >>> (b &&& 31)) := rfl
theorem kX3_reachableStates_28 : List.getD tX3_reachableStates 28 x_bad = x_push (.int (nI 1)) 1 := rfl
theorem kX3_reachableStates_29 : List.getD tX3_reachableStates 29 x_bad = x_ii (fun a b => a &&& b) := rfl
theorem kX3_reachableStates_30 : List.getD tX3_reachableStates 30 x_bad = x_if (fun a => a = 0) 44 := rfl
theorem kX3_reachableStates_33 : List.getD tX3_reachableStates 33 x_bad = x_iload 1 1 := rfl
theorem kX3_reachableStates_34 : List.getD tX3_reachableStates 34 x_bad = x_push (.int (nI 1)) 1 := rfl
theorem kX3_reachableStates_35 : List.getD tX3_reachableStates 35 x_bad = x_aload 0 1 := rfl
theorem kX3_reachableStates_36 : List.getD tX3_reachableStates 36 x_bad = x_getR 3 4 := rfl
theorem kX3_reachableStates_39 : List.getD tX3_reachableStates 39 x_bad = x_iload 3 1 := rfl
theorem kX3_reachableStates_40 : List.getD tX3_reachableStates 40 x_bad = x_iald := rfl
theorem kX3_reachableStates_41 : List.getD tX3_reachableStates 41 x_bad = x_ii (fun a b => a <<< (b &&& 31)) := rfl
theorem kX3_reachableStates_42 : List.getD tX3_reachableStates 42 x_bad = x_ii (fun a b => a ||| b) := rfl
theorem kX3_reachableStates_43 : List.getD tX3_reachableStates 43 x_bad = x_istore 1 1 := rfl
theorem kX3_reachableStates_44 : List.getD tX3_reachableStates 44 x_bad = x_iinc 3 (nI 1) := rfl
theorem kX3_reachableStates_47 : List.getD tX3_reachableStates 47 x_bad = x_goto 12 := rfl
theorem kX3_reachableStates_50 : List.getD tX3_reachableStates 50 x_bad = x_iinc 2 (nI 1) := rfl
theorem kX3_reachableStates_53 : List.getD tX3_reachableStates 53 x_bad = x_goto 4 := rfl
theorem kX3_reachableStates_56 : List.getD tX3_reachableStates 56 x_bad = x_iload 1 1 := rfl
theorem kX3_reachableStates_57 : List.getD tX3_reachableStates 57 x_bad = x_iret := rfl
def tX3_remove : List PT := [x_iload 1 1, x_istore 2 1, x_iload 2 1, x_aload 0 1, x_getI 3 1, x_bad, x_bad, x_push (.int (nI 1)) 1, x_ii (fun a b => a - b), x_icmp (fun a b => b ≤ a) 60, x_bad, x_bad, x_aload 0 1, x_getR 3 2, x_bad, x_bad, x_iload 2 1, x_aload 0 1, x_getR 3 2, x_bad, x_bad, x_iload 2 1, x_push (.int (nI 1)) 1, x_ii (fun a b => a + b), x_iald, x_iast, x_aload 0 1, x_getR 3 3, x_bad, x_bad, x_iload 2 1, x_aload 0 1, x_getR 3 3, x_bad, x_bad, x_iload 2 1, x_push (.int (nI 1)) 1, x_ii (fun a b => a + b), x_iald, x_iast, x_aload 0 1, x_getR 3 4, x_bad, x_bad, x_iload 2 1, x_aload 0 1, x_getR 3 4, x_bad, x_bad, x_iload 2 1, x_push (.int (nI 1)) 1, x_ii (fun a b => a + b), x_iald, x_iast, x_iinc 2 (nI 1), x_bad, x_bad, x_goto 2, x_bad, x_bad, x_aload 0 1, x_dup, x_getI 3 1, x_bad, x_bad, x_push (.int (nI 1)) 1, x_ii (fun a b => a - b), x_putI 3 1, x_bad, x_bad, x_vret]
set_option maxRecDepth 20000 in
theorem okX3_remove : SndT RX3 cX3_remove mX3_remove.2.2.1 mX3_remove.2.2.2.2.1 mX3_remove.2.2.2.2.2 false mX3_remove.2.2.2.1 0 tX3_remove := ⟨s_iload_n (k := 1) (i := 1) (by decide +kernel) rfl, s_istore_n (k := 2) (i := 2) (by decide +kernel) rfl (by decide), s_iload_n (k := 2) (i := 2) (by decide +kernel) rfl, s_aload_n (k := 0) (i := 0) (by decide +kernel) rfl, s_getI (by decide +kernel) fl_RX3_15 rfl, s_bad, s_bad, s_iconst (n := 1) (by decide +kernel) (by decide +kernel), s_isub (by decide +kernel), s_icmp_ge (off := 51) (by decide +kernel) (by decide), s_bad, s_bad, s_aload_n (k := 0) (i := 0) (by decide +kernel) rfl, s_getR (by decide +kernel) fl_RX3_18 rfl, s_bad, s_bad, s_iload_n (k := 2) (i := 2) (by decide +kernel) rfl, s_aload_n (k := 0) (i := 0) (by decide +kernel) rfl, s_getR (by decide +kernel) fl_RX3_18 rfl, s_bad, s_bad, s_iload_n (k := 2) (i := 2) (by decide +kernel) rfl, s_iconst (n := 1) (by decide +kernel) (by decide +kernel), s_iadd (by decide +kernel), s_iald (by decide +kernel), s_iast (by decide +kernel), s_aload_n (k := 0) (i := 0) (by decide +kernel) rfl, s_getR (by decide +kernel) fl_RX3_22 rfl, s_bad, s_bad, s_iload_n (k := 2) (i := 2) (by decide +kernel) rfl, s_aload_n (k := 0) (i := 0) (by decide +kernel) rfl, s_getR (by decide +kernel) fl_RX3_22 rfl, s_bad, s_bad, s_iload_n (k := 2) (i := 2) (by decide +kernel) rfl, s_iconst (n := 1) (by decide +kernel) (by decide +kernel), s_iadd (by decide +kernel), s_iald (by decide +kernel), s_iast (by decide +kernel), s_aload_n (k := 0) (i := 0) (by decide +kernel) rfl, s_getR (by decide +kernel) fl_RX3_25 rfl, s_bad, s_bad, s_iload_n (k := 2) (i := 2) (by decide +kernel) rfl, s_aload_n (k := 0) (i := 0) (by decide +kernel) rfl, s_getR (by decide +kernel) fl_RX3_25 rfl, s_bad, s_bad, s_iload_n (k := 2) (i := 2) (by decide +kernel) rfl, s_iconst (n := 1) (by decide +kernel) (by decide +kernel), s_iadd (by decide +kernel), s_iald (by decide +kernel), s_iast (by decide +kernel), s_iinc (n := 1) (by decide +kernel) (by decide +kernel) (by decide), s_bad, s_bad, s_goto (off := (-55)) (by decide +kernel) (by decide), s_bad, s_bad, s_aload_n (k := 0) (i := 0) (by decide +kernel) rfl, s_dup (by decide +kernel), s_getI (by decide +kernel) fl_RX3_15 rfl, s_bad, s_bad, s_iconst (n := 1) (by decide +kernel) (by decide +kernel), s_isub (by decide +kernel), s_putI (by decide +kernel) fl_RX3_15 fp_3_1 rfl, s_bad, s_bad, s_vret (by decide +kernel) rfl, trivial⟩
theorem kX3_remove_0 : List.getD tX3_remove 0 x_bad = x_iload 1 1 := rfl
theorem kX3_remove_1 : List.getD tX3_remove 1 x_bad = x_istore 2 1 := rfl
theorem kX3_remove_2 : List.getD tX3_remove 2 x_bad = x_iload 2 1 := rfl
theorem kX3_remove_3 : List.getD tX3_remove 3 x_bad = x_aload 0 1 := rfl
theorem kX3_remove_4 : List.getD tX3_remove 4 x_bad = x_getI 3 1 := rfl
theorem kX3_remove_7 : List.getD tX3_remove 7 x_bad = x_push (.int (nI 1)) 1 := rfl
theorem kX3_remove_8 : List.getD tX3_remove 8 x_bad = x_ii (fun a b => a - b) := rfl
theorem kX3_remove_9 : List.getD tX3_remove 9 x_bad = x_icmp (fun a b => b ≤ a) 60 := rfl
theorem kX3_remove_12 : List.getD tX3_remove 12 x_bad = x_aload 0 1 := rfl
theorem kX3_remove_13 : List.getD tX3_remove 13 x_bad = x_getR 3 2 := rfl
theorem kX3_remove_16 : List.getD tX3_remove 16 x_bad = x_iload 2 1 := rfl
theorem kX3_remove_17 : List.getD tX3_remove 17 x_bad = x_aload 0 1 := rfl
theorem kX3_remove_18 : List.getD tX3_remove 18 x_bad = x_getR 3 2 := rfl
theorem kX3_remove_21 : List.getD tX3_remove 21 x_bad = x_iload 2 1 := rfl
theorem kX3_remove_22 : List.getD tX3_remove 22 x_bad = x_push (.int (nI 1)) 1 := rfl
theorem kX3_remove_23 : List.getD tX3_remove 23 x_bad = x_ii (fun a b => a + b) := rfl
theorem kX3_remove_24 : List.getD tX3_remove 24 x_bad = x_iald := rfl
theorem kX3_remove_25 : List.getD tX3_remove 25 x_bad = x_iast := rfl
theorem kX3_remove_26 : List.getD tX3_remove 26 x_bad = x_aload 0 1 := rfl
theorem kX3_remove_27 : List.getD tX3_remove 27 x_bad = x_getR 3 3 := rfl
theorem kX3_remove_30 : List.getD tX3_remove 30 x_bad = x_iload 2 1 := rfl
theorem kX3_remove_31 : List.getD tX3_remove 31 x_bad = x_aload 0 1 := rfl
theorem kX3_remove_32 : List.getD tX3_remove 32 x_bad = x_getR 3 3 := rfl
theorem kX3_remove_35 : List.getD tX3_remove 35 x_bad = x_iload 2 1 := rfl
theorem kX3_remove_36 : List.getD tX3_remove 36 x_bad = x_push (.int (nI 1)) 1 := rfl
theorem kX3_remove_37 : List.getD tX3_remove 37 x_bad = x_ii (fun a b => a + b) := rfl
theorem kX3_remove_38 : List.getD tX3_remove 38 x_bad = x_iald := rfl
theorem kX3_remove_39 : List.getD tX3_remove 39 x_bad = x_iast := rfl
theorem kX3_remove_40 : List.getD tX3_remove 40 x_bad = x_aload 0 1 := rfl
theorem kX3_remove_41 : List.getD tX3_remove 41 x_bad = x_getR 3 4 := rfl
theorem kX3_remove_44 : List.getD tX3_remove 44 x_bad = x_iload 2 1 := rfl
theorem kX3_remove_45 : List.getD tX3_remove 45 x_bad = x_aload 0 1 := rfl
theorem kX3_remove_46 : List.getD tX3_remove 46 x_bad = x_getR 3 4 := rfl
theorem kX3_remove_49 : List.getD tX3_remove 49 x_bad = x_iload 2 1 := rfl
theorem kX3_remove_50 : List.getD tX3_remove 50 x_bad = x_push (.int (nI 1)) 1 := rfl
theorem kX3_remove_51 : List.getD tX3_remove 51 x_bad = x_ii (fun a b => a + b) := rfl
theorem kX3_remove_52 : List.getD tX3_remove 52 x_bad = x_iald := rfl
theorem kX3_remove_53 : List.getD tX3_remove 53 x_bad = x_iast := rfl
theorem kX3_remove_54 : List.getD tX3_remove 54 x_bad = x_iinc 2 (nI 1) := rfl
theorem kX3_remove_57 : List.getD tX3_remove 57 x_bad = x_goto 2 := rfl
theorem kX3_remove_60 : List.getD tX3_remove 60 x_bad = x_aload 0 1 := rfl
theorem kX3_remove_61 : List.getD tX3_remove 61 x_bad = x_dup := rfl
theorem kX3_remove_62 : List.getD tX3_remove 62 x_bad = x_getI 3 1 := rfl
theorem kX3_remove_65 : List.getD tX3_remove 65 x_bad = x_push (.int (nI 1)) 1 := rfl
theorem kX3_remove_66 : List.getD tX3_remove 66 x_bad = x_ii (fun a b => a - b) := rfl
theorem kX3_remove_67 : List.getD tX3_remove 67 x_bad = x_putI 3 1 := rfl
theorem kX3_remove_70 : List.getD tX3_remove 70 x_bad = x_vret := rfl
def tX3_target : List PT := [x_push (.int (nI 0)) 1, x_istore 3 1, x_iload 3 1, x_aload 0 1, x_getI 3 1, x_bad, x_bad, x_icmp (fun a b => b ≤ a) 43, x_bad, x_bad, x_aload 0 1, x_getR 3 2, x_bad, x_bad, x_iload 3 1, x_iald, x_iload 1 1, x_icmpn (fun a b => a = b) 37, x_bad, x_bad, x_aload 0 1, x_getR 3 3, x_bad, x_bad, x_iload 3 1, x_iald, x_iload 2 1, x_icmpn (fun a b => a = b) 37, x_bad, x_bad, x_aload 0 1, x_getR 3 4, x_bad, x_bad, x_iload 3 1, x_iald, x_iret, x_iinc 3 (nI 1), x_bad, x_bad, x_goto 2, x_bad, x_bad, x_push (.int (-1)) 1, x_iret]
set_option maxRecDepth 20000 in
theorem okX3_target : SndT RX3 cX3_target mX3_target.2.2.1 mX3_target.2.2.2.2.1 mX3_target.2.2.2.2.2 false mX3_target.2.2.2.1 0 tX3_target := ⟨s_iconst (n := 0) (by decide +kernel) (by decide +kernel), s_istore_n (k := 3) (i := 3) (by decide +kernel) rfl (by decide), s_iload_n (k := 3) (i := 3) (by decide +kernel) rfl, s_aload_n (k := 0) (i := 0) (by decide +kernel) rfl, s_getI (by decide +kernel) fl_RX3_15 rfl, s_bad, s_bad, s_icmp_ge (off := 36) (by decide +kernel) (by decide), s_bad, s_bad, s_aload_n (k := 0) (i := 0) (by decide +kernel) rfl, s_getR (by decide +kernel) fl_RX3_18 rfl, s_bad, s_bad, s_iload_n (k := 3) (i := 3) (by decide +kernel) rfl, s_iald (by decide +kernel), s_iload_n (k := 1) (i := 1) (by decide +kernel) rfl, s_icmp_ne (off := 20) (by decide +kernel) (by decide), s_bad, s_bad, s_aload_n (k := 0) (i := 0) (by decide +kernel) rfl, s_getR (by decide +kernel) fl_RX3_22 rfl, s_bad, s_bad, s_iload_n (k := 3) (i := 3) (by decide +kernel) rfl, s_iald (by decide +kernel), s_iload_n (k := 2) (i := 2) (by decide +kernel) rfl, s_icmp_ne (off := 10) (by decide +kernel) (by decide), s_bad, s_bad, s_aload_n (k := 0) (i := 0) (by decide +kernel) rfl, s_getR (by decide +kernel) fl_RX3_25 rfl, s_bad, s_bad, s_iload_n (k := 3) (i := 3) (by decide +kernel) rfl, s_iald (by decide +kernel), s_iret (by decide +kernel) rfl, s_iinc (n := 1) (by decide +kernel) (by decide +kernel) (by decide), s_bad, s_bad, s_goto (off := (-38)) (by decide +kernel) (by decide), s_bad, s_bad, s_iconst (n := (-1)) (by decide +kernel) (by decide +kernel), s_iret (by decide +kernel) rfl, trivial⟩
theorem kX3_target_0 : List.getD tX3_target 0 x_bad = x_push (.int (nI 0)) 1 := rfl
theorem kX3_target_1 : List.getD tX3_target 1 x_bad = x_istore 3 1 := rfl
theorem kX3_target_2 : List.getD tX3_target 2 x_bad = x_iload 3 1 := rfl
theorem kX3_target_3 : List.getD tX3_target 3 x_bad = x_aload 0 1 := rfl
theorem kX3_target_4 : List.getD tX3_target 4 x_bad = x_getI 3 1 := rfl
theorem kX3_target_7 : List.getD tX3_target 7 x_bad = x_icmp (fun a b => b ≤ a) 43 := rfl
theorem kX3_target_10 : List.getD tX3_target 10 x_bad = x_aload 0 1 := rfl
theorem kX3_target_11 : List.getD tX3_target 11 x_bad = x_getR 3 2 := rfl
theorem kX3_target_14 : List.getD tX3_target 14 x_bad = x_iload 3 1 := rfl
theorem kX3_target_15 : List.getD tX3_target 15 x_bad = x_iald := rfl
theorem kX3_target_16 : List.getD tX3_target 16 x_bad = x_iload 1 1 := rfl
theorem kX3_target_17 : List.getD tX3_target 17 x_bad = x_icmpn (fun a b => a = b) 37 := rfl
theorem kX3_target_20 : List.getD tX3_target 20 x_bad = x_aload 0 1 := rfl
theorem kX3_target_21 : List.getD tX3_target 21 x_bad = x_getR 3 3 := rfl
theorem kX3_target_24 : List.getD tX3_target 24 x_bad = x_iload 3 1 := rfl
theorem kX3_target_25 : List.getD tX3_target 25 x_bad = x_iald := rfl
theorem kX3_target_26 : List.getD tX3_target 26 x_bad = x_iload 2 1 := rfl
theorem kX3_target_27 : List.getD tX3_target 27 x_bad = x_icmpn (fun a b => a = b) 37 := rfl
theorem kX3_target_30 : List.getD tX3_target 30 x_bad = x_aload 0 1 := rfl
theorem kX3_target_31 : List.getD tX3_target 31 x_bad = x_getR 3 4 := rfl
theorem kX3_target_34 : List.getD tX3_target 34 x_bad = x_iload 3 1 := rfl
theorem kX3_target_35 : List.getD tX3_target 35 x_bad = x_iald := rfl
theorem kX3_target_36 : List.getD tX3_target 36 x_bad = x_iret := rfl
theorem kX3_target_37 : List.getD tX3_target 37 x_bad = x_iinc 3 (nI 1) := rfl
theorem kX3_target_40 : List.getD tX3_target 40 x_bad = x_goto 2 := rfl
theorem kX3_target_43 : List.getD tX3_target 43 x_bad = x_push (.int (-1)) 1 := rfl
theorem kX3_target_44 : List.getD tX3_target 44 x_bad = x_iret := rfl
def tX3_usedEvents : List PT := [x_push (.int (nI 0)) 1, x_istore 1 1, x_push (.int (nI 0)) 1, x_istore 2 1, x_iload 2 1, x_aload 0 1, x_getI 3 1, x_bad, x_bad, x_icmp (fun a b => b ≤ a) 29, x_bad, x_bad, x_iload 1 1, x_push (.int (nI 1)) 1, x_aload 0 1, x_getR 3 3, x_bad, x_bad, x_iload 2 1, x_iald, x_ii (fun a b => a <<< (b &&& 31)), x_ii (fun a b => a ||| b), x_istore 1 1, x_iinc 2 (nI 1), x_bad, x_bad, x_goto 4, x_bad, x_bad, x_iload 1 1, x_iret]
set_option maxRecDepth 20000 in
theorem okX3_usedEvents : SndT RX3 cX3_usedEvents mX3_usedEvents.2.2.1 mX3_usedEvents.2.2.2.2.1 mX3_usedEvents.2.2.2.2.2 false mX3_usedEvents.2.2.2.1 0 tX3_usedEvents := ⟨s_iconst (n := 0) (by decide +kernel) (by decide +kernel), s_istore_n (k := 1) (i := 1) (by decide +kernel) rfl (by decide), s_iconst (n := 0) (by decide +kernel) (by decide +kernel), s_istore_n (k := 2) (i := 2) (by decide +kernel) rfl (by decide), s_iload_n (k := 2) (i := 2) (by decide +kernel) rfl, s_aload_n (k := 0) (i := 0) (by decide +kernel) rfl, s_getI (by decide +kernel) fl_RX3_15 rfl, s_bad, s_bad, s_icmp_ge (off := 20) (by decide +kernel) (by decide), s_bad, s_bad, s_iload_n (k := 1) (i := 1) (by decide +kernel) rfl, s_iconst (n := 1) (by decide +kernel) (by decide +kernel), s_aload_n (k := 0) (i := 0) (by decide +kernel) rfl, s_getR (by decide +kernel) fl_RX3_22 rfl, s_bad, s_bad, s_iload_n (k := 2) (i := 2) (by decide +kernel) rfl, s_iald (by decide +kernel), s_ishl (by decide +kernel), s_ior (by decide +kernel), s_istore_n (k := 1) (i := 1) (by decide +kernel) rfl (by decide), s_iinc (n := 1) (by decide +kernel) (by decide +kernel) (by decide), s_bad, s_bad, s_goto (off := (-22)) (by decide +kernel) (by decide), s_bad, s_bad, s_iload_n (k := 1) (i := 1) (by decide +kernel) rfl, s_iret (by decide +kernel) rfl, trivial⟩
theorem kX3_usedEvents_0 : List.getD tX3_usedEvents 0 x_bad = x_push (.int (nI 0)) 1 := rfl
theorem kX3_usedEvents_1 : List.getD tX3_usedEvents 1 x_bad = x_istore 1 1 := rfl
theorem kX3_usedEvents_2 : List.getD tX3_usedEvents 2 x_bad = x_push (.int (nI 0)) 1 := rfl
theorem kX3_usedEvents_3 : List.getD tX3_usedEvents 3 x_bad = x_istore 2 1 := rfl
theorem kX3_usedEvents_4 : List.getD tX3_usedEvents 4 x_bad = x_iload 2 1 := rfl
theorem kX3_usedEvents_5 : List.getD tX3_usedEvents 5 x_bad = x_aload 0 1 := rfl
theorem kX3_usedEvents_6 : List.getD tX3_usedEvents 6 x_bad = x_getI 3 1 := rfl
theorem kX3_usedEvents_9 : List.getD tX3_usedEvents 9 x_bad = x_icmp (fun a b => b ≤ a) 29 := rfl
theorem kX3_usedEvents_12 : List.getD tX3_usedEvents 12 x_bad = x_iload 1 1 := rfl
theorem kX3_usedEvents_13 : List.getD tX3_usedEvents 13 x_bad = x_push (.int (nI 1)) 1 := rfl
theorem kX3_usedEvents_14 : List.getD tX3_usedEvents 14 x_bad = x_aload 0 1 := rfl
theorem kX3_usedEvents_15 : List.getD tX3_usedEvents 15 x_bad = x_getR 3 3 := rfl
theorem kX3_usedEvents_18 : List.getD tX3_usedEvents 18 x_bad = x_iload 2 1 := rfl
theorem kX3_usedEvents_19 : List.getD tX3_usedEvents 19 x_bad = x_iald := rfl
theorem kX3_usedEvents_20 : List.getD tX3_usedEvents 20 x_bad = x_ii (fun a b => a <<< (b &&& 31)) := rfl
theorem kX3_usedEvents_21 : List.getD tX3_usedEvents 21 x_bad = x_ii (fun a b => a ||| b) := rfl
theorem kX3_usedEvents_22 : List.getD tX3_usedEvents 22 x_bad = x_istore 1 1 := rfl
theorem kX3_usedEvents_23 : List.getD tX3_usedEvents 23 x_bad = x_iinc 2 (nI 1) := rfl
theorem kX3_usedEvents_26 : List.getD tX3_usedEvents 26 x_bad = x_goto 4 := rfl
theorem kX3_usedEvents_29 : List.getD tX3_usedEvents 29 x_bad = x_iload 1 1 := rfl
theorem kX3_usedEvents_30 : List.getD tX3_usedEvents 30 x_bad = x_iret := rfl
def tX8_append : List PT := [x_aload 0 1, x_getI 8 1, x_bad, x_bad, x_push (.int (nI 80)) 2, x_bad, x_icmp (fun a b => b ≤ a) 29, x_bad, x_bad, x_aload 0 1, x_getR 8 0, x_bad, x_bad, x_aload 0 1, x_getI 8 1, x_bad, x_bad, x_iload 1 1, x_iast, x_aload 0 1, x_dup, x_getI 8 1, x_bad, x_bad, x_push (.int (nI 1)) 1, x_ii (fun a b => a + b), x_putI 8 1, x_bad, x_bad, x_vret]
set_option maxRecDepth 20000 in
theorem okX8_append : SndT RX8 cX8_append mX8_append.2.2.1 mX8_append.2.2.2.2.1 mX8_append.2.2.2.2.2 false mX8_append.2.2.2.1 0 tX8_append := ⟨s_aload_n (k := 0) (i := 0) (by decide +kernel) rfl, s_getI (by decide +kernel) fl_RX8_15 rfl, s_bad, s_bad, s_bipush (n := 80) (by decide +kernel) (by decide +kernel), s_bad, s_icmp_ge (off := 23) (by decide +kernel) (by decide), s_bad, s_bad, s_aload_n (k := 0) (i := 0) (by decide +kernel) rfl, s_getR (by decide +kernel) fl_RX8_9 rfl, s_bad, s_bad, s_aload_n (k := 0) (i := 0) (by decide +kernel) rfl, s_getI (by decide +kernel) fl_RX8_15 rfl, s_bad, s_bad, s_iload_n (k := 1) (i := 1) (by decide +kernel) rfl, s_iast (by decide +kernel), s_aload_n (k := 0) (i := 0) (by decide +kernel) rfl, s_dup (by decide +kernel), s_getI (by decide +kernel) fl_RX8_15 rfl, s_bad, s_bad, s_iconst (n := 1) (by decide +kernel) (by decide +kernel), s_iadd (by decide +kernel), s_putI (by decide +kernel) fl_RX8_15 fp_8_1 rfl, s_bad, s_bad, s_vret (by decide +kernel) rfl, trivial⟩
theorem kX8_append_0 : List.getD tX8_append 0 x_bad = x_aload 0 1 := rfl
theorem kX8_append_1 : List.getD tX8_append 1 x_bad = x_getI 8 1 := rfl
theorem kX8_append_4 : List.getD tX8_append 4 x_bad = x_push (.int (nI 80)) 2 := rfl
theorem kX8_append_6 : List.getD tX8_append 6 x_bad = x_icmp (fun a b => b ≤ a) 29 := rfl
theorem kX8_append_9 : List.getD tX8_append 9 x_bad = x_aload 0 1 := rfl
theorem kX8_append_10 : List.getD tX8_append 10 x_bad = x_getR 8 0 := rfl
theorem kX8_append_13 : List.getD tX8_append 13 x_bad = x_aload 0 1 := rfl
theorem kX8_append_14 : List.getD tX8_append 14 x_bad = x_getI 8 1 := rfl
theorem kX8_append_17 : List.getD tX8_append 17 x_bad = x_iload 1 1 := rfl
theorem kX8_append_18 : List.getD tX8_append 18 x_bad = x_iast := rfl
theorem kX8_append_19 : List.getD tX8_append 19 x_bad = x_aload 0 1 := rfl
theorem kX8_append_20 : List.getD tX8_append 20 x_bad = x_dup := rfl
theorem kX8_append_21 : List.getD tX8_append 21 x_bad = x_getI 8 1 := rfl
theorem kX8_append_24 : List.getD tX8_append 24 x_bad = x_push (.int (nI 1)) 1 := rfl
theorem kX8_append_25 : List.getD tX8_append 25 x_bad = x_ii (fun a b => a + b) := rfl
theorem kX8_append_26 : List.getD tX8_append 26 x_bad = x_putI 8 1 := rfl
theorem kX8_append_29 : List.getD tX8_append 29 x_bad = x_vret := rfl
def tX8_canStand : List PT := [x_iload 0 1, x_push (.int (nI 48)) 2, x_bad, x_icmp (fun a b => a < b) 16, x_bad, x_bad, x_iload 0 1, x_push (.int (nI 57)) 2, x_bad, x_icmp (fun a b => b < a) 16, x_bad, x_bad, x_push (.int (nI 1)) 1, x_goto 17, x_bad, x_bad, x_push (.int (nI 0)) 1, x_istore 2 1, x_iload 1 1, x_tsw [44, 60, 78] 80, x_bad, x_bad, x_bad, x_bad, x_bad, x_bad, x_bad, x_bad, x_bad, x_bad, x_bad, x_bad, x_bad, x_bad, x_bad, x_bad, x_bad, x_bad, x_bad, x_bad, x_bad, x_bad, x_bad, x_bad, x_iload 2 1, x_ifn (fun a => a = 0) 54, x_bad, x_bad, x_iload 0 1, x_push (.int (nI 32)) 2, x_bad, x_icmpn (fun a b => a = b) 58, x_bad, x_bad, x_push (.int (nI 1)) 1, x_goto 59, x_bad, x_bad, x_push (.int (nI 0)) 1, x_zret, x_iload 0 1, x_push (.int (nI 97)) 2, x_bad, x_icmp (fun a b => a < b) 76, x_bad, x_bad, x_iload 0 1, x_push (.int (nI 104)) 2, x_bad, x_icmp (fun a b => b < a) 76, x_bad, x_bad, x_push (.int (nI 1)) 1, x_goto 77, x_bad, x_bad, x_push (.int (nI 0)) 1, x_zret, x_iload 2 1, x_zret, x_iload 0 1, x_push (.int (nI 32)) 2, x_bad, x_icmpn (fun a b => a = b) 90, x_bad, x_bad, x_push (.int (nI 1)) 1, x_goto 91, x_bad, x_bad, x_push (.int (nI 0)) 1, x_zret]
set_option maxRecDepth 20000 in
theorem okX8_canStand : SndT RX8 cX8_canStand mX8_canStand.2.2.1 mX8_canStand.2.2.2.2.1 mX8_canStand.2.2.2.2.2 false mX8_canStand.2.2.2.1 0 tX8_canStand := ⟨s_iload_n (k := 0) (i := 0) (by decide +kernel) rfl, s_bipush (n := 48) (by decide +kernel) (by decide +kernel), s_bad, s_icmp_lt (off := 13) (by decide +kernel) (by decide), s_bad, s_bad, s_iload_n (k := 0) (i := 0) (by decide +kernel) rfl, s_bipush (n := 57) (by decide +kernel) (by decide +kernel), s_bad, s_icmp_gt (off := 7) (by decide +kernel) (by decide), s_bad, s_bad, s_iconst (n := 1) (by decide +kernel) (by decide +kernel), s_goto (off := 4) (by decide +kernel) (by decide), s_bad, s_bad, s_iconst (n := 0) (by decide +kernel) (by decide +kernel), s_istore_n (k := 2) (i := 2) (by decide +kernel) rfl (by decide), s_iload_n (k := 1) (i := 1) (by decide +kernel) rfl, s_tsw (dflt := 61) (hi := 2) (offs := #[25, 41, 59]) (len := 25) (by decide +kernel) (by decide) (by decide) (by decide) (by decide), s_bad, s_bad, s_bad, s_bad, s_bad, s_bad, s_bad, s_bad, s_bad, s_bad, s_bad, s_bad, s_bad, s_bad, s_bad, s_bad, s_bad, s_bad, s_bad, s_bad, s_bad, s_bad, s_bad, s_bad, s_iload_n (k := 2) (i := 2) (by decide +kernel) rfl, s_if_ne (off := 9) (by decide +kernel) (by decide), s_bad, s_bad, s_iload_n (k := 0) (i := 0) (by decide +kernel) rfl, s_bipush (n := 32) (by decide +kernel) (by decide +kernel), s_bad, s_icmp_ne (off := 7) (by decide +kernel) (by decide), s_bad, s_bad, s_iconst (n := 1) (by decide +kernel) (by decide +kernel), s_goto (off := 4) (by decide +kernel) (by decide), s_bad, s_bad, s_iconst (n := 0) (by decide +kernel) (by decide +kernel), s_zret (by decide +kernel) rfl, s_iload_n (k := 0) (i := 0) (by decide +kernel) rfl, s_bipush (n := 97) (by decide +kernel) (by decide +kernel), s_bad, s_icmp_lt (off := 13) (by decide +kernel) (by decide), s_bad, s_bad, s_iload_n (k := 0) (i := 0) (by decide +kernel) rfl, s_bipush (n := 104) (by decide +kernel) (by decide +kernel), s_bad, s_icmp_gt (off := 7) (by decide +kernel) (by decide), s_bad, s_bad, s_iconst (n := 1) (by decide +kernel) (by decide +kernel), s_goto (off := 4) (by decide +kernel) (by decide), s_bad, s_bad, s_iconst (n := 0) (by decide +kernel) (by decide +kernel), s_zret (by decide +kernel) rfl, s_iload_n (k := 2) (i := 2) (by decide +kernel) rfl, s_zret (by decide +kernel) rfl, s_iload_n (k := 0) (i := 0) (by decide +kernel) rfl, s_bipush (n := 32) (by decide +kernel) (by decide +kernel), s_bad, s_icmp_ne (off := 7) (by decide +kernel) (by decide), s_bad, s_bad, s_iconst (n := 1) (by decide +kernel) (by decide +kernel), s_goto (off := 4) (by decide +kernel) (by decide), s_bad, s_bad, s_iconst (n := 0) (by decide +kernel) (by decide +kernel), s_zret (by decide +kernel) rfl, trivial⟩
theorem kX8_canStand_0 : List.getD tX8_canStand 0 x_bad = x_iload 0 1 := rfl
theorem kX8_canStand_1 : List.getD tX8_canStand 1 x_bad = x_push (.int (nI 48)) 2 := rfl
theorem kX8_canStand_3 : List.getD tX8_canStand 3 x_bad = x_icmp (fun a b => a < b) 16 := rfl
theorem kX8_canStand_6 : List.getD tX8_canStand 6 x_bad = x_iload 0 1 := rfl
theorem kX8_canStand_7 : List.getD tX8_canStand 7 x_bad = x_push (.int (nI 57)) 2 := rfl
theorem kX8_canStand_9 : List.getD tX8_canStand 9 x_bad = x_icmp (fun a b => b < a) 16 := rfl
theorem kX8_canStand_12 : List.getD tX8_canStand 12 x_bad = x_push (.int (nI 1)) 1 := rfl
theorem kX8_canStand_13 : List.getD tX8_canStand 13 x_bad = x_goto 17 := rfl
theorem kX8_canStand_16 : List.getD tX8_canStand 16 x_bad = x_push (.int (nI 0)) 1 := rfl
theorem kX8_canStand_17 : List.getD tX8_canStand 17 x_bad = x_istore 2 1 := rfl
theorem kX8_canStand_18 : List.getD tX8_canStand 18 x_bad = x_iload 1 1 := rfl
theorem kX8_canStand_19 : List.getD tX8_canStand 19 x_bad = x_tsw [44, 60, 78] 80 := rfl
theorem kX8_canStand_44 : List.getD tX8_canStand 44 x_bad = x_iload 2 1 := rfl
theorem kX8_canStand_45 : List.getD tX8_canStand 45 x_bad = x_ifn (fun a => a = 0) 54 := rfl
theorem kX8_canStand_48 : List.getD tX8_canStand 48 x_bad = x_iload 0 1 := rfl
theorem kX8_canStand_49 : List.getD tX8_canStand 49 x_bad = x_push (.int (nI 32)) 2 := rfl
theorem kX8_canStand_51 : List.getD tX8_canStand 51 x_bad = x_icmpn (fun a b => a = b) 58 := rfl
theorem kX8_canStand_54 : List.getD tX8_canStand 54 x_bad = x_push (.int (nI 1)) 1 := rfl
theorem kX8_canStand_55 : List.getD tX8_canStand 55 x_bad = x_goto 59 := rfl
theorem kX8_canStand_58 : List.getD tX8_canStand 58 x_bad = x_push (.int (nI 0)) 1 := rfl
theorem kX8_canStand_59 : List.getD tX8_canStand 59 x_bad = x_zret := rfl
theorem kX8_canStand_60 : List.getD tX8_canStand 60 x_bad = x_iload 0 1 := rfl
theorem kX8_canStand_61 : List.getD tX8_canStand 61 x_bad = x_push (.int (nI 97)) 2 := rfl
theorem kX8_canStand_63 : List.getD tX8_canStand 63 x_bad = x_icmp (fun a b => a < b) 76 := rfl
theorem kX8_canStand_66 : List.getD tX8_canStand 66 x_bad = x_iload 0 1 := rfl
theorem kX8_canStand_67 : List.getD tX8_canStand 67 x_bad = x_push (.int (nI 104)) 2 := rfl
theorem kX8_canStand_69 : List.getD tX8_canStand 69 x_bad = x_icmp (fun a b => b < a) 76 := rfl
theorem kX8_canStand_72 : List.getD tX8_canStand 72 x_bad = x_push (.int (nI 1)) 1 := rfl
theorem kX8_canStand_73 : List.getD tX8_canStand 73 x_bad = x_goto 77 := rfl
theorem kX8_canStand_76 : List.getD tX8_canStand 76 x_bad = x_push (.int (nI 0)) 1 := rfl
theorem kX8_canStand_77 : List.getD tX8_canStand 77 x_bad = x_zret := rfl
theorem kX8_canStand_78 : List.getD tX8_canStand 78 x_bad = x_iload 2 1 := rfl
theorem kX8_canStand_79 : List.getD tX8_canStand 79 x_bad = x_zret := rfl
theorem kX8_canStand_80 : List.getD tX8_canStand 80 x_bad = x_iload 0 1 := rfl
theorem kX8_canStand_81 : List.getD tX8_canStand 81 x_bad = x_push (.int (nI 32)) 2 := rfl
theorem kX8_canStand_83 : List.getD tX8_canStand 83 x_bad = x_icmpn (fun a b => a = b) 90 := rfl
theorem kX8_canStand_86 : List.getD tX8_canStand 86 x_bad = x_push (.int (nI 1)) 1 := rfl
theorem kX8_canStand_87 : List.getD tX8_canStand 87 x_bad = x_goto 91 := rfl
theorem kX8_canStand_90 : List.getD tX8_canStand 90 x_bad = x_push (.int (nI 0)) 1 := rfl
theorem kX8_canStand_91 : List.getD tX8_canStand 91 x_bad = x_zret := rfl
def tX8_faultAt : List PT := [x_aload 0 1, x_iload 1 1, x_putI 8 2, x_bad, x_bad, x_push (.int (-10)) 2, x_bad, x_iload 2 1, x_ii (fun a b => a - b), x_iret]
set_option maxRecDepth 20000 in
theorem okX8_faultAt : SndT RX8 cX8_faultAt mX8_faultAt.2.2.1 mX8_faultAt.2.2.2.2.1 mX8_faultAt.2.2.2.2.2 false mX8_faultAt.2.2.2.1 0 tX8_faultAt := ⟨s_aload_n (k := 0) (i := 0) (by decide +kernel) rfl, s_iload_n (k := 1) (i := 1) (by decide +kernel) rfl, s_putI (by decide +kernel) fl_RX8_19 fp_8_2 rfl, s_bad, s_bad, s_bipush (n := (-10)) (by decide +kernel) (by decide +kernel), s_bad, s_iload_n (k := 2) (i := 2) (by decide +kernel) rfl, s_isub (by decide +kernel), s_iret (by decide +kernel) rfl, trivial⟩
theorem kX8_faultAt_0 : List.getD tX8_faultAt 0 x_bad = x_aload 0 1 := rfl
theorem kX8_faultAt_1 : List.getD tX8_faultAt 1 x_bad = x_iload 1 1 := rfl
theorem kX8_faultAt_2 : List.getD tX8_faultAt 2 x_bad = x_putI 8 2 := rfl
theorem kX8_faultAt_5 : List.getD tX8_faultAt 5 x_bad = x_push (.int (-10)) 2 := rfl
theorem kX8_faultAt_7 : List.getD tX8_faultAt 7 x_bad = x_iload 2 1 := rfl
theorem kX8_faultAt_8 : List.getD tX8_faultAt 8 x_bad = x_ii (fun a b => a - b) := rfl
theorem kX8_faultAt_9 : List.getD tX8_faultAt 9 x_bad = x_iret := rfl
def tX1_init : List PT := [x_aload 0 1, x_objinit, x_bad, x_bad, x_vret]
set_option maxRecDepth 20000 in
theorem okX1_init : SndT RX1 cX1_init mX1_init.2.2.1 mX1_init.2.2.2.2.1 mX1_init.2.2.2.2.2 true mX1_init.2.2.2.1 0 tX1_init := ⟨s_aload_n (k := 0) (i := 0) (by decide +kernel) rfl, s_objinit (by decide +kernel) tb_156 tb_90 tb_91 (by decide) (by decide), s_bad, s_bad, s_vret (by decide +kernel) rfl, trivial⟩
theorem kX1_init_0 : List.getD tX1_init 0 x_bad = x_aload 0 1 := rfl
theorem kX1_init_1 : List.getD tX1_init 1 x_bad = x_objinit := rfl
theorem kX1_init_4 : List.getD tX1_init 4 x_bad = x_vret := rfl
def tX1_size : List PT := [x_aload 0 1, x_getL 1 0, x_bad, x_bad, x_callS1 mJ13_bitCount_95d88, x_bad, x_bad, x_aload 0 1, x_getL 1 1, x_bad, x_bad, x_callS1 mJ13_bitCount_95d88, x_bad, x_bad, x_ii (fun a b => a + b), x_iret]
set_option maxRecDepth 20000 in
theorem okX1_size : SndT RX1 cX1_size mX1_size.2.2.1 mX1_size.2.2.2.2.1 mX1_size.2.2.2.2.2 false mX1_size.2.2.2.1 0 tX1_size := ⟨s_aload_n (k := 0) (i := 0) (by decide +kernel) rfl, s_getL (by decide +kernel) fl_RX1_7 rfl, s_bad, s_bad, s_callS1 (by decide +kernel) ls_RX1_16 ⟨by decide, by decide⟩, s_bad, s_bad, s_aload_n (k := 0) (i := 0) (by decide +kernel) rfl, s_getL (by decide +kernel) fl_RX1_13 rfl, s_bad, s_bad, s_callS1 (by decide +kernel) ls_RX1_16 ⟨by decide, by decide⟩, s_bad, s_bad, s_iadd (by decide +kernel), s_iret (by decide +kernel) rfl, trivial⟩
theorem kX1_size_0 : List.getD tX1_size 0 x_bad = x_aload 0 1 := rfl
theorem kX1_size_1 : List.getD tX1_size 1 x_bad = x_getL 1 0 := rfl
theorem kX1_size_4 : List.getD tX1_size 4 x_bad = x_callS1 mJ13_bitCount_95d88 := rfl
theorem kX1_size_7 : List.getD tX1_size 7 x_bad = x_aload 0 1 := rfl
theorem kX1_size_8 : List.getD tX1_size 8 x_bad = x_getL 1 1 := rfl
theorem kX1_size_11 : List.getD tX1_size 11 x_bad = x_callS1 mJ13_bitCount_95d88 := rfl
theorem kX1_size_14 : List.getD tX1_size 14 x_bad = x_ii (fun a b => a + b) := rfl
theorem kX1_size_15 : List.getD tX1_size 15 x_bad = x_iret := rfl
def tX1_sizeShared : List PT := [x_aload 0 1, x_getL 1 0, x_bad, x_bad, x_aload 1 1, x_getL 1 0, x_bad, x_bad, x_ll (fun a b => a &&& b), x_callS1 mJ13_bitCount_95d88, x_bad, x_bad, x_aload 0 1, x_getL 1 1, x_bad, x_bad, x_aload 1 1, x_getL 1 1, x_bad, x_bad, x_ll (fun a b => a &&& b), x_callS1 mJ13_bitCount_95d88, x_bad, x_bad, x_ii (fun a b => a + b), x_iret]
set_option maxRecDepth 20000 in
theorem okX1_sizeShared : SndT RX1 cX1_sizeShared mX1_sizeShared.2.2.1 mX1_sizeShared.2.2.2.2.1 mX1_sizeShared.2.2.2.2.2 false mX1_sizeShared.2.2.2.1 0 tX1_sizeShared := ⟨s_aload_n (k := 0) (i := 0) (by decide +kernel) rfl, s_getL (by decide +kernel) fl_RX1_7 rfl, s_bad, s_bad, s_aload_n (k := 1) (i := 1) (by decide +kernel) rfl, s_getL (by decide +kernel) fl_RX1_7 rfl, s_bad, s_bad, s_land (by decide +kernel), s_callS1 (by decide +kernel) ls_RX1_16 ⟨by decide, by decide⟩, s_bad, s_bad, s_aload_n (k := 0) (i := 0) (by decide +kernel) rfl, s_getL (by decide +kernel) fl_RX1_13 rfl, s_bad, s_bad, s_aload_n (k := 1) (i := 1) (by decide +kernel) rfl, s_getL (by decide +kernel) fl_RX1_13 rfl, s_bad, s_bad, s_land (by decide +kernel), s_callS1 (by decide +kernel) ls_RX1_16 ⟨by decide, by decide⟩, s_bad, s_bad, s_iadd (by decide +kernel), s_iret (by decide +kernel) rfl, trivial⟩
theorem kX1_sizeShared_0 : List.getD tX1_sizeShared 0 x_bad = x_aload 0 1 := rfl
theorem kX1_sizeShared_1 : List.getD tX1_sizeShared 1 x_bad = x_getL 1 0 := rfl
theorem kX1_sizeShared_4 : List.getD tX1_sizeShared 4 x_bad = x_aload 1 1 := rfl
theorem kX1_sizeShared_5 : List.getD tX1_sizeShared 5 x_bad = x_getL 1 0 := rfl
theorem kX1_sizeShared_8 : List.getD tX1_sizeShared 8 x_bad = x_ll (fun a b => a &&& b) := rfl
theorem kX1_sizeShared_9 : List.getD tX1_sizeShared 9 x_bad = x_callS1 mJ13_bitCount_95d88 := rfl
theorem kX1_sizeShared_12 : List.getD tX1_sizeShared 12 x_bad = x_aload 0 1 := rfl
theorem kX1_sizeShared_13 : List.getD tX1_sizeShared 13 x_bad = x_getL 1 1 := rfl
theorem kX1_sizeShared_16 : List.getD tX1_sizeShared 16 x_bad = x_aload 1 1 := rfl
theorem kX1_sizeShared_17 : List.getD tX1_sizeShared 17 x_bad = x_getL 1 1 := rfl
theorem kX1_sizeShared_20 : List.getD tX1_sizeShared 20 x_bad = x_ll (fun a b => a &&& b) := rfl
theorem kX1_sizeShared_21 : List.getD tX1_sizeShared 21 x_bad = x_callS1 mJ13_bitCount_95d88 := rfl
theorem kX1_sizeShared_24 : List.getD tX1_sizeShared 24 x_bad = x_ii (fun a b => a + b) := rfl
theorem kX1_sizeShared_25 : List.getD tX1_sizeShared 25 x_bad = x_iret := rfl
def tX2_init : List PT := [x_aload 0 1, x_objinit, x_bad, x_bad, x_aload 0 1, x_push (.int (nI 0)) 1, x_putI 2 0, x_bad, x_bad, x_aload 0 1, x_push (.int (nI 0)) 1, x_putI 2 1, x_bad, x_bad, x_aload 0 1, x_push (.int (nI 0)) 1, x_putI 2 2, x_bad, x_bad, x_vret]
set_option maxRecDepth 20000 in
theorem okX2_init : SndT RX2 cX2_init mX2_init.2.2.1 mX2_init.2.2.2.2.1 mX2_init.2.2.2.2.2 true mX2_init.2.2.2.1 0 tX2_init := ⟨s_aload_n (k := 0) (i := 0) (by decide +kernel) rfl, s_objinit (by decide +kernel) tb_210 tb_90 tb_91 (by decide) (by decide), s_bad, s_bad, s_aload_n (k := 0) (i := 0) (by decide +kernel) rfl, s_iconst (n := 0) (by decide +kernel) (by decide +kernel), s_putI (by decide +kernel) fl_RX2_7 fp_2_0 rfl, s_bad, s_bad, s_aload_n (k := 0) (i := 0) (by decide +kernel) rfl, s_iconst (n := 0) (by decide +kernel) (by decide +kernel), s_putI (by decide +kernel) fl_RX2_13 fp_2_1 rfl, s_bad, s_bad, s_aload_n (k := 0) (i := 0) (by decide +kernel) rfl, s_iconst (n := 0) (by decide +kernel) (by decide +kernel), s_putI (by decide +kernel) fl_RX2_16 fp_2_2 rfl, s_bad, s_bad, s_vret (by decide +kernel) rfl, trivial⟩
theorem kX2_init_0 : List.getD tX2_init 0 x_bad = x_aload 0 1 := rfl
theorem kX2_init_1 : List.getD tX2_init 1 x_bad = x_objinit := rfl
theorem kX2_init_4 : List.getD tX2_init 4 x_bad = x_aload 0 1 := rfl
theorem kX2_init_5 : List.getD tX2_init 5 x_bad = x_push (.int (nI 0)) 1 := rfl
theorem kX2_init_6 : List.getD tX2_init 6 x_bad = x_putI 2 0 := rfl
theorem kX2_init_9 : List.getD tX2_init 9 x_bad = x_aload 0 1 := rfl
theorem kX2_init_10 : List.getD tX2_init 10 x_bad = x_push (.int (nI 0)) 1 := rfl
theorem kX2_init_11 : List.getD tX2_init 11 x_bad = x_putI 2 1 := rfl
theorem kX2_init_14 : List.getD tX2_init 14 x_bad = x_aload 0 1 := rfl
theorem kX2_init_15 : List.getD tX2_init 15 x_bad = x_push (.int (nI 0)) 1 := rfl
theorem kX2_init_16 : List.getD tX2_init 16 x_bad = x_putI 2 2 := rfl
theorem kX2_init_19 : List.getD tX2_init 19 x_bad = x_vret := rfl
def tX2_kindOf : List PT := [x_aload 0 1, x_callV0 2 mX2_mixed, x_bad, x_bad, x_iload 1 1, x_ii (fun a b => a >>> (b &&& 31)), x_push (.int (nI 1)) 1, x_ii (fun a b => a &&& b), x_if (fun a => a = 0) 13, x_bad, x_bad, x_push (.int (nI 3)) 1, x_iret, x_aload 0 1, x_getI 2 0, x_bad, x_bad, x_iload 1 1, x_ii (fun a b => a >>> (b &&& 31)), x_push (.int (nI 1)) 1, x_ii (fun a b => a &&& b), x_if (fun a => a = 0) 26, x_bad, x_bad, x_push (.int (nI 1)) 1, x_iret, x_aload 0 1, x_getI 2 1, x_bad, x_bad, x_iload 1 1, x_ii (fun a b => a >>> (b &&& 31)), x_push (.int (nI 1)) 1, x_ii (fun a b => a &&& b), x_if (fun a => a = 0) 41, x_bad, x_bad, x_push (.int (nI 2)) 1, x_goto 42, x_bad, x_bad, x_push (.int (nI 0)) 1, x_iret]
set_option maxRecDepth 20000 in
theorem okX2_kindOf : SndT RX2 cX2_kindOf mX2_kindOf.2.2.1 mX2_kindOf.2.2.2.2.1 mX2_kindOf.2.2.2.2.2 false mX2_kindOf.2.2.2.1 0 tX2_kindOf := ⟨s_aload_n (k := 0) (i := 0) (by decide +kernel) rfl, s_callV0 (by decide +kernel) lv_RX2_31 ⟨by decide, by decide⟩, s_bad, s_bad, s_iload_n (k := 1) (i := 1) (by decide +kernel) rfl, s_ishr (by decide +kernel), s_iconst (n := 1) (by decide +kernel) (by decide +kernel), s_iand (by decide +kernel), s_if_eq (off := 5) (by decide +kernel) (by decide), s_bad, s_bad, s_iconst (n := 3) (by decide +kernel) (by decide +kernel), s_iret (by decide +kernel) rfl, s_aload_n (k := 0) (i := 0) (by decide +kernel) rfl, s_getI (by decide +kernel) fl_RX2_7 rfl, s_bad, s_bad, s_iload_n (k := 1) (i := 1) (by decide +kernel) rfl, s_ishr (by decide +kernel), s_iconst (n := 1) (by decide +kernel) (by decide +kernel), s_iand (by decide +kernel), s_if_eq (off := 5) (by decide +kernel) (by decide), s_bad, s_bad, s_iconst (n := 1) (by decide +kernel) (by decide +kernel), s_iret (by decide +kernel) rfl, s_aload_n (k := 0) (i := 0) (by decide +kernel) rfl, s_getI (by decide +kernel) fl_RX2_13 rfl, s_bad, s_bad, s_iload_n (k := 1) (i := 1) (by decide +kernel) rfl, s_ishr (by decide +kernel), s_iconst (n := 1) (by decide +kernel) (by decide +kernel), s_iand (by decide +kernel), s_if_eq (off := 7) (by decide +kernel) (by decide), s_bad, s_bad, s_iconst (n := 2) (by decide +kernel) (by decide +kernel), s_goto (off := 4) (by decide +kernel) (by decide), s_bad, s_bad, s_iconst (n := 0) (by decide +kernel) (by decide +kernel), s_iret (by decide +kernel) rfl, trivial⟩
theorem kX2_kindOf_0 : List.getD tX2_kindOf 0 x_bad = x_aload 0 1 := rfl
theorem kX2_kindOf_1 : List.getD tX2_kindOf 1 x_bad = x_callV0 2 mX2_mixed := rfl
theorem kX2_kindOf_4 : List.getD tX2_kindOf 4 x_bad = x_iload 1 1 := rfl
theorem kX2_kindOf_5 : List.getD tX2_kindOf 5 x_bad = x_ii (fun a b => a >>> (b &&& 31)) := rfl
theorem kX2_kindOf_6 : List.getD tX2_kindOf 6 x_bad = x_push (.int (nI 1)) 1 := rfl
theorem kX2_kindOf_7 : List.getD tX2_kindOf 7 x_bad = x_ii (fun a b => a &&& b) := rfl
theorem kX2_kindOf_8 : List.getD tX2_kindOf 8 x_bad = x_if (fun a => a = 0) 13 := rfl
theorem kX2_kindOf_11 : List.getD tX2_kindOf 11 x_bad = x_push (.int (nI 3)) 1 := rfl
theorem kX2_kindOf_12 : List.getD tX2_kindOf 12 x_bad = x_iret := rfl
theorem kX2_kindOf_13 : List.getD tX2_kindOf 13 x_bad = x_aload 0 1 := rfl
theorem kX2_kindOf_14 : List.getD tX2_kindOf 14 x_bad = x_getI 2 0 := rfl
theorem kX2_kindOf_17 : List.getD tX2_kindOf 17 x_bad = x_iload 1 1 := rfl
theorem kX2_kindOf_18 : List.getD tX2_kindOf 18 x_bad = x_ii (fun a b => a >>> (b &&& 31)) := rfl
theorem kX2_kindOf_19 : List.getD tX2_kindOf 19 x_bad = x_push (.int (nI 1)) 1 := rfl
theorem kX2_kindOf_20 : List.getD tX2_kindOf 20 x_bad = x_ii (fun a b => a &&& b) := rfl
theorem kX2_kindOf_21 : List.getD tX2_kindOf 21 x_bad = x_if (fun a => a = 0) 26 := rfl
theorem kX2_kindOf_24 : List.getD tX2_kindOf 24 x_bad = x_push (.int (nI 1)) 1 := rfl
theorem kX2_kindOf_25 : List.getD tX2_kindOf 25 x_bad = x_iret := rfl
theorem kX2_kindOf_26 : List.getD tX2_kindOf 26 x_bad = x_aload 0 1 := rfl
theorem kX2_kindOf_27 : List.getD tX2_kindOf 27 x_bad = x_getI 2 1 := rfl
theorem kX2_kindOf_30 : List.getD tX2_kindOf 30 x_bad = x_iload 1 1 := rfl
theorem kX2_kindOf_31 : List.getD tX2_kindOf 31 x_bad = x_ii (fun a b => a >>> (b &&& 31)) := rfl
theorem kX2_kindOf_32 : List.getD tX2_kindOf 32 x_bad = x_push (.int (nI 1)) 1 := rfl
theorem kX2_kindOf_33 : List.getD tX2_kindOf 33 x_bad = x_ii (fun a b => a &&& b) := rfl
theorem kX2_kindOf_34 : List.getD tX2_kindOf 34 x_bad = x_if (fun a => a = 0) 41 := rfl
theorem kX2_kindOf_37 : List.getD tX2_kindOf 37 x_bad = x_push (.int (nI 2)) 1 := rfl
theorem kX2_kindOf_38 : List.getD tX2_kindOf 38 x_bad = x_goto 42 := rfl
theorem kX2_kindOf_41 : List.getD tX2_kindOf 41 x_bad = x_push (.int (nI 0)) 1 := rfl
theorem kX2_kindOf_42 : List.getD tX2_kindOf 42 x_bad = x_iret := rfl
def tX2_measure : List PT := [x_aload 0 1, x_callV0 2 mX2_begin, x_bad, x_bad, x_push (.int (nI 0)) 1, x_istore 3 1, x_iload 3 1, x_aload 1 1, x_getI 3 1, x_bad, x_bad, x_icmp (fun a b => b ≤ a) 27, x_bad, x_bad, x_aload 0 1, x_aload 1 1, x_iload 3 1, x_iload 2 1, x_callV3 2 mX2_take, x_bad, x_bad, x_iinc 3 (nI 1), x_bad, x_bad, x_goto 6, x_bad, x_bad, x_vret]
set_option maxRecDepth 20000 in
theorem okX2_measure : SndT RX2 cX2_measure mX2_measure.2.2.1 mX2_measure.2.2.2.2.1 mX2_measure.2.2.2.2.2 false mX2_measure.2.2.2.1 0 tX2_measure := ⟨s_aload_n (k := 0) (i := 0) (by decide +kernel) rfl, s_callV0 (by decide +kernel) lv_RX2_19 ⟨by decide, by decide⟩, s_bad, s_bad, s_iconst (n := 0) (by decide +kernel) (by decide +kernel), s_istore_n (k := 3) (i := 3) (by decide +kernel) rfl (by decide), s_iload_n (k := 3) (i := 3) (by decide +kernel) rfl, s_aload_n (k := 1) (i := 1) (by decide +kernel) rfl, s_getI (by decide +kernel) fl_RX2_22 rfl, s_bad, s_bad, s_icmp_ge (off := 16) (by decide +kernel) (by decide), s_bad, s_bad, s_aload_n (k := 0) (i := 0) (by decide +kernel) rfl, s_aload_n (k := 1) (i := 1) (by decide +kernel) rfl, s_iload_n (k := 3) (i := 3) (by decide +kernel) rfl, s_iload_n (k := 2) (i := 2) (by decide +kernel) rfl, s_callV3 (by decide +kernel) lv_RX2_27 ⟨by decide, by decide⟩, s_bad, s_bad, s_iinc (n := 1) (by decide +kernel) (by decide +kernel) (by decide), s_bad, s_bad, s_goto (off := (-18)) (by decide +kernel) (by decide), s_bad, s_bad, s_vret (by decide +kernel) rfl, trivial⟩
theorem kX2_measure_0 : List.getD tX2_measure 0 x_bad = x_aload 0 1 := rfl
theorem kX2_measure_1 : List.getD tX2_measure 1 x_bad = x_callV0 2 mX2_begin := rfl
theorem kX2_measure_4 : List.getD tX2_measure 4 x_bad = x_push (.int (nI 0)) 1 := rfl
theorem kX2_measure_5 : List.getD tX2_measure 5 x_bad = x_istore 3 1 := rfl
theorem kX2_measure_6 : List.getD tX2_measure 6 x_bad = x_iload 3 1 := rfl
theorem kX2_measure_7 : List.getD tX2_measure 7 x_bad = x_aload 1 1 := rfl
theorem kX2_measure_8 : List.getD tX2_measure 8 x_bad = x_getI 3 1 := rfl
theorem kX2_measure_11 : List.getD tX2_measure 11 x_bad = x_icmp (fun a b => b ≤ a) 27 := rfl
theorem kX2_measure_14 : List.getD tX2_measure 14 x_bad = x_aload 0 1 := rfl
theorem kX2_measure_15 : List.getD tX2_measure 15 x_bad = x_aload 1 1 := rfl
theorem kX2_measure_16 : List.getD tX2_measure 16 x_bad = x_iload 3 1 := rfl
theorem kX2_measure_17 : List.getD tX2_measure 17 x_bad = x_iload 2 1 := rfl
theorem kX2_measure_18 : List.getD tX2_measure 18 x_bad = x_callV3 2 mX2_take := rfl
theorem kX2_measure_21 : List.getD tX2_measure 21 x_bad = x_iinc 3 (nI 1) := rfl
theorem kX2_measure_24 : List.getD tX2_measure 24 x_bad = x_goto 6 := rfl
theorem kX2_measure_27 : List.getD tX2_measure 27 x_bad = x_vret := rfl
def tX2_measureRegion : List PT := [x_aload 0 1, x_callV0 2 mX2_begin, x_bad, x_bad, x_push (.int (nI 0)) 1, x_istore 3 1, x_iload 3 1, x_aload 1 1, x_getI 3 1, x_bad, x_bad, x_icmp (fun a b => b ≤ a) 34, x_bad, x_bad, x_aload 0 1, x_callV0 2 mX2_mixed, x_bad, x_bad, x_ifn (fun a => a = 0) 34, x_bad, x_bad, x_aload 0 1, x_aload 1 1, x_iload 3 1, x_iload 2 1, x_callV3 2 mX2_take, x_bad, x_bad, x_iinc 3 (nI 1), x_bad, x_bad, x_goto 6, x_bad, x_bad, x_aload 0 1, x_callV0 2 mX2_mixed, x_bad, x_bad, x_ifn (fun a => a = 0) 45, x_bad, x_bad, x_push (.int (nI 1)) 1, x_goto 46, x_bad, x_bad, x_push (.int (nI 0)) 1, x_zret]
set_option maxRecDepth 20000 in
theorem okX2_measureRegion : SndT RX2 cX2_measureRegion mX2_measureRegion.2.2.1 mX2_measureRegion.2.2.2.2.1 mX2_measureRegion.2.2.2.2.2 false mX2_measureRegion.2.2.2.1 0 tX2_measureRegion := ⟨s_aload_n (k := 0) (i := 0) (by decide +kernel) rfl, s_callV0 (by decide +kernel) lv_RX2_19 ⟨by decide, by decide⟩, s_bad, s_bad, s_iconst (n := 0) (by decide +kernel) (by decide +kernel), s_istore_n (k := 3) (i := 3) (by decide +kernel) rfl (by decide), s_iload_n (k := 3) (i := 3) (by decide +kernel) rfl, s_aload_n (k := 1) (i := 1) (by decide +kernel) rfl, s_getI (by decide +kernel) fl_RX2_22 rfl, s_bad, s_bad, s_icmp_ge (off := 23) (by decide +kernel) (by decide), s_bad, s_bad, s_aload_n (k := 0) (i := 0) (by decide +kernel) rfl, s_callV0 (by decide +kernel) lv_RX2_31 ⟨by decide, by decide⟩, s_bad, s_bad, s_if_ne (off := 16) (by decide +kernel) (by decide), s_bad, s_bad, s_aload_n (k := 0) (i := 0) (by decide +kernel) rfl, s_aload_n (k := 1) (i := 1) (by decide +kernel) rfl, s_iload_n (k := 3) (i := 3) (by decide +kernel) rfl, s_iload_n (k := 2) (i := 2) (by decide +kernel) rfl, s_callV3 (by decide +kernel) lv_RX2_27 ⟨by decide, by decide⟩, s_bad, s_bad, s_iinc (n := 1) (by decide +kernel) (by decide +kernel) (by decide), s_bad, s_bad, s_goto (off := (-25)) (by decide +kernel) (by decide), s_bad, s_bad, s_aload_n (k := 0) (i := 0) (by decide +kernel) rfl, s_callV0 (by decide +kernel) lv_RX2_31 ⟨by decide, by decide⟩, s_bad, s_bad, s_if_ne (off := 7) (by decide +kernel) (by decide), s_bad, s_bad, s_iconst (n := 1) (by decide +kernel) (by decide +kernel), s_goto (off := 4) (by decide +kernel) (by decide), s_bad, s_bad, s_iconst (n := 0) (by decide +kernel) (by decide +kernel), s_zret (by decide +kernel) rfl, trivial⟩
theorem kX2_measureRegion_0 : List.getD tX2_measureRegion 0 x_bad = x_aload 0 1 := rfl
theorem kX2_measureRegion_1 : List.getD tX2_measureRegion 1 x_bad = x_callV0 2 mX2_begin := rfl
theorem kX2_measureRegion_4 : List.getD tX2_measureRegion 4 x_bad = x_push (.int (nI 0)) 1 := rfl
theorem kX2_measureRegion_5 : List.getD tX2_measureRegion 5 x_bad = x_istore 3 1 := rfl
theorem kX2_measureRegion_6 : List.getD tX2_measureRegion 6 x_bad = x_iload 3 1 := rfl
theorem kX2_measureRegion_7 : List.getD tX2_measureRegion 7 x_bad = x_aload 1 1 := rfl
theorem kX2_measureRegion_8 : List.getD tX2_measureRegion 8 x_bad = x_getI 3 1 := rfl
theorem kX2_measureRegion_11 : List.getD tX2_measureRegion 11 x_bad = x_icmp (fun a b => b ≤ a) 34 := rfl
theorem kX2_measureRegion_14 : List.getD tX2_measureRegion 14 x_bad = x_aload 0 1 := rfl
theorem kX2_measureRegion_15 : List.getD tX2_measureRegion 15 x_bad = x_callV0 2 mX2_mixed := rfl
theorem kX2_measureRegion_18 : List.getD tX2_measureRegion 18 x_bad = x_ifn (fun a => a = 0) 34 := rfl
theorem kX2_measureRegion_21 : List.getD tX2_measureRegion 21 x_bad = x_aload 0 1 := rfl
theorem kX2_measureRegion_22 : List.getD tX2_measureRegion 22 x_bad = x_aload 1 1 := rfl
theorem kX2_measureRegion_23 : List.getD tX2_measureRegion 23 x_bad = x_iload 3 1 := rfl
theorem kX2_measureRegion_24 : List.getD tX2_measureRegion 24 x_bad = x_iload 2 1 := rfl
theorem kX2_measureRegion_25 : List.getD tX2_measureRegion 25 x_bad = x_callV3 2 mX2_take := rfl
theorem kX2_measureRegion_28 : List.getD tX2_measureRegion 28 x_bad = x_iinc 3 (nI 1) := rfl
theorem kX2_measureRegion_31 : List.getD tX2_measureRegion 31 x_bad = x_goto 6 := rfl
theorem kX2_measureRegion_34 : List.getD tX2_measureRegion 34 x_bad = x_aload 0 1 := rfl
theorem kX2_measureRegion_35 : List.getD tX2_measureRegion 35 x_bad = x_callV0 2 mX2_mixed := rfl
theorem kX2_measureRegion_38 : List.getD tX2_measureRegion 38 x_bad = x_ifn (fun a => a = 0) 45 := rfl
theorem kX2_measureRegion_41 : List.getD tX2_measureRegion 41 x_bad = x_push (.int (nI 1)) 1 := rfl
theorem kX2_measureRegion_42 : List.getD tX2_measureRegion 42 x_bad = x_goto 46 := rfl
theorem kX2_measureRegion_45 : List.getD tX2_measureRegion 45 x_bad = x_push (.int (nI 0)) 1 := rfl
theorem kX2_measureRegion_46 : List.getD tX2_measureRegion 46 x_bad = x_zret := rfl
def tX3_init : List PT := [x_aload 0 1, x_objinit, x_bad, x_bad, x_aload 0 1, x_push (.int (nI 1)) 1, x_putI 3 0, x_bad, x_bad, x_aload 0 1, x_push (.int (nI 0)) 1, x_putI 3 1, x_bad, x_bad, x_aload 0 1, x_push (.int (nI 24)) 2, x_bad, x_newa 20, x_bad, x_putR 3 2, x_bad, x_bad, x_aload 0 1, x_push (.int (nI 24)) 2, x_bad, x_newa 20, x_bad, x_putR 3 3, x_bad, x_bad, x_aload 0 1, x_push (.int (nI 24)) 2, x_bad, x_newa 20, x_bad, x_putR 3 4, x_bad, x_bad, x_vret]
set_option maxRecDepth 20000 in
theorem okX3_init : SndT RX3 cX3_init mX3_init.2.2.1 mX3_init.2.2.2.2.1 mX3_init.2.2.2.2.2 true mX3_init.2.2.2.1 0 tX3_init := ⟨s_aload_n (k := 0) (i := 0) (by decide +kernel) rfl, s_objinit (by decide +kernel) tb_116 tb_90 tb_91 (by decide) (by decide), s_bad, s_bad, s_aload_n (k := 0) (i := 0) (by decide +kernel) rfl, s_iconst (n := 1) (by decide +kernel) (by decide +kernel), s_putI (by decide +kernel) fl_RX3_9 fp_3_0 rfl, s_bad, s_bad, s_aload_n (k := 0) (i := 0) (by decide +kernel) rfl, s_iconst (n := 0) (by decide +kernel) (by decide +kernel), s_putI (by decide +kernel) fl_RX3_15 fp_3_1 rfl, s_bad, s_bad, s_aload_n (k := 0) (i := 0) (by decide +kernel) rfl, s_bipush (n := 24) (by decide +kernel) (by decide +kernel), s_bad, s_newa_i (by decide +kernel) tb_110, s_bad, s_putR rfl (by decide +kernel) fl_RX3_18 fp_3_2 rfl (fun _ => ⟨rfl, rfl⟩) ⟨_, rfl, rfl⟩ (fun r hr => by cases hr; exact tb_125), s_bad, s_bad, s_aload_n (k := 0) (i := 0) (by decide +kernel) rfl, s_bipush (n := 24) (by decide +kernel) (by decide +kernel), s_bad, s_newa_i (by decide +kernel) tb_110, s_bad, s_putR rfl (by decide +kernel) fl_RX3_22 fp_3_3 rfl (fun _ => ⟨rfl, rfl⟩) ⟨_, rfl, rfl⟩ (fun r hr => by cases hr; exact tb_128), s_bad, s_bad, s_aload_n (k := 0) (i := 0) (by decide +kernel) rfl, s_bipush (n := 24) (by decide +kernel) (by decide +kernel), s_bad, s_newa_i (by decide +kernel) tb_110, s_bad, s_putR rfl (by decide +kernel) fl_RX3_25 fp_3_4 rfl (fun _ => ⟨rfl, rfl⟩) ⟨_, rfl, rfl⟩ (fun r hr => by cases hr; exact tb_131), s_bad, s_bad, s_vret (by decide +kernel) rfl, trivial⟩
theorem kX3_init_0 : List.getD tX3_init 0 x_bad = x_aload 0 1 := rfl
theorem kX3_init_1 : List.getD tX3_init 1 x_bad = x_objinit := rfl
theorem kX3_init_4 : List.getD tX3_init 4 x_bad = x_aload 0 1 := rfl
theorem kX3_init_5 : List.getD tX3_init 5 x_bad = x_push (.int (nI 1)) 1 := rfl
theorem kX3_init_6 : List.getD tX3_init 6 x_bad = x_putI 3 0 := rfl
theorem kX3_init_9 : List.getD tX3_init 9 x_bad = x_aload 0 1 := rfl
theorem kX3_init_10 : List.getD tX3_init 10 x_bad = x_push (.int (nI 0)) 1 := rfl
theorem kX3_init_11 : List.getD tX3_init 11 x_bad = x_putI 3 1 := rfl
theorem kX3_init_14 : List.getD tX3_init 14 x_bad = x_aload 0 1 := rfl
theorem kX3_init_15 : List.getD tX3_init 15 x_bad = x_push (.int (nI 24)) 2 := rfl
theorem kX3_init_17 : List.getD tX3_init 17 x_bad = x_newa 20 := rfl
theorem kX3_init_19 : List.getD tX3_init 19 x_bad = x_putR 3 2 := rfl
theorem kX3_init_22 : List.getD tX3_init 22 x_bad = x_aload 0 1 := rfl
theorem kX3_init_23 : List.getD tX3_init 23 x_bad = x_push (.int (nI 24)) 2 := rfl
theorem kX3_init_25 : List.getD tX3_init 25 x_bad = x_newa 20 := rfl
theorem kX3_init_27 : List.getD tX3_init 27 x_bad = x_putR 3 3 := rfl
theorem kX3_init_30 : List.getD tX3_init 30 x_bad = x_aload 0 1 := rfl
theorem kX3_init_31 : List.getD tX3_init 31 x_bad = x_push (.int (nI 24)) 2 := rfl
theorem kX3_init_33 : List.getD tX3_init 33 x_bad = x_newa 20 := rfl
theorem kX3_init_35 : List.getD tX3_init 35 x_bad = x_putR 3 4 := rfl
theorem kX3_init_38 : List.getD tX3_init 38 x_bad = x_vret := rfl
def tX3_statesNeeded : List PT := [x_push (.int (nI 0)) 1, x_istore 1 1, x_push (.int (nI 0)) 1, x_istore 2 1, x_iload 2 1, x_aload 0 1, x_getI 3 1, x_bad, x_bad, x_icmp (fun a b => b ≤ a) 38, x_bad, x_bad, x_iload 1 1, x_aload 0 1, x_getR 3 2, x_bad, x_bad, x_iload 2 1, x_iald, x_aload 0 1, x_getR 3 4, x_bad, x_bad, x_iload 2 1, x_iald, x_callS2 mJ9_max_7cf53, x_bad, x_bad, x_callS2 mJ9_max_7cf53, x_bad, x_bad, x_istore 1 1, x_iinc 2 (nI 1), x_bad, x_bad, x_goto 4, x_bad, x_bad, x_iload 1 1, x_push (.int (nI 1)) 1, x_ii (fun a b => a + b), x_iret]
set_option maxRecDepth 20000 in
theorem okX3_statesNeeded : SndT RX3 cX3_statesNeeded mX3_statesNeeded.2.2.1 mX3_statesNeeded.2.2.2.2.1 mX3_statesNeeded.2.2.2.2.2 false mX3_statesNeeded.2.2.2.1 0 tX3_statesNeeded := ⟨s_iconst (n := 0) (by decide +kernel) (by decide +kernel), s_istore_n (k := 1) (i := 1) (by decide +kernel) rfl (by decide), s_iconst (n := 0) (by decide +kernel) (by decide +kernel), s_istore_n (k := 2) (i := 2) (by decide +kernel) rfl (by decide), s_iload_n (k := 2) (i := 2) (by decide +kernel) rfl, s_aload_n (k := 0) (i := 0) (by decide +kernel) rfl, s_getI (by decide +kernel) fl_RX3_15 rfl, s_bad, s_bad, s_icmp_ge (off := 29) (by decide +kernel) (by decide), s_bad, s_bad, s_iload_n (k := 1) (i := 1) (by decide +kernel) rfl, s_aload_n (k := 0) (i := 0) (by decide +kernel) rfl, s_getR (by decide +kernel) fl_RX3_18 rfl, s_bad, s_bad, s_iload_n (k := 2) (i := 2) (by decide +kernel) rfl, s_iald (by decide +kernel), s_aload_n (k := 0) (i := 0) (by decide +kernel) rfl, s_getR (by decide +kernel) fl_RX3_25 rfl, s_bad, s_bad, s_iload_n (k := 2) (i := 2) (by decide +kernel) rfl, s_iald (by decide +kernel), s_callS2 (by decide +kernel) ls_RX3_28 ⟨by decide, by decide⟩, s_bad, s_bad, s_callS2 (by decide +kernel) ls_RX3_28 ⟨by decide, by decide⟩, s_bad, s_bad, s_istore_n (k := 1) (i := 1) (by decide +kernel) rfl (by decide), s_iinc (n := 1) (by decide +kernel) (by decide +kernel) (by decide), s_bad, s_bad, s_goto (off := (-31)) (by decide +kernel) (by decide), s_bad, s_bad, s_iload_n (k := 1) (i := 1) (by decide +kernel) rfl, s_iconst (n := 1) (by decide +kernel) (by decide +kernel), s_iadd (by decide +kernel), s_iret (by decide +kernel) rfl, trivial⟩
theorem kX3_statesNeeded_0 : List.getD tX3_statesNeeded 0 x_bad = x_push (.int (nI 0)) 1 := rfl
theorem kX3_statesNeeded_1 : List.getD tX3_statesNeeded 1 x_bad = x_istore 1 1 := rfl
theorem kX3_statesNeeded_2 : List.getD tX3_statesNeeded 2 x_bad = x_push (.int (nI 0)) 1 := rfl
theorem kX3_statesNeeded_3 : List.getD tX3_statesNeeded 3 x_bad = x_istore 2 1 := rfl
theorem kX3_statesNeeded_4 : List.getD tX3_statesNeeded 4 x_bad = x_iload 2 1 := rfl
theorem kX3_statesNeeded_5 : List.getD tX3_statesNeeded 5 x_bad = x_aload 0 1 := rfl
theorem kX3_statesNeeded_6 : List.getD tX3_statesNeeded 6 x_bad = x_getI 3 1 := rfl
theorem kX3_statesNeeded_9 : List.getD tX3_statesNeeded 9 x_bad = x_icmp (fun a b => b ≤ a) 38 := rfl
theorem kX3_statesNeeded_12 : List.getD tX3_statesNeeded 12 x_bad = x_iload 1 1 := rfl
theorem kX3_statesNeeded_13 : List.getD tX3_statesNeeded 13 x_bad = x_aload 0 1 := rfl
theorem kX3_statesNeeded_14 : List.getD tX3_statesNeeded 14 x_bad = x_getR 3 2 := rfl
theorem kX3_statesNeeded_17 : List.getD tX3_statesNeeded 17 x_bad = x_iload 2 1 := rfl
theorem kX3_statesNeeded_18 : List.getD tX3_statesNeeded 18 x_bad = x_iald := rfl
theorem kX3_statesNeeded_19 : List.getD tX3_statesNeeded 19 x_bad = x_aload 0 1 := rfl
theorem kX3_statesNeeded_20 : List.getD tX3_statesNeeded 20 x_bad = x_getR 3 4 := rfl
theorem kX3_statesNeeded_23 : List.getD tX3_statesNeeded 23 x_bad = x_iload 2 1 := rfl
theorem kX3_statesNeeded_24 : List.getD tX3_statesNeeded 24 x_bad = x_iald := rfl
theorem kX3_statesNeeded_25 : List.getD tX3_statesNeeded 25 x_bad = x_callS2 mJ9_max_7cf53 := rfl
theorem kX3_statesNeeded_28 : List.getD tX3_statesNeeded 28 x_bad = x_callS2 mJ9_max_7cf53 := rfl
theorem kX3_statesNeeded_31 : List.getD tX3_statesNeeded 31 x_bad = x_istore 1 1 := rfl
theorem kX3_statesNeeded_32 : List.getD tX3_statesNeeded 32 x_bad = x_iinc 2 (nI 1) := rfl
theorem kX3_statesNeeded_35 : List.getD tX3_statesNeeded 35 x_bad = x_goto 4 := rfl
theorem kX3_statesNeeded_38 : List.getD tX3_statesNeeded 38 x_bad = x_iload 1 1 := rfl
theorem kX3_statesNeeded_39 : List.getD tX3_statesNeeded 39 x_bad = x_push (.int (nI 1)) 1 := rfl
theorem kX3_statesNeeded_40 : List.getD tX3_statesNeeded 40 x_bad = x_ii (fun a b => a + b) := rfl
theorem kX3_statesNeeded_41 : List.getD tX3_statesNeeded 41 x_bad = x_iret := rfl
def tX3_unusedEvent : List PT := [x_aload 0 1, x_callV0 3 mX3_usedEvents, x_bad, x_bad, x_istore 1 1, x_push (.int (nI 0)) 1, x_istore 2 1, x_iload 2 1, x_push (.int (nI 8)) 2, x_bad, x_icmp (fun a b => b ≤ a) 29, x_bad, x_bad, x_iload 1 1, x_iload 2 1, x_ii (fun a b => a >>> (b &&& 31)), x_push (.int (nI 1)) 1, x_ii (fun a b => a &&& b), x_ifn (fun a => a = 0) 23, x_bad, x_bad, x_iload 2 1, x_iret, x_iinc 2 (nI 1), x_bad, x_bad, x_goto 7, x_bad, x_bad, x_push (.int (-1)) 1, x_iret]
set_option maxRecDepth 20000 in
theorem okX3_unusedEvent : SndT RX3 cX3_unusedEvent mX3_unusedEvent.2.2.1 mX3_unusedEvent.2.2.2.2.1 mX3_unusedEvent.2.2.2.2.2 false mX3_unusedEvent.2.2.2.1 0 tX3_unusedEvent := ⟨s_aload_n (k := 0) (i := 0) (by decide +kernel) rfl, s_callV0 (by decide +kernel) lv_RX3_34 ⟨by decide, by decide⟩, s_bad, s_bad, s_istore_n (k := 1) (i := 1) (by decide +kernel) rfl (by decide), s_iconst (n := 0) (by decide +kernel) (by decide +kernel), s_istore_n (k := 2) (i := 2) (by decide +kernel) rfl (by decide), s_iload_n (k := 2) (i := 2) (by decide +kernel) rfl, s_bipush (n := 8) (by decide +kernel) (by decide +kernel), s_bad, s_icmp_ge (off := 19) (by decide +kernel) (by decide), s_bad, s_bad, s_iload_n (k := 1) (i := 1) (by decide +kernel) rfl, s_iload_n (k := 2) (i := 2) (by decide +kernel) rfl, s_ishr (by decide +kernel), s_iconst (n := 1) (by decide +kernel) (by decide +kernel), s_iand (by decide +kernel), s_if_ne (off := 5) (by decide +kernel) (by decide), s_bad, s_bad, s_iload_n (k := 2) (i := 2) (by decide +kernel) rfl, s_iret (by decide +kernel) rfl, s_iinc (n := 1) (by decide +kernel) (by decide +kernel) (by decide), s_bad, s_bad, s_goto (off := (-19)) (by decide +kernel) (by decide), s_bad, s_bad, s_iconst (n := (-1)) (by decide +kernel) (by decide +kernel), s_iret (by decide +kernel) rfl, trivial⟩
theorem kX3_unusedEvent_0 : List.getD tX3_unusedEvent 0 x_bad = x_aload 0 1 := rfl
theorem kX3_unusedEvent_1 : List.getD tX3_unusedEvent 1 x_bad = x_callV0 3 mX3_usedEvents := rfl
theorem kX3_unusedEvent_4 : List.getD tX3_unusedEvent 4 x_bad = x_istore 1 1 := rfl
theorem kX3_unusedEvent_5 : List.getD tX3_unusedEvent 5 x_bad = x_push (.int (nI 0)) 1 := rfl
theorem kX3_unusedEvent_6 : List.getD tX3_unusedEvent 6 x_bad = x_istore 2 1 := rfl
theorem kX3_unusedEvent_7 : List.getD tX3_unusedEvent 7 x_bad = x_iload 2 1 := rfl
theorem kX3_unusedEvent_8 : List.getD tX3_unusedEvent 8 x_bad = x_push (.int (nI 8)) 2 := rfl
theorem kX3_unusedEvent_10 : List.getD tX3_unusedEvent 10 x_bad = x_icmp (fun a b => b ≤ a) 29 := rfl
theorem kX3_unusedEvent_13 : List.getD tX3_unusedEvent 13 x_bad = x_iload 1 1 := rfl
theorem kX3_unusedEvent_14 : List.getD tX3_unusedEvent 14 x_bad = x_iload 2 1 := rfl
theorem kX3_unusedEvent_15 : List.getD tX3_unusedEvent 15 x_bad = x_ii (fun a b => a >>> (b &&& 31)) := rfl
theorem kX3_unusedEvent_16 : List.getD tX3_unusedEvent 16 x_bad = x_push (.int (nI 1)) 1 := rfl
theorem kX3_unusedEvent_17 : List.getD tX3_unusedEvent 17 x_bad = x_ii (fun a b => a &&& b) := rfl
theorem kX3_unusedEvent_18 : List.getD tX3_unusedEvent 18 x_bad = x_ifn (fun a => a = 0) 23 := rfl
theorem kX3_unusedEvent_21 : List.getD tX3_unusedEvent 21 x_bad = x_iload 2 1 := rfl
theorem kX3_unusedEvent_22 : List.getD tX3_unusedEvent 22 x_bad = x_iret := rfl
theorem kX3_unusedEvent_23 : List.getD tX3_unusedEvent 23 x_bad = x_iinc 2 (nI 1) := rfl
theorem kX3_unusedEvent_26 : List.getD tX3_unusedEvent 26 x_bad = x_goto 7 := rfl
theorem kX3_unusedEvent_29 : List.getD tX3_unusedEvent 29 x_bad = x_push (.int (-1)) 1 := rfl
theorem kX3_unusedEvent_30 : List.getD tX3_unusedEvent 30 x_bad = x_iret := rfl
def tX7_become : List PT := [x_aload 0 1, x_aload 1 1, x_getI 7 0, x_bad, x_bad, x_putI 7 0, x_bad, x_bad, x_aload 0 1, x_getR 7 1, x_bad, x_bad, x_aload 1 1, x_getR 7 1, x_bad, x_bad, x_callV1 1 mX1_become, x_bad, x_bad, x_vret]
set_option maxRecDepth 20000 in
theorem okX7_become : SndT RX7 cX7_become mX7_become.2.2.1 mX7_become.2.2.2.2.1 mX7_become.2.2.2.2.2 false mX7_become.2.2.2.1 0 tX7_become := ⟨s_aload_n (k := 0) (i := 0) (by decide +kernel) rfl, s_aload_n (k := 1) (i := 1) (by decide +kernel) rfl, s_getI (by decide +kernel) fl_RX7_7 rfl, s_bad, s_bad, s_putI (by decide +kernel) fl_RX7_7 fp_7_0 rfl, s_bad, s_bad, s_aload_n (k := 0) (i := 0) (by decide +kernel) rfl, s_getR (by decide +kernel) fl_RX7_16 rfl, s_bad, s_bad, s_aload_n (k := 1) (i := 1) (by decide +kernel) rfl, s_getR (by decide +kernel) fl_RX7_16 rfl, s_bad, s_bad, s_callV1 (by decide +kernel) lv_RX7_20 ⟨by decide, by decide⟩, s_bad, s_bad, s_vret (by decide +kernel) rfl, trivial⟩
theorem kX7_become_0 : List.getD tX7_become 0 x_bad = x_aload 0 1 := rfl
theorem kX7_become_1 : List.getD tX7_become 1 x_bad = x_aload 1 1 := rfl
theorem kX7_become_2 : List.getD tX7_become 2 x_bad = x_getI 7 0 := rfl
theorem kX7_become_5 : List.getD tX7_become 5 x_bad = x_putI 7 0 := rfl
theorem kX7_become_8 : List.getD tX7_become 8 x_bad = x_aload 0 1 := rfl
theorem kX7_become_9 : List.getD tX7_become 9 x_bad = x_getR 7 1 := rfl
theorem kX7_become_12 : List.getD tX7_become 12 x_bad = x_aload 1 1 := rfl
theorem kX7_become_13 : List.getD tX7_become 13 x_bad = x_getR 7 1 := rfl
theorem kX7_become_16 : List.getD tX7_become 16 x_bad = x_callV1 1 mX1_become := rfl
theorem kX7_become_19 : List.getD tX7_become 19 x_bad = x_vret := rfl
def tX8_init : List PT := [x_aload 0 1, x_objinit, x_bad, x_bad, x_aload 0 1, x_push (.int (nI 80)) 2, x_bad, x_newa 20, x_bad, x_putR 8 0, x_bad, x_bad, x_aload 0 1, x_push (.int (nI 0)) 1, x_putI 8 1, x_bad, x_bad, x_aload 0 1, x_push (.int (nI 0)) 1, x_putI 8 2, x_bad, x_bad, x_vret]
set_option maxRecDepth 20000 in
theorem okX8_init : SndT RX8 cX8_init mX8_init.2.2.1 mX8_init.2.2.2.2.1 mX8_init.2.2.2.2.2 true mX8_init.2.2.2.1 0 tX8_init := ⟨s_aload_n (k := 0) (i := 0) (by decide +kernel) rfl, s_objinit (by decide +kernel) tb_97 tb_90 tb_91 (by decide) (by decide), s_bad, s_bad, s_aload_n (k := 0) (i := 0) (by decide +kernel) rfl, s_bipush (n := 80) (by decide +kernel) (by decide +kernel), s_bad, s_newa_i (by decide +kernel) tb_110, s_bad, s_putR rfl (by decide +kernel) fl_RX8_9 fp_8_0 rfl (fun _ => ⟨rfl, rfl⟩) ⟨_, rfl, rfl⟩ (fun r hr => by cases hr; exact tb_98), s_bad, s_bad, s_aload_n (k := 0) (i := 0) (by decide +kernel) rfl, s_iconst (n := 0) (by decide +kernel) (by decide +kernel), s_putI (by decide +kernel) fl_RX8_15 fp_8_1 rfl, s_bad, s_bad, s_aload_n (k := 0) (i := 0) (by decide +kernel) rfl, s_iconst (n := 0) (by decide +kernel) (by decide +kernel), s_putI (by decide +kernel) fl_RX8_19 fp_8_2 rfl, s_bad, s_bad, s_vret (by decide +kernel) rfl, trivial⟩
theorem kX8_init_0 : List.getD tX8_init 0 x_bad = x_aload 0 1 := rfl
theorem kX8_init_1 : List.getD tX8_init 1 x_bad = x_objinit := rfl
theorem kX8_init_4 : List.getD tX8_init 4 x_bad = x_aload 0 1 := rfl
theorem kX8_init_5 : List.getD tX8_init 5 x_bad = x_push (.int (nI 80)) 2 := rfl
theorem kX8_init_7 : List.getD tX8_init 7 x_bad = x_newa 20 := rfl
theorem kX8_init_9 : List.getD tX8_init 9 x_bad = x_putR 8 0 := rfl
theorem kX8_init_12 : List.getD tX8_init 12 x_bad = x_aload 0 1 := rfl
theorem kX8_init_13 : List.getD tX8_init 13 x_bad = x_push (.int (nI 0)) 1 := rfl
theorem kX8_init_14 : List.getD tX8_init 14 x_bad = x_putI 8 1 := rfl
theorem kX8_init_17 : List.getD tX8_init 17 x_bad = x_aload 0 1 := rfl
theorem kX8_init_18 : List.getD tX8_init 18 x_bad = x_push (.int (nI 0)) 1 := rfl
theorem kX8_init_19 : List.getD tX8_init 19 x_bad = x_putI 8 2 := rfl
theorem kX8_init_22 : List.getD tX8_init 22 x_bad = x_vret := rfl
def tX3_splitEvent : List PT := [x_aload 0 1, x_callV0 3 mX3_unusedEvent, x_bad, x_bad, x_istore 2 1, x_push (.int (-1)) 1, x_istore 3 1, x_push (.int (nI 0)) 1, x_istore 4 2, x_bad, x_iload 4 2, x_bad, x_aload 0 1, x_getI 3 1, x_bad, x_bad, x_icmp (fun a b => b ≤ a) 59, x_bad, x_bad, x_aload 0 1, x_getR 3 3, x_bad, x_bad, x_iload 4 2, x_bad, x_iald, x_iload 1 1, x_icmpn (fun a b => a = b) 53, x_bad, x_bad, x_iload 3 1, x_if (fun a => a < 0) 50, x_bad, x_bad, x_aload 0 1, x_getR 3 2, x_bad, x_bad, x_iload 4 2, x_bad, x_iald, x_aload 0 1, x_getR 3 2, x_bad, x_bad, x_iload 3 1, x_iald, x_icmp (fun a b => a ≤ b) 53, x_bad, x_bad, x_iload 4 2, x_bad, x_istore 3 1, x_iinc 4 (nI 1), x_bad, x_bad, x_goto 10, x_bad, x_bad, x_iload 3 1, x_if (fun a => a < 0) 74, x_bad, x_bad, x_iload 2 1, x_if (fun a => a < 0) 74, x_bad, x_bad, x_aload 0 1, x_getR 3 3, x_bad, x_bad, x_iload 3 1, x_iload 2 1, x_iast, x_iload 2 1, x_iret]
set_option maxRecDepth 20000 in
theorem okX3_splitEvent : SndT RX3 cX3_splitEvent mX3_splitEvent.2.2.1 mX3_splitEvent.2.2.2.2.1 mX3_splitEvent.2.2.2.2.2 false mX3_splitEvent.2.2.2.1 0 tX3_splitEvent := ⟨s_aload_n (k := 0) (i := 0) (by decide +kernel) rfl, s_callV0 (by decide +kernel) lv_RX3_38 ⟨by decide, by decide⟩, s_bad, s_bad, s_istore_n (k := 2) (i := 2) (by decide +kernel) rfl (by decide), s_iconst (n := (-1)) (by decide +kernel) (by decide +kernel), s_istore_n (k := 3) (i := 3) (by decide +kernel) rfl (by decide), s_iconst (n := 0) (by decide +kernel) (by decide +kernel), s_istore (by decide +kernel) (by decide), s_bad, s_iload (by decide +kernel), s_bad, s_aload_n (k := 0) (i := 0) (by decide +kernel) rfl, s_getI (by decide +kernel) fl_RX3_15 rfl, s_bad, s_bad, s_icmp_ge (off := 43) (by decide +kernel) (by decide), s_bad, s_bad, s_aload_n (k := 0) (i := 0) (by decide +kernel) rfl, s_getR (by decide +kernel) fl_RX3_22 rfl, s_bad, s_bad, s_iload (by decide +kernel), s_bad, s_iald (by decide +kernel), s_iload_n (k := 1) (i := 1) (by decide +kernel) rfl, s_icmp_ne (off := 26) (by decide +kernel) (by decide), s_bad, s_bad, s_iload_n (k := 3) (i := 3) (by decide +kernel) rfl, s_if_lt (off := 19) (by decide +kernel) (by decide), s_bad, s_bad, s_aload_n (k := 0) (i := 0) (by decide +kernel) rfl, s_getR (by decide +kernel) fl_RX3_18 rfl, s_bad, s_bad, s_iload (by decide +kernel), s_bad, s_iald (by decide +kernel), s_aload_n (k := 0) (i := 0) (by decide +kernel) rfl, s_getR (by decide +kernel) fl_RX3_18 rfl, s_bad, s_bad, s_iload_n (k := 3) (i := 3) (by decide +kernel) rfl, s_iald (by decide +kernel), s_icmp_le (off := 6) (by decide +kernel) (by decide), s_bad, s_bad, s_iload (by decide +kernel), s_bad, s_istore_n (k := 3) (i := 3) (by decide +kernel) rfl (by decide), s_iinc (n := 1) (by decide +kernel) (by decide +kernel) (by decide), s_bad, s_bad, s_goto (off := (-46)) (by decide +kernel) (by decide), s_bad, s_bad, s_iload_n (k := 3) (i := 3) (by decide +kernel) rfl, s_if_lt (off := 14) (by decide +kernel) (by decide), s_bad, s_bad, s_iload_n (k := 2) (i := 2) (by decide +kernel) rfl, s_if_lt (off := 10) (by decide +kernel) (by decide), s_bad, s_bad, s_aload_n (k := 0) (i := 0) (by decide +kernel) rfl, s_getR (by decide +kernel) fl_RX3_22 rfl, s_bad, s_bad, s_iload_n (k := 3) (i := 3) (by decide +kernel) rfl, s_iload_n (k := 2) (i := 2) (by decide +kernel) rfl, s_iast (by decide +kernel), s_iload_n (k := 2) (i := 2) (by decide +kernel) rfl, s_iret (by decide +kernel) rfl, trivial⟩
theorem kX3_splitEvent_0 : List.getD tX3_splitEvent 0 x_bad = x_aload 0 1 := rfl
theorem kX3_splitEvent_1 : List.getD tX3_splitEvent 1 x_bad = x_callV0 3 mX3_unusedEvent := rfl
theorem kX3_splitEvent_4 : List.getD tX3_splitEvent 4 x_bad = x_istore 2 1 := rfl
theorem kX3_splitEvent_5 : List.getD tX3_splitEvent 5 x_bad = x_push (.int (-1)) 1 := rfl
theorem kX3_splitEvent_6 : List.getD tX3_splitEvent 6 x_bad = x_istore 3 1 := rfl
theorem kX3_splitEvent_7 : List.getD tX3_splitEvent 7 x_bad = x_push (.int (nI 0)) 1 := rfl
theorem kX3_splitEvent_8 : List.getD tX3_splitEvent 8 x_bad = x_istore 4 2 := rfl
theorem kX3_splitEvent_10 : List.getD tX3_splitEvent 10 x_bad = x_iload 4 2 := rfl
theorem kX3_splitEvent_12 : List.getD tX3_splitEvent 12 x_bad = x_aload 0 1 := rfl
theorem kX3_splitEvent_13 : List.getD tX3_splitEvent 13 x_bad = x_getI 3 1 := rfl
theorem kX3_splitEvent_16 : List.getD tX3_splitEvent 16 x_bad = x_icmp (fun a b => b ≤ a) 59 := rfl
theorem kX3_splitEvent_19 : List.getD tX3_splitEvent 19 x_bad = x_aload 0 1 := rfl
theorem kX3_splitEvent_20 : List.getD tX3_splitEvent 20 x_bad = x_getR 3 3 := rfl
theorem kX3_splitEvent_23 : List.getD tX3_splitEvent 23 x_bad = x_iload 4 2 := rfl
theorem kX3_splitEvent_25 : List.getD tX3_splitEvent 25 x_bad = x_iald := rfl
theorem kX3_splitEvent_26 : List.getD tX3_splitEvent 26 x_bad = x_iload 1 1 := rfl
theorem kX3_splitEvent_27 : List.getD tX3_splitEvent 27 x_bad = x_icmpn (fun a b => a = b) 53 := rfl
theorem kX3_splitEvent_30 : List.getD tX3_splitEvent 30 x_bad = x_iload 3 1 := rfl
theorem kX3_splitEvent_31 : List.getD tX3_splitEvent 31 x_bad = x_if (fun a => a < 0) 50 := rfl
theorem kX3_splitEvent_34 : List.getD tX3_splitEvent 34 x_bad = x_aload 0 1 := rfl
theorem kX3_splitEvent_35 : List.getD tX3_splitEvent 35 x_bad = x_getR 3 2 := rfl
theorem kX3_splitEvent_38 : List.getD tX3_splitEvent 38 x_bad = x_iload 4 2 := rfl
theorem kX3_splitEvent_40 : List.getD tX3_splitEvent 40 x_bad = x_iald := rfl
theorem kX3_splitEvent_41 : List.getD tX3_splitEvent 41 x_bad = x_aload 0 1 := rfl
theorem kX3_splitEvent_42 : List.getD tX3_splitEvent 42 x_bad = x_getR 3 2 := rfl
theorem kX3_splitEvent_45 : List.getD tX3_splitEvent 45 x_bad = x_iload 3 1 := rfl
theorem kX3_splitEvent_46 : List.getD tX3_splitEvent 46 x_bad = x_iald := rfl
theorem kX3_splitEvent_47 : List.getD tX3_splitEvent 47 x_bad = x_icmp (fun a b => a ≤ b) 53 := rfl
theorem kX3_splitEvent_50 : List.getD tX3_splitEvent 50 x_bad = x_iload 4 2 := rfl
theorem kX3_splitEvent_52 : List.getD tX3_splitEvent 52 x_bad = x_istore 3 1 := rfl
theorem kX3_splitEvent_53 : List.getD tX3_splitEvent 53 x_bad = x_iinc 4 (nI 1) := rfl
theorem kX3_splitEvent_56 : List.getD tX3_splitEvent 56 x_bad = x_goto 10 := rfl
theorem kX3_splitEvent_59 : List.getD tX3_splitEvent 59 x_bad = x_iload 3 1 := rfl
theorem kX3_splitEvent_60 : List.getD tX3_splitEvent 60 x_bad = x_if (fun a => a < 0) 74 := rfl
theorem kX3_splitEvent_63 : List.getD tX3_splitEvent 63 x_bad = x_iload 2 1 := rfl
theorem kX3_splitEvent_64 : List.getD tX3_splitEvent 64 x_bad = x_if (fun a => a < 0) 74 := rfl
theorem kX3_splitEvent_67 : List.getD tX3_splitEvent 67 x_bad = x_aload 0 1 := rfl
theorem kX3_splitEvent_68 : List.getD tX3_splitEvent 68 x_bad = x_getR 3 3 := rfl
theorem kX3_splitEvent_71 : List.getD tX3_splitEvent 71 x_bad = x_iload 3 1 := rfl
theorem kX3_splitEvent_72 : List.getD tX3_splitEvent 72 x_bad = x_iload 2 1 := rfl
theorem kX3_splitEvent_73 : List.getD tX3_splitEvent 73 x_bad = x_iast := rfl
theorem kX3_splitEvent_74 : List.getD tX3_splitEvent 74 x_bad = x_iload 2 1 := rfl
theorem kX3_splitEvent_75 : List.getD tX3_splitEvent 75 x_bad = x_iret := rfl
def tX4_remember : List PT := [x_aload 0 1, x_getI 4 2, x_bad, x_bad, x_aload 0 1, x_getI 4 3, x_bad, x_bad, x_ii (fun a b => a + b), x_push (.int (nI 8)) 2, x_bad, x_irem, x_istore 3 1, x_aload 0 1, x_getR 4 0, x_bad, x_bad, x_iload 3 1, x_aald, x_aload 1 1, x_callV1 3 mX3_become, x_bad, x_bad, x_aload 0 1, x_getR 4 1, x_bad, x_bad, x_iload 3 1, x_aald, x_aload 2 1, x_callV1 7 mX7_become, x_bad, x_bad, x_aload 0 1, x_getI 4 3, x_bad, x_bad, x_push (.int (nI 8)) 2, x_bad, x_icmp (fun a b => b ≤ a) 55, x_bad, x_bad, x_aload 0 1, x_dup, x_getI 4 3, x_bad, x_bad, x_push (.int (nI 1)) 1, x_ii (fun a b => a + b), x_putI 4 3, x_bad, x_bad, x_goto 68, x_bad, x_bad, x_aload 0 1, x_aload 0 1, x_getI 4 2, x_bad, x_bad, x_push (.int (nI 1)) 1, x_ii (fun a b => a + b), x_push (.int (nI 8)) 2, x_bad, x_irem, x_putI 4 2, x_bad, x_bad, x_vret]
set_option maxRecDepth 20000 in
theorem okX4_remember : SndT RX4 cX4_remember mX4_remember.2.2.1 mX4_remember.2.2.2.2.1 mX4_remember.2.2.2.2.2 false mX4_remember.2.2.2.1 0 tX4_remember := ⟨s_aload_n (k := 0) (i := 0) (by decide +kernel) rfl, s_getI (by decide +kernel) fl_RX4_23 rfl, s_bad, s_bad, s_aload_n (k := 0) (i := 0) (by decide +kernel) rfl, s_getI (by decide +kernel) fl_RX4_27 rfl, s_bad, s_bad, s_iadd (by decide +kernel), s_bipush (n := 8) (by decide +kernel) (by decide +kernel), s_bad, s_irem (by decide +kernel), s_istore_n (k := 3) (i := 3) (by decide +kernel) rfl (by decide), s_aload_n (k := 0) (i := 0) (by decide +kernel) rfl, s_getR (by decide +kernel) fl_RX4_11 rfl, s_bad, s_bad, s_iload_n (k := 3) (i := 3) (by decide +kernel) rfl, s_aald (by decide +kernel), s_aload_n (k := 1) (i := 1) (by decide +kernel) rfl, s_callV1 (by decide +kernel) lv_RX4_32 ⟨by decide, by decide⟩, s_bad, s_bad, s_aload_n (k := 0) (i := 0) (by decide +kernel) rfl, s_getR (by decide +kernel) fl_RX4_19 rfl, s_bad, s_bad, s_iload_n (k := 3) (i := 3) (by decide +kernel) rfl, s_aald (by decide +kernel), s_aload_n (k := 2) (i := 2) (by decide +kernel) rfl, s_callV1 (by decide +kernel) lv_RX4_36 ⟨by decide, by decide⟩, s_bad, s_bad, s_aload_n (k := 0) (i := 0) (by decide +kernel) rfl, s_getI (by decide +kernel) fl_RX4_27 rfl, s_bad, s_bad, s_bipush (n := 8) (by decide +kernel) (by decide +kernel), s_bad, s_icmp_ge (off := 16) (by decide +kernel) (by decide), s_bad, s_bad, s_aload_n (k := 0) (i := 0) (by decide +kernel) rfl, s_dup (by decide +kernel), s_getI (by decide +kernel) fl_RX4_27 rfl, s_bad, s_bad, s_iconst (n := 1) (by decide +kernel) (by decide +kernel), s_iadd (by decide +kernel), s_putI (by decide +kernel) fl_RX4_27 fp_4_3 rfl, s_bad, s_bad, s_goto (off := 16) (by decide +kernel) (by decide), s_bad, s_bad, s_aload_n (k := 0) (i := 0) (by decide +kernel) rfl, s_aload_n (k := 0) (i := 0) (by decide +kernel) rfl, s_getI (by decide +kernel) fl_RX4_23 rfl, s_bad, s_bad, s_iconst (n := 1) (by decide +kernel) (by decide +kernel), s_iadd (by decide +kernel), s_bipush (n := 8) (by decide +kernel) (by decide +kernel), s_bad, s_irem (by decide +kernel), s_putI (by decide +kernel) fl_RX4_23 fp_4_2 rfl, s_bad, s_bad, s_vret (by decide +kernel) rfl, trivial⟩
theorem kX4_remember_0 : List.getD tX4_remember 0 x_bad = x_aload 0 1 := rfl
theorem kX4_remember_1 : List.getD tX4_remember 1 x_bad = x_getI 4 2 := rfl
theorem kX4_remember_4 : List.getD tX4_remember 4 x_bad = x_aload 0 1 := rfl
theorem kX4_remember_5 : List.getD tX4_remember 5 x_bad = x_getI 4 3 := rfl
theorem kX4_remember_8 : List.getD tX4_remember 8 x_bad = x_ii (fun a b => a + b) := rfl
theorem kX4_remember_9 : List.getD tX4_remember 9 x_bad = x_push (.int (nI 8)) 2 := rfl
theorem kX4_remember_11 : List.getD tX4_remember 11 x_bad = x_irem := rfl
theorem kX4_remember_12 : List.getD tX4_remember 12 x_bad = x_istore 3 1 := rfl
theorem kX4_remember_13 : List.getD tX4_remember 13 x_bad = x_aload 0 1 := rfl
theorem kX4_remember_14 : List.getD tX4_remember 14 x_bad = x_getR 4 0 := rfl
theorem kX4_remember_17 : List.getD tX4_remember 17 x_bad = x_iload 3 1 := rfl
theorem kX4_remember_18 : List.getD tX4_remember 18 x_bad = x_aald := rfl
theorem kX4_remember_19 : List.getD tX4_remember 19 x_bad = x_aload 1 1 := rfl
theorem kX4_remember_20 : List.getD tX4_remember 20 x_bad = x_callV1 3 mX3_become := rfl
theorem kX4_remember_23 : List.getD tX4_remember 23 x_bad = x_aload 0 1 := rfl
theorem kX4_remember_24 : List.getD tX4_remember 24 x_bad = x_getR 4 1 := rfl
theorem kX4_remember_27 : List.getD tX4_remember 27 x_bad = x_iload 3 1 := rfl
theorem kX4_remember_28 : List.getD tX4_remember 28 x_bad = x_aald := rfl
theorem kX4_remember_29 : List.getD tX4_remember 29 x_bad = x_aload 2 1 := rfl
theorem kX4_remember_30 : List.getD tX4_remember 30 x_bad = x_callV1 7 mX7_become := rfl
theorem kX4_remember_33 : List.getD tX4_remember 33 x_bad = x_aload 0 1 := rfl
theorem kX4_remember_34 : List.getD tX4_remember 34 x_bad = x_getI 4 3 := rfl
theorem kX4_remember_37 : List.getD tX4_remember 37 x_bad = x_push (.int (nI 8)) 2 := rfl
theorem kX4_remember_39 : List.getD tX4_remember 39 x_bad = x_icmp (fun a b => b ≤ a) 55 := rfl
theorem kX4_remember_42 : List.getD tX4_remember 42 x_bad = x_aload 0 1 := rfl
theorem kX4_remember_43 : List.getD tX4_remember 43 x_bad = x_dup := rfl
theorem kX4_remember_44 : List.getD tX4_remember 44 x_bad = x_getI 4 3 := rfl
theorem kX4_remember_47 : List.getD tX4_remember 47 x_bad = x_push (.int (nI 1)) 1 := rfl
theorem kX4_remember_48 : List.getD tX4_remember 48 x_bad = x_ii (fun a b => a + b) := rfl
theorem kX4_remember_49 : List.getD tX4_remember 49 x_bad = x_putI 4 3 := rfl
theorem kX4_remember_52 : List.getD tX4_remember 52 x_bad = x_goto 68 := rfl
theorem kX4_remember_55 : List.getD tX4_remember 55 x_bad = x_aload 0 1 := rfl
theorem kX4_remember_56 : List.getD tX4_remember 56 x_bad = x_aload 0 1 := rfl
theorem kX4_remember_57 : List.getD tX4_remember 57 x_bad = x_getI 4 2 := rfl
theorem kX4_remember_60 : List.getD tX4_remember 60 x_bad = x_push (.int (nI 1)) 1 := rfl
theorem kX4_remember_61 : List.getD tX4_remember 61 x_bad = x_ii (fun a b => a + b) := rfl
theorem kX4_remember_62 : List.getD tX4_remember 62 x_bad = x_push (.int (nI 8)) 2 := rfl
theorem kX4_remember_64 : List.getD tX4_remember 64 x_bad = x_irem := rfl
theorem kX4_remember_65 : List.getD tX4_remember 65 x_bad = x_putI 4 2 := rfl
theorem kX4_remember_68 : List.getD tX4_remember 68 x_bad = x_vret := rfl
def tX4_restore : List PT := [x_aload 0 1, x_getI 4 3, x_bad, x_bad, x_if (fun a => a ≤ 0) 50, x_bad, x_bad, x_aload 0 1, x_dup, x_getI 4 3, x_bad, x_bad, x_push (.int (nI 1)) 1, x_ii (fun a b => a - b), x_putI 4 3, x_bad, x_bad, x_aload 0 1, x_getI 4 2, x_bad, x_bad, x_aload 0 1, x_getI 4 3, x_bad, x_bad, x_ii (fun a b => a + b), x_push (.int (nI 8)) 2, x_bad, x_irem, x_istore 3 1, x_aload 1 1, x_aload 0 1, x_getR 4 0, x_bad, x_bad, x_iload 3 1, x_aald, x_callV1 3 mX3_become, x_bad, x_bad, x_aload 2 1, x_aload 0 1, x_getR 4 1, x_bad, x_bad, x_iload 3 1, x_aald, x_callV1 7 mX7_become, x_bad, x_bad, x_vret]
set_option maxRecDepth 20000 in
theorem okX4_restore : SndT RX4 cX4_restore mX4_restore.2.2.1 mX4_restore.2.2.2.2.1 mX4_restore.2.2.2.2.2 false mX4_restore.2.2.2.1 0 tX4_restore := ⟨s_aload_n (k := 0) (i := 0) (by decide +kernel) rfl, s_getI (by decide +kernel) fl_RX4_27 rfl, s_bad, s_bad, s_if_le (off := 46) (by decide +kernel) (by decide), s_bad, s_bad, s_aload_n (k := 0) (i := 0) (by decide +kernel) rfl, s_dup (by decide +kernel), s_getI (by decide +kernel) fl_RX4_27 rfl, s_bad, s_bad, s_iconst (n := 1) (by decide +kernel) (by decide +kernel), s_isub (by decide +kernel), s_putI (by decide +kernel) fl_RX4_27 fp_4_3 rfl, s_bad, s_bad, s_aload_n (k := 0) (i := 0) (by decide +kernel) rfl, s_getI (by decide +kernel) fl_RX4_23 rfl, s_bad, s_bad, s_aload_n (k := 0) (i := 0) (by decide +kernel) rfl, s_getI (by decide +kernel) fl_RX4_27 rfl, s_bad, s_bad, s_iadd (by decide +kernel), s_bipush (n := 8) (by decide +kernel) (by decide +kernel), s_bad, s_irem (by decide +kernel), s_istore_n (k := 3) (i := 3) (by decide +kernel) rfl (by decide), s_aload_n (k := 1) (i := 1) (by decide +kernel) rfl, s_aload_n (k := 0) (i := 0) (by decide +kernel) rfl, s_getR (by decide +kernel) fl_RX4_11 rfl, s_bad, s_bad, s_iload_n (k := 3) (i := 3) (by decide +kernel) rfl, s_aald (by decide +kernel), s_callV1 (by decide +kernel) lv_RX4_32 ⟨by decide, by decide⟩, s_bad, s_bad, s_aload_n (k := 2) (i := 2) (by decide +kernel) rfl, s_aload_n (k := 0) (i := 0) (by decide +kernel) rfl, s_getR (by decide +kernel) fl_RX4_19 rfl, s_bad, s_bad, s_iload_n (k := 3) (i := 3) (by decide +kernel) rfl, s_aald (by decide +kernel), s_callV1 (by decide +kernel) lv_RX4_36 ⟨by decide, by decide⟩, s_bad, s_bad, s_vret (by decide +kernel) rfl, trivial⟩
theorem kX4_restore_0 : List.getD tX4_restore 0 x_bad = x_aload 0 1 := rfl
theorem kX4_restore_1 : List.getD tX4_restore 1 x_bad = x_getI 4 3 := rfl
theorem kX4_restore_4 : List.getD tX4_restore 4 x_bad = x_if (fun a => a ≤ 0) 50 := rfl
theorem kX4_restore_7 : List.getD tX4_restore 7 x_bad = x_aload 0 1 := rfl
theorem kX4_restore_8 : List.getD tX4_restore 8 x_bad = x_dup := rfl
theorem kX4_restore_9 : List.getD tX4_restore 9 x_bad = x_getI 4 3 := rfl
theorem kX4_restore_12 : List.getD tX4_restore 12 x_bad = x_push (.int (nI 1)) 1 := rfl
theorem kX4_restore_13 : List.getD tX4_restore 13 x_bad = x_ii (fun a b => a - b) := rfl
theorem kX4_restore_14 : List.getD tX4_restore 14 x_bad = x_putI 4 3 := rfl
theorem kX4_restore_17 : List.getD tX4_restore 17 x_bad = x_aload 0 1 := rfl
theorem kX4_restore_18 : List.getD tX4_restore 18 x_bad = x_getI 4 2 := rfl
theorem kX4_restore_21 : List.getD tX4_restore 21 x_bad = x_aload 0 1 := rfl
theorem kX4_restore_22 : List.getD tX4_restore 22 x_bad = x_getI 4 3 := rfl
theorem kX4_restore_25 : List.getD tX4_restore 25 x_bad = x_ii (fun a b => a + b) := rfl
theorem kX4_restore_26 : List.getD tX4_restore 26 x_bad = x_push (.int (nI 8)) 2 := rfl
theorem kX4_restore_28 : List.getD tX4_restore 28 x_bad = x_irem := rfl
theorem kX4_restore_29 : List.getD tX4_restore 29 x_bad = x_istore 3 1 := rfl
theorem kX4_restore_30 : List.getD tX4_restore 30 x_bad = x_aload 1 1 := rfl
theorem kX4_restore_31 : List.getD tX4_restore 31 x_bad = x_aload 0 1 := rfl
theorem kX4_restore_32 : List.getD tX4_restore 32 x_bad = x_getR 4 0 := rfl
theorem kX4_restore_35 : List.getD tX4_restore 35 x_bad = x_iload 3 1 := rfl
theorem kX4_restore_36 : List.getD tX4_restore 36 x_bad = x_aald := rfl
theorem kX4_restore_37 : List.getD tX4_restore 37 x_bad = x_callV1 3 mX3_become := rfl
theorem kX4_restore_40 : List.getD tX4_restore 40 x_bad = x_aload 2 1 := rfl
theorem kX4_restore_41 : List.getD tX4_restore 41 x_bad = x_aload 0 1 := rfl
theorem kX4_restore_42 : List.getD tX4_restore 42 x_bad = x_getR 4 1 := rfl
theorem kX4_restore_45 : List.getD tX4_restore 45 x_bad = x_iload 3 1 := rfl
theorem kX4_restore_46 : List.getD tX4_restore 46 x_bad = x_aald := rfl
theorem kX4_restore_47 : List.getD tX4_restore 47 x_bad = x_callV1 7 mX7_become := rfl
theorem kX4_restore_50 : List.getD tX4_restore 50 x_bad = x_vret := rfl
def tX7_init : List PT := [x_aload 0 1, x_objinit, x_bad, x_bad, x_aload 0 1, x_push (.int (nI 0)) 1, x_putI 7 0, x_bad, x_bad, x_aload 0 1, x_new 1, x_bad, x_bad, x_dup, x_callI mX1_init 0, x_bad, x_bad, x_putR 7 1, x_bad, x_bad, x_vret]
set_option maxRecDepth 20000 in
theorem okX7_init : SndT RX7 cX7_init mX7_init.2.2.1 mX7_init.2.2.2.2.1 mX7_init.2.2.2.2.2 true mX7_init.2.2.2.1 0 tX7_init := ⟨s_aload_n (k := 0) (i := 0) (by decide +kernel) rfl, s_objinit (by decide +kernel) tb_150 tb_90 tb_91 (by decide) (by decide), s_bad, s_bad, s_aload_n (k := 0) (i := 0) (by decide +kernel) rfl, s_iconst (n := 0) (by decide +kernel) (by decide +kernel), s_putI (by decide +kernel) fl_RX7_7 fp_7_0 rfl, s_bad, s_bad, s_aload_n (k := 0) (i := 0) (by decide +kernel) rfl, s_new (by decide +kernel) nok_1 ⟨_, rfl, tb_151⟩, s_bad, s_bad, s_dup (by decide +kernel), s_callI (by decide +kernel) li_RX7_15 ⟨by decide, by decide⟩, s_bad, s_bad, s_putR rfl (by decide +kernel) fl_RX7_16 fp_7_1 rfl (fun _ => ⟨rfl, rfl⟩) ⟨_, rfl, rfl⟩ (fun r hr => by cases hr; exact tb_166), s_bad, s_bad, s_vret (by decide +kernel) rfl, trivial⟩
theorem kX7_init_0 : List.getD tX7_init 0 x_bad = x_aload 0 1 := rfl
theorem kX7_init_1 : List.getD tX7_init 1 x_bad = x_objinit := rfl
theorem kX7_init_4 : List.getD tX7_init 4 x_bad = x_aload 0 1 := rfl
theorem kX7_init_5 : List.getD tX7_init 5 x_bad = x_push (.int (nI 0)) 1 := rfl
theorem kX7_init_6 : List.getD tX7_init 6 x_bad = x_putI 7 0 := rfl
theorem kX7_init_9 : List.getD tX7_init 9 x_bad = x_aload 0 1 := rfl
theorem kX7_init_10 : List.getD tX7_init 10 x_bad = x_new 1 := rfl
theorem kX7_init_13 : List.getD tX7_init 13 x_bad = x_dup := rfl
theorem kX7_init_14 : List.getD tX7_init 14 x_bad = x_callI mX1_init 0 := rfl
theorem kX7_init_17 : List.getD tX7_init 17 x_bad = x_putR 7 1 := rfl
theorem kX7_init_20 : List.getD tX7_init 20 x_bad = x_vret := rfl
def tX8_addItem : List PT := [x_aload 0 1, x_iload 1 1, x_iload 2 1, x_callV2 3 mX3_target, x_bad, x_bad, x_if (fun a => 0 ≤ a) 18, x_bad, x_bad, x_aload 0 1, x_getI 3 1, x_bad, x_bad, x_push (.int (nI 24)) 2, x_bad, x_icmp (fun a b => a < b) 20, x_bad, x_bad, x_push (.int (nI 0)) 1, x_zret, x_aload 0 1, x_iload 1 1, x_iload 2 1, x_iload 3 1, x_callV3 3 mX3_append, x_bad, x_bad, x_aload 0 1, x_aload 0 1, x_callV0 3 mX3_statesNeeded, x_bad, x_bad, x_putI 3 0, x_bad, x_bad, x_push (.int (nI 1)) 1, x_zret]
set_option maxRecDepth 20000 in
theorem okX8_addItem : SndT RX8 cX8_addItem mX8_addItem.2.2.1 mX8_addItem.2.2.2.2.1 mX8_addItem.2.2.2.2.2 false mX8_addItem.2.2.2.1 0 tX8_addItem := ⟨s_aload_n (k := 0) (i := 0) (by decide +kernel) rfl, s_iload_n (k := 1) (i := 1) (by decide +kernel) rfl, s_iload_n (k := 2) (i := 2) (by decide +kernel) rfl, s_callV2 (by decide +kernel) lv_RX8_42 ⟨by decide, by decide⟩, s_bad, s_bad, s_if_ge (off := 12) (by decide +kernel) (by decide), s_bad, s_bad, s_aload_n (k := 0) (i := 0) (by decide +kernel) rfl, s_getI (by decide +kernel) fl_RX8_39 rfl, s_bad, s_bad, s_bipush (n := 24) (by decide +kernel) (by decide +kernel), s_bad, s_icmp_lt (off := 5) (by decide +kernel) (by decide), s_bad, s_bad, s_iconst (n := 0) (by decide +kernel) (by decide +kernel), s_zret (by decide +kernel) rfl, s_aload_n (k := 0) (i := 0) (by decide +kernel) rfl, s_iload_n (k := 1) (i := 1) (by decide +kernel) rfl, s_iload_n (k := 2) (i := 2) (by decide +kernel) rfl, s_iload_n (k := 3) (i := 3) (by decide +kernel) rfl, s_callV3 (by decide +kernel) lv_RX8_45 ⟨by decide, by decide⟩, s_bad, s_bad, s_aload_n (k := 0) (i := 0) (by decide +kernel) rfl, s_aload_n (k := 0) (i := 0) (by decide +kernel) rfl, s_callV0 (by decide +kernel) lv_RX8_49 ⟨by decide, by decide⟩, s_bad, s_bad, s_putI (by decide +kernel) fl_RX8_53 fp_3_0 rfl, s_bad, s_bad, s_iconst (n := 1) (by decide +kernel) (by decide +kernel), s_zret (by decide +kernel) rfl, trivial⟩
theorem kX8_addItem_0 : List.getD tX8_addItem 0 x_bad = x_aload 0 1 := rfl
theorem kX8_addItem_1 : List.getD tX8_addItem 1 x_bad = x_iload 1 1 := rfl
theorem kX8_addItem_2 : List.getD tX8_addItem 2 x_bad = x_iload 2 1 := rfl
theorem kX8_addItem_3 : List.getD tX8_addItem 3 x_bad = x_callV2 3 mX3_target := rfl
theorem kX8_addItem_6 : List.getD tX8_addItem 6 x_bad = x_if (fun a => 0 ≤ a) 18 := rfl
theorem kX8_addItem_9 : List.getD tX8_addItem 9 x_bad = x_aload 0 1 := rfl
theorem kX8_addItem_10 : List.getD tX8_addItem 10 x_bad = x_getI 3 1 := rfl
theorem kX8_addItem_13 : List.getD tX8_addItem 13 x_bad = x_push (.int (nI 24)) 2 := rfl
theorem kX8_addItem_15 : List.getD tX8_addItem 15 x_bad = x_icmp (fun a b => a < b) 20 := rfl
theorem kX8_addItem_18 : List.getD tX8_addItem 18 x_bad = x_push (.int (nI 0)) 1 := rfl
theorem kX8_addItem_19 : List.getD tX8_addItem 19 x_bad = x_zret := rfl
theorem kX8_addItem_20 : List.getD tX8_addItem 20 x_bad = x_aload 0 1 := rfl
theorem kX8_addItem_21 : List.getD tX8_addItem 21 x_bad = x_iload 1 1 := rfl
theorem kX8_addItem_22 : List.getD tX8_addItem 22 x_bad = x_iload 2 1 := rfl
theorem kX8_addItem_23 : List.getD tX8_addItem 23 x_bad = x_iload 3 1 := rfl
theorem kX8_addItem_24 : List.getD tX8_addItem 24 x_bad = x_callV3 3 mX3_append := rfl
theorem kX8_addItem_27 : List.getD tX8_addItem 27 x_bad = x_aload 0 1 := rfl
theorem kX8_addItem_28 : List.getD tX8_addItem 28 x_bad = x_aload 0 1 := rfl
theorem kX8_addItem_29 : List.getD tX8_addItem 29 x_bad = x_callV0 3 mX3_statesNeeded := rfl
theorem kX8_addItem_32 : List.getD tX8_addItem 32 x_bad = x_putI 3 0 := rfl
theorem kX8_addItem_35 : List.getD tX8_addItem 35 x_bad = x_push (.int (nI 1)) 1 := rfl
theorem kX8_addItem_36 : List.getD tX8_addItem 36 x_bad = x_zret := rfl
def tX4_init : List PT := [x_aload 0 1, x_objinit, x_bad, x_bad, x_aload 0 1, x_push (.int (nI 8)) 2, x_bad, x_anewa 23, x_bad, x_bad, x_putR 4 0, x_bad, x_bad, x_aload 0 1, x_push (.int (nI 8)) 2, x_bad, x_anewa 24, x_bad, x_bad, x_putR 4 1, x_bad, x_bad, x_aload 0 1, x_push (.int (nI 0)) 1, x_putI 4 2, x_bad, x_bad, x_aload 0 1, x_push (.int (nI 0)) 1, x_putI 4 3, x_bad, x_bad, x_push (.int (nI 0)) 1, x_istore 1 1, x_iload 1 1, x_push (.int (nI 8)) 2, x_bad, x_icmp (fun a b => b ≤ a) 72, x_bad, x_bad, x_aload 0 1, x_getR 4 0, x_bad, x_bad, x_iload 1 1, x_new 3, x_bad, x_bad, x_dup, x_callI mX3_init 3, x_bad, x_bad, x_aast 3, x_aload 0 1, x_getR 4 1, x_bad, x_bad, x_iload 1 1, x_new 7, x_bad, x_bad, x_dup, x_callI mX7_init 1, x_bad, x_bad, x_aast 7, x_iinc 1 (nI 1), x_bad, x_bad, x_goto 34, x_bad, x_bad, x_vret]
set_option maxRecDepth 20000 in
theorem okX4_init : SndT RX4 cX4_init mX4_init.2.2.1 mX4_init.2.2.2.2.1 mX4_init.2.2.2.2.2 true mX4_init.2.2.2.1 0 tX4_init := ⟨s_aload_n (k := 0) (i := 0) (by decide +kernel) rfl, s_objinit (by decide +kernel) tb_178 tb_90 tb_91 (by decide) (by decide), s_bad, s_bad, s_aload_n (k := 0) (i := 0) (by decide +kernel) rfl, s_bipush (n := 8) (by decide +kernel) (by decide +kernel), s_bad, s_anewa (by decide +kernel) tb_179 (by decide) (by decide), s_bad, s_bad, s_putR rfl (by decide +kernel) fl_RX4_11 fp_4_0 rfl (fun _ => ⟨rfl, rfl⟩) ⟨_, rfl, rfl⟩ (fun r hr => by cases hr; exact tb_185), s_bad, s_bad, s_aload_n (k := 0) (i := 0) (by decide +kernel) rfl, s_bipush (n := 8) (by decide +kernel) (by decide +kernel), s_bad, s_anewa (by decide +kernel) tb_181 (by decide) (by decide), s_bad, s_bad, s_putR rfl (by decide +kernel) fl_RX4_19 fp_4_1 rfl (fun _ => ⟨rfl, rfl⟩) ⟨_, rfl, rfl⟩ (fun r hr => by cases hr; exact tb_186), s_bad, s_bad, s_aload_n (k := 0) (i := 0) (by decide +kernel) rfl, s_iconst (n := 0) (by decide +kernel) (by decide +kernel), s_putI (by decide +kernel) fl_RX4_23 fp_4_2 rfl, s_bad, s_bad, s_aload_n (k := 0) (i := 0) (by decide +kernel) rfl, s_iconst (n := 0) (by decide +kernel) (by decide +kernel), s_putI (by decide +kernel) fl_RX4_27 fp_4_3 rfl, s_bad, s_bad, s_iconst (n := 0) (by decide +kernel) (by decide +kernel), s_istore_n (k := 1) (i := 1) (by decide +kernel) rfl (by decide), s_iload_n (k := 1) (i := 1) (by decide +kernel) rfl, s_bipush (n := 8) (by decide +kernel) (by decide +kernel), s_bad, s_icmp_ge (off := 35) (by decide +kernel) (by decide), s_bad, s_bad, s_aload_n (k := 0) (i := 0) (by decide +kernel) rfl, s_getR (by decide +kernel) fl_RX4_11 rfl, s_bad, s_bad, s_iload_n (k := 1) (i := 1) (by decide +kernel) rfl, s_new (by decide +kernel) nok_3 ⟨_, rfl, tb_179⟩, s_bad, s_bad, s_dup (by decide +kernel), s_callI (by decide +kernel) li_RX4_30 ⟨by decide, by decide⟩, s_bad, s_bad, s_aast (by decide +kernel), s_aload_n (k := 0) (i := 0) (by decide +kernel) rfl, s_getR (by decide +kernel) fl_RX4_19 rfl, s_bad, s_bad, s_iload_n (k := 1) (i := 1) (by decide +kernel) rfl, s_new (by decide +kernel) nok_7 ⟨_, rfl, tb_181⟩, s_bad, s_bad, s_dup (by decide +kernel), s_callI (by decide +kernel) li_RX4_31 ⟨by decide, by decide⟩, s_bad, s_bad, s_aast (by decide +kernel), s_iinc (n := 1) (by decide +kernel) (by decide +kernel) (by decide), s_bad, s_bad, s_goto (off := (-35)) (by decide +kernel) (by decide), s_bad, s_bad, s_vret (by decide +kernel) rfl, trivial⟩
theorem kX4_init_0 : List.getD tX4_init 0 x_bad = x_aload 0 1 := rfl
theorem kX4_init_1 : List.getD tX4_init 1 x_bad = x_objinit := rfl
theorem kX4_init_4 : List.getD tX4_init 4 x_bad = x_aload 0 1 := rfl
theorem kX4_init_5 : List.getD tX4_init 5 x_bad = x_push (.int (nI 8)) 2 := rfl
theorem kX4_init_7 : List.getD tX4_init 7 x_bad = x_anewa 23 := rfl
theorem kX4_init_10 : List.getD tX4_init 10 x_bad = x_putR 4 0 := rfl
theorem kX4_init_13 : List.getD tX4_init 13 x_bad = x_aload 0 1 := rfl
theorem kX4_init_14 : List.getD tX4_init 14 x_bad = x_push (.int (nI 8)) 2 := rfl
theorem kX4_init_16 : List.getD tX4_init 16 x_bad = x_anewa 24 := rfl
theorem kX4_init_19 : List.getD tX4_init 19 x_bad = x_putR 4 1 := rfl
theorem kX4_init_22 : List.getD tX4_init 22 x_bad = x_aload 0 1 := rfl
theorem kX4_init_23 : List.getD tX4_init 23 x_bad = x_push (.int (nI 0)) 1 := rfl
theorem kX4_init_24 : List.getD tX4_init 24 x_bad = x_putI 4 2 := rfl
theorem kX4_init_27 : List.getD tX4_init 27 x_bad = x_aload 0 1 := rfl
theorem kX4_init_28 : List.getD tX4_init 28 x_bad = x_push (.int (nI 0)) 1 := rfl
theorem kX4_init_29 : List.getD tX4_init 29 x_bad = x_putI 4 3 := rfl
theorem kX4_init_32 : List.getD tX4_init 32 x_bad = x_push (.int (nI 0)) 1 := rfl
theorem kX4_init_33 : List.getD tX4_init 33 x_bad = x_istore 1 1 := rfl
theorem kX4_init_34 : List.getD tX4_init 34 x_bad = x_iload 1 1 := rfl
theorem kX4_init_35 : List.getD tX4_init 35 x_bad = x_push (.int (nI 8)) 2 := rfl
theorem kX4_init_37 : List.getD tX4_init 37 x_bad = x_icmp (fun a b => b ≤ a) 72 := rfl
theorem kX4_init_40 : List.getD tX4_init 40 x_bad = x_aload 0 1 := rfl
theorem kX4_init_41 : List.getD tX4_init 41 x_bad = x_getR 4 0 := rfl
theorem kX4_init_44 : List.getD tX4_init 44 x_bad = x_iload 1 1 := rfl
theorem kX4_init_45 : List.getD tX4_init 45 x_bad = x_new 3 := rfl
theorem kX4_init_48 : List.getD tX4_init 48 x_bad = x_dup := rfl
theorem kX4_init_49 : List.getD tX4_init 49 x_bad = x_callI mX3_init 3 := rfl
theorem kX4_init_52 : List.getD tX4_init 52 x_bad = x_aast 3 := rfl
theorem kX4_init_53 : List.getD tX4_init 53 x_bad = x_aload 0 1 := rfl
theorem kX4_init_54 : List.getD tX4_init 54 x_bad = x_getR 4 1 := rfl
theorem kX4_init_57 : List.getD tX4_init 57 x_bad = x_iload 1 1 := rfl
theorem kX4_init_58 : List.getD tX4_init 58 x_bad = x_new 7 := rfl
theorem kX4_init_61 : List.getD tX4_init 61 x_bad = x_dup := rfl
theorem kX4_init_62 : List.getD tX4_init 62 x_bad = x_callI mX7_init 1 := rfl
theorem kX4_init_65 : List.getD tX4_init 65 x_bad = x_aast 7 := rfl
theorem kX4_init_66 : List.getD tX4_init 66 x_bad = x_iinc 1 (nI 1) := rfl
theorem kX4_init_69 : List.getD tX4_init 69 x_bad = x_goto 34 := rfl
theorem kX4_init_72 : List.getD tX4_init 72 x_bad = x_vret := rfl
def tX8_readInto : List PT := [x_aload 1 1, x_callV0 3 mX3_clear, x_bad, x_bad, x_aload 0 1, x_push (.int (nI 0)) 1, x_putI 8 2, x_bad, x_bad, x_push (.int (nI 0)) 1, x_istore 2 1, x_push (.int (nI 0)) 1, x_istore 3 1, x_push (.int (nI 0)) 1, x_istore 4 2, x_bad, x_push (.int (nI 0)) 1, x_istore 5 2, x_bad, x_iload 5 2, x_bad, x_aload 0 1, x_getI 8 1, x_bad, x_bad, x_icmp (fun a b => b ≤ a) 134, x_bad, x_bad, x_aload 0 1, x_getR 8 0, x_bad, x_bad, x_iload 5 2, x_bad, x_iald, x_istore 6 2, x_bad, x_iload 6 2, x_bad, x_iload 2 1, x_callS2 mX8_canStand, x_bad, x_bad, x_ifn (fun a => a = 0) 54, x_bad, x_bad, x_aload 0 1, x_push (.int (nI 1)) 1, x_iload 5 2, x_bad, x_callV2 8 mX8_faultAt, x_bad, x_bad, x_iret, x_iload 2 1, x_push (.int (nI 1)) 1, x_icmpn (fun a b => a = b) 71, x_bad, x_bad, x_iload 6 2, x_bad, x_push (.int (nI 97)) 2, x_bad, x_ii (fun a b => a - b), x_istore 4 2, x_bad, x_push (.int (nI 2)) 1, x_istore 2 1, x_goto 128, x_bad, x_bad, x_iload 2 1, x_push (.int (nI 2)) 1, x_icmpn (fun a b => a = b) 111, x_bad, x_bad, x_aload 1 1, x_aload 0 1, x_getR 8 0, x_bad, x_bad, x_iload 3 1, x_iald, x_push (.int (nI 48)) 2, x_bad, x_ii (fun a b => a - b), x_iload 4 2, x_bad, x_iload 6 2, x_bad, x_push (.int (nI 48)) 2, x_bad, x_ii (fun a b => a - b), x_callS4 mX8_addItem, x_bad, x_bad, x_ifn (fun a => a = 0) 106, x_bad, x_bad, x_aload 0 1, x_push (.int (nI 2)) 1, x_iload 3 1, x_callV2 8 mX8_faultAt, x_bad, x_bad, x_iret, x_push (.int (nI 3)) 1, x_istore 2 1, x_goto 128, x_bad, x_bad, x_iload 6 2, x_bad, x_push (.int (nI 32)) 2, x_bad, x_icmpn (fun a b => a = b) 123, x_bad, x_bad, x_push (.int (nI 0)) 1, x_istore 2 1, x_goto 128, x_bad, x_bad, x_iload 5 2, x_bad, x_istore 3 1, x_push (.int (nI 1)) 1, x_istore 2 1, x_iinc 5 (nI 1), x_bad, x_bad, x_goto 19, x_bad, x_bad, x_iload 2 1, x_push (.int (nI 1)) 1, x_icmp (fun a b => a = b) 144, x_bad, x_bad, x_iload 2 1, x_push (.int (nI 2)) 1, x_icmpn (fun a b => a = b) 154, x_bad, x_bad, x_aload 0 1, x_push (.int (nI 1)) 1, x_aload 0 1, x_getI 8 1, x_bad, x_bad, x_callV2 8 mX8_faultAt, x_bad, x_bad, x_iret, x_aload 1 1, x_getI 3 1, x_bad, x_bad, x_iret]
set_option maxRecDepth 20000 in
theorem okX8_readInto : SndT RX8 cX8_readInto mX8_readInto.2.2.1 mX8_readInto.2.2.2.2.1 mX8_readInto.2.2.2.2.2 false mX8_readInto.2.2.2.1 0 tX8_readInto := ⟨s_aload_n (k := 1) (i := 1) (by decide +kernel) rfl, s_callV0 (by decide +kernel) lv_RX8_22 ⟨by decide, by decide⟩, s_bad, s_bad, s_aload_n (k := 0) (i := 0) (by decide +kernel) rfl, s_iconst (n := 0) (by decide +kernel) (by decide +kernel), s_putI (by decide +kernel) fl_RX8_19 fp_8_2 rfl, s_bad, s_bad, s_iconst (n := 0) (by decide +kernel) (by decide +kernel), s_istore_n (k := 2) (i := 2) (by decide +kernel) rfl (by decide), s_iconst (n := 0) (by decide +kernel) (by decide +kernel), s_istore_n (k := 3) (i := 3) (by decide +kernel) rfl (by decide), s_iconst (n := 0) (by decide +kernel) (by decide +kernel), s_istore (by decide +kernel) (by decide), s_bad, s_iconst (n := 0) (by decide +kernel) (by decide +kernel), s_istore (by decide +kernel) (by decide), s_bad, s_iload (by decide +kernel), s_bad, s_aload_n (k := 0) (i := 0) (by decide +kernel) rfl, s_getI (by decide +kernel) fl_RX8_15 rfl, s_bad, s_bad, s_icmp_ge (off := 109) (by decide +kernel) (by decide), s_bad, s_bad, s_aload_n (k := 0) (i := 0) (by decide +kernel) rfl, s_getR (by decide +kernel) fl_RX8_9 rfl, s_bad, s_bad, s_iload (by decide +kernel), s_bad, s_iald (by decide +kernel), s_istore (by decide +kernel) (by decide), s_bad, s_iload (by decide +kernel), s_bad, s_iload_n (k := 2) (i := 2) (by decide +kernel) rfl, s_callS2 (by decide +kernel) ls_RX8_27 ⟨by decide, by decide⟩, s_bad, s_bad, s_if_ne (off := 11) (by decide +kernel) (by decide), s_bad, s_bad, s_aload_n (k := 0) (i := 0) (by decide +kernel) rfl, s_iconst (n := 1) (by decide +kernel) (by decide +kernel), s_iload (by decide +kernel), s_bad, s_callV2 (by decide +kernel) lv_RX8_31 ⟨by decide, by decide⟩, s_bad, s_bad, s_iret (by decide +kernel) rfl, s_iload_n (k := 2) (i := 2) (by decide +kernel) rfl, s_iconst (n := 1) (by decide +kernel) (by decide +kernel), s_icmp_ne (off := 15) (by decide +kernel) (by decide), s_bad, s_bad, s_iload (by decide +kernel), s_bad, s_bipush (n := 97) (by decide +kernel) (by decide +kernel), s_bad, s_isub (by decide +kernel), s_istore (by decide +kernel) (by decide), s_bad, s_iconst (n := 2) (by decide +kernel) (by decide +kernel), s_istore_n (k := 2) (i := 2) (by decide +kernel) rfl (by decide), s_goto (off := 60) (by decide +kernel) (by decide), s_bad, s_bad, s_iload_n (k := 2) (i := 2) (by decide +kernel) rfl, s_iconst (n := 2) (by decide +kernel) (by decide +kernel), s_icmp_ne (off := 38) (by decide +kernel) (by decide), s_bad, s_bad, s_aload_n (k := 1) (i := 1) (by decide +kernel) rfl, s_aload_n (k := 0) (i := 0) (by decide +kernel) rfl, s_getR (by decide +kernel) fl_RX8_9 rfl, s_bad, s_bad, s_iload_n (k := 3) (i := 3) (by decide +kernel) rfl, s_iald (by decide +kernel), s_bipush (n := 48) (by decide +kernel) (by decide +kernel), s_bad, s_isub (by decide +kernel), s_iload (by decide +kernel), s_bad, s_iload (by decide +kernel), s_bad, s_bipush (n := 48) (by decide +kernel) (by decide +kernel), s_bad, s_isub (by decide +kernel), s_callS4 (by decide +kernel) ls_RX8_35 ⟨by decide, by decide⟩, s_bad, s_bad, s_if_ne (off := 10) (by decide +kernel) (by decide), s_bad, s_bad, s_aload_n (k := 0) (i := 0) (by decide +kernel) rfl, s_iconst (n := 2) (by decide +kernel) (by decide +kernel), s_iload_n (k := 3) (i := 3) (by decide +kernel) rfl, s_callV2 (by decide +kernel) lv_RX8_31 ⟨by decide, by decide⟩, s_bad, s_bad, s_iret (by decide +kernel) rfl, s_iconst (n := 3) (by decide +kernel) (by decide +kernel), s_istore_n (k := 2) (i := 2) (by decide +kernel) rfl (by decide), s_goto (off := 20) (by decide +kernel) (by decide), s_bad, s_bad, s_iload (by decide +kernel), s_bad, s_bipush (n := 32) (by decide +kernel) (by decide +kernel), s_bad, s_icmp_ne (off := 8) (by decide +kernel) (by decide), s_bad, s_bad, s_iconst (n := 0) (by decide +kernel) (by decide +kernel), s_istore_n (k := 2) (i := 2) (by decide +kernel) rfl (by decide), s_goto (off := 8) (by decide +kernel) (by decide), s_bad, s_bad, s_iload (by decide +kernel), s_bad, s_istore_n (k := 3) (i := 3) (by decide +kernel) rfl (by decide), s_iconst (n := 1) (by decide +kernel) (by decide +kernel), s_istore_n (k := 2) (i := 2) (by decide +kernel) rfl (by decide), s_iinc (n := 1) (by decide +kernel) (by decide +kernel) (by decide), s_bad, s_bad, s_goto (off := (-112)) (by decide +kernel) (by decide), s_bad, s_bad, s_iload_n (k := 2) (i := 2) (by decide +kernel) rfl, s_iconst (n := 1) (by decide +kernel) (by decide +kernel), s_icmp_eq (off := 8) (by decide +kernel) (by decide), s_bad, s_bad, s_iload_n (k := 2) (i := 2) (by decide +kernel) rfl, s_iconst (n := 2) (by decide +kernel) (by decide +kernel), s_icmp_ne (off := 13) (by decide +kernel) (by decide), s_bad, s_bad, s_aload_n (k := 0) (i := 0) (by decide +kernel) rfl, s_iconst (n := 1) (by decide +kernel) (by decide +kernel), s_aload_n (k := 0) (i := 0) (by decide +kernel) rfl, s_getI (by decide +kernel) fl_RX8_15 rfl, s_bad, s_bad, s_callV2 (by decide +kernel) lv_RX8_31 ⟨by decide, by decide⟩, s_bad, s_bad, s_iret (by decide +kernel) rfl, s_aload_n (k := 1) (i := 1) (by decide +kernel) rfl, s_getI (by decide +kernel) fl_RX8_39 rfl, s_bad, s_bad, s_iret (by decide +kernel) rfl, trivial⟩
theorem kX8_readInto_0 : List.getD tX8_readInto 0 x_bad = x_aload 1 1 := rfl
theorem kX8_readInto_1 : List.getD tX8_readInto 1 x_bad = x_callV0 3 mX3_clear := rfl
theorem kX8_readInto_4 : List.getD tX8_readInto 4 x_bad = x_aload 0 1 := rfl
theorem kX8_readInto_5 : List.getD tX8_readInto 5 x_bad = x_push (.int (nI 0)) 1 := rfl
theorem kX8_readInto_6 : List.getD tX8_readInto 6 x_bad = x_putI 8 2 := rfl
theorem kX8_readInto_9 : List.getD tX8_readInto 9 x_bad = x_push (.int (nI 0)) 1 := rfl
theorem kX8_readInto_10 : List.getD tX8_readInto 10 x_bad = x_istore 2 1 := rfl
theorem kX8_readInto_11 : List.getD tX8_readInto 11 x_bad = x_push (.int (nI 0)) 1 := rfl
theorem kX8_readInto_12 : List.getD tX8_readInto 12 x_bad = x_istore 3 1 := rfl
theorem kX8_readInto_13 : List.getD tX8_readInto 13 x_bad = x_push (.int (nI 0)) 1 := rfl
theorem kX8_readInto_14 : List.getD tX8_readInto 14 x_bad = x_istore 4 2 := rfl
theorem kX8_readInto_16 : List.getD tX8_readInto 16 x_bad = x_push (.int (nI 0)) 1 := rfl
theorem kX8_readInto_17 : List.getD tX8_readInto 17 x_bad = x_istore 5 2 := rfl
theorem kX8_readInto_19 : List.getD tX8_readInto 19 x_bad = x_iload 5 2 := rfl
theorem kX8_readInto_21 : List.getD tX8_readInto 21 x_bad = x_aload 0 1 := rfl
theorem kX8_readInto_22 : List.getD tX8_readInto 22 x_bad = x_getI 8 1 := rfl
theorem kX8_readInto_25 : List.getD tX8_readInto 25 x_bad = x_icmp (fun a b => b ≤ a) 134 := rfl
theorem kX8_readInto_28 : List.getD tX8_readInto 28 x_bad = x_aload 0 1 := rfl
theorem kX8_readInto_29 : List.getD tX8_readInto 29 x_bad = x_getR 8 0 := rfl
theorem kX8_readInto_32 : List.getD tX8_readInto 32 x_bad = x_iload 5 2 := rfl
theorem kX8_readInto_34 : List.getD tX8_readInto 34 x_bad = x_iald := rfl
theorem kX8_readInto_35 : List.getD tX8_readInto 35 x_bad = x_istore 6 2 := rfl
theorem kX8_readInto_37 : List.getD tX8_readInto 37 x_bad = x_iload 6 2 := rfl
theorem kX8_readInto_39 : List.getD tX8_readInto 39 x_bad = x_iload 2 1 := rfl
theorem kX8_readInto_40 : List.getD tX8_readInto 40 x_bad = x_callS2 mX8_canStand := rfl
theorem kX8_readInto_43 : List.getD tX8_readInto 43 x_bad = x_ifn (fun a => a = 0) 54 := rfl
theorem kX8_readInto_46 : List.getD tX8_readInto 46 x_bad = x_aload 0 1 := rfl
theorem kX8_readInto_47 : List.getD tX8_readInto 47 x_bad = x_push (.int (nI 1)) 1 := rfl
theorem kX8_readInto_48 : List.getD tX8_readInto 48 x_bad = x_iload 5 2 := rfl
theorem kX8_readInto_50 : List.getD tX8_readInto 50 x_bad = x_callV2 8 mX8_faultAt := rfl
theorem kX8_readInto_53 : List.getD tX8_readInto 53 x_bad = x_iret := rfl
theorem kX8_readInto_54 : List.getD tX8_readInto 54 x_bad = x_iload 2 1 := rfl
theorem kX8_readInto_55 : List.getD tX8_readInto 55 x_bad = x_push (.int (nI 1)) 1 := rfl
theorem kX8_readInto_56 : List.getD tX8_readInto 56 x_bad = x_icmpn (fun a b => a = b) 71 := rfl
theorem kX8_readInto_59 : List.getD tX8_readInto 59 x_bad = x_iload 6 2 := rfl
theorem kX8_readInto_61 : List.getD tX8_readInto 61 x_bad = x_push (.int (nI 97)) 2 := rfl
theorem kX8_readInto_63 : List.getD tX8_readInto 63 x_bad = x_ii (fun a b => a - b) := rfl
theorem kX8_readInto_64 : List.getD tX8_readInto 64 x_bad = x_istore 4 2 := rfl
theorem kX8_readInto_66 : List.getD tX8_readInto 66 x_bad = x_push (.int (nI 2)) 1 := rfl
theorem kX8_readInto_67 : List.getD tX8_readInto 67 x_bad = x_istore 2 1 := rfl
theorem kX8_readInto_68 : List.getD tX8_readInto 68 x_bad = x_goto 128 := rfl
theorem kX8_readInto_71 : List.getD tX8_readInto 71 x_bad = x_iload 2 1 := rfl
theorem kX8_readInto_72 : List.getD tX8_readInto 72 x_bad = x_push (.int (nI 2)) 1 := rfl
theorem kX8_readInto_73 : List.getD tX8_readInto 73 x_bad = x_icmpn (fun a b => a = b) 111 := rfl
theorem kX8_readInto_76 : List.getD tX8_readInto 76 x_bad = x_aload 1 1 := rfl
theorem kX8_readInto_77 : List.getD tX8_readInto 77 x_bad = x_aload 0 1 := rfl
theorem kX8_readInto_78 : List.getD tX8_readInto 78 x_bad = x_getR 8 0 := rfl
theorem kX8_readInto_81 : List.getD tX8_readInto 81 x_bad = x_iload 3 1 := rfl
theorem kX8_readInto_82 : List.getD tX8_readInto 82 x_bad = x_iald := rfl
theorem kX8_readInto_83 : List.getD tX8_readInto 83 x_bad = x_push (.int (nI 48)) 2 := rfl
theorem kX8_readInto_85 : List.getD tX8_readInto 85 x_bad = x_ii (fun a b => a - b) := rfl
theorem kX8_readInto_86 : List.getD tX8_readInto 86 x_bad = x_iload 4 2 := rfl
theorem kX8_readInto_88 : List.getD tX8_readInto 88 x_bad = x_iload 6 2 := rfl
theorem kX8_readInto_90 : List.getD tX8_readInto 90 x_bad = x_push (.int (nI 48)) 2 := rfl
theorem kX8_readInto_92 : List.getD tX8_readInto 92 x_bad = x_ii (fun a b => a - b) := rfl
theorem kX8_readInto_93 : List.getD tX8_readInto 93 x_bad = x_callS4 mX8_addItem := rfl
theorem kX8_readInto_96 : List.getD tX8_readInto 96 x_bad = x_ifn (fun a => a = 0) 106 := rfl
theorem kX8_readInto_99 : List.getD tX8_readInto 99 x_bad = x_aload 0 1 := rfl
theorem kX8_readInto_100 : List.getD tX8_readInto 100 x_bad = x_push (.int (nI 2)) 1 := rfl
theorem kX8_readInto_101 : List.getD tX8_readInto 101 x_bad = x_iload 3 1 := rfl
theorem kX8_readInto_102 : List.getD tX8_readInto 102 x_bad = x_callV2 8 mX8_faultAt := rfl
theorem kX8_readInto_105 : List.getD tX8_readInto 105 x_bad = x_iret := rfl
theorem kX8_readInto_106 : List.getD tX8_readInto 106 x_bad = x_push (.int (nI 3)) 1 := rfl
theorem kX8_readInto_107 : List.getD tX8_readInto 107 x_bad = x_istore 2 1 := rfl
theorem kX8_readInto_108 : List.getD tX8_readInto 108 x_bad = x_goto 128 := rfl
theorem kX8_readInto_111 : List.getD tX8_readInto 111 x_bad = x_iload 6 2 := rfl
theorem kX8_readInto_113 : List.getD tX8_readInto 113 x_bad = x_push (.int (nI 32)) 2 := rfl
theorem kX8_readInto_115 : List.getD tX8_readInto 115 x_bad = x_icmpn (fun a b => a = b) 123 := rfl
theorem kX8_readInto_118 : List.getD tX8_readInto 118 x_bad = x_push (.int (nI 0)) 1 := rfl
theorem kX8_readInto_119 : List.getD tX8_readInto 119 x_bad = x_istore 2 1 := rfl
theorem kX8_readInto_120 : List.getD tX8_readInto 120 x_bad = x_goto 128 := rfl
theorem kX8_readInto_123 : List.getD tX8_readInto 123 x_bad = x_iload 5 2 := rfl
theorem kX8_readInto_125 : List.getD tX8_readInto 125 x_bad = x_istore 3 1 := rfl
theorem kX8_readInto_126 : List.getD tX8_readInto 126 x_bad = x_push (.int (nI 1)) 1 := rfl
theorem kX8_readInto_127 : List.getD tX8_readInto 127 x_bad = x_istore 2 1 := rfl
theorem kX8_readInto_128 : List.getD tX8_readInto 128 x_bad = x_iinc 5 (nI 1) := rfl
theorem kX8_readInto_131 : List.getD tX8_readInto 131 x_bad = x_goto 19 := rfl
theorem kX8_readInto_134 : List.getD tX8_readInto 134 x_bad = x_iload 2 1 := rfl
theorem kX8_readInto_135 : List.getD tX8_readInto 135 x_bad = x_push (.int (nI 1)) 1 := rfl
theorem kX8_readInto_136 : List.getD tX8_readInto 136 x_bad = x_icmp (fun a b => a = b) 144 := rfl
theorem kX8_readInto_139 : List.getD tX8_readInto 139 x_bad = x_iload 2 1 := rfl
theorem kX8_readInto_140 : List.getD tX8_readInto 140 x_bad = x_push (.int (nI 2)) 1 := rfl
theorem kX8_readInto_141 : List.getD tX8_readInto 141 x_bad = x_icmpn (fun a b => a = b) 154 := rfl
theorem kX8_readInto_144 : List.getD tX8_readInto 144 x_bad = x_aload 0 1 := rfl
theorem kX8_readInto_145 : List.getD tX8_readInto 145 x_bad = x_push (.int (nI 1)) 1 := rfl
theorem kX8_readInto_146 : List.getD tX8_readInto 146 x_bad = x_aload 0 1 := rfl
theorem kX8_readInto_147 : List.getD tX8_readInto 147 x_bad = x_getI 8 1 := rfl
theorem kX8_readInto_150 : List.getD tX8_readInto 150 x_bad = x_callV2 8 mX8_faultAt := rfl
theorem kX8_readInto_153 : List.getD tX8_readInto 153 x_bad = x_iret := rfl
theorem kX8_readInto_154 : List.getD tX8_readInto 154 x_bad = x_aload 1 1 := rfl
theorem kX8_readInto_155 : List.getD tX8_readInto 155 x_bad = x_getI 3 1 := rfl
theorem kX8_readInto_158 : List.getD tX8_readInto 158 x_bad = x_iret := rfl
