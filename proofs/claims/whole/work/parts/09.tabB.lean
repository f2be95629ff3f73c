def tX0_addIfMinimal : List PT := [x_push (.int (nI 0)) 1, x_istore 2 1, x_iload 2 1, x_aload 0 1, x_getI 0 6, x_bad, x_bad, x_icmp (fun a b => b ≤ a) 30, x_bad, x_bad, x_aload 0 1, x_getR 0 3, x_bad, x_bad, x_iload 2 1, x_iald, x_iload 1 1, x_push (.int (-1)) 1, x_ii (fun a b => a ^^^ b), x_ii (fun a b => a &&& b), x_ifn (fun a => a = 0) 24, x_bad, x_bad, x_vret, x_iinc 2 (nI 1), x_bad, x_bad, x_goto 2, x_bad, x_bad, x_aload 0 1, x_getI 0 6, x_bad, x_bad, x_push (.int (nI 252)) 3, x_bad, x_bad, x_icmp (fun a b => b ≤ a) 92, x_bad, x_bad, x_aload 0 1, x_getR 0 3, x_bad, x_bad, x_aload 0 1, x_getI 0 6, x_bad, x_bad, x_iload 1 1, x_iast, x_aload 0 1, x_getR 0 4, x_bad, x_bad, x_aload 0 1, x_getI 0 6, x_bad, x_bad, x_aload 0 1, x_getR 0 0, x_bad, x_bad, x_getI 2 0, x_bad, x_bad, x_iast, x_aload 0 1, x_getR 0 5, x_bad, x_bad, x_aload 0 1, x_getI 0 6, x_bad, x_bad, x_aload 0 1, x_getR 0 0, x_bad, x_bad, x_getI 2 1, x_bad, x_bad, x_iast, x_aload 0 1, x_dup, x_getI 0 6, x_bad, x_bad, x_push (.int (nI 1)) 1, x_ii (fun a b => a + b), x_putI 0 6, x_bad, x_bad, x_vret]
set_option maxRecDepth 20000 in
theorem okX0_addIfMinimal : SndT RX0 cX0_addIfMinimal mX0_addIfMinimal.2.2.1 mX0_addIfMinimal.2.2.2.2.1 mX0_addIfMinimal.2.2.2.2.2 false mX0_addIfMinimal.2.2.2.1 0 tX0_addIfMinimal := ⟨s_iconst (n := 0) (by decide +kernel) (by decide +kernel), s_istore_n (k := 2) (i := 2) (by decide +kernel) rfl (by decide), s_iload_n (k := 2) (i := 2) (by decide +kernel) rfl, s_aload_n (k := 0) (i := 0) (by decide +kernel) rfl, s_getI (by decide +kernel) fl_RX0_35 rfl, s_bad, s_bad, s_icmp_ge (off := 23) (by decide +kernel) (by decide), s_bad, s_bad, s_aload_n (k := 0) (i := 0) (by decide +kernel) rfl, s_getR (by decide +kernel) fl_RX0_26 rfl, s_bad, s_bad, s_iload_n (k := 2) (i := 2) (by decide +kernel) rfl, s_iald (by decide +kernel), s_iload_n (k := 1) (i := 1) (by decide +kernel) rfl, s_iconst (n := (-1)) (by decide +kernel) (by decide +kernel), s_ixor (by decide +kernel), s_iand (by decide +kernel), s_if_ne (off := 4) (by decide +kernel) (by decide), s_bad, s_bad, s_vret (by decide +kernel) rfl, s_iinc (n := 1) (by decide +kernel) (by decide +kernel) (by decide), s_bad, s_bad, s_goto (off := (-25)) (by decide +kernel) (by decide), s_bad, s_bad, s_aload_n (k := 0) (i := 0) (by decide +kernel) rfl, s_getI (by decide +kernel) fl_RX0_35 rfl, s_bad, s_bad, s_sipush (n := 252) (by decide +kernel) (by decide +kernel), s_bad, s_bad, s_icmp_ge (off := 55) (by decide +kernel) (by decide), s_bad, s_bad, s_aload_n (k := 0) (i := 0) (by decide +kernel) rfl, s_getR (by decide +kernel) fl_RX0_26 rfl, s_bad, s_bad, s_aload_n (k := 0) (i := 0) (by decide +kernel) rfl, s_getI (by decide +kernel) fl_RX0_35 rfl, s_bad, s_bad, s_iload_n (k := 1) (i := 1) (by decide +kernel) rfl, s_iast (by decide +kernel), s_aload_n (k := 0) (i := 0) (by decide +kernel) rfl, s_getR (by decide +kernel) fl_RX0_29 rfl, s_bad, s_bad, s_aload_n (k := 0) (i := 0) (by decide +kernel) rfl, s_getI (by decide +kernel) fl_RX0_35 rfl, s_bad, s_bad, s_aload_n (k := 0) (i := 0) (by decide +kernel) rfl, s_getR (by decide +kernel) fl_RX0_12 rfl, s_bad, s_bad, s_getI (by decide +kernel) fl_RX0_81 rfl, s_bad, s_bad, s_iast (by decide +kernel), s_aload_n (k := 0) (i := 0) (by decide +kernel) rfl, s_getR (by decide +kernel) fl_RX0_32 rfl, s_bad, s_bad, s_aload_n (k := 0) (i := 0) (by decide +kernel) rfl, s_getI (by decide +kernel) fl_RX0_35 rfl, s_bad, s_bad, s_aload_n (k := 0) (i := 0) (by decide +kernel) rfl, s_getR (by decide +kernel) fl_RX0_12 rfl, s_bad, s_bad, s_getI (by decide +kernel) fl_RX0_83 rfl, s_bad, s_bad, s_iast (by decide +kernel), s_aload_n (k := 0) (i := 0) (by decide +kernel) rfl, s_dup (by decide +kernel), s_getI (by decide +kernel) fl_RX0_35 rfl, s_bad, s_bad, s_iconst (n := 1) (by decide +kernel) (by decide +kernel), s_iadd (by decide +kernel), s_putI (by decide +kernel) fl_RX0_35 fp_0_6 rfl, s_bad, s_bad, s_vret (by decide +kernel) rfl, trivial⟩
theorem kX0_addIfMinimal_0 : List.getD tX0_addIfMinimal 0 x_bad = x_push (.int (nI 0)) 1 := rfl
theorem kX0_addIfMinimal_1 : List.getD tX0_addIfMinimal 1 x_bad = x_istore 2 1 := rfl
theorem kX0_addIfMinimal_2 : List.getD tX0_addIfMinimal 2 x_bad = x_iload 2 1 := rfl
theorem kX0_addIfMinimal_3 : List.getD tX0_addIfMinimal 3 x_bad = x_aload 0 1 := rfl
theorem kX0_addIfMinimal_4 : List.getD tX0_addIfMinimal 4 x_bad = x_getI 0 6 := rfl
theorem kX0_addIfMinimal_7 : List.getD tX0_addIfMinimal 7 x_bad = x_icmp (fun a b => b ≤ a) 30 := rfl
theorem kX0_addIfMinimal_10 : List.getD tX0_addIfMinimal 10 x_bad = x_aload 0 1 := rfl
theorem kX0_addIfMinimal_11 : List.getD tX0_addIfMinimal 11 x_bad = x_getR 0 3 := rfl
theorem kX0_addIfMinimal_14 : List.getD tX0_addIfMinimal 14 x_bad = x_iload 2 1 := rfl
theorem kX0_addIfMinimal_15 : List.getD tX0_addIfMinimal 15 x_bad = x_iald := rfl
theorem kX0_addIfMinimal_16 : List.getD tX0_addIfMinimal 16 x_bad = x_iload 1 1 := rfl
theorem kX0_addIfMinimal_17 : List.getD tX0_addIfMinimal 17 x_bad = x_push (.int (-1)) 1 := rfl
theorem kX0_addIfMinimal_18 : List.getD tX0_addIfMinimal 18 x_bad = x_ii (fun a b => a ^^^ b) := rfl
theorem kX0_addIfMinimal_19 : List.getD tX0_addIfMinimal 19 x_bad = x_ii (fun a b => a &&& b) := rfl
theorem kX0_addIfMinimal_20 : List.getD tX0_addIfMinimal 20 x_bad = x_ifn (fun a => a = 0) 24 := rfl
theorem kX0_addIfMinimal_23 : List.getD tX0_addIfMinimal 23 x_bad = x_vret := rfl
theorem kX0_addIfMinimal_24 : List.getD tX0_addIfMinimal 24 x_bad = x_iinc 2 (nI 1) := rfl
theorem kX0_addIfMinimal_27 : List.getD tX0_addIfMinimal 27 x_bad = x_goto 2 := rfl
theorem kX0_addIfMinimal_30 : List.getD tX0_addIfMinimal 30 x_bad = x_aload 0 1 := rfl
theorem kX0_addIfMinimal_31 : List.getD tX0_addIfMinimal 31 x_bad = x_getI 0 6 := rfl
theorem kX0_addIfMinimal_34 : List.getD tX0_addIfMinimal 34 x_bad = x_push (.int (nI 252)) 3 := rfl
theorem kX0_addIfMinimal_37 : List.getD tX0_addIfMinimal 37 x_bad = x_icmp (fun a b => b ≤ a) 92 := rfl
theorem kX0_addIfMinimal_40 : List.getD tX0_addIfMinimal 40 x_bad = x_aload 0 1 := rfl
theorem kX0_addIfMinimal_41 : List.getD tX0_addIfMinimal 41 x_bad = x_getR 0 3 := rfl
theorem kX0_addIfMinimal_44 : List.getD tX0_addIfMinimal 44 x_bad = x_aload 0 1 := rfl
theorem kX0_addIfMinimal_45 : List.getD tX0_addIfMinimal 45 x_bad = x_getI 0 6 := rfl
theorem kX0_addIfMinimal_48 : List.getD tX0_addIfMinimal 48 x_bad = x_iload 1 1 := rfl
theorem kX0_addIfMinimal_49 : List.getD tX0_addIfMinimal 49 x_bad = x_iast := rfl
theorem kX0_addIfMinimal_50 : List.getD tX0_addIfMinimal 50 x_bad = x_aload 0 1 := rfl
theorem kX0_addIfMinimal_51 : List.getD tX0_addIfMinimal 51 x_bad = x_getR 0 4 := rfl
theorem kX0_addIfMinimal_54 : List.getD tX0_addIfMinimal 54 x_bad = x_aload 0 1 := rfl
theorem kX0_addIfMinimal_55 : List.getD tX0_addIfMinimal 55 x_bad = x_getI 0 6 := rfl
theorem kX0_addIfMinimal_58 : List.getD tX0_addIfMinimal 58 x_bad = x_aload 0 1 := rfl
theorem kX0_addIfMinimal_59 : List.getD tX0_addIfMinimal 59 x_bad = x_getR 0 0 := rfl
theorem kX0_addIfMinimal_62 : List.getD tX0_addIfMinimal 62 x_bad = x_getI 2 0 := rfl
theorem kX0_addIfMinimal_65 : List.getD tX0_addIfMinimal 65 x_bad = x_iast := rfl
theorem kX0_addIfMinimal_66 : List.getD tX0_addIfMinimal 66 x_bad = x_aload 0 1 := rfl
theorem kX0_addIfMinimal_67 : List.getD tX0_addIfMinimal 67 x_bad = x_getR 0 5 := rfl
theorem kX0_addIfMinimal_70 : List.getD tX0_addIfMinimal 70 x_bad = x_aload 0 1 := rfl
theorem kX0_addIfMinimal_71 : List.getD tX0_addIfMinimal 71 x_bad = x_getI 0 6 := rfl
theorem kX0_addIfMinimal_74 : List.getD tX0_addIfMinimal 74 x_bad = x_aload 0 1 := rfl
theorem kX0_addIfMinimal_75 : List.getD tX0_addIfMinimal 75 x_bad = x_getR 0 0 := rfl
theorem kX0_addIfMinimal_78 : List.getD tX0_addIfMinimal 78 x_bad = x_getI 2 1 := rfl
theorem kX0_addIfMinimal_81 : List.getD tX0_addIfMinimal 81 x_bad = x_iast := rfl
theorem kX0_addIfMinimal_82 : List.getD tX0_addIfMinimal 82 x_bad = x_aload 0 1 := rfl
theorem kX0_addIfMinimal_83 : List.getD tX0_addIfMinimal 83 x_bad = x_dup := rfl
theorem kX0_addIfMinimal_84 : List.getD tX0_addIfMinimal 84 x_bad = x_getI 0 6 := rfl
theorem kX0_addIfMinimal_87 : List.getD tX0_addIfMinimal 87 x_bad = x_push (.int (nI 1)) 1 := rfl
theorem kX0_addIfMinimal_88 : List.getD tX0_addIfMinimal 88 x_bad = x_ii (fun a b => a + b) := rfl
theorem kX0_addIfMinimal_89 : List.getD tX0_addIfMinimal 89 x_bad = x_putI 0 6 := rfl
theorem kX0_addIfMinimal_92 : List.getD tX0_addIfMinimal 92 x_bad = x_vret := rfl
def tX0_addSeparation : List PT := [x_aload 0 1, x_getI 0 10, x_bad, x_bad, x_push (.int (nI 125)) 2, x_bad, x_icmp (fun a b => b ≤ a) 39, x_bad, x_bad, x_aload 0 1, x_getR 0 7, x_bad, x_bad, x_aload 0 1, x_getI 0 10, x_bad, x_bad, x_iload 1 1, x_iast, x_aload 0 1, x_getR 0 8, x_bad, x_bad, x_aload 0 1, x_getI 0 10, x_bad, x_bad, x_iload 2 1, x_iast, x_aload 0 1, x_dup, x_getI 0 10, x_bad, x_bad, x_push (.int (nI 1)) 1, x_ii (fun a b => a + b), x_putI 0 10, x_bad, x_bad, x_vret]
set_option maxRecDepth 20000 in
theorem okX0_addSeparation : SndT RX0 cX0_addSeparation mX0_addSeparation.2.2.1 mX0_addSeparation.2.2.2.2.1 mX0_addSeparation.2.2.2.2.2 false mX0_addSeparation.2.2.2.1 0 tX0_addSeparation := ⟨s_aload_n (k := 0) (i := 0) (by decide +kernel) rfl, s_getI (by decide +kernel) fl_RX0_47 rfl, s_bad, s_bad, s_bipush (n := 125) (by decide +kernel) (by decide +kernel), s_bad, s_icmp_ge (off := 33) (by decide +kernel) (by decide), s_bad, s_bad, s_aload_n (k := 0) (i := 0) (by decide +kernel) rfl, s_getR (by decide +kernel) fl_RX0_38 rfl, s_bad, s_bad, s_aload_n (k := 0) (i := 0) (by decide +kernel) rfl, s_getI (by decide +kernel) fl_RX0_47 rfl, s_bad, s_bad, s_iload_n (k := 1) (i := 1) (by decide +kernel) rfl, s_iast (by decide +kernel), s_aload_n (k := 0) (i := 0) (by decide +kernel) rfl, s_getR (by decide +kernel) fl_RX0_41 rfl, s_bad, s_bad, s_aload_n (k := 0) (i := 0) (by decide +kernel) rfl, s_getI (by decide +kernel) fl_RX0_47 rfl, s_bad, s_bad, s_iload_n (k := 2) (i := 2) (by decide +kernel) rfl, s_iast (by decide +kernel), s_aload_n (k := 0) (i := 0) (by decide +kernel) rfl, s_dup (by decide +kernel), s_getI (by decide +kernel) fl_RX0_47 rfl, s_bad, s_bad, s_iconst (n := 1) (by decide +kernel) (by decide +kernel), s_iadd (by decide +kernel), s_putI (by decide +kernel) fl_RX0_47 fp_0_10 rfl, s_bad, s_bad, s_vret (by decide +kernel) rfl, trivial⟩
theorem kX0_addSeparation_0 : List.getD tX0_addSeparation 0 x_bad = x_aload 0 1 := rfl
theorem kX0_addSeparation_1 : List.getD tX0_addSeparation 1 x_bad = x_getI 0 10 := rfl
theorem kX0_addSeparation_4 : List.getD tX0_addSeparation 4 x_bad = x_push (.int (nI 125)) 2 := rfl
theorem kX0_addSeparation_6 : List.getD tX0_addSeparation 6 x_bad = x_icmp (fun a b => b ≤ a) 39 := rfl
theorem kX0_addSeparation_9 : List.getD tX0_addSeparation 9 x_bad = x_aload 0 1 := rfl
theorem kX0_addSeparation_10 : List.getD tX0_addSeparation 10 x_bad = x_getR 0 7 := rfl
theorem kX0_addSeparation_13 : List.getD tX0_addSeparation 13 x_bad = x_aload 0 1 := rfl
theorem kX0_addSeparation_14 : List.getD tX0_addSeparation 14 x_bad = x_getI 0 10 := rfl
theorem kX0_addSeparation_17 : List.getD tX0_addSeparation 17 x_bad = x_iload 1 1 := rfl
theorem kX0_addSeparation_18 : List.getD tX0_addSeparation 18 x_bad = x_iast := rfl
theorem kX0_addSeparation_19 : List.getD tX0_addSeparation 19 x_bad = x_aload 0 1 := rfl
theorem kX0_addSeparation_20 : List.getD tX0_addSeparation 20 x_bad = x_getR 0 8 := rfl
theorem kX0_addSeparation_23 : List.getD tX0_addSeparation 23 x_bad = x_aload 0 1 := rfl
theorem kX0_addSeparation_24 : List.getD tX0_addSeparation 24 x_bad = x_getI 0 10 := rfl
theorem kX0_addSeparation_27 : List.getD tX0_addSeparation 27 x_bad = x_iload 2 1 := rfl
theorem kX0_addSeparation_28 : List.getD tX0_addSeparation 28 x_bad = x_iast := rfl
theorem kX0_addSeparation_29 : List.getD tX0_addSeparation 29 x_bad = x_aload 0 1 := rfl
theorem kX0_addSeparation_30 : List.getD tX0_addSeparation 30 x_bad = x_dup := rfl
theorem kX0_addSeparation_31 : List.getD tX0_addSeparation 31 x_bad = x_getI 0 10 := rfl
theorem kX0_addSeparation_34 : List.getD tX0_addSeparation 34 x_bad = x_push (.int (nI 1)) 1 := rfl
theorem kX0_addSeparation_35 : List.getD tX0_addSeparation 35 x_bad = x_ii (fun a b => a + b) := rfl
theorem kX0_addSeparation_36 : List.getD tX0_addSeparation 36 x_bad = x_putI 0 10 := rfl
theorem kX0_addSeparation_39 : List.getD tX0_addSeparation 39 x_bad = x_vret := rfl
def tX0_parts : List PT := [x_aload 0 1, x_getR 0 3, x_bad, x_bad, x_iload 1 1, x_iald, x_iload 2 1, x_ii (fun a b => a >>> (b &&& 31)), x_push (.int (nI 1)) 1, x_ii (fun a b => a &&& b), x_aload 0 1, x_getR 0 3, x_bad, x_bad, x_iload 1 1, x_iald, x_iload 3 1, x_ii (fun a b => a >>> (b &&& 31)), x_push (.int (nI 1)) 1, x_ii (fun a b => a &&& b), x_icmp (fun a b => a = b) 27, x_bad, x_bad, x_push (.int (nI 1)) 1, x_goto 28, x_bad, x_bad, x_push (.int (nI 0)) 1, x_zret]
set_option maxRecDepth 20000 in
theorem okX0_parts : SndT RX0 cX0_parts mX0_parts.2.2.1 mX0_parts.2.2.2.2.1 mX0_parts.2.2.2.2.2 false mX0_parts.2.2.2.1 0 tX0_parts := ⟨s_aload_n (k := 0) (i := 0) (by decide +kernel) rfl, s_getR (by decide +kernel) fl_RX0_26 rfl, s_bad, s_bad, s_iload_n (k := 1) (i := 1) (by decide +kernel) rfl, s_iald (by decide +kernel), s_iload_n (k := 2) (i := 2) (by decide +kernel) rfl, s_ishr (by decide +kernel), s_iconst (n := 1) (by decide +kernel) (by decide +kernel), s_iand (by decide +kernel), s_aload_n (k := 0) (i := 0) (by decide +kernel) rfl, s_getR (by decide +kernel) fl_RX0_26 rfl, s_bad, s_bad, s_iload_n (k := 1) (i := 1) (by decide +kernel) rfl, s_iald (by decide +kernel), s_iload_n (k := 3) (i := 3) (by decide +kernel) rfl, s_ishr (by decide +kernel), s_iconst (n := 1) (by decide +kernel) (by decide +kernel), s_iand (by decide +kernel), s_icmp_eq (off := 7) (by decide +kernel) (by decide), s_bad, s_bad, s_iconst (n := 1) (by decide +kernel) (by decide +kernel), s_goto (off := 4) (by decide +kernel) (by decide), s_bad, s_bad, s_iconst (n := 0) (by decide +kernel) (by decide +kernel), s_zret (by decide +kernel) rfl, trivial⟩
theorem kX0_parts_0 : List.getD tX0_parts 0 x_bad = x_aload 0 1 := rfl
theorem kX0_parts_1 : List.getD tX0_parts 1 x_bad = x_getR 0 3 := rfl
theorem kX0_parts_4 : List.getD tX0_parts 4 x_bad = x_iload 1 1 := rfl
theorem kX0_parts_5 : List.getD tX0_parts 5 x_bad = x_iald := rfl
theorem kX0_parts_6 : List.getD tX0_parts 6 x_bad = x_iload 2 1 := rfl
theorem kX0_parts_7 : List.getD tX0_parts 7 x_bad = x_ii (fun a b => a >>> (b &&& 31)) := rfl
theorem kX0_parts_8 : List.getD tX0_parts 8 x_bad = x_push (.int (nI 1)) 1 := rfl
theorem kX0_parts_9 : List.getD tX0_parts 9 x_bad = x_ii (fun a b => a &&& b) := rfl
theorem kX0_parts_10 : List.getD tX0_parts 10 x_bad = x_aload 0 1 := rfl
theorem kX0_parts_11 : List.getD tX0_parts 11 x_bad = x_getR 0 3 := rfl
theorem kX0_parts_14 : List.getD tX0_parts 14 x_bad = x_iload 1 1 := rfl
theorem kX0_parts_15 : List.getD tX0_parts 15 x_bad = x_iald := rfl
theorem kX0_parts_16 : List.getD tX0_parts 16 x_bad = x_iload 3 1 := rfl
theorem kX0_parts_17 : List.getD tX0_parts 17 x_bad = x_ii (fun a b => a >>> (b &&& 31)) := rfl
theorem kX0_parts_18 : List.getD tX0_parts 18 x_bad = x_push (.int (nI 1)) 1 := rfl
theorem kX0_parts_19 : List.getD tX0_parts 19 x_bad = x_ii (fun a b => a &&& b) := rfl
theorem kX0_parts_20 : List.getD tX0_parts 20 x_bad = x_icmp (fun a b => a = b) 27 := rfl
theorem kX0_parts_23 : List.getD tX0_parts 23 x_bad = x_push (.int (nI 1)) 1 := rfl
theorem kX0_parts_24 : List.getD tX0_parts 24 x_bad = x_goto 28 := rfl
theorem kX0_parts_27 : List.getD tX0_parts 27 x_bad = x_push (.int (nI 0)) 1 := rfl
theorem kX0_parts_28 : List.getD tX0_parts 28 x_bad = x_zret := rfl
def tX0_prevents : List PT := [x_aload 0 1, x_getR 0 5, x_bad, x_bad, x_iload 1 1, x_iald, x_iload 3 1, x_ii (fun a b => a >>> (b &&& 31)), x_push (.int (nI 1)) 1, x_ii (fun a b => a &&& b), x_if (fun a => a = 0) 30, x_bad, x_bad, x_aload 0 1, x_getR 0 3, x_bad, x_bad, x_iload 1 1, x_iald, x_iload 2 1, x_ii (fun a b => a >>> (b &&& 31)), x_push (.int (nI 1)) 1, x_ii (fun a b => a &&& b), x_ifn (fun a => a = 0) 30, x_bad, x_bad, x_push (.int (nI 1)) 1, x_goto 31, x_bad, x_bad, x_push (.int (nI 0)) 1, x_zret]
set_option maxRecDepth 20000 in
theorem okX0_prevents : SndT RX0 cX0_prevents mX0_prevents.2.2.1 mX0_prevents.2.2.2.2.1 mX0_prevents.2.2.2.2.2 false mX0_prevents.2.2.2.1 0 tX0_prevents := ⟨s_aload_n (k := 0) (i := 0) (by decide +kernel) rfl, s_getR (by decide +kernel) fl_RX0_32 rfl, s_bad, s_bad, s_iload_n (k := 1) (i := 1) (by decide +kernel) rfl, s_iald (by decide +kernel), s_iload_n (k := 3) (i := 3) (by decide +kernel) rfl, s_ishr (by decide +kernel), s_iconst (n := 1) (by decide +kernel) (by decide +kernel), s_iand (by decide +kernel), s_if_eq (off := 20) (by decide +kernel) (by decide), s_bad, s_bad, s_aload_n (k := 0) (i := 0) (by decide +kernel) rfl, s_getR (by decide +kernel) fl_RX0_26 rfl, s_bad, s_bad, s_iload_n (k := 1) (i := 1) (by decide +kernel) rfl, s_iald (by decide +kernel), s_iload_n (k := 2) (i := 2) (by decide +kernel) rfl, s_ishr (by decide +kernel), s_iconst (n := 1) (by decide +kernel) (by decide +kernel), s_iand (by decide +kernel), s_if_ne (off := 7) (by decide +kernel) (by decide), s_bad, s_bad, s_iconst (n := 1) (by decide +kernel) (by decide +kernel), s_goto (off := 4) (by decide +kernel) (by decide), s_bad, s_bad, s_iconst (n := 0) (by decide +kernel) (by decide +kernel), s_zret (by decide +kernel) rfl, trivial⟩
theorem kX0_prevents_0 : List.getD tX0_prevents 0 x_bad = x_aload 0 1 := rfl
theorem kX0_prevents_1 : List.getD tX0_prevents 1 x_bad = x_getR 0 5 := rfl
theorem kX0_prevents_4 : List.getD tX0_prevents 4 x_bad = x_iload 1 1 := rfl
theorem kX0_prevents_5 : List.getD tX0_prevents 5 x_bad = x_iald := rfl
theorem kX0_prevents_6 : List.getD tX0_prevents 6 x_bad = x_iload 3 1 := rfl
theorem kX0_prevents_7 : List.getD tX0_prevents 7 x_bad = x_ii (fun a b => a >>> (b &&& 31)) := rfl
theorem kX0_prevents_8 : List.getD tX0_prevents 8 x_bad = x_push (.int (nI 1)) 1 := rfl
theorem kX0_prevents_9 : List.getD tX0_prevents 9 x_bad = x_ii (fun a b => a &&& b) := rfl
theorem kX0_prevents_10 : List.getD tX0_prevents 10 x_bad = x_if (fun a => a = 0) 30 := rfl
theorem kX0_prevents_13 : List.getD tX0_prevents 13 x_bad = x_aload 0 1 := rfl
theorem kX0_prevents_14 : List.getD tX0_prevents 14 x_bad = x_getR 0 3 := rfl
theorem kX0_prevents_17 : List.getD tX0_prevents 17 x_bad = x_iload 1 1 := rfl
theorem kX0_prevents_18 : List.getD tX0_prevents 18 x_bad = x_iald := rfl
theorem kX0_prevents_19 : List.getD tX0_prevents 19 x_bad = x_iload 2 1 := rfl
theorem kX0_prevents_20 : List.getD tX0_prevents 20 x_bad = x_ii (fun a b => a >>> (b &&& 31)) := rfl
theorem kX0_prevents_21 : List.getD tX0_prevents 21 x_bad = x_push (.int (nI 1)) 1 := rfl
theorem kX0_prevents_22 : List.getD tX0_prevents 22 x_bad = x_ii (fun a b => a &&& b) := rfl
theorem kX0_prevents_23 : List.getD tX0_prevents 23 x_bad = x_ifn (fun a => a = 0) 30 := rfl
theorem kX0_prevents_26 : List.getD tX0_prevents 26 x_bad = x_push (.int (nI 1)) 1 := rfl
theorem kX0_prevents_27 : List.getD tX0_prevents 27 x_bad = x_goto 31 := rfl
theorem kX0_prevents_30 : List.getD tX0_prevents 30 x_bad = x_push (.int (nI 0)) 1 := rfl
theorem kX0_prevents_31 : List.getD tX0_prevents 31 x_bad = x_zret := rfl
def tX5_removePlace : List PT := [x_iload 1 1, x_istore 2 1, x_iload 2 1, x_aload 0 1, x_getI 5 1, x_bad, x_bad, x_push (.int (nI 1)) 1, x_ii (fun a b => a - b), x_icmp (fun a b => b ≤ a) 32, x_bad, x_bad, x_aload 0 1, x_getR 5 0, x_bad, x_bad, x_iload 2 1, x_aload 0 1, x_getR 5 0, x_bad, x_bad, x_iload 2 1, x_push (.int (nI 1)) 1, x_ii (fun a b => a + b), x_iald, x_iast, x_iinc 2 (nI 1), x_bad, x_bad, x_goto 2, x_bad, x_bad, x_aload 0 1, x_dup, x_getI 5 1, x_bad, x_bad, x_push (.int (nI 1)) 1, x_ii (fun a b => a - b), x_putI 5 1, x_bad, x_bad, x_vret]
set_option maxRecDepth 20000 in
theorem okX5_removePlace : SndT RX5 cX5_removePlace mX5_removePlace.2.2.1 mX5_removePlace.2.2.2.2.1 mX5_removePlace.2.2.2.2.2 false mX5_removePlace.2.2.2.1 0 tX5_removePlace := ⟨s_iload_n (k := 1) (i := 1) (by decide +kernel) rfl, s_istore_n (k := 2) (i := 2) (by decide +kernel) rfl (by decide), s_iload_n (k := 2) (i := 2) (by decide +kernel) rfl, s_aload_n (k := 0) (i := 0) (by decide +kernel) rfl, s_getI (by decide +kernel) fl_RX5_15 rfl, s_bad, s_bad, s_iconst (n := 1) (by decide +kernel) (by decide +kernel), s_isub (by decide +kernel), s_icmp_ge (off := 23) (by decide +kernel) (by decide), s_bad, s_bad, s_aload_n (k := 0) (i := 0) (by decide +kernel) rfl, s_getR (by decide +kernel) fl_RX5_9 rfl, s_bad, s_bad, s_iload_n (k := 2) (i := 2) (by decide +kernel) rfl, s_aload_n (k := 0) (i := 0) (by decide +kernel) rfl, s_getR (by decide +kernel) fl_RX5_9 rfl, s_bad, s_bad, s_iload_n (k := 2) (i := 2) (by decide +kernel) rfl, s_iconst (n := 1) (by decide +kernel) (by decide +kernel), s_iadd (by decide +kernel), s_iald (by decide +kernel), s_iast (by decide +kernel), s_iinc (n := 1) (by decide +kernel) (by decide +kernel) (by decide), s_bad, s_bad, s_goto (off := (-27)) (by decide +kernel) (by decide), s_bad, s_bad, s_aload_n (k := 0) (i := 0) (by decide +kernel) rfl, s_dup (by decide +kernel), s_getI (by decide +kernel) fl_RX5_15 rfl, s_bad, s_bad, s_iconst (n := 1) (by decide +kernel) (by decide +kernel), s_isub (by decide +kernel), s_putI (by decide +kernel) fl_RX5_15 fp_5_1 rfl, s_bad, s_bad, s_vret (by decide +kernel) rfl, trivial⟩
theorem kX5_removePlace_0 : List.getD tX5_removePlace 0 x_bad = x_iload 1 1 := rfl
theorem kX5_removePlace_1 : List.getD tX5_removePlace 1 x_bad = x_istore 2 1 := rfl
theorem kX5_removePlace_2 : List.getD tX5_removePlace 2 x_bad = x_iload 2 1 := rfl
theorem kX5_removePlace_3 : List.getD tX5_removePlace 3 x_bad = x_aload 0 1 := rfl
theorem kX5_removePlace_4 : List.getD tX5_removePlace 4 x_bad = x_getI 5 1 := rfl
theorem kX5_removePlace_7 : List.getD tX5_removePlace 7 x_bad = x_push (.int (nI 1)) 1 := rfl
theorem kX5_removePlace_8 : List.getD tX5_removePlace 8 x_bad = x_ii (fun a b => a - b) := rfl
theorem kX5_removePlace_9 : List.getD tX5_removePlace 9 x_bad = x_icmp (fun a b => b ≤ a) 32 := rfl
theorem kX5_removePlace_12 : List.getD tX5_removePlace 12 x_bad = x_aload 0 1 := rfl
theorem kX5_removePlace_13 : List.getD tX5_removePlace 13 x_bad = x_getR 5 0 := rfl
theorem kX5_removePlace_16 : List.getD tX5_removePlace 16 x_bad = x_iload 2 1 := rfl
theorem kX5_removePlace_17 : List.getD tX5_removePlace 17 x_bad = x_aload 0 1 := rfl
theorem kX5_removePlace_18 : List.getD tX5_removePlace 18 x_bad = x_getR 5 0 := rfl
theorem kX5_removePlace_21 : List.getD tX5_removePlace 21 x_bad = x_iload 2 1 := rfl
theorem kX5_removePlace_22 : List.getD tX5_removePlace 22 x_bad = x_push (.int (nI 1)) 1 := rfl
theorem kX5_removePlace_23 : List.getD tX5_removePlace 23 x_bad = x_ii (fun a b => a + b) := rfl
theorem kX5_removePlace_24 : List.getD tX5_removePlace 24 x_bad = x_iald := rfl
theorem kX5_removePlace_25 : List.getD tX5_removePlace 25 x_bad = x_iast := rfl
theorem kX5_removePlace_26 : List.getD tX5_removePlace 26 x_bad = x_iinc 2 (nI 1) := rfl
theorem kX5_removePlace_29 : List.getD tX5_removePlace 29 x_bad = x_goto 2 := rfl
theorem kX5_removePlace_32 : List.getD tX5_removePlace 32 x_bad = x_aload 0 1 := rfl
theorem kX5_removePlace_33 : List.getD tX5_removePlace 33 x_bad = x_dup := rfl
theorem kX5_removePlace_34 : List.getD tX5_removePlace 34 x_bad = x_getI 5 1 := rfl
theorem kX5_removePlace_37 : List.getD tX5_removePlace 37 x_bad = x_push (.int (nI 1)) 1 := rfl
theorem kX5_removePlace_38 : List.getD tX5_removePlace 38 x_bad = x_ii (fun a b => a - b) := rfl
theorem kX5_removePlace_39 : List.getD tX5_removePlace 39 x_bad = x_putI 5 1 := rfl
theorem kX5_removePlace_42 : List.getD tX5_removePlace 42 x_bad = x_vret := rfl
def tX0_countSeparations : List PT := [x_iload 1 1, x_ifn (fun a => a = 0) 8, x_bad, x_bad, x_push (.int (nI 0)) 1, x_goto 12, x_bad, x_bad, x_aload 0 1, x_getI 0 9, x_bad, x_bad, x_istore 3 1, x_iload 1 1, x_ifn (fun a => a = 0) 24, x_bad, x_bad, x_aload 0 1, x_getI 0 9, x_bad, x_bad, x_goto 28, x_bad, x_bad, x_aload 0 1, x_getI 0 10, x_bad, x_bad, x_istore 4 2, x_bad, x_push (.int (nI 0)) 1, x_istore 5 2, x_bad, x_iload 3 1, x_istore 6 2, x_bad, x_iload 6 2, x_bad, x_iload 4 2, x_bad, x_icmp (fun a b => b ≤ a) 65, x_bad, x_bad, x_aload 0 1, x_getR 0 11, x_bad, x_bad, x_iload 6 2, x_bad, x_callV1 1 mX1_has, x_bad, x_bad, x_iload 2 1, x_icmpn (fun a b => a = b) 59, x_bad, x_bad, x_iinc 5 (nI 1), x_bad, x_bad, x_iinc 6 (nI 1), x_bad, x_bad, x_goto 36, x_bad, x_bad, x_iload 5 2, x_bad, x_iret]
set_option maxRecDepth 20000 in
theorem okX0_countSeparations : SndT RX0 cX0_countSeparations mX0_countSeparations.2.2.1 mX0_countSeparations.2.2.2.2.1 mX0_countSeparations.2.2.2.2.2 false mX0_countSeparations.2.2.2.1 0 tX0_countSeparations := ⟨s_iload_n (k := 1) (i := 1) (by decide +kernel) rfl, s_if_ne (off := 7) (by decide +kernel) (by decide), s_bad, s_bad, s_iconst (n := 0) (by decide +kernel) (by decide +kernel), s_goto (off := 7) (by decide +kernel) (by decide), s_bad, s_bad, s_aload_n (k := 0) (i := 0) (by decide +kernel) rfl, s_getI (by decide +kernel) fl_RX0_44 rfl, s_bad, s_bad, s_istore_n (k := 3) (i := 3) (by decide +kernel) rfl (by decide), s_iload_n (k := 1) (i := 1) (by decide +kernel) rfl, s_if_ne (off := 10) (by decide +kernel) (by decide), s_bad, s_bad, s_aload_n (k := 0) (i := 0) (by decide +kernel) rfl, s_getI (by decide +kernel) fl_RX0_44 rfl, s_bad, s_bad, s_goto (off := 7) (by decide +kernel) (by decide), s_bad, s_bad, s_aload_n (k := 0) (i := 0) (by decide +kernel) rfl, s_getI (by decide +kernel) fl_RX0_47 rfl, s_bad, s_bad, s_istore (by decide +kernel) (by decide), s_bad, s_iconst (n := 0) (by decide +kernel) (by decide +kernel), s_istore (by decide +kernel) (by decide), s_bad, s_iload_n (k := 3) (i := 3) (by decide +kernel) rfl, s_istore (by decide +kernel) (by decide), s_bad, s_iload (by decide +kernel), s_bad, s_iload (by decide +kernel), s_bad, s_icmp_ge (off := 25) (by decide +kernel) (by decide), s_bad, s_bad, s_aload_n (k := 0) (i := 0) (by decide +kernel) rfl, s_getR (by decide +kernel) fl_RX0_53 rfl, s_bad, s_bad, s_iload (by decide +kernel), s_bad, s_callV1 (by decide +kernel) lv_RX0_116 ⟨by decide, by decide⟩, s_bad, s_bad, s_iload_n (k := 2) (i := 2) (by decide +kernel) rfl, s_icmp_ne (off := 6) (by decide +kernel) (by decide), s_bad, s_bad, s_iinc (n := 1) (by decide +kernel) (by decide +kernel) (by decide), s_bad, s_bad, s_iinc (n := 1) (by decide +kernel) (by decide +kernel) (by decide), s_bad, s_bad, s_goto (off := (-26)) (by decide +kernel) (by decide), s_bad, s_bad, s_iload (by decide +kernel), s_bad, s_iret (by decide +kernel) rfl, trivial⟩
theorem kX0_countSeparations_0 : List.getD tX0_countSeparations 0 x_bad = x_iload 1 1 := rfl
theorem kX0_countSeparations_1 : List.getD tX0_countSeparations 1 x_bad = x_ifn (fun a => a = 0) 8 := rfl
theorem kX0_countSeparations_4 : List.getD tX0_countSeparations 4 x_bad = x_push (.int (nI 0)) 1 := rfl
theorem kX0_countSeparations_5 : List.getD tX0_countSeparations 5 x_bad = x_goto 12 := rfl
theorem kX0_countSeparations_8 : List.getD tX0_countSeparations 8 x_bad = x_aload 0 1 := rfl
theorem kX0_countSeparations_9 : List.getD tX0_countSeparations 9 x_bad = x_getI 0 9 := rfl
theorem kX0_countSeparations_12 : List.getD tX0_countSeparations 12 x_bad = x_istore 3 1 := rfl
theorem kX0_countSeparations_13 : List.getD tX0_countSeparations 13 x_bad = x_iload 1 1 := rfl
theorem kX0_countSeparations_14 : List.getD tX0_countSeparations 14 x_bad = x_ifn (fun a => a = 0) 24 := rfl
theorem kX0_countSeparations_17 : List.getD tX0_countSeparations 17 x_bad = x_aload 0 1 := rfl
theorem kX0_countSeparations_18 : List.getD tX0_countSeparations 18 x_bad = x_getI 0 9 := rfl
theorem kX0_countSeparations_21 : List.getD tX0_countSeparations 21 x_bad = x_goto 28 := rfl
theorem kX0_countSeparations_24 : List.getD tX0_countSeparations 24 x_bad = x_aload 0 1 := rfl
theorem kX0_countSeparations_25 : List.getD tX0_countSeparations 25 x_bad = x_getI 0 10 := rfl
theorem kX0_countSeparations_28 : List.getD tX0_countSeparations 28 x_bad = x_istore 4 2 := rfl
theorem kX0_countSeparations_30 : List.getD tX0_countSeparations 30 x_bad = x_push (.int (nI 0)) 1 := rfl
theorem kX0_countSeparations_31 : List.getD tX0_countSeparations 31 x_bad = x_istore 5 2 := rfl
theorem kX0_countSeparations_33 : List.getD tX0_countSeparations 33 x_bad = x_iload 3 1 := rfl
theorem kX0_countSeparations_34 : List.getD tX0_countSeparations 34 x_bad = x_istore 6 2 := rfl
theorem kX0_countSeparations_36 : List.getD tX0_countSeparations 36 x_bad = x_iload 6 2 := rfl
theorem kX0_countSeparations_38 : List.getD tX0_countSeparations 38 x_bad = x_iload 4 2 := rfl
theorem kX0_countSeparations_40 : List.getD tX0_countSeparations 40 x_bad = x_icmp (fun a b => b ≤ a) 65 := rfl
theorem kX0_countSeparations_43 : List.getD tX0_countSeparations 43 x_bad = x_aload 0 1 := rfl
theorem kX0_countSeparations_44 : List.getD tX0_countSeparations 44 x_bad = x_getR 0 11 := rfl
theorem kX0_countSeparations_47 : List.getD tX0_countSeparations 47 x_bad = x_iload 6 2 := rfl
theorem kX0_countSeparations_49 : List.getD tX0_countSeparations 49 x_bad = x_callV1 1 mX1_has := rfl
theorem kX0_countSeparations_52 : List.getD tX0_countSeparations 52 x_bad = x_iload 2 1 := rfl
theorem kX0_countSeparations_53 : List.getD tX0_countSeparations 53 x_bad = x_icmpn (fun a b => a = b) 59 := rfl
theorem kX0_countSeparations_56 : List.getD tX0_countSeparations 56 x_bad = x_iinc 5 (nI 1) := rfl
theorem kX0_countSeparations_59 : List.getD tX0_countSeparations 59 x_bad = x_iinc 6 (nI 1) := rfl
theorem kX0_countSeparations_62 : List.getD tX0_countSeparations 62 x_bad = x_goto 36 := rfl
theorem kX0_countSeparations_65 : List.getD tX0_countSeparations 65 x_bad = x_iload 5 2 := rfl
theorem kX0_countSeparations_67 : List.getD tX0_countSeparations 67 x_bad = x_iret := rfl
def tX0_listSeparations : List PT := [x_aload 0 1, x_push (.int (nI 0)) 1, x_putI 0 10, x_bad, x_bad, x_push (.int (nI 0)) 1, x_istore 2 1, x_iload 2 1, x_aload 1 1, x_getI 3 0, x_bad, x_bad, x_icmp (fun a b => b ≤ a) 45, x_bad, x_bad, x_iload 2 1, x_push (.int (nI 1)) 1, x_ii (fun a b => a + b), x_istore 3 1, x_iload 3 1, x_aload 1 1, x_getI 3 0, x_bad, x_bad, x_icmp (fun a b => b ≤ a) 39, x_bad, x_bad, x_aload 0 1, x_iload 2 1, x_iload 3 1, x_callV2 0 mX0_addSeparation, x_bad, x_bad, x_iinc 3 (nI 1), x_bad, x_bad, x_goto 19, x_bad, x_bad, x_iinc 2 (nI 1), x_bad, x_bad, x_goto 7, x_bad, x_bad, x_aload 0 1, x_aload 0 1, x_getI 0 10, x_bad, x_bad, x_putI 0 9, x_bad, x_bad, x_aload 1 1, x_callV0 3 mX3_usedEvents, x_bad, x_bad, x_istore 2 1, x_push (.int (nI 0)) 1, x_istore 3 1, x_iload 3 1, x_aload 1 1, x_getI 3 0, x_bad, x_bad, x_icmp (fun a b => b ≤ a) 116, x_bad, x_bad, x_push (.int (nI 0)) 1, x_istore 4 2, x_bad, x_iload 4 2, x_bad, x_push (.int (nI 8)) 2, x_bad, x_icmp (fun a b => b ≤ a) 110, x_bad, x_bad, x_iload 2 1, x_iload 4 2, x_bad, x_ii (fun a b => a >>> (b &&& 31)), x_push (.int (nI 1)) 1, x_ii (fun a b => a &&& b), x_if (fun a => a = 0) 104, x_bad, x_bad, x_aload 1 1, x_iload 3 1, x_iload 4 2, x_bad, x_callV2 3 mX3_target, x_bad, x_bad, x_if (fun a => 0 ≤ a) 104, x_bad, x_bad, x_aload 0 1, x_iload 3 1, x_iload 4 2, x_bad, x_callV2 0 mX0_addSeparation, x_bad, x_bad, x_iinc 4 (nI 1), x_bad, x_bad, x_goto 71, x_bad, x_bad, x_iinc 3 (nI 1), x_bad, x_bad, x_goto 60, x_bad, x_bad, x_vret]
set_option maxRecDepth 20000 in
theorem okX0_listSeparations : SndT RX0 cX0_listSeparations mX0_listSeparations.2.2.1 mX0_listSeparations.2.2.2.2.1 mX0_listSeparations.2.2.2.2.2 false mX0_listSeparations.2.2.2.1 0 tX0_listSeparations := ⟨s_aload_n (k := 0) (i := 0) (by decide +kernel) rfl, s_iconst (n := 0) (by decide +kernel) (by decide +kernel), s_putI (by decide +kernel) fl_RX0_47 fp_0_10 rfl, s_bad, s_bad, s_iconst (n := 0) (by decide +kernel) (by decide +kernel), s_istore_n (k := 2) (i := 2) (by decide +kernel) rfl (by decide), s_iload_n (k := 2) (i := 2) (by decide +kernel) rfl, s_aload_n (k := 1) (i := 1) (by decide +kernel) rfl, s_getI (by decide +kernel) fl_RX0_85 rfl, s_bad, s_bad, s_icmp_ge (off := 33) (by decide +kernel) (by decide), s_bad, s_bad, s_iload_n (k := 2) (i := 2) (by decide +kernel) rfl, s_iconst (n := 1) (by decide +kernel) (by decide +kernel), s_iadd (by decide +kernel), s_istore_n (k := 3) (i := 3) (by decide +kernel) rfl (by decide), s_iload_n (k := 3) (i := 3) (by decide +kernel) rfl, s_aload_n (k := 1) (i := 1) (by decide +kernel) rfl, s_getI (by decide +kernel) fl_RX0_85 rfl, s_bad, s_bad, s_icmp_ge (off := 15) (by decide +kernel) (by decide), s_bad, s_bad, s_aload_n (k := 0) (i := 0) (by decide +kernel) rfl, s_iload_n (k := 2) (i := 2) (by decide +kernel) rfl, s_iload_n (k := 3) (i := 3) (by decide +kernel) rfl, s_callV2 (by decide +kernel) lv_RX0_88 ⟨by decide, by decide⟩, s_bad, s_bad, s_iinc (n := 1) (by decide +kernel) (by decide +kernel) (by decide), s_bad, s_bad, s_goto (off := (-17)) (by decide +kernel) (by decide), s_bad, s_bad, s_iinc (n := 1) (by decide +kernel) (by decide +kernel) (by decide), s_bad, s_bad, s_goto (off := (-35)) (by decide +kernel) (by decide), s_bad, s_bad, s_aload_n (k := 0) (i := 0) (by decide +kernel) rfl, s_aload_n (k := 0) (i := 0) (by decide +kernel) rfl, s_getI (by decide +kernel) fl_RX0_47 rfl, s_bad, s_bad, s_putI (by decide +kernel) fl_RX0_44 fp_0_9 rfl, s_bad, s_bad, s_aload_n (k := 1) (i := 1) (by decide +kernel) rfl, s_callV0 (by decide +kernel) lv_RX0_92 ⟨by decide, by decide⟩, s_bad, s_bad, s_istore_n (k := 2) (i := 2) (by decide +kernel) rfl (by decide), s_iconst (n := 0) (by decide +kernel) (by decide +kernel), s_istore_n (k := 3) (i := 3) (by decide +kernel) rfl (by decide), s_iload_n (k := 3) (i := 3) (by decide +kernel) rfl, s_aload_n (k := 1) (i := 1) (by decide +kernel) rfl, s_getI (by decide +kernel) fl_RX0_85 rfl, s_bad, s_bad, s_icmp_ge (off := 51) (by decide +kernel) (by decide), s_bad, s_bad, s_iconst (n := 0) (by decide +kernel) (by decide +kernel), s_istore (by decide +kernel) (by decide), s_bad, s_iload (by decide +kernel), s_bad, s_bipush (n := 8) (by decide +kernel) (by decide +kernel), s_bad, s_icmp_ge (off := 35) (by decide +kernel) (by decide), s_bad, s_bad, s_iload_n (k := 2) (i := 2) (by decide +kernel) rfl, s_iload (by decide +kernel), s_bad, s_ishr (by decide +kernel), s_iconst (n := 1) (by decide +kernel) (by decide +kernel), s_iand (by decide +kernel), s_if_eq (off := 20) (by decide +kernel) (by decide), s_bad, s_bad, s_aload_n (k := 1) (i := 1) (by decide +kernel) rfl, s_iload_n (k := 3) (i := 3) (by decide +kernel) rfl, s_iload (by decide +kernel), s_bad, s_callV2 (by decide +kernel) lv_RX0_95 ⟨by decide, by decide⟩, s_bad, s_bad, s_if_ge (off := 10) (by decide +kernel) (by decide), s_bad, s_bad, s_aload_n (k := 0) (i := 0) (by decide +kernel) rfl, s_iload_n (k := 3) (i := 3) (by decide +kernel) rfl, s_iload (by decide +kernel), s_bad, s_callV2 (by decide +kernel) lv_RX0_88 ⟨by decide, by decide⟩, s_bad, s_bad, s_iinc (n := 1) (by decide +kernel) (by decide +kernel) (by decide), s_bad, s_bad, s_goto (off := (-36)) (by decide +kernel) (by decide), s_bad, s_bad, s_iinc (n := 1) (by decide +kernel) (by decide +kernel) (by decide), s_bad, s_bad, s_goto (off := (-53)) (by decide +kernel) (by decide), s_bad, s_bad, s_vret (by decide +kernel) rfl, trivial⟩
theorem kX0_listSeparations_0 : List.getD tX0_listSeparations 0 x_bad = x_aload 0 1 := rfl
theorem kX0_listSeparations_1 : List.getD tX0_listSeparations 1 x_bad = x_push (.int (nI 0)) 1 := rfl
theorem kX0_listSeparations_2 : List.getD tX0_listSeparations 2 x_bad = x_putI 0 10 := rfl
theorem kX0_listSeparations_5 : List.getD tX0_listSeparations 5 x_bad = x_push (.int (nI 0)) 1 := rfl
theorem kX0_listSeparations_6 : List.getD tX0_listSeparations 6 x_bad = x_istore 2 1 := rfl
theorem kX0_listSeparations_7 : List.getD tX0_listSeparations 7 x_bad = x_iload 2 1 := rfl
theorem kX0_listSeparations_8 : List.getD tX0_listSeparations 8 x_bad = x_aload 1 1 := rfl
theorem kX0_listSeparations_9 : List.getD tX0_listSeparations 9 x_bad = x_getI 3 0 := rfl
theorem kX0_listSeparations_12 : List.getD tX0_listSeparations 12 x_bad = x_icmp (fun a b => b ≤ a) 45 := rfl
theorem kX0_listSeparations_15 : List.getD tX0_listSeparations 15 x_bad = x_iload 2 1 := rfl
theorem kX0_listSeparations_16 : List.getD tX0_listSeparations 16 x_bad = x_push (.int (nI 1)) 1 := rfl
theorem kX0_listSeparations_17 : List.getD tX0_listSeparations 17 x_bad = x_ii (fun a b => a + b) := rfl
theorem kX0_listSeparations_18 : List.getD tX0_listSeparations 18 x_bad = x_istore 3 1 := rfl
theorem kX0_listSeparations_19 : List.getD tX0_listSeparations 19 x_bad = x_iload 3 1 := rfl
theorem kX0_listSeparations_20 : List.getD tX0_listSeparations 20 x_bad = x_aload 1 1 := rfl
theorem kX0_listSeparations_21 : List.getD tX0_listSeparations 21 x_bad = x_getI 3 0 := rfl
theorem kX0_listSeparations_24 : List.getD tX0_listSeparations 24 x_bad = x_icmp (fun a b => b ≤ a) 39 := rfl
theorem kX0_listSeparations_27 : List.getD tX0_listSeparations 27 x_bad = x_aload 0 1 := rfl
theorem kX0_listSeparations_28 : List.getD tX0_listSeparations 28 x_bad = x_iload 2 1 := rfl
theorem kX0_listSeparations_29 : List.getD tX0_listSeparations 29 x_bad = x_iload 3 1 := rfl
theorem kX0_listSeparations_30 : List.getD tX0_listSeparations 30 x_bad = x_callV2 0 mX0_addSeparation := rfl
theorem kX0_listSeparations_33 : List.getD tX0_listSeparations 33 x_bad = x_iinc 3 (nI 1) := rfl
theorem kX0_listSeparations_36 : List.getD tX0_listSeparations 36 x_bad = x_goto 19 := rfl
theorem kX0_listSeparations_39 : List.getD tX0_listSeparations 39 x_bad = x_iinc 2 (nI 1) := rfl
theorem kX0_listSeparations_42 : List.getD tX0_listSeparations 42 x_bad = x_goto 7 := rfl
theorem kX0_listSeparations_45 : List.getD tX0_listSeparations 45 x_bad = x_aload 0 1 := rfl
theorem kX0_listSeparations_46 : List.getD tX0_listSeparations 46 x_bad = x_aload 0 1 := rfl
theorem kX0_listSeparations_47 : List.getD tX0_listSeparations 47 x_bad = x_getI 0 10 := rfl
theorem kX0_listSeparations_50 : List.getD tX0_listSeparations 50 x_bad = x_putI 0 9 := rfl
theorem kX0_listSeparations_53 : List.getD tX0_listSeparations 53 x_bad = x_aload 1 1 := rfl
theorem kX0_listSeparations_54 : List.getD tX0_listSeparations 54 x_bad = x_callV0 3 mX3_usedEvents := rfl
theorem kX0_listSeparations_57 : List.getD tX0_listSeparations 57 x_bad = x_istore 2 1 := rfl
theorem kX0_listSeparations_58 : List.getD tX0_listSeparations 58 x_bad = x_push (.int (nI 0)) 1 := rfl
theorem kX0_listSeparations_59 : List.getD tX0_listSeparations 59 x_bad = x_istore 3 1 := rfl
theorem kX0_listSeparations_60 : List.getD tX0_listSeparations 60 x_bad = x_iload 3 1 := rfl
theorem kX0_listSeparations_61 : List.getD tX0_listSeparations 61 x_bad = x_aload 1 1 := rfl
theorem kX0_listSeparations_62 : List.getD tX0_listSeparations 62 x_bad = x_getI 3 0 := rfl
theorem kX0_listSeparations_65 : List.getD tX0_listSeparations 65 x_bad = x_icmp (fun a b => b ≤ a) 116 := rfl
theorem kX0_listSeparations_68 : List.getD tX0_listSeparations 68 x_bad = x_push (.int (nI 0)) 1 := rfl
theorem kX0_listSeparations_69 : List.getD tX0_listSeparations 69 x_bad = x_istore 4 2 := rfl
theorem kX0_listSeparations_71 : List.getD tX0_listSeparations 71 x_bad = x_iload 4 2 := rfl
theorem kX0_listSeparations_73 : List.getD tX0_listSeparations 73 x_bad = x_push (.int (nI 8)) 2 := rfl
theorem kX0_listSeparations_75 : List.getD tX0_listSeparations 75 x_bad = x_icmp (fun a b => b ≤ a) 110 := rfl
theorem kX0_listSeparations_78 : List.getD tX0_listSeparations 78 x_bad = x_iload 2 1 := rfl
theorem kX0_listSeparations_79 : List.getD tX0_listSeparations 79 x_bad = x_iload 4 2 := rfl
theorem kX0_listSeparations_81 : List.getD tX0_listSeparations 81 x_bad = x_ii (fun a b => a >>> (b &&& 31)) := rfl
theorem kX0_listSeparations_82 : List.getD tX0_listSeparations 82 x_bad = x_push (.int (nI 1)) 1 := rfl
theorem kX0_listSeparations_83 : List.getD tX0_listSeparations 83 x_bad = x_ii (fun a b => a &&& b) := rfl
theorem kX0_listSeparations_84 : List.getD tX0_listSeparations 84 x_bad = x_if (fun a => a = 0) 104 := rfl
theorem kX0_listSeparations_87 : List.getD tX0_listSeparations 87 x_bad = x_aload 1 1 := rfl
theorem kX0_listSeparations_88 : List.getD tX0_listSeparations 88 x_bad = x_iload 3 1 := rfl
theorem kX0_listSeparations_89 : List.getD tX0_listSeparations 89 x_bad = x_iload 4 2 := rfl
theorem kX0_listSeparations_91 : List.getD tX0_listSeparations 91 x_bad = x_callV2 3 mX3_target := rfl
theorem kX0_listSeparations_94 : List.getD tX0_listSeparations 94 x_bad = x_if (fun a => 0 ≤ a) 104 := rfl
theorem kX0_listSeparations_97 : List.getD tX0_listSeparations 97 x_bad = x_aload 0 1 := rfl
theorem kX0_listSeparations_98 : List.getD tX0_listSeparations 98 x_bad = x_iload 3 1 := rfl
theorem kX0_listSeparations_99 : List.getD tX0_listSeparations 99 x_bad = x_iload 4 2 := rfl
theorem kX0_listSeparations_101 : List.getD tX0_listSeparations 101 x_bad = x_callV2 0 mX0_addSeparation := rfl
theorem kX0_listSeparations_104 : List.getD tX0_listSeparations 104 x_bad = x_iinc 4 (nI 1) := rfl
theorem kX0_listSeparations_107 : List.getD tX0_listSeparations 107 x_bad = x_goto 71 := rfl
theorem kX0_listSeparations_110 : List.getD tX0_listSeparations 110 x_bad = x_iinc 3 (nI 1) := rfl
theorem kX0_listSeparations_113 : List.getD tX0_listSeparations 113 x_bad = x_goto 60 := rfl
theorem kX0_listSeparations_116 : List.getD tX0_listSeparations 116 x_bad = x_vret := rfl
def tX0_smallestAround : List PT := [x_push (.int (-1)) 1, x_istore 2 1, x_push (.int (nI 0)) 1, x_istore 3 1, x_iload 3 1, x_aload 0 1, x_getI 0 2, x_bad, x_bad, x_icmp (fun a b => b ≤ a) 70, x_bad, x_bad, x_iload 1 1, x_aload 0 1, x_getR 0 1, x_bad, x_bad, x_iload 3 1, x_iald, x_push (.int (-1)) 1, x_ii (fun a b => a ^^^ b), x_ii (fun a b => a &&& b), x_ifn (fun a => a = 0) 29, x_bad, x_bad, x_push (.int (nI 1)) 1, x_goto 30, x_bad, x_bad, x_push (.int (nI 0)) 1, x_istore 4 2, x_bad, x_iload 4 2, x_bad, x_if (fun a => a = 0) 64, x_bad, x_bad, x_iload 2 1, x_if (fun a => a < 0) 57, x_bad, x_bad, x_aload 0 1, x_getR 0 1, x_bad, x_bad, x_iload 3 1, x_iald, x_callS1 mJ6_bitCount_0f7a4, x_bad, x_bad, x_iload 2 1, x_callS1 mJ6_bitCount_0f7a4, x_bad, x_bad, x_icmp (fun a b => b ≤ a) 64, x_bad, x_bad, x_aload 0 1, x_getR 0 1, x_bad, x_bad, x_iload 3 1, x_iald, x_istore 2 1, x_iinc 3 (nI 1), x_bad, x_bad, x_goto 4, x_bad, x_bad, x_iload 2 1, x_iret]
set_option maxRecDepth 20000 in
theorem okX0_smallestAround : SndT RX0 cX0_smallestAround mX0_smallestAround.2.2.1 mX0_smallestAround.2.2.2.2.1 mX0_smallestAround.2.2.2.2.2 false mX0_smallestAround.2.2.2.1 0 tX0_smallestAround := ⟨s_iconst (n := (-1)) (by decide +kernel) (by decide +kernel), s_istore_n (k := 2) (i := 2) (by decide +kernel) rfl (by decide), s_iconst (n := 0) (by decide +kernel) (by decide +kernel), s_istore_n (k := 3) (i := 3) (by decide +kernel) rfl (by decide), s_iload_n (k := 3) (i := 3) (by decide +kernel) rfl, s_aload_n (k := 0) (i := 0) (by decide +kernel) rfl, s_getI (by decide +kernel) fl_RX0_22 rfl, s_bad, s_bad, s_icmp_ge (off := 61) (by decide +kernel) (by decide), s_bad, s_bad, s_iload_n (k := 1) (i := 1) (by decide +kernel) rfl, s_aload_n (k := 0) (i := 0) (by decide +kernel) rfl, s_getR (by decide +kernel) fl_RX0_18 rfl, s_bad, s_bad, s_iload_n (k := 3) (i := 3) (by decide +kernel) rfl, s_iald (by decide +kernel), s_iconst (n := (-1)) (by decide +kernel) (by decide +kernel), s_ixor (by decide +kernel), s_iand (by decide +kernel), s_if_ne (off := 7) (by decide +kernel) (by decide), s_bad, s_bad, s_iconst (n := 1) (by decide +kernel) (by decide +kernel), s_goto (off := 4) (by decide +kernel) (by decide), s_bad, s_bad, s_iconst (n := 0) (by decide +kernel) (by decide +kernel), s_istore (by decide +kernel) (by decide), s_bad, s_iload (by decide +kernel), s_bad, s_if_eq (off := 30) (by decide +kernel) (by decide), s_bad, s_bad, s_iload_n (k := 2) (i := 2) (by decide +kernel) rfl, s_if_lt (off := 19) (by decide +kernel) (by decide), s_bad, s_bad, s_aload_n (k := 0) (i := 0) (by decide +kernel) rfl, s_getR (by decide +kernel) fl_RX0_18 rfl, s_bad, s_bad, s_iload_n (k := 3) (i := 3) (by decide +kernel) rfl, s_iald (by decide +kernel), s_callS1 (by decide +kernel) ls_RX0_127 ⟨by decide, by decide⟩, s_bad, s_bad, s_iload_n (k := 2) (i := 2) (by decide +kernel) rfl, s_callS1 (by decide +kernel) ls_RX0_127 ⟨by decide, by decide⟩, s_bad, s_bad, s_icmp_ge (off := 10) (by decide +kernel) (by decide), s_bad, s_bad, s_aload_n (k := 0) (i := 0) (by decide +kernel) rfl, s_getR (by decide +kernel) fl_RX0_18 rfl, s_bad, s_bad, s_iload_n (k := 3) (i := 3) (by decide +kernel) rfl, s_iald (by decide +kernel), s_istore_n (k := 2) (i := 2) (by decide +kernel) rfl (by decide), s_iinc (n := 1) (by decide +kernel) (by decide +kernel) (by decide), s_bad, s_bad, s_goto (off := (-63)) (by decide +kernel) (by decide), s_bad, s_bad, s_iload_n (k := 2) (i := 2) (by decide +kernel) rfl, s_iret (by decide +kernel) rfl, trivial⟩
theorem kX0_smallestAround_0 : List.getD tX0_smallestAround 0 x_bad = x_push (.int (-1)) 1 := rfl
theorem kX0_smallestAround_1 : List.getD tX0_smallestAround 1 x_bad = x_istore 2 1 := rfl
theorem kX0_smallestAround_2 : List.getD tX0_smallestAround 2 x_bad = x_push (.int (nI 0)) 1 := rfl
theorem kX0_smallestAround_3 : List.getD tX0_smallestAround 3 x_bad = x_istore 3 1 := rfl
theorem kX0_smallestAround_4 : List.getD tX0_smallestAround 4 x_bad = x_iload 3 1 := rfl
theorem kX0_smallestAround_5 : List.getD tX0_smallestAround 5 x_bad = x_aload 0 1 := rfl
theorem kX0_smallestAround_6 : List.getD tX0_smallestAround 6 x_bad = x_getI 0 2 := rfl
theorem kX0_smallestAround_9 : List.getD tX0_smallestAround 9 x_bad = x_icmp (fun a b => b ≤ a) 70 := rfl
theorem kX0_smallestAround_12 : List.getD tX0_smallestAround 12 x_bad = x_iload 1 1 := rfl
theorem kX0_smallestAround_13 : List.getD tX0_smallestAround 13 x_bad = x_aload 0 1 := rfl
theorem kX0_smallestAround_14 : List.getD tX0_smallestAround 14 x_bad = x_getR 0 1 := rfl
theorem kX0_smallestAround_17 : List.getD tX0_smallestAround 17 x_bad = x_iload 3 1 := rfl
theorem kX0_smallestAround_18 : List.getD tX0_smallestAround 18 x_bad = x_iald := rfl
theorem kX0_smallestAround_19 : List.getD tX0_smallestAround 19 x_bad = x_push (.int (-1)) 1 := rfl
theorem kX0_smallestAround_20 : List.getD tX0_smallestAround 20 x_bad = x_ii (fun a b => a ^^^ b) := rfl
theorem kX0_smallestAround_21 : List.getD tX0_smallestAround 21 x_bad = x_ii (fun a b => a &&& b) := rfl
theorem kX0_smallestAround_22 : List.getD tX0_smallestAround 22 x_bad = x_ifn (fun a => a = 0) 29 := rfl
theorem kX0_smallestAround_25 : List.getD tX0_smallestAround 25 x_bad = x_push (.int (nI 1)) 1 := rfl
theorem kX0_smallestAround_26 : List.getD tX0_smallestAround 26 x_bad = x_goto 30 := rfl
theorem kX0_smallestAround_29 : List.getD tX0_smallestAround 29 x_bad = x_push (.int (nI 0)) 1 := rfl
theorem kX0_smallestAround_30 : List.getD tX0_smallestAround 30 x_bad = x_istore 4 2 := rfl
theorem kX0_smallestAround_32 : List.getD tX0_smallestAround 32 x_bad = x_iload 4 2 := rfl
theorem kX0_smallestAround_34 : List.getD tX0_smallestAround 34 x_bad = x_if (fun a => a = 0) 64 := rfl
theorem kX0_smallestAround_37 : List.getD tX0_smallestAround 37 x_bad = x_iload 2 1 := rfl
theorem kX0_smallestAround_38 : List.getD tX0_smallestAround 38 x_bad = x_if (fun a => a < 0) 57 := rfl
theorem kX0_smallestAround_41 : List.getD tX0_smallestAround 41 x_bad = x_aload 0 1 := rfl
theorem kX0_smallestAround_42 : List.getD tX0_smallestAround 42 x_bad = x_getR 0 1 := rfl
theorem kX0_smallestAround_45 : List.getD tX0_smallestAround 45 x_bad = x_iload 3 1 := rfl
theorem kX0_smallestAround_46 : List.getD tX0_smallestAround 46 x_bad = x_iald := rfl
theorem kX0_smallestAround_47 : List.getD tX0_smallestAround 47 x_bad = x_callS1 mJ6_bitCount_0f7a4 := rfl
theorem kX0_smallestAround_50 : List.getD tX0_smallestAround 50 x_bad = x_iload 2 1 := rfl
theorem kX0_smallestAround_51 : List.getD tX0_smallestAround 51 x_bad = x_callS1 mJ6_bitCount_0f7a4 := rfl
theorem kX0_smallestAround_54 : List.getD tX0_smallestAround 54 x_bad = x_icmp (fun a b => b ≤ a) 64 := rfl
theorem kX0_smallestAround_57 : List.getD tX0_smallestAround 57 x_bad = x_aload 0 1 := rfl
theorem kX0_smallestAround_58 : List.getD tX0_smallestAround 58 x_bad = x_getR 0 1 := rfl
theorem kX0_smallestAround_61 : List.getD tX0_smallestAround 61 x_bad = x_iload 3 1 := rfl
theorem kX0_smallestAround_62 : List.getD tX0_smallestAround 62 x_bad = x_iald := rfl
theorem kX0_smallestAround_63 : List.getD tX0_smallestAround 63 x_bad = x_istore 2 1 := rfl
theorem kX0_smallestAround_64 : List.getD tX0_smallestAround 64 x_bad = x_iinc 3 (nI 1) := rfl
theorem kX0_smallestAround_67 : List.getD tX0_smallestAround 67 x_bad = x_goto 4 := rfl
theorem kX0_smallestAround_70 : List.getD tX0_smallestAround 70 x_bad = x_iload 2 1 := rfl
theorem kX0_smallestAround_71 : List.getD tX0_smallestAround 71 x_bad = x_iret := rfl
def tX0_solves : List PT := [x_iload 2 1, x_aload 0 1, x_getI 0 9, x_bad, x_bad, x_icmp (fun a b => b ≤ a) 28, x_bad, x_bad, x_aload 0 1, x_iload 1 1, x_aload 0 1, x_getR 0 7, x_bad, x_bad, x_iload 2 1, x_iald, x_aload 0 1, x_getR 0 8, x_bad, x_bad, x_iload 2 1, x_iald, x_callV3 0 mX0_parts, x_bad, x_bad, x_goto 45, x_bad, x_bad, x_aload 0 1, x_iload 1 1, x_aload 0 1, x_getR 0 7, x_bad, x_bad, x_iload 2 1, x_iald, x_aload 0 1, x_getR 0 8, x_bad, x_bad, x_iload 2 1, x_iald, x_callV3 0 mX0_prevents, x_bad, x_bad, x_zret]
set_option maxRecDepth 20000 in
theorem okX0_solves : SndT RX0 cX0_solves mX0_solves.2.2.1 mX0_solves.2.2.2.2.1 mX0_solves.2.2.2.2.2 false mX0_solves.2.2.2.1 0 tX0_solves := ⟨s_iload_n (k := 2) (i := 2) (by decide +kernel) rfl, s_aload_n (k := 0) (i := 0) (by decide +kernel) rfl, s_getI (by decide +kernel) fl_RX0_44 rfl, s_bad, s_bad, s_icmp_ge (off := 23) (by decide +kernel) (by decide), s_bad, s_bad, s_aload_n (k := 0) (i := 0) (by decide +kernel) rfl, s_iload_n (k := 1) (i := 1) (by decide +kernel) rfl, s_aload_n (k := 0) (i := 0) (by decide +kernel) rfl, s_getR (by decide +kernel) fl_RX0_38 rfl, s_bad, s_bad, s_iload_n (k := 2) (i := 2) (by decide +kernel) rfl, s_iald (by decide +kernel), s_aload_n (k := 0) (i := 0) (by decide +kernel) rfl, s_getR (by decide +kernel) fl_RX0_41 rfl, s_bad, s_bad, s_iload_n (k := 2) (i := 2) (by decide +kernel) rfl, s_iald (by decide +kernel), s_callV3 (by decide +kernel) lv_RX0_109 ⟨by decide, by decide⟩, s_bad, s_bad, s_goto (off := 20) (by decide +kernel) (by decide), s_bad, s_bad, s_aload_n (k := 0) (i := 0) (by decide +kernel) rfl, s_iload_n (k := 1) (i := 1) (by decide +kernel) rfl, s_aload_n (k := 0) (i := 0) (by decide +kernel) rfl, s_getR (by decide +kernel) fl_RX0_38 rfl, s_bad, s_bad, s_iload_n (k := 2) (i := 2) (by decide +kernel) rfl, s_iald (by decide +kernel), s_aload_n (k := 0) (i := 0) (by decide +kernel) rfl, s_getR (by decide +kernel) fl_RX0_41 rfl, s_bad, s_bad, s_iload_n (k := 2) (i := 2) (by decide +kernel) rfl, s_iald (by decide +kernel), s_callV3 (by decide +kernel) lv_RX0_113 ⟨by decide, by decide⟩, s_bad, s_bad, s_zret (by decide +kernel) rfl, trivial⟩
theorem kX0_solves_0 : List.getD tX0_solves 0 x_bad = x_iload 2 1 := rfl
theorem kX0_solves_1 : List.getD tX0_solves 1 x_bad = x_aload 0 1 := rfl
theorem kX0_solves_2 : List.getD tX0_solves 2 x_bad = x_getI 0 9 := rfl
theorem kX0_solves_5 : List.getD tX0_solves 5 x_bad = x_icmp (fun a b => b ≤ a) 28 := rfl
theorem kX0_solves_8 : List.getD tX0_solves 8 x_bad = x_aload 0 1 := rfl
theorem kX0_solves_9 : List.getD tX0_solves 9 x_bad = x_iload 1 1 := rfl
theorem kX0_solves_10 : List.getD tX0_solves 10 x_bad = x_aload 0 1 := rfl
theorem kX0_solves_11 : List.getD tX0_solves 11 x_bad = x_getR 0 7 := rfl
theorem kX0_solves_14 : List.getD tX0_solves 14 x_bad = x_iload 2 1 := rfl
theorem kX0_solves_15 : List.getD tX0_solves 15 x_bad = x_iald := rfl
theorem kX0_solves_16 : List.getD tX0_solves 16 x_bad = x_aload 0 1 := rfl
theorem kX0_solves_17 : List.getD tX0_solves 17 x_bad = x_getR 0 8 := rfl
theorem kX0_solves_20 : List.getD tX0_solves 20 x_bad = x_iload 2 1 := rfl
theorem kX0_solves_21 : List.getD tX0_solves 21 x_bad = x_iald := rfl
theorem kX0_solves_22 : List.getD tX0_solves 22 x_bad = x_callV3 0 mX0_parts := rfl
theorem kX0_solves_25 : List.getD tX0_solves 25 x_bad = x_goto 45 := rfl
theorem kX0_solves_28 : List.getD tX0_solves 28 x_bad = x_aload 0 1 := rfl
theorem kX0_solves_29 : List.getD tX0_solves 29 x_bad = x_iload 1 1 := rfl
theorem kX0_solves_30 : List.getD tX0_solves 30 x_bad = x_aload 0 1 := rfl
theorem kX0_solves_31 : List.getD tX0_solves 31 x_bad = x_getR 0 7 := rfl
theorem kX0_solves_34 : List.getD tX0_solves 34 x_bad = x_iload 2 1 := rfl
theorem kX0_solves_35 : List.getD tX0_solves 35 x_bad = x_iald := rfl
theorem kX0_solves_36 : List.getD tX0_solves 36 x_bad = x_aload 0 1 := rfl
theorem kX0_solves_37 : List.getD tX0_solves 37 x_bad = x_getR 0 8 := rfl
theorem kX0_solves_40 : List.getD tX0_solves 40 x_bad = x_iload 2 1 := rfl
theorem kX0_solves_41 : List.getD tX0_solves 41 x_bad = x_iald := rfl
theorem kX0_solves_42 : List.getD tX0_solves 42 x_bad = x_callV3 0 mX0_prevents := rfl
theorem kX0_solves_45 : List.getD tX0_solves 45 x_bad = x_zret := rfl
def tX0_unsolvedIndex : List PT := [x_push (.int (nI 0)) 1, x_istore 2 1, x_push (.int (nI 0)) 1, x_istore 3 1, x_iload 3 1, x_aload 0 1, x_getI 0 10, x_bad, x_bad, x_icmp (fun a b => b ≤ a) 39, x_bad, x_bad, x_aload 0 1, x_getR 0 11, x_bad, x_bad, x_iload 3 1, x_callV1 1 mX1_has, x_bad, x_bad, x_ifn (fun a => a = 0) 33, x_bad, x_bad, x_iload 2 1, x_iload 1 1, x_icmpn (fun a b => a = b) 30, x_bad, x_bad, x_iload 3 1, x_iret, x_iinc 2 (nI 1), x_bad, x_bad, x_iinc 3 (nI 1), x_bad, x_bad, x_goto 4, x_bad, x_bad, x_push (.int (-1)) 1, x_iret]
set_option maxRecDepth 20000 in
theorem okX0_unsolvedIndex : SndT RX0 cX0_unsolvedIndex mX0_unsolvedIndex.2.2.1 mX0_unsolvedIndex.2.2.2.2.1 mX0_unsolvedIndex.2.2.2.2.2 false mX0_unsolvedIndex.2.2.2.1 0 tX0_unsolvedIndex := ⟨s_iconst (n := 0) (by decide +kernel) (by decide +kernel), s_istore_n (k := 2) (i := 2) (by decide +kernel) rfl (by decide), s_iconst (n := 0) (by decide +kernel) (by decide +kernel), s_istore_n (k := 3) (i := 3) (by decide +kernel) rfl (by decide), s_iload_n (k := 3) (i := 3) (by decide +kernel) rfl, s_aload_n (k := 0) (i := 0) (by decide +kernel) rfl, s_getI (by decide +kernel) fl_RX0_47 rfl, s_bad, s_bad, s_icmp_ge (off := 30) (by decide +kernel) (by decide), s_bad, s_bad, s_aload_n (k := 0) (i := 0) (by decide +kernel) rfl, s_getR (by decide +kernel) fl_RX0_53 rfl, s_bad, s_bad, s_iload_n (k := 3) (i := 3) (by decide +kernel) rfl, s_callV1 (by decide +kernel) lv_RX0_116 ⟨by decide, by decide⟩, s_bad, s_bad, s_if_ne (off := 13) (by decide +kernel) (by decide), s_bad, s_bad, s_iload_n (k := 2) (i := 2) (by decide +kernel) rfl, s_iload_n (k := 1) (i := 1) (by decide +kernel) rfl, s_icmp_ne (off := 5) (by decide +kernel) (by decide), s_bad, s_bad, s_iload_n (k := 3) (i := 3) (by decide +kernel) rfl, s_iret (by decide +kernel) rfl, s_iinc (n := 1) (by decide +kernel) (by decide +kernel) (by decide), s_bad, s_bad, s_iinc (n := 1) (by decide +kernel) (by decide +kernel) (by decide), s_bad, s_bad, s_goto (off := (-32)) (by decide +kernel) (by decide), s_bad, s_bad, s_iconst (n := (-1)) (by decide +kernel) (by decide +kernel), s_iret (by decide +kernel) rfl, trivial⟩
theorem kX0_unsolvedIndex_0 : List.getD tX0_unsolvedIndex 0 x_bad = x_push (.int (nI 0)) 1 := rfl
theorem kX0_unsolvedIndex_1 : List.getD tX0_unsolvedIndex 1 x_bad = x_istore 2 1 := rfl
theorem kX0_unsolvedIndex_2 : List.getD tX0_unsolvedIndex 2 x_bad = x_push (.int (nI 0)) 1 := rfl
theorem kX0_unsolvedIndex_3 : List.getD tX0_unsolvedIndex 3 x_bad = x_istore 3 1 := rfl
theorem kX0_unsolvedIndex_4 : List.getD tX0_unsolvedIndex 4 x_bad = x_iload 3 1 := rfl
theorem kX0_unsolvedIndex_5 : List.getD tX0_unsolvedIndex 5 x_bad = x_aload 0 1 := rfl
theorem kX0_unsolvedIndex_6 : List.getD tX0_unsolvedIndex 6 x_bad = x_getI 0 10 := rfl
theorem kX0_unsolvedIndex_9 : List.getD tX0_unsolvedIndex 9 x_bad = x_icmp (fun a b => b ≤ a) 39 := rfl
theorem kX0_unsolvedIndex_12 : List.getD tX0_unsolvedIndex 12 x_bad = x_aload 0 1 := rfl
theorem kX0_unsolvedIndex_13 : List.getD tX0_unsolvedIndex 13 x_bad = x_getR 0 11 := rfl
theorem kX0_unsolvedIndex_16 : List.getD tX0_unsolvedIndex 16 x_bad = x_iload 3 1 := rfl
theorem kX0_unsolvedIndex_17 : List.getD tX0_unsolvedIndex 17 x_bad = x_callV1 1 mX1_has := rfl
theorem kX0_unsolvedIndex_20 : List.getD tX0_unsolvedIndex 20 x_bad = x_ifn (fun a => a = 0) 33 := rfl
theorem kX0_unsolvedIndex_23 : List.getD tX0_unsolvedIndex 23 x_bad = x_iload 2 1 := rfl
theorem kX0_unsolvedIndex_24 : List.getD tX0_unsolvedIndex 24 x_bad = x_iload 1 1 := rfl
theorem kX0_unsolvedIndex_25 : List.getD tX0_unsolvedIndex 25 x_bad = x_icmpn (fun a b => a = b) 30 := rfl
theorem kX0_unsolvedIndex_28 : List.getD tX0_unsolvedIndex 28 x_bad = x_iload 3 1 := rfl
theorem kX0_unsolvedIndex_29 : List.getD tX0_unsolvedIndex 29 x_bad = x_iret := rfl
theorem kX0_unsolvedIndex_30 : List.getD tX0_unsolvedIndex 30 x_bad = x_iinc 2 (nI 1) := rfl
theorem kX0_unsolvedIndex_33 : List.getD tX0_unsolvedIndex 33 x_bad = x_iinc 3 (nI 1) := rfl
theorem kX0_unsolvedIndex_36 : List.getD tX0_unsolvedIndex 36 x_bad = x_goto 4 := rfl
theorem kX0_unsolvedIndex_39 : List.getD tX0_unsolvedIndex 39 x_bad = x_push (.int (-1)) 1 := rfl
theorem kX0_unsolvedIndex_40 : List.getD tX0_unsolvedIndex 40 x_bad = x_iret := rfl
def tX5_canOccur : List PT := [x_aload 0 1, x_getI 5 7, x_bad, x_bad, x_iload 1 1, x_ii (fun a b => a >>> (b &&& 31)), x_push (.int (nI 1)) 1, x_ii (fun a b => a &&& b), x_if (fun a => a = 0) 41, x_bad, x_bad, x_aload 2 1, x_aload 0 1, x_getR 5 3, x_bad, x_bad, x_iload 1 1, x_aald, x_callV1 1 mX1_holds, x_bad, x_bad, x_if (fun a => a = 0) 41, x_bad, x_bad, x_aload 2 1, x_aload 0 1, x_getR 5 4, x_bad, x_bad, x_iload 1 1, x_aald, x_callV1 1 mX1_meets, x_bad, x_bad, x_ifn (fun a => a = 0) 41, x_bad, x_bad, x_push (.int (nI 1)) 1, x_goto 42, x_bad, x_bad, x_push (.int (nI 0)) 1, x_zret]
set_option maxRecDepth 20000 in
theorem okX5_canOccur : SndT RX5 cX5_canOccur mX5_canOccur.2.2.1 mX5_canOccur.2.2.2.2.1 mX5_canOccur.2.2.2.2.2 false mX5_canOccur.2.2.2.1 0 tX5_canOccur := ⟨s_aload_n (k := 0) (i := 0) (by decide +kernel) rfl, s_getI (by decide +kernel) fl_RX5_39 rfl, s_bad, s_bad, s_iload_n (k := 1) (i := 1) (by decide +kernel) rfl, s_ishr (by decide +kernel), s_iconst (n := 1) (by decide +kernel) (by decide +kernel), s_iand (by decide +kernel), s_if_eq (off := 33) (by decide +kernel) (by decide), s_bad, s_bad, s_aload_n (k := 2) (i := 2) (by decide +kernel) rfl, s_aload_n (k := 0) (i := 0) (by decide +kernel) rfl, s_getR (by decide +kernel) fl_RX5_25 rfl, s_bad, s_bad, s_iload_n (k := 1) (i := 1) (by decide +kernel) rfl, s_aald (by decide +kernel), s_callV1 (by decide +kernel) lv_RX5_108 ⟨by decide, by decide⟩, s_bad, s_bad, s_if_eq (off := 20) (by decide +kernel) (by decide), s_bad, s_bad, s_aload_n (k := 2) (i := 2) (by decide +kernel) rfl, s_aload_n (k := 0) (i := 0) (by decide +kernel) rfl, s_getR (by decide +kernel) fl_RX5_28 rfl, s_bad, s_bad, s_iload_n (k := 1) (i := 1) (by decide +kernel) rfl, s_aald (by decide +kernel), s_callV1 (by decide +kernel) lv_RX5_112 ⟨by decide, by decide⟩, s_bad, s_bad, s_if_ne (off := 7) (by decide +kernel) (by decide), s_bad, s_bad, s_iconst (n := 1) (by decide +kernel) (by decide +kernel), s_goto (off := 4) (by decide +kernel) (by decide), s_bad, s_bad, s_iconst (n := 0) (by decide +kernel) (by decide +kernel), s_zret (by decide +kernel) rfl, trivial⟩
theorem kX5_canOccur_0 : List.getD tX5_canOccur 0 x_bad = x_aload 0 1 := rfl
theorem kX5_canOccur_1 : List.getD tX5_canOccur 1 x_bad = x_getI 5 7 := rfl
theorem kX5_canOccur_4 : List.getD tX5_canOccur 4 x_bad = x_iload 1 1 := rfl
theorem kX5_canOccur_5 : List.getD tX5_canOccur 5 x_bad = x_ii (fun a b => a >>> (b &&& 31)) := rfl
theorem kX5_canOccur_6 : List.getD tX5_canOccur 6 x_bad = x_push (.int (nI 1)) 1 := rfl
theorem kX5_canOccur_7 : List.getD tX5_canOccur 7 x_bad = x_ii (fun a b => a &&& b) := rfl
theorem kX5_canOccur_8 : List.getD tX5_canOccur 8 x_bad = x_if (fun a => a = 0) 41 := rfl
theorem kX5_canOccur_11 : List.getD tX5_canOccur 11 x_bad = x_aload 2 1 := rfl
theorem kX5_canOccur_12 : List.getD tX5_canOccur 12 x_bad = x_aload 0 1 := rfl
theorem kX5_canOccur_13 : List.getD tX5_canOccur 13 x_bad = x_getR 5 3 := rfl
theorem kX5_canOccur_16 : List.getD tX5_canOccur 16 x_bad = x_iload 1 1 := rfl
theorem kX5_canOccur_17 : List.getD tX5_canOccur 17 x_bad = x_aald := rfl
theorem kX5_canOccur_18 : List.getD tX5_canOccur 18 x_bad = x_callV1 1 mX1_holds := rfl
theorem kX5_canOccur_21 : List.getD tX5_canOccur 21 x_bad = x_if (fun a => a = 0) 41 := rfl
theorem kX5_canOccur_24 : List.getD tX5_canOccur 24 x_bad = x_aload 2 1 := rfl
theorem kX5_canOccur_25 : List.getD tX5_canOccur 25 x_bad = x_aload 0 1 := rfl
theorem kX5_canOccur_26 : List.getD tX5_canOccur 26 x_bad = x_getR 5 4 := rfl
theorem kX5_canOccur_29 : List.getD tX5_canOccur 29 x_bad = x_iload 1 1 := rfl
theorem kX5_canOccur_30 : List.getD tX5_canOccur 30 x_bad = x_aald := rfl
theorem kX5_canOccur_31 : List.getD tX5_canOccur 31 x_bad = x_callV1 1 mX1_meets := rfl
theorem kX5_canOccur_34 : List.getD tX5_canOccur 34 x_bad = x_ifn (fun a => a = 0) 41 := rfl
theorem kX5_canOccur_37 : List.getD tX5_canOccur 37 x_bad = x_push (.int (nI 1)) 1 := rfl
theorem kX5_canOccur_38 : List.getD tX5_canOccur 38 x_bad = x_goto 42 := rfl
theorem kX5_canOccur_41 : List.getD tX5_canOccur 41 x_bad = x_push (.int (nI 0)) 1 := rfl
theorem kX5_canOccur_42 : List.getD tX5_canOccur 42 x_bad = x_zret := rfl
def tX5_connect : List PT := [x_aload 0 1, x_getR 5 5, x_bad, x_bad, x_callV0 1 mX1_clear, x_bad, x_bad, x_push (.int (nI 0)) 1, x_istore 2 1, x_iload 2 1, x_push (.int (nI 8)) 2, x_bad, x_icmp (fun a b => b ≤ a) 39, x_bad, x_bad, x_aload 0 1, x_getR 5 3, x_bad, x_bad, x_iload 2 1, x_aald, x_callV0 1 mX1_clear, x_bad, x_bad, x_aload 0 1, x_getR 5 4, x_bad, x_bad, x_iload 2 1, x_aald, x_callV0 1 mX1_clear, x_bad, x_bad, x_iinc 2 (nI 1), x_bad, x_bad, x_goto 9, x_bad, x_bad, x_push (.int (nI 0)) 1, x_istore 2 1, x_iload 2 1, x_aload 0 1, x_getI 5 1, x_bad, x_bad, x_icmp (fun a b => b ≤ a) 147, x_bad, x_bad, x_aload 0 1, x_getR 5 0, x_bad, x_bad, x_iload 2 1, x_iald, x_istore 3 1, x_aload 1 1, x_getR 0 3, x_bad, x_bad, x_iload 3 1, x_iald, x_push (.int (nI 1)) 1, x_ii (fun a b => a &&& b), x_if (fun a => a = 0) 75, x_bad, x_bad, x_aload 0 1, x_getR 5 5, x_bad, x_bad, x_iload 2 1, x_callV1 1 mX1_put, x_bad, x_bad, x_push (.int (nI 0)) 1, x_istore 4 2, x_bad, x_iload 4 2, x_bad, x_push (.int (nI 8)) 2, x_bad, x_icmp (fun a b => b ≤ a) 141, x_bad, x_bad, x_aload 1 1, x_getR 0 5, x_bad, x_bad, x_iload 3 1, x_iald, x_iload 4 2, x_bad, x_ii (fun a b => a >>> (b &&& 31)), x_push (.int (nI 1)) 1, x_ii (fun a b => a &&& b), x_if (fun a => a = 0) 110, x_bad, x_bad, x_aload 0 1, x_getR 5 3, x_bad, x_bad, x_iload 4 2, x_bad, x_aald, x_iload 2 1, x_callV1 1 mX1_put, x_bad, x_bad, x_aload 1 1, x_getR 0 4, x_bad, x_bad, x_iload 3 1, x_iald, x_iload 4 2, x_bad, x_ii (fun a b => a >>> (b &&& 31)), x_push (.int (nI 1)) 1, x_ii (fun a b => a &&& b), x_if (fun a => a = 0) 135, x_bad, x_bad, x_aload 0 1, x_getR 5 4, x_bad, x_bad, x_iload 4 2, x_bad, x_aald, x_iload 2 1, x_callV1 1 mX1_put, x_bad, x_bad, x_iinc 4 (nI 1), x_bad, x_bad, x_goto 78, x_bad, x_bad, x_iinc 2 (nI 1), x_bad, x_bad, x_goto 41, x_bad, x_bad, x_vret]
set_option maxRecDepth 20000 in
theorem okX5_connect : SndT RX5 cX5_connect mX5_connect.2.2.1 mX5_connect.2.2.2.2.1 mX5_connect.2.2.2.2.2 false mX5_connect.2.2.2.1 0 tX5_connect := ⟨s_aload_n (k := 0) (i := 0) (by decide +kernel) rfl, s_getR (by decide +kernel) fl_RX5_32 rfl, s_bad, s_bad, s_callV0 (by decide +kernel) lv_RX5_60 ⟨by decide, by decide⟩, s_bad, s_bad, s_iconst (n := 0) (by decide +kernel) (by decide +kernel), s_istore_n (k := 2) (i := 2) (by decide +kernel) rfl (by decide), s_iload_n (k := 2) (i := 2) (by decide +kernel) rfl, s_bipush (n := 8) (by decide +kernel) (by decide +kernel), s_bad, s_icmp_ge (off := 27) (by decide +kernel) (by decide), s_bad, s_bad, s_aload_n (k := 0) (i := 0) (by decide +kernel) rfl, s_getR (by decide +kernel) fl_RX5_25 rfl, s_bad, s_bad, s_iload_n (k := 2) (i := 2) (by decide +kernel) rfl, s_aald (by decide +kernel), s_callV0 (by decide +kernel) lv_RX5_60 ⟨by decide, by decide⟩, s_bad, s_bad, s_aload_n (k := 0) (i := 0) (by decide +kernel) rfl, s_getR (by decide +kernel) fl_RX5_28 rfl, s_bad, s_bad, s_iload_n (k := 2) (i := 2) (by decide +kernel) rfl, s_aald (by decide +kernel), s_callV0 (by decide +kernel) lv_RX5_60 ⟨by decide, by decide⟩, s_bad, s_bad, s_iinc (n := 1) (by decide +kernel) (by decide +kernel) (by decide), s_bad, s_bad, s_goto (off := (-27)) (by decide +kernel) (by decide), s_bad, s_bad, s_iconst (n := 0) (by decide +kernel) (by decide +kernel), s_istore_n (k := 2) (i := 2) (by decide +kernel) rfl (by decide), s_iload_n (k := 2) (i := 2) (by decide +kernel) rfl, s_aload_n (k := 0) (i := 0) (by decide +kernel) rfl, s_getI (by decide +kernel) fl_RX5_15 rfl, s_bad, s_bad, s_icmp_ge (off := 101) (by decide +kernel) (by decide), s_bad, s_bad, s_aload_n (k := 0) (i := 0) (by decide +kernel) rfl, s_getR (by decide +kernel) fl_RX5_9 rfl, s_bad, s_bad, s_iload_n (k := 2) (i := 2) (by decide +kernel) rfl, s_iald (by decide +kernel), s_istore_n (k := 3) (i := 3) (by decide +kernel) rfl (by decide), s_aload_n (k := 1) (i := 1) (by decide +kernel) rfl, s_getR (by decide +kernel) fl_RX5_99 rfl, s_bad, s_bad, s_iload_n (k := 3) (i := 3) (by decide +kernel) rfl, s_iald (by decide +kernel), s_iconst (n := 1) (by decide +kernel) (by decide +kernel), s_iand (by decide +kernel), s_if_eq (off := 11) (by decide +kernel) (by decide), s_bad, s_bad, s_aload_n (k := 0) (i := 0) (by decide +kernel) rfl, s_getR (by decide +kernel) fl_RX5_32 rfl, s_bad, s_bad, s_iload_n (k := 2) (i := 2) (by decide +kernel) rfl, s_callV1 (by decide +kernel) lv_RX5_70 ⟨by decide, by decide⟩, s_bad, s_bad, s_iconst (n := 0) (by decide +kernel) (by decide +kernel), s_istore (by decide +kernel) (by decide), s_bad, s_iload (by decide +kernel), s_bad, s_bipush (n := 8) (by decide +kernel) (by decide +kernel), s_bad, s_icmp_ge (off := 59) (by decide +kernel) (by decide), s_bad, s_bad, s_aload_n (k := 1) (i := 1) (by decide +kernel) rfl, s_getR (by decide +kernel) fl_RX5_102 rfl, s_bad, s_bad, s_iload_n (k := 3) (i := 3) (by decide +kernel) rfl, s_iald (by decide +kernel), s_iload (by decide +kernel), s_bad, s_ishr (by decide +kernel), s_iconst (n := 1) (by decide +kernel) (by decide +kernel), s_iand (by decide +kernel), s_if_eq (off := 14) (by decide +kernel) (by decide), s_bad, s_bad, s_aload_n (k := 0) (i := 0) (by decide +kernel) rfl, s_getR (by decide +kernel) fl_RX5_25 rfl, s_bad, s_bad, s_iload (by decide +kernel), s_bad, s_aald (by decide +kernel), s_iload_n (k := 2) (i := 2) (by decide +kernel) rfl, s_callV1 (by decide +kernel) lv_RX5_70 ⟨by decide, by decide⟩, s_bad, s_bad, s_aload_n (k := 1) (i := 1) (by decide +kernel) rfl, s_getR (by decide +kernel) fl_RX5_105 rfl, s_bad, s_bad, s_iload_n (k := 3) (i := 3) (by decide +kernel) rfl, s_iald (by decide +kernel), s_iload (by decide +kernel), s_bad, s_ishr (by decide +kernel), s_iconst (n := 1) (by decide +kernel) (by decide +kernel), s_iand (by decide +kernel), s_if_eq (off := 14) (by decide +kernel) (by decide), s_bad, s_bad, s_aload_n (k := 0) (i := 0) (by decide +kernel) rfl, s_getR (by decide +kernel) fl_RX5_28 rfl, s_bad, s_bad, s_iload (by decide +kernel), s_bad, s_aald (by decide +kernel), s_iload_n (k := 2) (i := 2) (by decide +kernel) rfl, s_callV1 (by decide +kernel) lv_RX5_70 ⟨by decide, by decide⟩, s_bad, s_bad, s_iinc (n := 1) (by decide +kernel) (by decide +kernel) (by decide), s_bad, s_bad, s_goto (off := (-60)) (by decide +kernel) (by decide), s_bad, s_bad, s_iinc (n := 1) (by decide +kernel) (by decide +kernel) (by decide), s_bad, s_bad, s_goto (off := (-103)) (by decide +kernel) (by decide), s_bad, s_bad, s_vret (by decide +kernel) rfl, trivial⟩
theorem kX5_connect_0 : List.getD tX5_connect 0 x_bad = x_aload 0 1 := rfl
theorem kX5_connect_1 : List.getD tX5_connect 1 x_bad = x_getR 5 5 := rfl
theorem kX5_connect_4 : List.getD tX5_connect 4 x_bad = x_callV0 1 mX1_clear := rfl
theorem kX5_connect_7 : List.getD tX5_connect 7 x_bad = x_push (.int (nI 0)) 1 := rfl
theorem kX5_connect_8 : List.getD tX5_connect 8 x_bad = x_istore 2 1 := rfl
theorem kX5_connect_9 : List.getD tX5_connect 9 x_bad = x_iload 2 1 := rfl
theorem kX5_connect_10 : List.getD tX5_connect 10 x_bad = x_push (.int (nI 8)) 2 := rfl
theorem kX5_connect_12 : List.getD tX5_connect 12 x_bad = x_icmp (fun a b => b ≤ a) 39 := rfl
theorem kX5_connect_15 : List.getD tX5_connect 15 x_bad = x_aload 0 1 := rfl
theorem kX5_connect_16 : List.getD tX5_connect 16 x_bad = x_getR 5 3 := rfl
theorem kX5_connect_19 : List.getD tX5_connect 19 x_bad = x_iload 2 1 := rfl
theorem kX5_connect_20 : List.getD tX5_connect 20 x_bad = x_aald := rfl
theorem kX5_connect_21 : List.getD tX5_connect 21 x_bad = x_callV0 1 mX1_clear := rfl
theorem kX5_connect_24 : List.getD tX5_connect 24 x_bad = x_aload 0 1 := rfl
theorem kX5_connect_25 : List.getD tX5_connect 25 x_bad = x_getR 5 4 := rfl
theorem kX5_connect_28 : List.getD tX5_connect 28 x_bad = x_iload 2 1 := rfl
theorem kX5_connect_29 : List.getD tX5_connect 29 x_bad = x_aald := rfl
theorem kX5_connect_30 : List.getD tX5_connect 30 x_bad = x_callV0 1 mX1_clear := rfl
theorem kX5_connect_33 : List.getD tX5_connect 33 x_bad = x_iinc 2 (nI 1) := rfl
theorem kX5_connect_36 : List.getD tX5_connect 36 x_bad = x_goto 9 := rfl
theorem kX5_connect_39 : List.getD tX5_connect 39 x_bad = x_push (.int (nI 0)) 1 := rfl
theorem kX5_connect_40 : List.getD tX5_connect 40 x_bad = x_istore 2 1 := rfl
theorem kX5_connect_41 : List.getD tX5_connect 41 x_bad = x_iload 2 1 := rfl
theorem kX5_connect_42 : List.getD tX5_connect 42 x_bad = x_aload 0 1 := rfl
theorem kX5_connect_43 : List.getD tX5_connect 43 x_bad = x_getI 5 1 := rfl
theorem kX5_connect_46 : List.getD tX5_connect 46 x_bad = x_icmp (fun a b => b ≤ a) 147 := rfl
theorem kX5_connect_49 : List.getD tX5_connect 49 x_bad = x_aload 0 1 := rfl
theorem kX5_connect_50 : List.getD tX5_connect 50 x_bad = x_getR 5 0 := rfl
theorem kX5_connect_53 : List.getD tX5_connect 53 x_bad = x_iload 2 1 := rfl
theorem kX5_connect_54 : List.getD tX5_connect 54 x_bad = x_iald := rfl
theorem kX5_connect_55 : List.getD tX5_connect 55 x_bad = x_istore 3 1 := rfl
theorem kX5_connect_56 : List.getD tX5_connect 56 x_bad = x_aload 1 1 := rfl
theorem kX5_connect_57 : List.getD tX5_connect 57 x_bad = x_getR 0 3 := rfl
theorem kX5_connect_60 : List.getD tX5_connect 60 x_bad = x_iload 3 1 := rfl
theorem kX5_connect_61 : List.getD tX5_connect 61 x_bad = x_iald := rfl
theorem kX5_connect_62 : List.getD tX5_connect 62 x_bad = x_push (.int (nI 1)) 1 := rfl
theorem kX5_connect_63 : List.getD tX5_connect 63 x_bad = x_ii (fun a b => a &&& b) := rfl
theorem kX5_connect_64 : List.getD tX5_connect 64 x_bad = x_if (fun a => a = 0) 75 := rfl
theorem kX5_connect_67 : List.getD tX5_connect 67 x_bad = x_aload 0 1 := rfl
theorem kX5_connect_68 : List.getD tX5_connect 68 x_bad = x_getR 5 5 := rfl
theorem kX5_connect_71 : List.getD tX5_connect 71 x_bad = x_iload 2 1 := rfl
theorem kX5_connect_72 : List.getD tX5_connect 72 x_bad = x_callV1 1 mX1_put := rfl
theorem kX5_connect_75 : List.getD tX5_connect 75 x_bad = x_push (.int (nI 0)) 1 := rfl
theorem kX5_connect_76 : List.getD tX5_connect 76 x_bad = x_istore 4 2 := rfl
theorem kX5_connect_78 : List.getD tX5_connect 78 x_bad = x_iload 4 2 := rfl
theorem kX5_connect_80 : List.getD tX5_connect 80 x_bad = x_push (.int (nI 8)) 2 := rfl
theorem kX5_connect_82 : List.getD tX5_connect 82 x_bad = x_icmp (fun a b => b ≤ a) 141 := rfl
theorem kX5_connect_85 : List.getD tX5_connect 85 x_bad = x_aload 1 1 := rfl
theorem kX5_connect_86 : List.getD tX5_connect 86 x_bad = x_getR 0 5 := rfl
theorem kX5_connect_89 : List.getD tX5_connect 89 x_bad = x_iload 3 1 := rfl
theorem kX5_connect_90 : List.getD tX5_connect 90 x_bad = x_iald := rfl
theorem kX5_connect_91 : List.getD tX5_connect 91 x_bad = x_iload 4 2 := rfl
theorem kX5_connect_93 : List.getD tX5_connect 93 x_bad = x_ii (fun a b => a >>> (b &&& 31)) := rfl
theorem kX5_connect_94 : List.getD tX5_connect 94 x_bad = x_push (.int (nI 1)) 1 := rfl
theorem kX5_connect_95 : List.getD tX5_connect 95 x_bad = x_ii (fun a b => a &&& b) := rfl
theorem kX5_connect_96 : List.getD tX5_connect 96 x_bad = x_if (fun a => a = 0) 110 := rfl
theorem kX5_connect_99 : List.getD tX5_connect 99 x_bad = x_aload 0 1 := rfl
theorem kX5_connect_100 : List.getD tX5_connect 100 x_bad = x_getR 5 3 := rfl
theorem kX5_connect_103 : List.getD tX5_connect 103 x_bad = x_iload 4 2 := rfl
theorem kX5_connect_105 : List.getD tX5_connect 105 x_bad = x_aald := rfl
theorem kX5_connect_106 : List.getD tX5_connect 106 x_bad = x_iload 2 1 := rfl
theorem kX5_connect_107 : List.getD tX5_connect 107 x_bad = x_callV1 1 mX1_put := rfl
theorem kX5_connect_110 : List.getD tX5_connect 110 x_bad = x_aload 1 1 := rfl
theorem kX5_connect_111 : List.getD tX5_connect 111 x_bad = x_getR 0 4 := rfl
theorem kX5_connect_114 : List.getD tX5_connect 114 x_bad = x_iload 3 1 := rfl
theorem kX5_connect_115 : List.getD tX5_connect 115 x_bad = x_iald := rfl
theorem kX5_connect_116 : List.getD tX5_connect 116 x_bad = x_iload 4 2 := rfl
theorem kX5_connect_118 : List.getD tX5_connect 118 x_bad = x_ii (fun a b => a >>> (b &&& 31)) := rfl
theorem kX5_connect_119 : List.getD tX5_connect 119 x_bad = x_push (.int (nI 1)) 1 := rfl
theorem kX5_connect_120 : List.getD tX5_connect 120 x_bad = x_ii (fun a b => a &&& b) := rfl
theorem kX5_connect_121 : List.getD tX5_connect 121 x_bad = x_if (fun a => a = 0) 135 := rfl
theorem kX5_connect_124 : List.getD tX5_connect 124 x_bad = x_aload 0 1 := rfl
theorem kX5_connect_125 : List.getD tX5_connect 125 x_bad = x_getR 5 4 := rfl
theorem kX5_connect_128 : List.getD tX5_connect 128 x_bad = x_iload 4 2 := rfl
theorem kX5_connect_130 : List.getD tX5_connect 130 x_bad = x_aald := rfl
theorem kX5_connect_131 : List.getD tX5_connect 131 x_bad = x_iload 2 1 := rfl
theorem kX5_connect_132 : List.getD tX5_connect 132 x_bad = x_callV1 1 mX1_put := rfl
theorem kX5_connect_135 : List.getD tX5_connect 135 x_bad = x_iinc 4 (nI 1) := rfl
theorem kX5_connect_138 : List.getD tX5_connect 138 x_bad = x_goto 78 := rfl
theorem kX5_connect_141 : List.getD tX5_connect 141 x_bad = x_iinc 2 (nI 1) := rfl
theorem kX5_connect_144 : List.getD tX5_connect 144 x_bad = x_goto 41 := rfl
theorem kX5_connect_147 : List.getD tX5_connect 147 x_bad = x_vret := rfl
def tX5_occur : List PT := [x_aload 2 1, x_aload 0 1, x_getR 5 3, x_bad, x_bad, x_iload 1 1, x_aald, x_callV1 1 mX1_remove, x_bad, x_bad, x_aload 2 1, x_aload 0 1, x_getR 5 4, x_bad, x_bad, x_iload 1 1, x_aald, x_callV1 1 mX1_join, x_bad, x_bad, x_vret]
set_option maxRecDepth 20000 in
theorem okX5_occur : SndT RX5 cX5_occur mX5_occur.2.2.1 mX5_occur.2.2.2.2.1 mX5_occur.2.2.2.2.2 false mX5_occur.2.2.2.1 0 tX5_occur := ⟨s_aload_n (k := 2) (i := 2) (by decide +kernel) rfl, s_aload_n (k := 0) (i := 0) (by decide +kernel) rfl, s_getR (by decide +kernel) fl_RX5_25 rfl, s_bad, s_bad, s_iload_n (k := 1) (i := 1) (by decide +kernel) rfl, s_aald (by decide +kernel), s_callV1 (by decide +kernel) lv_RX5_85 ⟨by decide, by decide⟩, s_bad, s_bad, s_aload_n (k := 2) (i := 2) (by decide +kernel) rfl, s_aload_n (k := 0) (i := 0) (by decide +kernel) rfl, s_getR (by decide +kernel) fl_RX5_28 rfl, s_bad, s_bad, s_iload_n (k := 1) (i := 1) (by decide +kernel) rfl, s_aald (by decide +kernel), s_callV1 (by decide +kernel) lv_RX5_115 ⟨by decide, by decide⟩, s_bad, s_bad, s_vret (by decide +kernel) rfl, trivial⟩
theorem kX5_occur_0 : List.getD tX5_occur 0 x_bad = x_aload 2 1 := rfl
theorem kX5_occur_1 : List.getD tX5_occur 1 x_bad = x_aload 0 1 := rfl
theorem kX5_occur_2 : List.getD tX5_occur 2 x_bad = x_getR 5 3 := rfl
theorem kX5_occur_5 : List.getD tX5_occur 5 x_bad = x_iload 1 1 := rfl
theorem kX5_occur_6 : List.getD tX5_occur 6 x_bad = x_aald := rfl
theorem kX5_occur_7 : List.getD tX5_occur 7 x_bad = x_callV1 1 mX1_remove := rfl
theorem kX5_occur_10 : List.getD tX5_occur 10 x_bad = x_aload 2 1 := rfl
theorem kX5_occur_11 : List.getD tX5_occur 11 x_bad = x_aload 0 1 := rfl
theorem kX5_occur_12 : List.getD tX5_occur 12 x_bad = x_getR 5 4 := rfl
theorem kX5_occur_15 : List.getD tX5_occur 15 x_bad = x_iload 1 1 := rfl
theorem kX5_occur_16 : List.getD tX5_occur 16 x_bad = x_aald := rfl
theorem kX5_occur_17 : List.getD tX5_occur 17 x_bad = x_callV1 1 mX1_join := rfl
theorem kX5_occur_20 : List.getD tX5_occur 20 x_bad = x_vret := rfl
def tX6_matches : List PT := [x_aload 0 1, x_getI 6 7, x_bad, x_bad, x_if (fun a => a = 0) 9, x_bad, x_bad, x_push (.int (nI 0)) 1, x_zret, x_push (.int (nI 0)) 1, x_istore 2 1, x_iload 2 1, x_aload 0 1, x_getI 6 4, x_bad, x_bad, x_icmp (fun a b => b ≤ a) 32, x_bad, x_bad, x_aload 0 1, x_getR 6 2, x_bad, x_bad, x_iload 2 1, x_push (.int (-1)) 1, x_iast, x_iinc 2 (nI 1), x_bad, x_bad, x_goto 11, x_bad, x_bad, x_aload 0 1, x_getR 6 2, x_bad, x_bad, x_push (.int (nI 0)) 1, x_push (.int (nI 0)) 1, x_iast, x_push (.int (nI 0)) 1, x_istore 2 1, x_iload 2 1, x_aload 0 1, x_getI 6 4, x_bad, x_bad, x_icmp (fun a b => b ≤ a) 153, x_bad, x_bad, x_push (.int (nI 0)) 1, x_istore 3 1, x_iload 3 1, x_push (.int (nI 8)) 2, x_bad, x_icmp (fun a b => b ≤ a) 147, x_bad, x_bad, x_aload 0 1, x_getR 6 1, x_bad, x_bad, x_iload 2 1, x_push (.int (nI 8)) 2, x_bad, x_ii (fun a b => a * b), x_iload 3 1, x_ii (fun a b => a + b), x_iald, x_istore 4 2, x_bad, x_aload 1 1, x_aload 0 1, x_getR 6 2, x_bad, x_bad, x_iload 2 1, x_iald, x_iload 3 1, x_callV2 3 mX3_target, x_bad, x_bad, x_istore 5 2, x_bad, x_iload 4 2, x_bad, x_if (fun a => 0 ≤ a) 96, x_bad, x_bad, x_iload 5 2, x_bad, x_if (fun a => 0 ≤ a) 96, x_bad, x_bad, x_goto 141, x_bad, x_bad, x_iload 4 2, x_bad, x_if (fun a => a < 0) 106, x_bad, x_bad, x_iload 5 2, x_bad, x_if (fun a => 0 ≤ a) 108, x_bad, x_bad, x_push (.int (nI 0)) 1, x_zret, x_aload 0 1, x_getR 6 2, x_bad, x_bad, x_iload 4 2, x_bad, x_iald, x_if (fun a => 0 ≤ a) 127, x_bad, x_bad, x_aload 0 1, x_getR 6 2, x_bad, x_bad, x_iload 4 2, x_bad, x_iload 5 2, x_bad, x_iast, x_aload 0 1, x_getR 6 2, x_bad, x_bad, x_iload 4 2, x_bad, x_iald, x_iload 5 2, x_bad, x_icmp (fun a b => a = b) 141, x_bad, x_bad, x_push (.int (nI 0)) 1, x_zret, x_iinc 3 (nI 1), x_bad, x_bad, x_goto 51, x_bad, x_bad, x_iinc 2 (nI 1), x_bad, x_bad, x_goto 41, x_bad, x_bad, x_push (.int (nI 1)) 1, x_zret]
set_option maxRecDepth 20000 in
theorem okX6_matches : SndT RX6 cX6_matches mX6_matches.2.2.1 mX6_matches.2.2.2.2.1 mX6_matches.2.2.2.2.2 false mX6_matches.2.2.2.1 0 tX6_matches := ⟨s_aload_n (k := 0) (i := 0) (by decide +kernel) rfl, s_getI (by decide +kernel) fl_RX6_39 rfl, s_bad, s_bad, s_if_eq (off := 5) (by decide +kernel) (by decide), s_bad, s_bad, s_iconst (n := 0) (by decide +kernel) (by decide +kernel), s_zret (by decide +kernel) rfl, s_iconst (n := 0) (by decide +kernel) (by decide +kernel), s_istore_n (k := 2) (i := 2) (by decide +kernel) rfl (by decide), s_iload_n (k := 2) (i := 2) (by decide +kernel) rfl, s_aload_n (k := 0) (i := 0) (by decide +kernel) rfl, s_getI (by decide +kernel) fl_RX6_29 rfl, s_bad, s_bad, s_icmp_ge (off := 16) (by decide +kernel) (by decide), s_bad, s_bad, s_aload_n (k := 0) (i := 0) (by decide +kernel) rfl, s_getR (by decide +kernel) fl_RX6_21 rfl, s_bad, s_bad, s_iload_n (k := 2) (i := 2) (by decide +kernel) rfl, s_iconst (n := (-1)) (by decide +kernel) (by decide +kernel), s_iast (by decide +kernel), s_iinc (n := 1) (by decide +kernel) (by decide +kernel) (by decide), s_bad, s_bad, s_goto (off := (-18)) (by decide +kernel) (by decide), s_bad, s_bad, s_aload_n (k := 0) (i := 0) (by decide +kernel) rfl, s_getR (by decide +kernel) fl_RX6_21 rfl, s_bad, s_bad, s_iconst (n := 0) (by decide +kernel) (by decide +kernel), s_iconst (n := 0) (by decide +kernel) (by decide +kernel), s_iast (by decide +kernel), s_iconst (n := 0) (by decide +kernel) (by decide +kernel), s_istore_n (k := 2) (i := 2) (by decide +kernel) rfl (by decide), s_iload_n (k := 2) (i := 2) (by decide +kernel) rfl, s_aload_n (k := 0) (i := 0) (by decide +kernel) rfl, s_getI (by decide +kernel) fl_RX6_29 rfl, s_bad, s_bad, s_icmp_ge (off := 107) (by decide +kernel) (by decide), s_bad, s_bad, s_iconst (n := 0) (by decide +kernel) (by decide +kernel), s_istore_n (k := 3) (i := 3) (by decide +kernel) rfl (by decide), s_iload_n (k := 3) (i := 3) (by decide +kernel) rfl, s_bipush (n := 8) (by decide +kernel) (by decide +kernel), s_bad, s_icmp_ge (off := 93) (by decide +kernel) (by decide), s_bad, s_bad, s_aload_n (k := 0) (i := 0) (by decide +kernel) rfl, s_getR (by decide +kernel) fl_RX6_17 rfl, s_bad, s_bad, s_iload_n (k := 2) (i := 2) (by decide +kernel) rfl, s_bipush (n := 8) (by decide +kernel) (by decide +kernel), s_bad, s_imul (by decide +kernel), s_iload_n (k := 3) (i := 3) (by decide +kernel) rfl, s_iadd (by decide +kernel), s_iald (by decide +kernel), s_istore (by decide +kernel) (by decide), s_bad, s_aload_n (k := 1) (i := 1) (by decide +kernel) rfl, s_aload_n (k := 0) (i := 0) (by decide +kernel) rfl, s_getR (by decide +kernel) fl_RX6_21 rfl, s_bad, s_bad, s_iload_n (k := 2) (i := 2) (by decide +kernel) rfl, s_iald (by decide +kernel), s_iload_n (k := 3) (i := 3) (by decide +kernel) rfl, s_callV2 (by decide +kernel) lv_RX6_68 ⟨by decide, by decide⟩, s_bad, s_bad, s_istore (by decide +kernel) (by decide), s_bad, s_iload (by decide +kernel), s_bad, s_if_ge (off := 11) (by decide +kernel) (by decide), s_bad, s_bad, s_iload (by decide +kernel), s_bad, s_if_ge (off := 6) (by decide +kernel) (by decide), s_bad, s_bad, s_goto (off := 48) (by decide +kernel) (by decide), s_bad, s_bad, s_iload (by decide +kernel), s_bad, s_if_lt (off := 8) (by decide +kernel) (by decide), s_bad, s_bad, s_iload (by decide +kernel), s_bad, s_if_ge (off := 5) (by decide +kernel) (by decide), s_bad, s_bad, s_iconst (n := 0) (by decide +kernel) (by decide +kernel), s_zret (by decide +kernel) rfl, s_aload_n (k := 0) (i := 0) (by decide +kernel) rfl, s_getR (by decide +kernel) fl_RX6_21 rfl, s_bad, s_bad, s_iload (by decide +kernel), s_bad, s_iald (by decide +kernel), s_if_ge (off := 12) (by decide +kernel) (by decide), s_bad, s_bad, s_aload_n (k := 0) (i := 0) (by decide +kernel) rfl, s_getR (by decide +kernel) fl_RX6_21 rfl, s_bad, s_bad, s_iload (by decide +kernel), s_bad, s_iload (by decide +kernel), s_bad, s_iast (by decide +kernel), s_aload_n (k := 0) (i := 0) (by decide +kernel) rfl, s_getR (by decide +kernel) fl_RX6_21 rfl, s_bad, s_bad, s_iload (by decide +kernel), s_bad, s_iald (by decide +kernel), s_iload (by decide +kernel), s_bad, s_icmp_eq (off := 5) (by decide +kernel) (by decide), s_bad, s_bad, s_iconst (n := 0) (by decide +kernel) (by decide +kernel), s_zret (by decide +kernel) rfl, s_iinc (n := 1) (by decide +kernel) (by decide +kernel) (by decide), s_bad, s_bad, s_goto (off := (-93)) (by decide +kernel) (by decide), s_bad, s_bad, s_iinc (n := 1) (by decide +kernel) (by decide +kernel) (by decide), s_bad, s_bad, s_goto (off := (-109)) (by decide +kernel) (by decide), s_bad, s_bad, s_iconst (n := 1) (by decide +kernel) (by decide +kernel), s_zret (by decide +kernel) rfl, trivial⟩
theorem kX6_matches_0 : List.getD tX6_matches 0 x_bad = x_aload 0 1 := rfl
theorem kX6_matches_1 : List.getD tX6_matches 1 x_bad = x_getI 6 7 := rfl
theorem kX6_matches_4 : List.getD tX6_matches 4 x_bad = x_if (fun a => a = 0) 9 := rfl
theorem kX6_matches_7 : List.getD tX6_matches 7 x_bad = x_push (.int (nI 0)) 1 := rfl
theorem kX6_matches_8 : List.getD tX6_matches 8 x_bad = x_zret := rfl
theorem kX6_matches_9 : List.getD tX6_matches 9 x_bad = x_push (.int (nI 0)) 1 := rfl
theorem kX6_matches_10 : List.getD tX6_matches 10 x_bad = x_istore 2 1 := rfl
theorem kX6_matches_11 : List.getD tX6_matches 11 x_bad = x_iload 2 1 := rfl
theorem kX6_matches_12 : List.getD tX6_matches 12 x_bad = x_aload 0 1 := rfl
theorem kX6_matches_13 : List.getD tX6_matches 13 x_bad = x_getI 6 4 := rfl
theorem kX6_matches_16 : List.getD tX6_matches 16 x_bad = x_icmp (fun a b => b ≤ a) 32 := rfl
theorem kX6_matches_19 : List.getD tX6_matches 19 x_bad = x_aload 0 1 := rfl
theorem kX6_matches_20 : List.getD tX6_matches 20 x_bad = x_getR 6 2 := rfl
theorem kX6_matches_23 : List.getD tX6_matches 23 x_bad = x_iload 2 1 := rfl
theorem kX6_matches_24 : List.getD tX6_matches 24 x_bad = x_push (.int (-1)) 1 := rfl
theorem kX6_matches_25 : List.getD tX6_matches 25 x_bad = x_iast := rfl
theorem kX6_matches_26 : List.getD tX6_matches 26 x_bad = x_iinc 2 (nI 1) := rfl
theorem kX6_matches_29 : List.getD tX6_matches 29 x_bad = x_goto 11 := rfl
theorem kX6_matches_32 : List.getD tX6_matches 32 x_bad = x_aload 0 1 := rfl
theorem kX6_matches_33 : List.getD tX6_matches 33 x_bad = x_getR 6 2 := rfl
theorem kX6_matches_36 : List.getD tX6_matches 36 x_bad = x_push (.int (nI 0)) 1 := rfl
theorem kX6_matches_37 : List.getD tX6_matches 37 x_bad = x_push (.int (nI 0)) 1 := rfl
theorem kX6_matches_38 : List.getD tX6_matches 38 x_bad = x_iast := rfl
theorem kX6_matches_39 : List.getD tX6_matches 39 x_bad = x_push (.int (nI 0)) 1 := rfl
theorem kX6_matches_40 : List.getD tX6_matches 40 x_bad = x_istore 2 1 := rfl
theorem kX6_matches_41 : List.getD tX6_matches 41 x_bad = x_iload 2 1 := rfl
theorem kX6_matches_42 : List.getD tX6_matches 42 x_bad = x_aload 0 1 := rfl
theorem kX6_matches_43 : List.getD tX6_matches 43 x_bad = x_getI 6 4 := rfl
theorem kX6_matches_46 : List.getD tX6_matches 46 x_bad = x_icmp (fun a b => b ≤ a) 153 := rfl
theorem kX6_matches_49 : List.getD tX6_matches 49 x_bad = x_push (.int (nI 0)) 1 := rfl
theorem kX6_matches_50 : List.getD tX6_matches 50 x_bad = x_istore 3 1 := rfl
theorem kX6_matches_51 : List.getD tX6_matches 51 x_bad = x_iload 3 1 := rfl
theorem kX6_matches_52 : List.getD tX6_matches 52 x_bad = x_push (.int (nI 8)) 2 := rfl
theorem kX6_matches_54 : List.getD tX6_matches 54 x_bad = x_icmp (fun a b => b ≤ a) 147 := rfl
theorem kX6_matches_57 : List.getD tX6_matches 57 x_bad = x_aload 0 1 := rfl
theorem kX6_matches_58 : List.getD tX6_matches 58 x_bad = x_getR 6 1 := rfl
theorem kX6_matches_61 : List.getD tX6_matches 61 x_bad = x_iload 2 1 := rfl
theorem kX6_matches_62 : List.getD tX6_matches 62 x_bad = x_push (.int (nI 8)) 2 := rfl
theorem kX6_matches_64 : List.getD tX6_matches 64 x_bad = x_ii (fun a b => a * b) := rfl
theorem kX6_matches_65 : List.getD tX6_matches 65 x_bad = x_iload 3 1 := rfl
theorem kX6_matches_66 : List.getD tX6_matches 66 x_bad = x_ii (fun a b => a + b) := rfl
theorem kX6_matches_67 : List.getD tX6_matches 67 x_bad = x_iald := rfl
theorem kX6_matches_68 : List.getD tX6_matches 68 x_bad = x_istore 4 2 := rfl
theorem kX6_matches_70 : List.getD tX6_matches 70 x_bad = x_aload 1 1 := rfl
theorem kX6_matches_71 : List.getD tX6_matches 71 x_bad = x_aload 0 1 := rfl
theorem kX6_matches_72 : List.getD tX6_matches 72 x_bad = x_getR 6 2 := rfl
theorem kX6_matches_75 : List.getD tX6_matches 75 x_bad = x_iload 2 1 := rfl
theorem kX6_matches_76 : List.getD tX6_matches 76 x_bad = x_iald := rfl
theorem kX6_matches_77 : List.getD tX6_matches 77 x_bad = x_iload 3 1 := rfl
theorem kX6_matches_78 : List.getD tX6_matches 78 x_bad = x_callV2 3 mX3_target := rfl
theorem kX6_matches_81 : List.getD tX6_matches 81 x_bad = x_istore 5 2 := rfl
theorem kX6_matches_83 : List.getD tX6_matches 83 x_bad = x_iload 4 2 := rfl
theorem kX6_matches_85 : List.getD tX6_matches 85 x_bad = x_if (fun a => 0 ≤ a) 96 := rfl
theorem kX6_matches_88 : List.getD tX6_matches 88 x_bad = x_iload 5 2 := rfl
theorem kX6_matches_90 : List.getD tX6_matches 90 x_bad = x_if (fun a => 0 ≤ a) 96 := rfl
theorem kX6_matches_93 : List.getD tX6_matches 93 x_bad = x_goto 141 := rfl
theorem kX6_matches_96 : List.getD tX6_matches 96 x_bad = x_iload 4 2 := rfl
theorem kX6_matches_98 : List.getD tX6_matches 98 x_bad = x_if (fun a => a < 0) 106 := rfl
theorem kX6_matches_101 : List.getD tX6_matches 101 x_bad = x_iload 5 2 := rfl
theorem kX6_matches_103 : List.getD tX6_matches 103 x_bad = x_if (fun a => 0 ≤ a) 108 := rfl
theorem kX6_matches_106 : List.getD tX6_matches 106 x_bad = x_push (.int (nI 0)) 1 := rfl
theorem kX6_matches_107 : List.getD tX6_matches 107 x_bad = x_zret := rfl
theorem kX6_matches_108 : List.getD tX6_matches 108 x_bad = x_aload 0 1 := rfl
theorem kX6_matches_109 : List.getD tX6_matches 109 x_bad = x_getR 6 2 := rfl
theorem kX6_matches_112 : List.getD tX6_matches 112 x_bad = x_iload 4 2 := rfl
theorem kX6_matches_114 : List.getD tX6_matches 114 x_bad = x_iald := rfl
theorem kX6_matches_115 : List.getD tX6_matches 115 x_bad = x_if (fun a => 0 ≤ a) 127 := rfl
theorem kX6_matches_118 : List.getD tX6_matches 118 x_bad = x_aload 0 1 := rfl
theorem kX6_matches_119 : List.getD tX6_matches 119 x_bad = x_getR 6 2 := rfl
theorem kX6_matches_122 : List.getD tX6_matches 122 x_bad = x_iload 4 2 := rfl
theorem kX6_matches_124 : List.getD tX6_matches 124 x_bad = x_iload 5 2 := rfl
theorem kX6_matches_126 : List.getD tX6_matches 126 x_bad = x_iast := rfl
theorem kX6_matches_127 : List.getD tX6_matches 127 x_bad = x_aload 0 1 := rfl
theorem kX6_matches_128 : List.getD tX6_matches 128 x_bad = x_getR 6 2 := rfl
theorem kX6_matches_131 : List.getD tX6_matches 131 x_bad = x_iload 4 2 := rfl
theorem kX6_matches_133 : List.getD tX6_matches 133 x_bad = x_iald := rfl
theorem kX6_matches_134 : List.getD tX6_matches 134 x_bad = x_iload 5 2 := rfl
theorem kX6_matches_136 : List.getD tX6_matches 136 x_bad = x_icmp (fun a b => a = b) 141 := rfl
theorem kX6_matches_139 : List.getD tX6_matches 139 x_bad = x_push (.int (nI 0)) 1 := rfl
theorem kX6_matches_140 : List.getD tX6_matches 140 x_bad = x_zret := rfl
theorem kX6_matches_141 : List.getD tX6_matches 141 x_bad = x_iinc 3 (nI 1) := rfl
theorem kX6_matches_144 : List.getD tX6_matches 144 x_bad = x_goto 51 := rfl
theorem kX6_matches_147 : List.getD tX6_matches 147 x_bad = x_iinc 2 (nI 1) := rfl
theorem kX6_matches_150 : List.getD tX6_matches 150 x_bad = x_goto 41 := rfl
theorem kX6_matches_153 : List.getD tX6_matches 153 x_bad = x_push (.int (nI 1)) 1 := rfl
theorem kX6_matches_154 : List.getD tX6_matches 154 x_bad = x_zret := rfl
def tX0_eventToSplit : List PT := [x_aload 1 1, x_callV0 3 mX3_unusedEvent, x_bad, x_bad, x_if (fun a => 0 ≤ a) 9, x_bad, x_bad, x_push (.int (-1)) 1, x_iret, x_aload 0 1, x_getI 0 9, x_bad, x_bad, x_istore 2 1, x_iload 2 1, x_aload 0 1, x_getI 0 10, x_bad, x_bad, x_icmp (fun a b => b ≤ a) 60, x_bad, x_bad, x_aload 0 1, x_getR 0 11, x_bad, x_bad, x_iload 2 1, x_callV1 1 mX1_has, x_bad, x_bad, x_ifn (fun a => a = 0) 54, x_bad, x_bad, x_aload 1 1, x_aload 0 1, x_getR 0 8, x_bad, x_bad, x_iload 2 1, x_iald, x_callV1 3 mX3_arcsWith, x_bad, x_bad, x_push (.int (nI 2)) 1, x_icmp (fun a b => a < b) 54, x_bad, x_bad, x_aload 0 1, x_getR 0 8, x_bad, x_bad, x_iload 2 1, x_iald, x_iret, x_iinc 2 (nI 1), x_bad, x_bad, x_goto 14, x_bad, x_bad, x_push (.int (-1)) 1, x_iret]
set_option maxRecDepth 20000 in
theorem okX0_eventToSplit : SndT RX0 cX0_eventToSplit mX0_eventToSplit.2.2.1 mX0_eventToSplit.2.2.2.2.1 mX0_eventToSplit.2.2.2.2.2 false mX0_eventToSplit.2.2.2.1 0 tX0_eventToSplit := ⟨s_aload_n (k := 1) (i := 1) (by decide +kernel) rfl, s_callV0 (by decide +kernel) lv_RX0_120 ⟨by decide, by decide⟩, s_bad, s_bad, s_if_ge (off := 5) (by decide +kernel) (by decide), s_bad, s_bad, s_iconst (n := (-1)) (by decide +kernel) (by decide +kernel), s_iret (by decide +kernel) rfl, s_aload_n (k := 0) (i := 0) (by decide +kernel) rfl, s_getI (by decide +kernel) fl_RX0_44 rfl, s_bad, s_bad, s_istore_n (k := 2) (i := 2) (by decide +kernel) rfl (by decide), s_iload_n (k := 2) (i := 2) (by decide +kernel) rfl, s_aload_n (k := 0) (i := 0) (by decide +kernel) rfl, s_getI (by decide +kernel) fl_RX0_47 rfl, s_bad, s_bad, s_icmp_ge (off := 41) (by decide +kernel) (by decide), s_bad, s_bad, s_aload_n (k := 0) (i := 0) (by decide +kernel) rfl, s_getR (by decide +kernel) fl_RX0_53 rfl, s_bad, s_bad, s_iload_n (k := 2) (i := 2) (by decide +kernel) rfl, s_callV1 (by decide +kernel) lv_RX0_116 ⟨by decide, by decide⟩, s_bad, s_bad, s_if_ne (off := 24) (by decide +kernel) (by decide), s_bad, s_bad, s_aload_n (k := 1) (i := 1) (by decide +kernel) rfl, s_aload_n (k := 0) (i := 0) (by decide +kernel) rfl, s_getR (by decide +kernel) fl_RX0_41 rfl, s_bad, s_bad, s_iload_n (k := 2) (i := 2) (by decide +kernel) rfl, s_iald (by decide +kernel), s_callV1 (by decide +kernel) lv_RX0_123 ⟨by decide, by decide⟩, s_bad, s_bad, s_iconst (n := 2) (by decide +kernel) (by decide +kernel), s_icmp_lt (off := 10) (by decide +kernel) (by decide), s_bad, s_bad, s_aload_n (k := 0) (i := 0) (by decide +kernel) rfl, s_getR (by decide +kernel) fl_RX0_41 rfl, s_bad, s_bad, s_iload_n (k := 2) (i := 2) (by decide +kernel) rfl, s_iald (by decide +kernel), s_iret (by decide +kernel) rfl, s_iinc (n := 1) (by decide +kernel) (by decide +kernel) (by decide), s_bad, s_bad, s_goto (off := (-43)) (by decide +kernel) (by decide), s_bad, s_bad, s_iconst (n := (-1)) (by decide +kernel) (by decide +kernel), s_iret (by decide +kernel) rfl, trivial⟩
theorem kX0_eventToSplit_0 : List.getD tX0_eventToSplit 0 x_bad = x_aload 1 1 := rfl
theorem kX0_eventToSplit_1 : List.getD tX0_eventToSplit 1 x_bad = x_callV0 3 mX3_unusedEvent := rfl
theorem kX0_eventToSplit_4 : List.getD tX0_eventToSplit 4 x_bad = x_if (fun a => 0 ≤ a) 9 := rfl
theorem kX0_eventToSplit_7 : List.getD tX0_eventToSplit 7 x_bad = x_push (.int (-1)) 1 := rfl
theorem kX0_eventToSplit_8 : List.getD tX0_eventToSplit 8 x_bad = x_iret := rfl
theorem kX0_eventToSplit_9 : List.getD tX0_eventToSplit 9 x_bad = x_aload 0 1 := rfl
theorem kX0_eventToSplit_10 : List.getD tX0_eventToSplit 10 x_bad = x_getI 0 9 := rfl
theorem kX0_eventToSplit_13 : List.getD tX0_eventToSplit 13 x_bad = x_istore 2 1 := rfl
theorem kX0_eventToSplit_14 : List.getD tX0_eventToSplit 14 x_bad = x_iload 2 1 := rfl
theorem kX0_eventToSplit_15 : List.getD tX0_eventToSplit 15 x_bad = x_aload 0 1 := rfl
theorem kX0_eventToSplit_16 : List.getD tX0_eventToSplit 16 x_bad = x_getI 0 10 := rfl
theorem kX0_eventToSplit_19 : List.getD tX0_eventToSplit 19 x_bad = x_icmp (fun a b => b ≤ a) 60 := rfl
theorem kX0_eventToSplit_22 : List.getD tX0_eventToSplit 22 x_bad = x_aload 0 1 := rfl
theorem kX0_eventToSplit_23 : List.getD tX0_eventToSplit 23 x_bad = x_getR 0 11 := rfl
theorem kX0_eventToSplit_26 : List.getD tX0_eventToSplit 26 x_bad = x_iload 2 1 := rfl
theorem kX0_eventToSplit_27 : List.getD tX0_eventToSplit 27 x_bad = x_callV1 1 mX1_has := rfl
theorem kX0_eventToSplit_30 : List.getD tX0_eventToSplit 30 x_bad = x_ifn (fun a => a = 0) 54 := rfl
theorem kX0_eventToSplit_33 : List.getD tX0_eventToSplit 33 x_bad = x_aload 1 1 := rfl
theorem kX0_eventToSplit_34 : List.getD tX0_eventToSplit 34 x_bad = x_aload 0 1 := rfl
theorem kX0_eventToSplit_35 : List.getD tX0_eventToSplit 35 x_bad = x_getR 0 8 := rfl
theorem kX0_eventToSplit_38 : List.getD tX0_eventToSplit 38 x_bad = x_iload 2 1 := rfl
theorem kX0_eventToSplit_39 : List.getD tX0_eventToSplit 39 x_bad = x_iald := rfl
theorem kX0_eventToSplit_40 : List.getD tX0_eventToSplit 40 x_bad = x_callV1 3 mX3_arcsWith := rfl
theorem kX0_eventToSplit_43 : List.getD tX0_eventToSplit 43 x_bad = x_push (.int (nI 2)) 1 := rfl
theorem kX0_eventToSplit_44 : List.getD tX0_eventToSplit 44 x_bad = x_icmp (fun a b => a < b) 54 := rfl
theorem kX0_eventToSplit_47 : List.getD tX0_eventToSplit 47 x_bad = x_aload 0 1 := rfl
theorem kX0_eventToSplit_48 : List.getD tX0_eventToSplit 48 x_bad = x_getR 0 8 := rfl
theorem kX0_eventToSplit_51 : List.getD tX0_eventToSplit 51 x_bad = x_iload 2 1 := rfl
theorem kX0_eventToSplit_52 : List.getD tX0_eventToSplit 52 x_bad = x_iald := rfl
theorem kX0_eventToSplit_53 : List.getD tX0_eventToSplit 53 x_bad = x_iret := rfl
theorem kX0_eventToSplit_54 : List.getD tX0_eventToSplit 54 x_bad = x_iinc 2 (nI 1) := rfl
theorem kX0_eventToSplit_57 : List.getD tX0_eventToSplit 57 x_bad = x_goto 14 := rfl
theorem kX0_eventToSplit_60 : List.getD tX0_eventToSplit 60 x_bad = x_push (.int (-1)) 1 := rfl
theorem kX0_eventToSplit_61 : List.getD tX0_eventToSplit 61 x_bad = x_iret := rfl
def tX0_findRegions : List PT := [x_aload 0 1, x_push (.int (nI 0)) 1, x_putI 0 2, x_bad, x_bad, x_aload 0 1, x_push (.int (nI 0)) 1, x_putI 0 6, x_bad, x_bad, x_aload 1 1, x_callV0 3 mX3_allStates, x_bad, x_bad, x_istore 2 1, x_push (.int (nI 1)) 1, x_istore 3 1, x_iload 3 1, x_iload 2 1, x_icmp (fun a b => b ≤ a) 75, x_bad, x_bad, x_aload 0 1, x_getR 0 0, x_bad, x_bad, x_aload 1 1, x_iload 3 1, x_callV2 2 mX2_measureRegion, x_bad, x_bad, x_if (fun a => a = 0) 69, x_bad, x_bad, x_aload 0 1, x_getI 0 2, x_bad, x_bad, x_push (.int (nI 1022)) 3, x_bad, x_bad, x_icmp (fun a b => b ≤ a) 69, x_bad, x_bad, x_aload 0 1, x_getR 0 1, x_bad, x_bad, x_aload 0 1, x_getI 0 2, x_bad, x_bad, x_iload 3 1, x_iast, x_aload 0 1, x_dup, x_getI 0 2, x_bad, x_bad, x_push (.int (nI 1)) 1, x_ii (fun a b => a + b), x_putI 0 2, x_bad, x_bad, x_aload 0 1, x_iload 3 1, x_callV1 0 mX0_addIfMinimal, x_bad, x_bad, x_iinc 3 (nI 1), x_bad, x_bad, x_goto 17, x_bad, x_bad, x_vret]
set_option maxRecDepth 20000 in
theorem okX0_findRegions : SndT RX0 cX0_findRegions mX0_findRegions.2.2.1 mX0_findRegions.2.2.2.2.1 mX0_findRegions.2.2.2.2.2 false mX0_findRegions.2.2.2.1 0 tX0_findRegions := ⟨s_aload_n (k := 0) (i := 0) (by decide +kernel) rfl, s_iconst (n := 0) (by decide +kernel) (by decide +kernel), s_putI (by decide +kernel) fl_RX0_22 fp_0_2 rfl, s_bad, s_bad, s_aload_n (k := 0) (i := 0) (by decide +kernel) rfl, s_iconst (n := 0) (by decide +kernel) (by decide +kernel), s_putI (by decide +kernel) fl_RX0_35 fp_0_6 rfl, s_bad, s_bad, s_aload_n (k := 1) (i := 1) (by decide +kernel) rfl, s_callV0 (by decide +kernel) lv_RX0_67 ⟨by decide, by decide⟩, s_bad, s_bad, s_istore_n (k := 2) (i := 2) (by decide +kernel) rfl (by decide), s_iconst (n := 1) (by decide +kernel) (by decide +kernel), s_istore_n (k := 3) (i := 3) (by decide +kernel) rfl (by decide), s_iload_n (k := 3) (i := 3) (by decide +kernel) rfl, s_iload_n (k := 2) (i := 2) (by decide +kernel) rfl, s_icmp_ge (off := 56) (by decide +kernel) (by decide), s_bad, s_bad, s_aload_n (k := 0) (i := 0) (by decide +kernel) rfl, s_getR (by decide +kernel) fl_RX0_12 rfl, s_bad, s_bad, s_aload_n (k := 1) (i := 1) (by decide +kernel) rfl, s_iload_n (k := 3) (i := 3) (by decide +kernel) rfl, s_callV2 (by decide +kernel) lv_RX0_73 ⟨by decide, by decide⟩, s_bad, s_bad, s_if_eq (off := 38) (by decide +kernel) (by decide), s_bad, s_bad, s_aload_n (k := 0) (i := 0) (by decide +kernel) rfl, s_getI (by decide +kernel) fl_RX0_22 rfl, s_bad, s_bad, s_sipush (n := 1022) (by decide +kernel) (by decide +kernel), s_bad, s_bad, s_icmp_ge (off := 28) (by decide +kernel) (by decide), s_bad, s_bad, s_aload_n (k := 0) (i := 0) (by decide +kernel) rfl, s_getR (by decide +kernel) fl_RX0_18 rfl, s_bad, s_bad, s_aload_n (k := 0) (i := 0) (by decide +kernel) rfl, s_getI (by decide +kernel) fl_RX0_22 rfl, s_bad, s_bad, s_iload_n (k := 3) (i := 3) (by decide +kernel) rfl, s_iast (by decide +kernel), s_aload_n (k := 0) (i := 0) (by decide +kernel) rfl, s_dup (by decide +kernel), s_getI (by decide +kernel) fl_RX0_22 rfl, s_bad, s_bad, s_iconst (n := 1) (by decide +kernel) (by decide +kernel), s_iadd (by decide +kernel), s_putI (by decide +kernel) fl_RX0_22 fp_0_2 rfl, s_bad, s_bad, s_aload_n (k := 0) (i := 0) (by decide +kernel) rfl, s_iload_n (k := 3) (i := 3) (by decide +kernel) rfl, s_callV1 (by decide +kernel) lv_RX0_77 ⟨by decide, by decide⟩, s_bad, s_bad, s_iinc (n := 1) (by decide +kernel) (by decide +kernel) (by decide), s_bad, s_bad, s_goto (off := (-55)) (by decide +kernel) (by decide), s_bad, s_bad, s_vret (by decide +kernel) rfl, trivial⟩
theorem kX0_findRegions_0 : List.getD tX0_findRegions 0 x_bad = x_aload 0 1 := rfl
theorem kX0_findRegions_1 : List.getD tX0_findRegions 1 x_bad = x_push (.int (nI 0)) 1 := rfl
theorem kX0_findRegions_2 : List.getD tX0_findRegions 2 x_bad = x_putI 0 2 := rfl
theorem kX0_findRegions_5 : List.getD tX0_findRegions 5 x_bad = x_aload 0 1 := rfl
theorem kX0_findRegions_6 : List.getD tX0_findRegions 6 x_bad = x_push (.int (nI 0)) 1 := rfl
theorem kX0_findRegions_7 : List.getD tX0_findRegions 7 x_bad = x_putI 0 6 := rfl
theorem kX0_findRegions_10 : List.getD tX0_findRegions 10 x_bad = x_aload 1 1 := rfl
theorem kX0_findRegions_11 : List.getD tX0_findRegions 11 x_bad = x_callV0 3 mX3_allStates := rfl
theorem kX0_findRegions_14 : List.getD tX0_findRegions 14 x_bad = x_istore 2 1 := rfl
theorem kX0_findRegions_15 : List.getD tX0_findRegions 15 x_bad = x_push (.int (nI 1)) 1 := rfl
theorem kX0_findRegions_16 : List.getD tX0_findRegions 16 x_bad = x_istore 3 1 := rfl
theorem kX0_findRegions_17 : List.getD tX0_findRegions 17 x_bad = x_iload 3 1 := rfl
theorem kX0_findRegions_18 : List.getD tX0_findRegions 18 x_bad = x_iload 2 1 := rfl
theorem kX0_findRegions_19 : List.getD tX0_findRegions 19 x_bad = x_icmp (fun a b => b ≤ a) 75 := rfl
theorem kX0_findRegions_22 : List.getD tX0_findRegions 22 x_bad = x_aload 0 1 := rfl
theorem kX0_findRegions_23 : List.getD tX0_findRegions 23 x_bad = x_getR 0 0 := rfl
theorem kX0_findRegions_26 : List.getD tX0_findRegions 26 x_bad = x_aload 1 1 := rfl
theorem kX0_findRegions_27 : List.getD tX0_findRegions 27 x_bad = x_iload 3 1 := rfl
theorem kX0_findRegions_28 : List.getD tX0_findRegions 28 x_bad = x_callV2 2 mX2_measureRegion := rfl
theorem kX0_findRegions_31 : List.getD tX0_findRegions 31 x_bad = x_if (fun a => a = 0) 69 := rfl
theorem kX0_findRegions_34 : List.getD tX0_findRegions 34 x_bad = x_aload 0 1 := rfl
theorem kX0_findRegions_35 : List.getD tX0_findRegions 35 x_bad = x_getI 0 2 := rfl
theorem kX0_findRegions_38 : List.getD tX0_findRegions 38 x_bad = x_push (.int (nI 1022)) 3 := rfl
theorem kX0_findRegions_41 : List.getD tX0_findRegions 41 x_bad = x_icmp (fun a b => b ≤ a) 69 := rfl
theorem kX0_findRegions_44 : List.getD tX0_findRegions 44 x_bad = x_aload 0 1 := rfl
theorem kX0_findRegions_45 : List.getD tX0_findRegions 45 x_bad = x_getR 0 1 := rfl
theorem kX0_findRegions_48 : List.getD tX0_findRegions 48 x_bad = x_aload 0 1 := rfl
theorem kX0_findRegions_49 : List.getD tX0_findRegions 49 x_bad = x_getI 0 2 := rfl
theorem kX0_findRegions_52 : List.getD tX0_findRegions 52 x_bad = x_iload 3 1 := rfl
theorem kX0_findRegions_53 : List.getD tX0_findRegions 53 x_bad = x_iast := rfl
theorem kX0_findRegions_54 : List.getD tX0_findRegions 54 x_bad = x_aload 0 1 := rfl
theorem kX0_findRegions_55 : List.getD tX0_findRegions 55 x_bad = x_dup := rfl
theorem kX0_findRegions_56 : List.getD tX0_findRegions 56 x_bad = x_getI 0 2 := rfl
theorem kX0_findRegions_59 : List.getD tX0_findRegions 59 x_bad = x_push (.int (nI 1)) 1 := rfl
theorem kX0_findRegions_60 : List.getD tX0_findRegions 60 x_bad = x_ii (fun a b => a + b) := rfl
theorem kX0_findRegions_61 : List.getD tX0_findRegions 61 x_bad = x_putI 0 2 := rfl
theorem kX0_findRegions_64 : List.getD tX0_findRegions 64 x_bad = x_aload 0 1 := rfl
theorem kX0_findRegions_65 : List.getD tX0_findRegions 65 x_bad = x_iload 3 1 := rfl
theorem kX0_findRegions_66 : List.getD tX0_findRegions 66 x_bad = x_callV1 0 mX0_addIfMinimal := rfl
theorem kX0_findRegions_69 : List.getD tX0_findRegions 69 x_bad = x_iinc 3 (nI 1) := rfl
theorem kX0_findRegions_72 : List.getD tX0_findRegions 72 x_bad = x_goto 17 := rfl
theorem kX0_findRegions_75 : List.getD tX0_findRegions 75 x_bad = x_vret := rfl
def tX0_findSolvable : List PT := [x_aload 0 1, x_getR 0 11, x_bad, x_bad, x_callV0 1 mX1_clear, x_bad, x_bad, x_push (.int (nI 0)) 1, x_istore 1 1, x_iload 1 1, x_aload 0 1, x_getI 0 10, x_bad, x_bad, x_icmp (fun a b => b ≤ a) 59, x_bad, x_bad, x_push (.int (nI 0)) 1, x_istore 2 1, x_iload 2 1, x_aload 0 1, x_getI 0 6, x_bad, x_bad, x_icmp (fun a b => b ≤ a) 53, x_bad, x_bad, x_aload 0 1, x_iload 2 1, x_iload 1 1, x_callV2 0 mX0_solves, x_bad, x_bad, x_if (fun a => a = 0) 47, x_bad, x_bad, x_aload 0 1, x_getR 0 11, x_bad, x_bad, x_iload 1 1, x_callV1 1 mX1_put, x_bad, x_bad, x_goto 53, x_bad, x_bad, x_iinc 2 (nI 1), x_bad, x_bad, x_goto 19, x_bad, x_bad, x_iinc 1 (nI 1), x_bad, x_bad, x_goto 9, x_bad, x_bad, x_vret]
set_option maxRecDepth 20000 in
theorem okX0_findSolvable : SndT RX0 cX0_findSolvable mX0_findSolvable.2.2.1 mX0_findSolvable.2.2.2.2.1 mX0_findSolvable.2.2.2.2.2 false mX0_findSolvable.2.2.2.1 0 tX0_findSolvable := ⟨s_aload_n (k := 0) (i := 0) (by decide +kernel) rfl, s_getR (by decide +kernel) fl_RX0_53 rfl, s_bad, s_bad, s_callV0 (by decide +kernel) lv_RX0_99 ⟨by decide, by decide⟩, s_bad, s_bad, s_iconst (n := 0) (by decide +kernel) (by decide +kernel), s_istore_n (k := 1) (i := 1) (by decide +kernel) rfl (by decide), s_iload_n (k := 1) (i := 1) (by decide +kernel) rfl, s_aload_n (k := 0) (i := 0) (by decide +kernel) rfl, s_getI (by decide +kernel) fl_RX0_47 rfl, s_bad, s_bad, s_icmp_ge (off := 45) (by decide +kernel) (by decide), s_bad, s_bad, s_iconst (n := 0) (by decide +kernel) (by decide +kernel), s_istore_n (k := 2) (i := 2) (by decide +kernel) rfl (by decide), s_iload_n (k := 2) (i := 2) (by decide +kernel) rfl, s_aload_n (k := 0) (i := 0) (by decide +kernel) rfl, s_getI (by decide +kernel) fl_RX0_35 rfl, s_bad, s_bad, s_icmp_ge (off := 29) (by decide +kernel) (by decide), s_bad, s_bad, s_aload_n (k := 0) (i := 0) (by decide +kernel) rfl, s_iload_n (k := 2) (i := 2) (by decide +kernel) rfl, s_iload_n (k := 1) (i := 1) (by decide +kernel) rfl, s_callV2 (by decide +kernel) lv_RX0_102 ⟨by decide, by decide⟩, s_bad, s_bad, s_if_eq (off := 14) (by decide +kernel) (by decide), s_bad, s_bad, s_aload_n (k := 0) (i := 0) (by decide +kernel) rfl, s_getR (by decide +kernel) fl_RX0_53 rfl, s_bad, s_bad, s_iload_n (k := 1) (i := 1) (by decide +kernel) rfl, s_callV1 (by decide +kernel) lv_RX0_106 ⟨by decide, by decide⟩, s_bad, s_bad, s_goto (off := 9) (by decide +kernel) (by decide), s_bad, s_bad, s_iinc (n := 1) (by decide +kernel) (by decide +kernel) (by decide), s_bad, s_bad, s_goto (off := (-31)) (by decide +kernel) (by decide), s_bad, s_bad, s_iinc (n := 1) (by decide +kernel) (by decide +kernel) (by decide), s_bad, s_bad, s_goto (off := (-47)) (by decide +kernel) (by decide), s_bad, s_bad, s_vret (by decide +kernel) rfl, trivial⟩
theorem kX0_findSolvable_0 : List.getD tX0_findSolvable 0 x_bad = x_aload 0 1 := rfl
theorem kX0_findSolvable_1 : List.getD tX0_findSolvable 1 x_bad = x_getR 0 11 := rfl
theorem kX0_findSolvable_4 : List.getD tX0_findSolvable 4 x_bad = x_callV0 1 mX1_clear := rfl
theorem kX0_findSolvable_7 : List.getD tX0_findSolvable 7 x_bad = x_push (.int (nI 0)) 1 := rfl
theorem kX0_findSolvable_8 : List.getD tX0_findSolvable 8 x_bad = x_istore 1 1 := rfl
theorem kX0_findSolvable_9 : List.getD tX0_findSolvable 9 x_bad = x_iload 1 1 := rfl
theorem kX0_findSolvable_10 : List.getD tX0_findSolvable 10 x_bad = x_aload 0 1 := rfl
theorem kX0_findSolvable_11 : List.getD tX0_findSolvable 11 x_bad = x_getI 0 10 := rfl
theorem kX0_findSolvable_14 : List.getD tX0_findSolvable 14 x_bad = x_icmp (fun a b => b ≤ a) 59 := rfl
theorem kX0_findSolvable_17 : List.getD tX0_findSolvable 17 x_bad = x_push (.int (nI 0)) 1 := rfl
theorem kX0_findSolvable_18 : List.getD tX0_findSolvable 18 x_bad = x_istore 2 1 := rfl
theorem kX0_findSolvable_19 : List.getD tX0_findSolvable 19 x_bad = x_iload 2 1 := rfl
theorem kX0_findSolvable_20 : List.getD tX0_findSolvable 20 x_bad = x_aload 0 1 := rfl
theorem kX0_findSolvable_21 : List.getD tX0_findSolvable 21 x_bad = x_getI 0 6 := rfl
theorem kX0_findSolvable_24 : List.getD tX0_findSolvable 24 x_bad = x_icmp (fun a b => b ≤ a) 53 := rfl
theorem kX0_findSolvable_27 : List.getD tX0_findSolvable 27 x_bad = x_aload 0 1 := rfl
theorem kX0_findSolvable_28 : List.getD tX0_findSolvable 28 x_bad = x_iload 2 1 := rfl
theorem kX0_findSolvable_29 : List.getD tX0_findSolvable 29 x_bad = x_iload 1 1 := rfl
theorem kX0_findSolvable_30 : List.getD tX0_findSolvable 30 x_bad = x_callV2 0 mX0_solves := rfl
theorem kX0_findSolvable_33 : List.getD tX0_findSolvable 33 x_bad = x_if (fun a => a = 0) 47 := rfl
theorem kX0_findSolvable_36 : List.getD tX0_findSolvable 36 x_bad = x_aload 0 1 := rfl
theorem kX0_findSolvable_37 : List.getD tX0_findSolvable 37 x_bad = x_getR 0 11 := rfl
theorem kX0_findSolvable_40 : List.getD tX0_findSolvable 40 x_bad = x_iload 1 1 := rfl
theorem kX0_findSolvable_41 : List.getD tX0_findSolvable 41 x_bad = x_callV1 1 mX1_put := rfl
theorem kX0_findSolvable_44 : List.getD tX0_findSolvable 44 x_bad = x_goto 53 := rfl
theorem kX0_findSolvable_47 : List.getD tX0_findSolvable 47 x_bad = x_iinc 2 (nI 1) := rfl
theorem kX0_findSolvable_50 : List.getD tX0_findSolvable 50 x_bad = x_goto 19 := rfl
theorem kX0_findSolvable_53 : List.getD tX0_findSolvable 53 x_bad = x_iinc 1 (nI 1) := rfl
theorem kX0_findSolvable_56 : List.getD tX0_findSolvable 56 x_bad = x_goto 9 := rfl
theorem kX0_findSolvable_59 : List.getD tX0_findSolvable 59 x_bad = x_vret := rfl
def tX0_init : List PT := [x_aload 0 1, x_objinit, x_bad, x_bad, x_aload 0 1, x_new 2, x_bad, x_bad, x_dup, x_callI mX2_init 0, x_bad, x_bad, x_putR 0 0, x_bad, x_bad, x_aload 0 1, x_push (.int (nI 1022)) 3, x_bad, x_bad, x_newa 20, x_bad, x_putR 0 1, x_bad, x_bad, x_aload 0 1, x_push (.int (nI 0)) 1, x_putI 0 2, x_bad, x_bad, x_aload 0 1, x_push (.int (nI 252)) 3, x_bad, x_bad, x_newa 20, x_bad, x_putR 0 3, x_bad, x_bad, x_aload 0 1, x_push (.int (nI 252)) 3, x_bad, x_bad, x_newa 20, x_bad, x_putR 0 4, x_bad, x_bad, x_aload 0 1, x_push (.int (nI 252)) 3, x_bad, x_bad, x_newa 20, x_bad, x_putR 0 5, x_bad, x_bad, x_aload 0 1, x_push (.int (nI 0)) 1, x_putI 0 6, x_bad, x_bad, x_aload 0 1, x_push (.int (nI 125)) 2, x_bad, x_newa 20, x_bad, x_putR 0 7, x_bad, x_bad, x_aload 0 1, x_push (.int (nI 125)) 2, x_bad, x_newa 20, x_bad, x_putR 0 8, x_bad, x_bad, x_aload 0 1, x_push (.int (nI 0)) 1, x_putI 0 9, x_bad, x_bad, x_aload 0 1, x_push (.int (nI 0)) 1, x_putI 0 10, x_bad, x_bad, x_aload 0 1, x_new 1, x_bad, x_bad, x_dup, x_callI mX1_init 0, x_bad, x_bad, x_putR 0 11, x_bad, x_bad, x_vret]
set_option maxRecDepth 20000 in
theorem okX0_init : SndT RX0 cX0_init mX0_init.2.2.1 mX0_init.2.2.2.2.1 mX0_init.2.2.2.2.2 true mX0_init.2.2.2.1 0 tX0_init := ⟨s_aload_n (k := 0) (i := 0) (by decide +kernel) rfl, s_objinit (by decide +kernel) tb_204 tb_90 tb_91 (by decide) (by decide), s_bad, s_bad, s_aload_n (k := 0) (i := 0) (by decide +kernel) rfl, s_new (by decide +kernel) nok_2 ⟨_, rfl, tb_205⟩, s_bad, s_bad, s_dup (by decide +kernel), s_callI (by decide +kernel) li_RX0_11 ⟨by decide, by decide⟩, s_bad, s_bad, s_putR rfl (by decide +kernel) fl_RX0_12 fp_0_0 rfl (fun _ => ⟨rfl, rfl⟩) ⟨_, rfl, rfl⟩ (fun r hr => by cases hr; exact tb_225), s_bad, s_bad, s_aload_n (k := 0) (i := 0) (by decide +kernel) rfl, s_sipush (n := 1022) (by decide +kernel) (by decide +kernel), s_bad, s_bad, s_newa_i (by decide +kernel) tb_110, s_bad, s_putR rfl (by decide +kernel) fl_RX0_18 fp_0_1 rfl (fun _ => ⟨rfl, rfl⟩) ⟨_, rfl, rfl⟩ (fun r hr => by cases hr; exact tb_226), s_bad, s_bad, s_aload_n (k := 0) (i := 0) (by decide +kernel) rfl, s_iconst (n := 0) (by decide +kernel) (by decide +kernel), s_putI (by decide +kernel) fl_RX0_22 fp_0_2 rfl, s_bad, s_bad, s_aload_n (k := 0) (i := 0) (by decide +kernel) rfl, s_sipush (n := 252) (by decide +kernel) (by decide +kernel), s_bad, s_bad, s_newa_i (by decide +kernel) tb_110, s_bad, s_putR rfl (by decide +kernel) fl_RX0_26 fp_0_3 rfl (fun _ => ⟨rfl, rfl⟩) ⟨_, rfl, rfl⟩ (fun r hr => by cases hr; exact tb_230), s_bad, s_bad, s_aload_n (k := 0) (i := 0) (by decide +kernel) rfl, s_sipush (n := 252) (by decide +kernel) (by decide +kernel), s_bad, s_bad, s_newa_i (by decide +kernel) tb_110, s_bad, s_putR rfl (by decide +kernel) fl_RX0_29 fp_0_4 rfl (fun _ => ⟨rfl, rfl⟩) ⟨_, rfl, rfl⟩ (fun r hr => by cases hr; exact tb_233), s_bad, s_bad, s_aload_n (k := 0) (i := 0) (by decide +kernel) rfl, s_sipush (n := 252) (by decide +kernel) (by decide +kernel), s_bad, s_bad, s_newa_i (by decide +kernel) tb_110, s_bad, s_putR rfl (by decide +kernel) fl_RX0_32 fp_0_5 rfl (fun _ => ⟨rfl, rfl⟩) ⟨_, rfl, rfl⟩ (fun r hr => by cases hr; exact tb_236), s_bad, s_bad, s_aload_n (k := 0) (i := 0) (by decide +kernel) rfl, s_iconst (n := 0) (by decide +kernel) (by decide +kernel), s_putI (by decide +kernel) fl_RX0_35 fp_0_6 rfl, s_bad, s_bad, s_aload_n (k := 0) (i := 0) (by decide +kernel) rfl, s_bipush (n := 125) (by decide +kernel) (by decide +kernel), s_bad, s_newa_i (by decide +kernel) tb_110, s_bad, s_putR rfl (by decide +kernel) fl_RX0_38 fp_0_7 rfl (fun _ => ⟨rfl, rfl⟩) ⟨_, rfl, rfl⟩ (fun r hr => by cases hr; exact tb_242), s_bad, s_bad, s_aload_n (k := 0) (i := 0) (by decide +kernel) rfl, s_bipush (n := 125) (by decide +kernel) (by decide +kernel), s_bad, s_newa_i (by decide +kernel) tb_110, s_bad, s_putR rfl (by decide +kernel) fl_RX0_41 fp_0_8 rfl (fun _ => ⟨rfl, rfl⟩) ⟨_, rfl, rfl⟩ (fun r hr => by cases hr; exact tb_244), s_bad, s_bad, s_aload_n (k := 0) (i := 0) (by decide +kernel) rfl, s_iconst (n := 0) (by decide +kernel) (by decide +kernel), s_putI (by decide +kernel) fl_RX0_44 fp_0_9 rfl, s_bad, s_bad, s_aload_n (k := 0) (i := 0) (by decide +kernel) rfl, s_iconst (n := 0) (by decide +kernel) (by decide +kernel), s_putI (by decide +kernel) fl_RX0_47 fp_0_10 rfl, s_bad, s_bad, s_aload_n (k := 0) (i := 0) (by decide +kernel) rfl, s_new (by decide +kernel) nok_1 ⟨_, rfl, tb_223⟩, s_bad, s_bad, s_dup (by decide +kernel), s_callI (by decide +kernel) li_RX0_52 ⟨by decide, by decide⟩, s_bad, s_bad, s_putR rfl (by decide +kernel) fl_RX0_53 fp_0_11 rfl (fun _ => ⟨rfl, rfl⟩) ⟨_, rfl, rfl⟩ (fun r hr => by cases hr; exact tb_250), s_bad, s_bad, s_vret (by decide +kernel) rfl, trivial⟩
theorem kX0_init_0 : List.getD tX0_init 0 x_bad = x_aload 0 1 := rfl
theorem kX0_init_1 : List.getD tX0_init 1 x_bad = x_objinit := rfl
theorem kX0_init_4 : List.getD tX0_init 4 x_bad = x_aload 0 1 := rfl
theorem kX0_init_5 : List.getD tX0_init 5 x_bad = x_new 2 := rfl
theorem kX0_init_8 : List.getD tX0_init 8 x_bad = x_dup := rfl
theorem kX0_init_9 : List.getD tX0_init 9 x_bad = x_callI mX2_init 0 := rfl
theorem kX0_init_12 : List.getD tX0_init 12 x_bad = x_putR 0 0 := rfl
theorem kX0_init_15 : List.getD tX0_init 15 x_bad = x_aload 0 1 := rfl
theorem kX0_init_16 : List.getD tX0_init 16 x_bad = x_push (.int (nI 1022)) 3 := rfl
theorem kX0_init_19 : List.getD tX0_init 19 x_bad = x_newa 20 := rfl
theorem kX0_init_21 : List.getD tX0_init 21 x_bad = x_putR 0 1 := rfl
theorem kX0_init_24 : List.getD tX0_init 24 x_bad = x_aload 0 1 := rfl
theorem kX0_init_25 : List.getD tX0_init 25 x_bad = x_push (.int (nI 0)) 1 := rfl
theorem kX0_init_26 : List.getD tX0_init 26 x_bad = x_putI 0 2 := rfl
theorem kX0_init_29 : List.getD tX0_init 29 x_bad = x_aload 0 1 := rfl
theorem kX0_init_30 : List.getD tX0_init 30 x_bad = x_push (.int (nI 252)) 3 := rfl
theorem kX0_init_33 : List.getD tX0_init 33 x_bad = x_newa 20 := rfl
theorem kX0_init_35 : List.getD tX0_init 35 x_bad = x_putR 0 3 := rfl
theorem kX0_init_38 : List.getD tX0_init 38 x_bad = x_aload 0 1 := rfl
theorem kX0_init_39 : List.getD tX0_init 39 x_bad = x_push (.int (nI 252)) 3 := rfl
theorem kX0_init_42 : List.getD tX0_init 42 x_bad = x_newa 20 := rfl
theorem kX0_init_44 : List.getD tX0_init 44 x_bad = x_putR 0 4 := rfl
theorem kX0_init_47 : List.getD tX0_init 47 x_bad = x_aload 0 1 := rfl
theorem kX0_init_48 : List.getD tX0_init 48 x_bad = x_push (.int (nI 252)) 3 := rfl
theorem kX0_init_51 : List.getD tX0_init 51 x_bad = x_newa 20 := rfl
theorem kX0_init_53 : List.getD tX0_init 53 x_bad = x_putR 0 5 := rfl
theorem kX0_init_56 : List.getD tX0_init 56 x_bad = x_aload 0 1 := rfl
theorem kX0_init_57 : List.getD tX0_init 57 x_bad = x_push (.int (nI 0)) 1 := rfl
theorem kX0_init_58 : List.getD tX0_init 58 x_bad = x_putI 0 6 := rfl
theorem kX0_init_61 : List.getD tX0_init 61 x_bad = x_aload 0 1 := rfl
theorem kX0_init_62 : List.getD tX0_init 62 x_bad = x_push (.int (nI 125)) 2 := rfl
theorem kX0_init_64 : List.getD tX0_init 64 x_bad = x_newa 20 := rfl
theorem kX0_init_66 : List.getD tX0_init 66 x_bad = x_putR 0 7 := rfl
theorem kX0_init_69 : List.getD tX0_init 69 x_bad = x_aload 0 1 := rfl
theorem kX0_init_70 : List.getD tX0_init 70 x_bad = x_push (.int (nI 125)) 2 := rfl
theorem kX0_init_72 : List.getD tX0_init 72 x_bad = x_newa 20 := rfl
theorem kX0_init_74 : List.getD tX0_init 74 x_bad = x_putR 0 8 := rfl
theorem kX0_init_77 : List.getD tX0_init 77 x_bad = x_aload 0 1 := rfl
theorem kX0_init_78 : List.getD tX0_init 78 x_bad = x_push (.int (nI 0)) 1 := rfl
theorem kX0_init_79 : List.getD tX0_init 79 x_bad = x_putI 0 9 := rfl
theorem kX0_init_82 : List.getD tX0_init 82 x_bad = x_aload 0 1 := rfl
theorem kX0_init_83 : List.getD tX0_init 83 x_bad = x_push (.int (nI 0)) 1 := rfl
theorem kX0_init_84 : List.getD tX0_init 84 x_bad = x_putI 0 10 := rfl
theorem kX0_init_87 : List.getD tX0_init 87 x_bad = x_aload 0 1 := rfl
theorem kX0_init_88 : List.getD tX0_init 88 x_bad = x_new 1 := rfl
theorem kX0_init_91 : List.getD tX0_init 91 x_bad = x_dup := rfl
theorem kX0_init_92 : List.getD tX0_init 92 x_bad = x_callI mX1_init 0 := rfl
theorem kX0_init_95 : List.getD tX0_init 95 x_bad = x_putR 0 11 := rfl
theorem kX0_init_98 : List.getD tX0_init 98 x_bad = x_vret := rfl
def tX5_choosePlaces : List PT := [x_aload 0 1, x_push (.int (nI 0)) 1, x_putI 5 1, x_bad, x_bad, x_aload 0 1, x_getR 5 6, x_bad, x_bad, x_aload 1 1, x_getR 0 11, x_bad, x_bad, x_callV1 1 mX1_become, x_bad, x_bad, x_aload 0 1, x_getI 5 1, x_bad, x_bad, x_push (.int (nI 125)) 2, x_bad, x_icmp (fun a b => b ≤ a) 118, x_bad, x_bad, x_push (.int (-1)) 1, x_istore 2 1, x_push (.int (nI 0)) 1, x_istore 3 1, x_push (.int (nI 0)) 1, x_istore 4 2, x_bad, x_iload 4 2, x_bad, x_aload 1 1, x_getI 0 6, x_bad, x_bad, x_icmp (fun a b => b ≤ a) 75, x_bad, x_bad, x_aload 0 1, x_getR 5 2, x_bad, x_bad, x_iload 4 2, x_bad, x_aald, x_aload 0 1, x_getR 5 6, x_bad, x_bad, x_callV1 1 mX1_sizeShared, x_bad, x_bad, x_istore 5 2, x_bad, x_iload 5 2, x_bad, x_iload 3 1, x_icmp (fun a b => a ≤ b) 69, x_bad, x_bad, x_iload 4 2, x_bad, x_istore 2 1, x_iload 5 2, x_bad, x_istore 3 1, x_iinc 4 (nI 1), x_bad, x_bad, x_goto 32, x_bad, x_bad, x_iload 2 1, x_if (fun a => 0 ≤ a) 82, x_bad, x_bad, x_goto 118, x_bad, x_bad, x_aload 0 1, x_getR 5 0, x_bad, x_bad, x_aload 0 1, x_getI 5 1, x_bad, x_bad, x_iload 2 1, x_iast, x_aload 0 1, x_dup, x_getI 5 1, x_bad, x_bad, x_push (.int (nI 1)) 1, x_ii (fun a b => a + b), x_putI 5 1, x_bad, x_bad, x_aload 0 1, x_getR 5 6, x_bad, x_bad, x_aload 0 1, x_getR 5 2, x_bad, x_bad, x_iload 2 1, x_aald, x_callV1 1 mX1_remove, x_bad, x_bad, x_goto 16, x_bad, x_bad, x_vret]
set_option maxRecDepth 20000 in
theorem okX5_choosePlaces : SndT RX5 cX5_choosePlaces mX5_choosePlaces.2.2.1 mX5_choosePlaces.2.2.2.2.1 mX5_choosePlaces.2.2.2.2.2 false mX5_choosePlaces.2.2.2.1 0 tX5_choosePlaces := ⟨s_aload_n (k := 0) (i := 0) (by decide +kernel) rfl, s_iconst (n := 0) (by decide +kernel) (by decide +kernel), s_putI (by decide +kernel) fl_RX5_15 fp_5_1 rfl, s_bad, s_bad, s_aload_n (k := 0) (i := 0) (by decide +kernel) rfl, s_getR (by decide +kernel) fl_RX5_36 rfl, s_bad, s_bad, s_aload_n (k := 1) (i := 1) (by decide +kernel) rfl, s_getR (by decide +kernel) fl_RX5_74 rfl, s_bad, s_bad, s_callV1 (by decide +kernel) lv_RX5_77 ⟨by decide, by decide⟩, s_bad, s_bad, s_aload_n (k := 0) (i := 0) (by decide +kernel) rfl, s_getI (by decide +kernel) fl_RX5_15 rfl, s_bad, s_bad, s_bipush (n := 125) (by decide +kernel) (by decide +kernel), s_bad, s_icmp_ge (off := 96) (by decide +kernel) (by decide), s_bad, s_bad, s_iconst (n := (-1)) (by decide +kernel) (by decide +kernel), s_istore_n (k := 2) (i := 2) (by decide +kernel) rfl (by decide), s_iconst (n := 0) (by decide +kernel) (by decide +kernel), s_istore_n (k := 3) (i := 3) (by decide +kernel) rfl (by decide), s_iconst (n := 0) (by decide +kernel) (by decide +kernel), s_istore (by decide +kernel) (by decide), s_bad, s_iload (by decide +kernel), s_bad, s_aload_n (k := 1) (i := 1) (by decide +kernel) rfl, s_getI (by decide +kernel) fl_RX5_55 rfl, s_bad, s_bad, s_icmp_ge (off := 37) (by decide +kernel) (by decide), s_bad, s_bad, s_aload_n (k := 0) (i := 0) (by decide +kernel) rfl, s_getR (by decide +kernel) fl_RX5_21 rfl, s_bad, s_bad, s_iload (by decide +kernel), s_bad, s_aald (by decide +kernel), s_aload_n (k := 0) (i := 0) (by decide +kernel) rfl, s_getR (by decide +kernel) fl_RX5_36 rfl, s_bad, s_bad, s_callV1 (by decide +kernel) lv_RX5_81 ⟨by decide, by decide⟩, s_bad, s_bad, s_istore (by decide +kernel) (by decide), s_bad, s_iload (by decide +kernel), s_bad, s_iload_n (k := 3) (i := 3) (by decide +kernel) rfl, s_icmp_le (off := 9) (by decide +kernel) (by decide), s_bad, s_bad, s_iload (by decide +kernel), s_bad, s_istore_n (k := 2) (i := 2) (by decide +kernel) rfl (by decide), s_iload (by decide +kernel), s_bad, s_istore_n (k := 3) (i := 3) (by decide +kernel) rfl (by decide), s_iinc (n := 1) (by decide +kernel) (by decide +kernel) (by decide), s_bad, s_bad, s_goto (off := (-40)) (by decide +kernel) (by decide), s_bad, s_bad, s_iload_n (k := 2) (i := 2) (by decide +kernel) rfl, s_if_ge (off := 6) (by decide +kernel) (by decide), s_bad, s_bad, s_goto (off := 39) (by decide +kernel) (by decide), s_bad, s_bad, s_aload_n (k := 0) (i := 0) (by decide +kernel) rfl, s_getR (by decide +kernel) fl_RX5_9 rfl, s_bad, s_bad, s_aload_n (k := 0) (i := 0) (by decide +kernel) rfl, s_getI (by decide +kernel) fl_RX5_15 rfl, s_bad, s_bad, s_iload_n (k := 2) (i := 2) (by decide +kernel) rfl, s_iast (by decide +kernel), s_aload_n (k := 0) (i := 0) (by decide +kernel) rfl, s_dup (by decide +kernel), s_getI (by decide +kernel) fl_RX5_15 rfl, s_bad, s_bad, s_iconst (n := 1) (by decide +kernel) (by decide +kernel), s_iadd (by decide +kernel), s_putI (by decide +kernel) fl_RX5_15 fp_5_1 rfl, s_bad, s_bad, s_aload_n (k := 0) (i := 0) (by decide +kernel) rfl, s_getR (by decide +kernel) fl_RX5_36 rfl, s_bad, s_bad, s_aload_n (k := 0) (i := 0) (by decide +kernel) rfl, s_getR (by decide +kernel) fl_RX5_21 rfl, s_bad, s_bad, s_iload_n (k := 2) (i := 2) (by decide +kernel) rfl, s_aald (by decide +kernel), s_callV1 (by decide +kernel) lv_RX5_85 ⟨by decide, by decide⟩, s_bad, s_bad, s_goto (off := (-99)) (by decide +kernel) (by decide), s_bad, s_bad, s_vret (by decide +kernel) rfl, trivial⟩
theorem kX5_choosePlaces_0 : List.getD tX5_choosePlaces 0 x_bad = x_aload 0 1 := rfl
theorem kX5_choosePlaces_1 : List.getD tX5_choosePlaces 1 x_bad = x_push (.int (nI 0)) 1 := rfl
theorem kX5_choosePlaces_2 : List.getD tX5_choosePlaces 2 x_bad = x_putI 5 1 := rfl
theorem kX5_choosePlaces_5 : List.getD tX5_choosePlaces 5 x_bad = x_aload 0 1 := rfl
theorem kX5_choosePlaces_6 : List.getD tX5_choosePlaces 6 x_bad = x_getR 5 6 := rfl
theorem kX5_choosePlaces_9 : List.getD tX5_choosePlaces 9 x_bad = x_aload 1 1 := rfl
theorem kX5_choosePlaces_10 : List.getD tX5_choosePlaces 10 x_bad = x_getR 0 11 := rfl
theorem kX5_choosePlaces_13 : List.getD tX5_choosePlaces 13 x_bad = x_callV1 1 mX1_become := rfl
theorem kX5_choosePlaces_16 : List.getD tX5_choosePlaces 16 x_bad = x_aload 0 1 := rfl
theorem kX5_choosePlaces_17 : List.getD tX5_choosePlaces 17 x_bad = x_getI 5 1 := rfl
theorem kX5_choosePlaces_20 : List.getD tX5_choosePlaces 20 x_bad = x_push (.int (nI 125)) 2 := rfl
theorem kX5_choosePlaces_22 : List.getD tX5_choosePlaces 22 x_bad = x_icmp (fun a b => b ≤ a) 118 := rfl
theorem kX5_choosePlaces_25 : List.getD tX5_choosePlaces 25 x_bad = x_push (.int (-1)) 1 := rfl
theorem kX5_choosePlaces_26 : List.getD tX5_choosePlaces 26 x_bad = x_istore 2 1 := rfl
theorem kX5_choosePlaces_27 : List.getD tX5_choosePlaces 27 x_bad = x_push (.int (nI 0)) 1 := rfl
theorem kX5_choosePlaces_28 : List.getD tX5_choosePlaces 28 x_bad = x_istore 3 1 := rfl
theorem kX5_choosePlaces_29 : List.getD tX5_choosePlaces 29 x_bad = x_push (.int (nI 0)) 1 := rfl
theorem kX5_choosePlaces_30 : List.getD tX5_choosePlaces 30 x_bad = x_istore 4 2 := rfl
theorem kX5_choosePlaces_32 : List.getD tX5_choosePlaces 32 x_bad = x_iload 4 2 := rfl
theorem kX5_choosePlaces_34 : List.getD tX5_choosePlaces 34 x_bad = x_aload 1 1 := rfl
theorem kX5_choosePlaces_35 : List.getD tX5_choosePlaces 35 x_bad = x_getI 0 6 := rfl
theorem kX5_choosePlaces_38 : List.getD tX5_choosePlaces 38 x_bad = x_icmp (fun a b => b ≤ a) 75 := rfl
theorem kX5_choosePlaces_41 : List.getD tX5_choosePlaces 41 x_bad = x_aload 0 1 := rfl
theorem kX5_choosePlaces_42 : List.getD tX5_choosePlaces 42 x_bad = x_getR 5 2 := rfl
theorem kX5_choosePlaces_45 : List.getD tX5_choosePlaces 45 x_bad = x_iload 4 2 := rfl
theorem kX5_choosePlaces_47 : List.getD tX5_choosePlaces 47 x_bad = x_aald := rfl
theorem kX5_choosePlaces_48 : List.getD tX5_choosePlaces 48 x_bad = x_aload 0 1 := rfl
theorem kX5_choosePlaces_49 : List.getD tX5_choosePlaces 49 x_bad = x_getR 5 6 := rfl
theorem kX5_choosePlaces_52 : List.getD tX5_choosePlaces 52 x_bad = x_callV1 1 mX1_sizeShared := rfl
theorem kX5_choosePlaces_55 : List.getD tX5_choosePlaces 55 x_bad = x_istore 5 2 := rfl
theorem kX5_choosePlaces_57 : List.getD tX5_choosePlaces 57 x_bad = x_iload 5 2 := rfl
theorem kX5_choosePlaces_59 : List.getD tX5_choosePlaces 59 x_bad = x_iload 3 1 := rfl
theorem kX5_choosePlaces_60 : List.getD tX5_choosePlaces 60 x_bad = x_icmp (fun a b => a ≤ b) 69 := rfl
theorem kX5_choosePlaces_63 : List.getD tX5_choosePlaces 63 x_bad = x_iload 4 2 := rfl
theorem kX5_choosePlaces_65 : List.getD tX5_choosePlaces 65 x_bad = x_istore 2 1 := rfl
theorem kX5_choosePlaces_66 : List.getD tX5_choosePlaces 66 x_bad = x_iload 5 2 := rfl
theorem kX5_choosePlaces_68 : List.getD tX5_choosePlaces 68 x_bad = x_istore 3 1 := rfl
theorem kX5_choosePlaces_69 : List.getD tX5_choosePlaces 69 x_bad = x_iinc 4 (nI 1) := rfl
theorem kX5_choosePlaces_72 : List.getD tX5_choosePlaces 72 x_bad = x_goto 32 := rfl
theorem kX5_choosePlaces_75 : List.getD tX5_choosePlaces 75 x_bad = x_iload 2 1 := rfl
theorem kX5_choosePlaces_76 : List.getD tX5_choosePlaces 76 x_bad = x_if (fun a => 0 ≤ a) 82 := rfl
theorem kX5_choosePlaces_79 : List.getD tX5_choosePlaces 79 x_bad = x_goto 118 := rfl
theorem kX5_choosePlaces_82 : List.getD tX5_choosePlaces 82 x_bad = x_aload 0 1 := rfl
theorem kX5_choosePlaces_83 : List.getD tX5_choosePlaces 83 x_bad = x_getR 5 0 := rfl
theorem kX5_choosePlaces_86 : List.getD tX5_choosePlaces 86 x_bad = x_aload 0 1 := rfl
theorem kX5_choosePlaces_87 : List.getD tX5_choosePlaces 87 x_bad = x_getI 5 1 := rfl
theorem kX5_choosePlaces_90 : List.getD tX5_choosePlaces 90 x_bad = x_iload 2 1 := rfl
theorem kX5_choosePlaces_91 : List.getD tX5_choosePlaces 91 x_bad = x_iast := rfl
theorem kX5_choosePlaces_92 : List.getD tX5_choosePlaces 92 x_bad = x_aload 0 1 := rfl
theorem kX5_choosePlaces_93 : List.getD tX5_choosePlaces 93 x_bad = x_dup := rfl
theorem kX5_choosePlaces_94 : List.getD tX5_choosePlaces 94 x_bad = x_getI 5 1 := rfl
theorem kX5_choosePlaces_97 : List.getD tX5_choosePlaces 97 x_bad = x_push (.int (nI 1)) 1 := rfl
theorem kX5_choosePlaces_98 : List.getD tX5_choosePlaces 98 x_bad = x_ii (fun a b => a + b) := rfl
theorem kX5_choosePlaces_99 : List.getD tX5_choosePlaces 99 x_bad = x_putI 5 1 := rfl
theorem kX5_choosePlaces_102 : List.getD tX5_choosePlaces 102 x_bad = x_aload 0 1 := rfl
theorem kX5_choosePlaces_103 : List.getD tX5_choosePlaces 103 x_bad = x_getR 5 6 := rfl
theorem kX5_choosePlaces_106 : List.getD tX5_choosePlaces 106 x_bad = x_aload 0 1 := rfl
theorem kX5_choosePlaces_107 : List.getD tX5_choosePlaces 107 x_bad = x_getR 5 2 := rfl
theorem kX5_choosePlaces_110 : List.getD tX5_choosePlaces 110 x_bad = x_iload 2 1 := rfl
theorem kX5_choosePlaces_111 : List.getD tX5_choosePlaces 111 x_bad = x_aald := rfl
theorem kX5_choosePlaces_112 : List.getD tX5_choosePlaces 112 x_bad = x_callV1 1 mX1_remove := rfl
theorem kX5_choosePlaces_115 : List.getD tX5_choosePlaces 115 x_bad = x_goto 16 := rfl
theorem kX5_choosePlaces_118 : List.getD tX5_choosePlaces 118 x_bad = x_vret := rfl
def tX5_findSolved : List PT := [x_push (.int (nI 0)) 1, x_istore 2 1, x_iload 2 1, x_aload 1 1, x_getI 0 6, x_bad, x_bad, x_icmp (fun a b => b ≤ a) 60, x_bad, x_bad, x_aload 0 1, x_getR 5 2, x_bad, x_bad, x_iload 2 1, x_aald, x_callV0 1 mX1_clear, x_bad, x_bad, x_push (.int (nI 0)) 1, x_istore 3 1, x_iload 3 1, x_aload 1 1, x_getI 0 10, x_bad, x_bad, x_icmp (fun a b => b ≤ a) 54, x_bad, x_bad, x_aload 1 1, x_iload 2 1, x_iload 3 1, x_callV2 0 mX0_solves, x_bad, x_bad, x_if (fun a => a = 0) 48, x_bad, x_bad, x_aload 0 1, x_getR 5 2, x_bad, x_bad, x_iload 2 1, x_aald, x_iload 3 1, x_callV1 1 mX1_put, x_bad, x_bad, x_iinc 3 (nI 1), x_bad, x_bad, x_goto 21, x_bad, x_bad, x_iinc 2 (nI 1), x_bad, x_bad, x_goto 2, x_bad, x_bad, x_vret]
set_option maxRecDepth 20000 in
theorem okX5_findSolved : SndT RX5 cX5_findSolved mX5_findSolved.2.2.1 mX5_findSolved.2.2.2.2.1 mX5_findSolved.2.2.2.2.2 false mX5_findSolved.2.2.2.1 0 tX5_findSolved := ⟨s_iconst (n := 0) (by decide +kernel) (by decide +kernel), s_istore_n (k := 2) (i := 2) (by decide +kernel) rfl (by decide), s_iload_n (k := 2) (i := 2) (by decide +kernel) rfl, s_aload_n (k := 1) (i := 1) (by decide +kernel) rfl, s_getI (by decide +kernel) fl_RX5_55 rfl, s_bad, s_bad, s_icmp_ge (off := 53) (by decide +kernel) (by decide), s_bad, s_bad, s_aload_n (k := 0) (i := 0) (by decide +kernel) rfl, s_getR (by decide +kernel) fl_RX5_21 rfl, s_bad, s_bad, s_iload_n (k := 2) (i := 2) (by decide +kernel) rfl, s_aald (by decide +kernel), s_callV0 (by decide +kernel) lv_RX5_60 ⟨by decide, by decide⟩, s_bad, s_bad, s_iconst (n := 0) (by decide +kernel) (by decide +kernel), s_istore_n (k := 3) (i := 3) (by decide +kernel) rfl (by decide), s_iload_n (k := 3) (i := 3) (by decide +kernel) rfl, s_aload_n (k := 1) (i := 1) (by decide +kernel) rfl, s_getI (by decide +kernel) fl_RX5_63 rfl, s_bad, s_bad, s_icmp_ge (off := 28) (by decide +kernel) (by decide), s_bad, s_bad, s_aload_n (k := 1) (i := 1) (by decide +kernel) rfl, s_iload_n (k := 2) (i := 2) (by decide +kernel) rfl, s_iload_n (k := 3) (i := 3) (by decide +kernel) rfl, s_callV2 (by decide +kernel) lv_RX5_66 ⟨by decide, by decide⟩, s_bad, s_bad, s_if_eq (off := 13) (by decide +kernel) (by decide), s_bad, s_bad, s_aload_n (k := 0) (i := 0) (by decide +kernel) rfl, s_getR (by decide +kernel) fl_RX5_21 rfl, s_bad, s_bad, s_iload_n (k := 2) (i := 2) (by decide +kernel) rfl, s_aald (by decide +kernel), s_iload_n (k := 3) (i := 3) (by decide +kernel) rfl, s_callV1 (by decide +kernel) lv_RX5_70 ⟨by decide, by decide⟩, s_bad, s_bad, s_iinc (n := 1) (by decide +kernel) (by decide +kernel) (by decide), s_bad, s_bad, s_goto (off := (-30)) (by decide +kernel) (by decide), s_bad, s_bad, s_iinc (n := 1) (by decide +kernel) (by decide +kernel) (by decide), s_bad, s_bad, s_goto (off := (-55)) (by decide +kernel) (by decide), s_bad, s_bad, s_vret (by decide +kernel) rfl, trivial⟩
theorem kX5_findSolved_0 : List.getD tX5_findSolved 0 x_bad = x_push (.int (nI 0)) 1 := rfl
theorem kX5_findSolved_1 : List.getD tX5_findSolved 1 x_bad = x_istore 2 1 := rfl
theorem kX5_findSolved_2 : List.getD tX5_findSolved 2 x_bad = x_iload 2 1 := rfl
theorem kX5_findSolved_3 : List.getD tX5_findSolved 3 x_bad = x_aload 1 1 := rfl
theorem kX5_findSolved_4 : List.getD tX5_findSolved 4 x_bad = x_getI 0 6 := rfl
theorem kX5_findSolved_7 : List.getD tX5_findSolved 7 x_bad = x_icmp (fun a b => b ≤ a) 60 := rfl
theorem kX5_findSolved_10 : List.getD tX5_findSolved 10 x_bad = x_aload 0 1 := rfl
theorem kX5_findSolved_11 : List.getD tX5_findSolved 11 x_bad = x_getR 5 2 := rfl
theorem kX5_findSolved_14 : List.getD tX5_findSolved 14 x_bad = x_iload 2 1 := rfl
theorem kX5_findSolved_15 : List.getD tX5_findSolved 15 x_bad = x_aald := rfl
theorem kX5_findSolved_16 : List.getD tX5_findSolved 16 x_bad = x_callV0 1 mX1_clear := rfl
theorem kX5_findSolved_19 : List.getD tX5_findSolved 19 x_bad = x_push (.int (nI 0)) 1 := rfl
theorem kX5_findSolved_20 : List.getD tX5_findSolved 20 x_bad = x_istore 3 1 := rfl
theorem kX5_findSolved_21 : List.getD tX5_findSolved 21 x_bad = x_iload 3 1 := rfl
theorem kX5_findSolved_22 : List.getD tX5_findSolved 22 x_bad = x_aload 1 1 := rfl
theorem kX5_findSolved_23 : List.getD tX5_findSolved 23 x_bad = x_getI 0 10 := rfl
theorem kX5_findSolved_26 : List.getD tX5_findSolved 26 x_bad = x_icmp (fun a b => b ≤ a) 54 := rfl
theorem kX5_findSolved_29 : List.getD tX5_findSolved 29 x_bad = x_aload 1 1 := rfl
theorem kX5_findSolved_30 : List.getD tX5_findSolved 30 x_bad = x_iload 2 1 := rfl
theorem kX5_findSolved_31 : List.getD tX5_findSolved 31 x_bad = x_iload 3 1 := rfl
theorem kX5_findSolved_32 : List.getD tX5_findSolved 32 x_bad = x_callV2 0 mX0_solves := rfl
theorem kX5_findSolved_35 : List.getD tX5_findSolved 35 x_bad = x_if (fun a => a = 0) 48 := rfl
theorem kX5_findSolved_38 : List.getD tX5_findSolved 38 x_bad = x_aload 0 1 := rfl
theorem kX5_findSolved_39 : List.getD tX5_findSolved 39 x_bad = x_getR 5 2 := rfl
theorem kX5_findSolved_42 : List.getD tX5_findSolved 42 x_bad = x_iload 2 1 := rfl
theorem kX5_findSolved_43 : List.getD tX5_findSolved 43 x_bad = x_aald := rfl
theorem kX5_findSolved_44 : List.getD tX5_findSolved 44 x_bad = x_iload 3 1 := rfl
theorem kX5_findSolved_45 : List.getD tX5_findSolved 45 x_bad = x_callV1 1 mX1_put := rfl
theorem kX5_findSolved_48 : List.getD tX5_findSolved 48 x_bad = x_iinc 3 (nI 1) := rfl
theorem kX5_findSolved_51 : List.getD tX5_findSolved 51 x_bad = x_goto 21 := rfl
theorem kX5_findSolved_54 : List.getD tX5_findSolved 54 x_bad = x_iinc 2 (nI 1) := rfl
theorem kX5_findSolved_57 : List.getD tX5_findSolved 57 x_bad = x_goto 2 := rfl
theorem kX5_findSolved_60 : List.getD tX5_findSolved 60 x_bad = x_vret := rfl
def tX5_init : List PT := [x_aload 0 1, x_objinit, x_bad, x_bad, x_aload 0 1, x_push (.int (nI 125)) 2, x_bad, x_newa 20, x_bad, x_putR 5 0, x_bad, x_bad, x_aload 0 1, x_push (.int (nI 0)) 1, x_putI 5 1, x_bad, x_bad, x_aload 0 1, x_push (.int (nI 252)) 3, x_bad, x_bad, x_anewa 25, x_bad, x_bad, x_putR 5 2, x_bad, x_bad, x_aload 0 1, x_push (.int (nI 8)) 2, x_bad, x_anewa 25, x_bad, x_bad, x_putR 5 3, x_bad, x_bad, x_aload 0 1, x_push (.int (nI 8)) 2, x_bad, x_anewa 25, x_bad, x_bad, x_putR 5 4, x_bad, x_bad, x_aload 0 1, x_new 1, x_bad, x_bad, x_dup, x_callI mX1_init 0, x_bad, x_bad, x_putR 5 5, x_bad, x_bad, x_aload 0 1, x_new 1, x_bad, x_bad, x_dup, x_callI mX1_init 0, x_bad, x_bad, x_putR 5 6, x_bad, x_bad, x_aload 0 1, x_push (.int (nI 0)) 1, x_putI 5 7, x_bad, x_bad, x_push (.int (nI 0)) 1, x_istore 1 1, x_iload 1 1, x_push (.int (nI 252)) 3, x_bad, x_bad, x_icmp (fun a b => b ≤ a) 100, x_bad, x_bad, x_aload 0 1, x_getR 5 2, x_bad, x_bad, x_iload 1 1, x_new 1, x_bad, x_bad, x_dup, x_callI mX1_init 0, x_bad, x_bad, x_aast 1, x_iinc 1 (nI 1), x_bad, x_bad, x_goto 74, x_bad, x_bad, x_push (.int (nI 0)) 1, x_istore 1 1, x_iload 1 1, x_push (.int (nI 8)) 2, x_bad, x_icmp (fun a b => b ≤ a) 140, x_bad, x_bad, x_aload 0 1, x_getR 5 3, x_bad, x_bad, x_iload 1 1, x_new 1, x_bad, x_bad, x_dup, x_callI mX1_init 0, x_bad, x_bad, x_aast 1, x_aload 0 1, x_getR 5 4, x_bad, x_bad, x_iload 1 1, x_new 1, x_bad, x_bad, x_dup, x_callI mX1_init 0, x_bad, x_bad, x_aast 1, x_iinc 1 (nI 1), x_bad, x_bad, x_goto 102, x_bad, x_bad, x_vret]
set_option maxRecDepth 20000 in
theorem okX5_init : SndT RX5 cX5_init mX5_init.2.2.1 mX5_init.2.2.2.2.1 mX5_init.2.2.2.2.2 true mX5_init.2.2.2.1 0 tX5_init := ⟨s_aload_n (k := 0) (i := 0) (by decide +kernel) rfl, s_objinit (by decide +kernel) tb_282 tb_90 tb_91 (by decide) (by decide), s_bad, s_bad, s_aload_n (k := 0) (i := 0) (by decide +kernel) rfl, s_bipush (n := 125) (by decide +kernel) (by decide +kernel), s_bad, s_newa_i (by decide +kernel) tb_110, s_bad, s_putR rfl (by decide +kernel) fl_RX5_9 fp_5_0 rfl (fun _ => ⟨rfl, rfl⟩) ⟨_, rfl, rfl⟩ (fun r hr => by cases hr; exact tb_286), s_bad, s_bad, s_aload_n (k := 0) (i := 0) (by decide +kernel) rfl, s_iconst (n := 0) (by decide +kernel) (by decide +kernel), s_putI (by decide +kernel) fl_RX5_15 fp_5_1 rfl, s_bad, s_bad, s_aload_n (k := 0) (i := 0) (by decide +kernel) rfl, s_sipush (n := 252) (by decide +kernel) (by decide +kernel), s_bad, s_bad, s_anewa (by decide +kernel) tb_283 (by decide) (by decide), s_bad, s_bad, s_putR rfl (by decide +kernel) fl_RX5_21 fp_5_2 rfl (fun _ => ⟨rfl, rfl⟩) ⟨_, rfl, rfl⟩ (fun r hr => by cases hr; exact tb_290), s_bad, s_bad, s_aload_n (k := 0) (i := 0) (by decide +kernel) rfl, s_bipush (n := 8) (by decide +kernel) (by decide +kernel), s_bad, s_anewa (by decide +kernel) tb_283 (by decide) (by decide), s_bad, s_bad, s_putR rfl (by decide +kernel) fl_RX5_25 fp_5_3 rfl (fun _ => ⟨rfl, rfl⟩) ⟨_, rfl, rfl⟩ (fun r hr => by cases hr; exact tb_291), s_bad, s_bad, s_aload_n (k := 0) (i := 0) (by decide +kernel) rfl, s_bipush (n := 8) (by decide +kernel) (by decide +kernel), s_bad, s_anewa (by decide +kernel) tb_283 (by decide) (by decide), s_bad, s_bad, s_putR rfl (by decide +kernel) fl_RX5_28 fp_5_4 rfl (fun _ => ⟨rfl, rfl⟩) ⟨_, rfl, rfl⟩ (fun r hr => by cases hr; exact tb_292), s_bad, s_bad, s_aload_n (k := 0) (i := 0) (by decide +kernel) rfl, s_new (by decide +kernel) nok_1 ⟨_, rfl, tb_283⟩, s_bad, s_bad, s_dup (by decide +kernel), s_callI (by decide +kernel) li_RX5_31 ⟨by decide, by decide⟩, s_bad, s_bad, s_putR rfl (by decide +kernel) fl_RX5_32 fp_5_5 rfl (fun _ => ⟨rfl, rfl⟩) ⟨_, rfl, rfl⟩ (fun r hr => by cases hr; exact tb_293), s_bad, s_bad, s_aload_n (k := 0) (i := 0) (by decide +kernel) rfl, s_new (by decide +kernel) nok_1 ⟨_, rfl, tb_283⟩, s_bad, s_bad, s_dup (by decide +kernel), s_callI (by decide +kernel) li_RX5_31 ⟨by decide, by decide⟩, s_bad, s_bad, s_putR rfl (by decide +kernel) fl_RX5_36 fp_5_6 rfl (fun _ => ⟨rfl, rfl⟩) ⟨_, rfl, rfl⟩ (fun r hr => by cases hr; exact tb_296), s_bad, s_bad, s_aload_n (k := 0) (i := 0) (by decide +kernel) rfl, s_iconst (n := 0) (by decide +kernel) (by decide +kernel), s_putI (by decide +kernel) fl_RX5_39 fp_5_7 rfl, s_bad, s_bad, s_iconst (n := 0) (by decide +kernel) (by decide +kernel), s_istore_n (k := 1) (i := 1) (by decide +kernel) rfl (by decide), s_iload_n (k := 1) (i := 1) (by decide +kernel) rfl, s_sipush (n := 252) (by decide +kernel) (by decide +kernel), s_bad, s_bad, s_icmp_ge (off := 22) (by decide +kernel) (by decide), s_bad, s_bad, s_aload_n (k := 0) (i := 0) (by decide +kernel) rfl, s_getR (by decide +kernel) fl_RX5_21 rfl, s_bad, s_bad, s_iload_n (k := 1) (i := 1) (by decide +kernel) rfl, s_new (by decide +kernel) nok_1 ⟨_, rfl, tb_283⟩, s_bad, s_bad, s_dup (by decide +kernel), s_callI (by decide +kernel) li_RX5_31 ⟨by decide, by decide⟩, s_bad, s_bad, s_aast (by decide +kernel), s_iinc (n := 1) (by decide +kernel) (by decide +kernel) (by decide), s_bad, s_bad, s_goto (off := (-23)) (by decide +kernel) (by decide), s_bad, s_bad, s_iconst (n := 0) (by decide +kernel) (by decide +kernel), s_istore_n (k := 1) (i := 1) (by decide +kernel) rfl (by decide), s_iload_n (k := 1) (i := 1) (by decide +kernel) rfl, s_bipush (n := 8) (by decide +kernel) (by decide +kernel), s_bad, s_icmp_ge (off := 35) (by decide +kernel) (by decide), s_bad, s_bad, s_aload_n (k := 0) (i := 0) (by decide +kernel) rfl, s_getR (by decide +kernel) fl_RX5_25 rfl, s_bad, s_bad, s_iload_n (k := 1) (i := 1) (by decide +kernel) rfl, s_new (by decide +kernel) nok_1 ⟨_, rfl, tb_283⟩, s_bad, s_bad, s_dup (by decide +kernel), s_callI (by decide +kernel) li_RX5_31 ⟨by decide, by decide⟩, s_bad, s_bad, s_aast (by decide +kernel), s_aload_n (k := 0) (i := 0) (by decide +kernel) rfl, s_getR (by decide +kernel) fl_RX5_28 rfl, s_bad, s_bad, s_iload_n (k := 1) (i := 1) (by decide +kernel) rfl, s_new (by decide +kernel) nok_1 ⟨_, rfl, tb_283⟩, s_bad, s_bad, s_dup (by decide +kernel), s_callI (by decide +kernel) li_RX5_31 ⟨by decide, by decide⟩, s_bad, s_bad, s_aast (by decide +kernel), s_iinc (n := 1) (by decide +kernel) (by decide +kernel) (by decide), s_bad, s_bad, s_goto (off := (-35)) (by decide +kernel) (by decide), s_bad, s_bad, s_vret (by decide +kernel) rfl, trivial⟩
theorem kX5_init_0 : List.getD tX5_init 0 x_bad = x_aload 0 1 := rfl
theorem kX5_init_1 : List.getD tX5_init 1 x_bad = x_objinit := rfl
theorem kX5_init_4 : List.getD tX5_init 4 x_bad = x_aload 0 1 := rfl
theorem kX5_init_5 : List.getD tX5_init 5 x_bad = x_push (.int (nI 125)) 2 := rfl
theorem kX5_init_7 : List.getD tX5_init 7 x_bad = x_newa 20 := rfl
theorem kX5_init_9 : List.getD tX5_init 9 x_bad = x_putR 5 0 := rfl
theorem kX5_init_12 : List.getD tX5_init 12 x_bad = x_aload 0 1 := rfl
theorem kX5_init_13 : List.getD tX5_init 13 x_bad = x_push (.int (nI 0)) 1 := rfl
theorem kX5_init_14 : List.getD tX5_init 14 x_bad = x_putI 5 1 := rfl
theorem kX5_init_17 : List.getD tX5_init 17 x_bad = x_aload 0 1 := rfl
theorem kX5_init_18 : List.getD tX5_init 18 x_bad = x_push (.int (nI 252)) 3 := rfl
theorem kX5_init_21 : List.getD tX5_init 21 x_bad = x_anewa 25 := rfl
theorem kX5_init_24 : List.getD tX5_init 24 x_bad = x_putR 5 2 := rfl
theorem kX5_init_27 : List.getD tX5_init 27 x_bad = x_aload 0 1 := rfl
theorem kX5_init_28 : List.getD tX5_init 28 x_bad = x_push (.int (nI 8)) 2 := rfl
theorem kX5_init_30 : List.getD tX5_init 30 x_bad = x_anewa 25 := rfl
theorem kX5_init_33 : List.getD tX5_init 33 x_bad = x_putR 5 3 := rfl
theorem kX5_init_36 : List.getD tX5_init 36 x_bad = x_aload 0 1 := rfl
theorem kX5_init_37 : List.getD tX5_init 37 x_bad = x_push (.int (nI 8)) 2 := rfl
theorem kX5_init_39 : List.getD tX5_init 39 x_bad = x_anewa 25 := rfl
theorem kX5_init_42 : List.getD tX5_init 42 x_bad = x_putR 5 4 := rfl
theorem kX5_init_45 : List.getD tX5_init 45 x_bad = x_aload 0 1 := rfl
theorem kX5_init_46 : List.getD tX5_init 46 x_bad = x_new 1 := rfl
theorem kX5_init_49 : List.getD tX5_init 49 x_bad = x_dup := rfl
theorem kX5_init_50 : List.getD tX5_init 50 x_bad = x_callI mX1_init 0 := rfl
theorem kX5_init_53 : List.getD tX5_init 53 x_bad = x_putR 5 5 := rfl
theorem kX5_init_56 : List.getD tX5_init 56 x_bad = x_aload 0 1 := rfl
theorem kX5_init_57 : List.getD tX5_init 57 x_bad = x_new 1 := rfl
theorem kX5_init_60 : List.getD tX5_init 60 x_bad = x_dup := rfl
theorem kX5_init_61 : List.getD tX5_init 61 x_bad = x_callI mX1_init 0 := rfl
theorem kX5_init_64 : List.getD tX5_init 64 x_bad = x_putR 5 6 := rfl
theorem kX5_init_67 : List.getD tX5_init 67 x_bad = x_aload 0 1 := rfl
theorem kX5_init_68 : List.getD tX5_init 68 x_bad = x_push (.int (nI 0)) 1 := rfl
theorem kX5_init_69 : List.getD tX5_init 69 x_bad = x_putI 5 7 := rfl
theorem kX5_init_72 : List.getD tX5_init 72 x_bad = x_push (.int (nI 0)) 1 := rfl
theorem kX5_init_73 : List.getD tX5_init 73 x_bad = x_istore 1 1 := rfl
theorem kX5_init_74 : List.getD tX5_init 74 x_bad = x_iload 1 1 := rfl
theorem kX5_init_75 : List.getD tX5_init 75 x_bad = x_push (.int (nI 252)) 3 := rfl
theorem kX5_init_78 : List.getD tX5_init 78 x_bad = x_icmp (fun a b => b ≤ a) 100 := rfl
theorem kX5_init_81 : List.getD tX5_init 81 x_bad = x_aload 0 1 := rfl
theorem kX5_init_82 : List.getD tX5_init 82 x_bad = x_getR 5 2 := rfl
theorem kX5_init_85 : List.getD tX5_init 85 x_bad = x_iload 1 1 := rfl
theorem kX5_init_86 : List.getD tX5_init 86 x_bad = x_new 1 := rfl
theorem kX5_init_89 : List.getD tX5_init 89 x_bad = x_dup := rfl
theorem kX5_init_90 : List.getD tX5_init 90 x_bad = x_callI mX1_init 0 := rfl
theorem kX5_init_93 : List.getD tX5_init 93 x_bad = x_aast 1 := rfl
theorem kX5_init_94 : List.getD tX5_init 94 x_bad = x_iinc 1 (nI 1) := rfl
theorem kX5_init_97 : List.getD tX5_init 97 x_bad = x_goto 74 := rfl
theorem kX5_init_100 : List.getD tX5_init 100 x_bad = x_push (.int (nI 0)) 1 := rfl
theorem kX5_init_101 : List.getD tX5_init 101 x_bad = x_istore 1 1 := rfl
theorem kX5_init_102 : List.getD tX5_init 102 x_bad = x_iload 1 1 := rfl
theorem kX5_init_103 : List.getD tX5_init 103 x_bad = x_push (.int (nI 8)) 2 := rfl
theorem kX5_init_105 : List.getD tX5_init 105 x_bad = x_icmp (fun a b => b ≤ a) 140 := rfl
theorem kX5_init_108 : List.getD tX5_init 108 x_bad = x_aload 0 1 := rfl
theorem kX5_init_109 : List.getD tX5_init 109 x_bad = x_getR 5 3 := rfl
theorem kX5_init_112 : List.getD tX5_init 112 x_bad = x_iload 1 1 := rfl
theorem kX5_init_113 : List.getD tX5_init 113 x_bad = x_new 1 := rfl
theorem kX5_init_116 : List.getD tX5_init 116 x_bad = x_dup := rfl
theorem kX5_init_117 : List.getD tX5_init 117 x_bad = x_callI mX1_init 0 := rfl
theorem kX5_init_120 : List.getD tX5_init 120 x_bad = x_aast 1 := rfl
theorem kX5_init_121 : List.getD tX5_init 121 x_bad = x_aload 0 1 := rfl
theorem kX5_init_122 : List.getD tX5_init 122 x_bad = x_getR 5 4 := rfl
theorem kX5_init_125 : List.getD tX5_init 125 x_bad = x_iload 1 1 := rfl
theorem kX5_init_126 : List.getD tX5_init 126 x_bad = x_new 1 := rfl
theorem kX5_init_129 : List.getD tX5_init 129 x_bad = x_dup := rfl
theorem kX5_init_130 : List.getD tX5_init 130 x_bad = x_callI mX1_init 0 := rfl
theorem kX5_init_133 : List.getD tX5_init 133 x_bad = x_aast 1 := rfl
theorem kX5_init_134 : List.getD tX5_init 134 x_bad = x_iinc 1 (nI 1) := rfl
theorem kX5_init_137 : List.getD tX5_init 137 x_bad = x_goto 102 := rfl
theorem kX5_init_140 : List.getD tX5_init 140 x_bad = x_vret := rfl
def tX5_solvedAlone : List PT := [x_aload 0 1, x_getR 5 6, x_bad, x_bad, x_aload 0 1, x_getR 5 2, x_bad, x_bad, x_aload 0 1, x_getR 5 0, x_bad, x_bad, x_iload 1 1, x_iald, x_aald, x_callV1 1 mX1_become, x_bad, x_bad, x_push (.int (nI 0)) 1, x_istore 2 1, x_iload 2 1, x_aload 0 1, x_getI 5 1, x_bad, x_bad, x_icmp (fun a b => b ≤ a) 57, x_bad, x_bad, x_iload 2 1, x_iload 1 1, x_icmp (fun a b => a = b) 51, x_bad, x_bad, x_aload 0 1, x_getR 5 6, x_bad, x_bad, x_aload 0 1, x_getR 5 2, x_bad, x_bad, x_aload 0 1, x_getR 5 0, x_bad, x_bad, x_iload 2 1, x_iald, x_aald, x_callV1 1 mX1_remove, x_bad, x_bad, x_iinc 2 (nI 1), x_bad, x_bad, x_goto 20, x_bad, x_bad, x_aload 0 1, x_getR 5 6, x_bad, x_bad, x_callV0 1 mX1_size, x_bad, x_bad, x_iret]
set_option maxRecDepth 20000 in
theorem okX5_solvedAlone : SndT RX5 cX5_solvedAlone mX5_solvedAlone.2.2.1 mX5_solvedAlone.2.2.2.2.1 mX5_solvedAlone.2.2.2.2.2 false mX5_solvedAlone.2.2.2.1 0 tX5_solvedAlone := ⟨s_aload_n (k := 0) (i := 0) (by decide +kernel) rfl, s_getR (by decide +kernel) fl_RX5_36 rfl, s_bad, s_bad, s_aload_n (k := 0) (i := 0) (by decide +kernel) rfl, s_getR (by decide +kernel) fl_RX5_21 rfl, s_bad, s_bad, s_aload_n (k := 0) (i := 0) (by decide +kernel) rfl, s_getR (by decide +kernel) fl_RX5_9 rfl, s_bad, s_bad, s_iload_n (k := 1) (i := 1) (by decide +kernel) rfl, s_iald (by decide +kernel), s_aald (by decide +kernel), s_callV1 (by decide +kernel) lv_RX5_77 ⟨by decide, by decide⟩, s_bad, s_bad, s_iconst (n := 0) (by decide +kernel) (by decide +kernel), s_istore_n (k := 2) (i := 2) (by decide +kernel) rfl (by decide), s_iload_n (k := 2) (i := 2) (by decide +kernel) rfl, s_aload_n (k := 0) (i := 0) (by decide +kernel) rfl, s_getI (by decide +kernel) fl_RX5_15 rfl, s_bad, s_bad, s_icmp_ge (off := 32) (by decide +kernel) (by decide), s_bad, s_bad, s_iload_n (k := 2) (i := 2) (by decide +kernel) rfl, s_iload_n (k := 1) (i := 1) (by decide +kernel) rfl, s_icmp_eq (off := 21) (by decide +kernel) (by decide), s_bad, s_bad, s_aload_n (k := 0) (i := 0) (by decide +kernel) rfl, s_getR (by decide +kernel) fl_RX5_36 rfl, s_bad, s_bad, s_aload_n (k := 0) (i := 0) (by decide +kernel) rfl, s_getR (by decide +kernel) fl_RX5_21 rfl, s_bad, s_bad, s_aload_n (k := 0) (i := 0) (by decide +kernel) rfl, s_getR (by decide +kernel) fl_RX5_9 rfl, s_bad, s_bad, s_iload_n (k := 2) (i := 2) (by decide +kernel) rfl, s_iald (by decide +kernel), s_aald (by decide +kernel), s_callV1 (by decide +kernel) lv_RX5_85 ⟨by decide, by decide⟩, s_bad, s_bad, s_iinc (n := 1) (by decide +kernel) (by decide +kernel) (by decide), s_bad, s_bad, s_goto (off := (-34)) (by decide +kernel) (by decide), s_bad, s_bad, s_aload_n (k := 0) (i := 0) (by decide +kernel) rfl, s_getR (by decide +kernel) fl_RX5_36 rfl, s_bad, s_bad, s_callV0 (by decide +kernel) lv_RX5_95 ⟨by decide, by decide⟩, s_bad, s_bad, s_iret (by decide +kernel) rfl, trivial⟩
theorem kX5_solvedAlone_0 : List.getD tX5_solvedAlone 0 x_bad = x_aload 0 1 := rfl
theorem kX5_solvedAlone_1 : List.getD tX5_solvedAlone 1 x_bad = x_getR 5 6 := rfl
theorem kX5_solvedAlone_4 : List.getD tX5_solvedAlone 4 x_bad = x_aload 0 1 := rfl
theorem kX5_solvedAlone_5 : List.getD tX5_solvedAlone 5 x_bad = x_getR 5 2 := rfl
theorem kX5_solvedAlone_8 : List.getD tX5_solvedAlone 8 x_bad = x_aload 0 1 := rfl
theorem kX5_solvedAlone_9 : List.getD tX5_solvedAlone 9 x_bad = x_getR 5 0 := rfl
theorem kX5_solvedAlone_12 : List.getD tX5_solvedAlone 12 x_bad = x_iload 1 1 := rfl
theorem kX5_solvedAlone_13 : List.getD tX5_solvedAlone 13 x_bad = x_iald := rfl
theorem kX5_solvedAlone_14 : List.getD tX5_solvedAlone 14 x_bad = x_aald := rfl
theorem kX5_solvedAlone_15 : List.getD tX5_solvedAlone 15 x_bad = x_callV1 1 mX1_become := rfl
theorem kX5_solvedAlone_18 : List.getD tX5_solvedAlone 18 x_bad = x_push (.int (nI 0)) 1 := rfl
theorem kX5_solvedAlone_19 : List.getD tX5_solvedAlone 19 x_bad = x_istore 2 1 := rfl
theorem kX5_solvedAlone_20 : List.getD tX5_solvedAlone 20 x_bad = x_iload 2 1 := rfl
theorem kX5_solvedAlone_21 : List.getD tX5_solvedAlone 21 x_bad = x_aload 0 1 := rfl
theorem kX5_solvedAlone_22 : List.getD tX5_solvedAlone 22 x_bad = x_getI 5 1 := rfl
theorem kX5_solvedAlone_25 : List.getD tX5_solvedAlone 25 x_bad = x_icmp (fun a b => b ≤ a) 57 := rfl
theorem kX5_solvedAlone_28 : List.getD tX5_solvedAlone 28 x_bad = x_iload 2 1 := rfl
theorem kX5_solvedAlone_29 : List.getD tX5_solvedAlone 29 x_bad = x_iload 1 1 := rfl
theorem kX5_solvedAlone_30 : List.getD tX5_solvedAlone 30 x_bad = x_icmp (fun a b => a = b) 51 := rfl
theorem kX5_solvedAlone_33 : List.getD tX5_solvedAlone 33 x_bad = x_aload 0 1 := rfl
theorem kX5_solvedAlone_34 : List.getD tX5_solvedAlone 34 x_bad = x_getR 5 6 := rfl
theorem kX5_solvedAlone_37 : List.getD tX5_solvedAlone 37 x_bad = x_aload 0 1 := rfl
theorem kX5_solvedAlone_38 : List.getD tX5_solvedAlone 38 x_bad = x_getR 5 2 := rfl
theorem kX5_solvedAlone_41 : List.getD tX5_solvedAlone 41 x_bad = x_aload 0 1 := rfl
theorem kX5_solvedAlone_42 : List.getD tX5_solvedAlone 42 x_bad = x_getR 5 0 := rfl
theorem kX5_solvedAlone_45 : List.getD tX5_solvedAlone 45 x_bad = x_iload 2 1 := rfl
theorem kX5_solvedAlone_46 : List.getD tX5_solvedAlone 46 x_bad = x_iald := rfl
theorem kX5_solvedAlone_47 : List.getD tX5_solvedAlone 47 x_bad = x_aald := rfl
theorem kX5_solvedAlone_48 : List.getD tX5_solvedAlone 48 x_bad = x_callV1 1 mX1_remove := rfl
theorem kX5_solvedAlone_51 : List.getD tX5_solvedAlone 51 x_bad = x_iinc 2 (nI 1) := rfl
theorem kX5_solvedAlone_54 : List.getD tX5_solvedAlone 54 x_bad = x_goto 20 := rfl
theorem kX5_solvedAlone_57 : List.getD tX5_solvedAlone 57 x_bad = x_aload 0 1 := rfl
theorem kX5_solvedAlone_58 : List.getD tX5_solvedAlone 58 x_bad = x_getR 5 6 := rfl
theorem kX5_solvedAlone_61 : List.getD tX5_solvedAlone 61 x_bad = x_callV0 1 mX1_size := rfl
theorem kX5_solvedAlone_64 : List.getD tX5_solvedAlone 64 x_bad = x_iret := rfl
def tX6_follow : List PT := [x_aload 1 1, x_iload 3 1, x_aload 0 1, x_getR 6 0, x_bad, x_bad, x_iload 2 1, x_aald, x_callV2 5 mX5_canOccur, x_bad, x_bad, x_ifn (fun a => a = 0) 16, x_bad, x_bad, x_push (.int (-1)) 1, x_iret, x_aload 0 1, x_dup, x_getI 6 5, x_bad, x_bad, x_push (.int (nI 1)) 1, x_ii (fun a b => a + b), x_putI 6 5, x_bad, x_bad, x_aload 0 1, x_getR 6 3, x_bad, x_bad, x_aload 0 1, x_getR 6 0, x_bad, x_bad, x_iload 2 1, x_aald, x_callV1 1 mX1_become, x_bad, x_bad, x_aload 1 1, x_iload 3 1, x_aload 0 1, x_getR 6 3, x_bad, x_bad, x_callV2 5 mX5_occur, x_bad, x_bad, x_push (.int (nI 0)) 1, x_istore 4 2, x_bad, x_iload 4 2, x_bad, x_aload 0 1, x_getI 6 4, x_bad, x_bad, x_icmp (fun a b => b ≤ a) 86, x_bad, x_bad, x_aload 0 1, x_getR 6 0, x_bad, x_bad, x_iload 4 2, x_bad, x_aald, x_aload 0 1, x_getR 6 3, x_bad, x_bad, x_callV1 1 mX1_same, x_bad, x_bad, x_if (fun a => a = 0) 80, x_bad, x_bad, x_iload 4 2, x_bad, x_iret, x_iinc 4 (nI 1), x_bad, x_bad, x_goto 51, x_bad, x_bad, x_aload 0 1, x_getI 6 4, x_bad, x_bad, x_push (.int (nI 100)) 2, x_bad, x_icmp (fun a b => a < b) 102, x_bad, x_bad, x_aload 0 1, x_push (.int (nI 1)) 1, x_putZ 6 7, x_bad, x_bad, x_push (.int (-1)) 1, x_iret, x_aload 0 1, x_getR 6 0, x_bad, x_bad, x_aload 0 1, x_getI 6 4, x_bad, x_bad, x_aald, x_aload 0 1, x_getR 6 3, x_bad, x_bad, x_callV1 1 mX1_become, x_bad, x_bad, x_aload 0 1, x_dup, x_getI 6 4, x_bad, x_bad, x_push (.int (nI 1)) 1, x_ii (fun a b => a + b), x_putI 6 4, x_bad, x_bad, x_aload 0 1, x_getI 6 4, x_bad, x_bad, x_push (.int (nI 1)) 1, x_ii (fun a b => a - b), x_iret]
set_option maxRecDepth 20000 in
theorem okX6_follow : SndT RX6 cX6_follow mX6_follow.2.2.1 mX6_follow.2.2.2.2.1 mX6_follow.2.2.2.2.2 false mX6_follow.2.2.2.1 0 tX6_follow := ⟨s_aload_n (k := 1) (i := 1) (by decide +kernel) rfl, s_iload_n (k := 3) (i := 3) (by decide +kernel) rfl, s_aload_n (k := 0) (i := 0) (by decide +kernel) rfl, s_getR (by decide +kernel) fl_RX6_11 rfl, s_bad, s_bad, s_iload_n (k := 2) (i := 2) (by decide +kernel) rfl, s_aald (by decide +kernel), s_callV2 (by decide +kernel) lv_RX6_56 ⟨by decide, by decide⟩, s_bad, s_bad, s_if_ne (off := 5) (by decide +kernel) (by decide), s_bad, s_bad, s_iconst (n := (-1)) (by decide +kernel) (by decide +kernel), s_iret (by decide +kernel) rfl, s_aload_n (k := 0) (i := 0) (by decide +kernel) rfl, s_dup (by decide +kernel), s_getI (by decide +kernel) fl_RX6_33 rfl, s_bad, s_bad, s_iconst (n := 1) (by decide +kernel) (by decide +kernel), s_iadd (by decide +kernel), s_putI (by decide +kernel) fl_RX6_33 fp_6_5 rfl, s_bad, s_bad, s_aload_n (k := 0) (i := 0) (by decide +kernel) rfl, s_getR (by decide +kernel) fl_RX6_25 rfl, s_bad, s_bad, s_aload_n (k := 0) (i := 0) (by decide +kernel) rfl, s_getR (by decide +kernel) fl_RX6_11 rfl, s_bad, s_bad, s_iload_n (k := 2) (i := 2) (by decide +kernel) rfl, s_aald (by decide +kernel), s_callV1 (by decide +kernel) lv_RX6_48 ⟨by decide, by decide⟩, s_bad, s_bad, s_aload_n (k := 1) (i := 1) (by decide +kernel) rfl, s_iload_n (k := 3) (i := 3) (by decide +kernel) rfl, s_aload_n (k := 0) (i := 0) (by decide +kernel) rfl, s_getR (by decide +kernel) fl_RX6_25 rfl, s_bad, s_bad, s_callV2 (by decide +kernel) lv_RX6_60 ⟨by decide, by decide⟩, s_bad, s_bad, s_iconst (n := 0) (by decide +kernel) (by decide +kernel), s_istore (by decide +kernel) (by decide), s_bad, s_iload (by decide +kernel), s_bad, s_aload_n (k := 0) (i := 0) (by decide +kernel) rfl, s_getI (by decide +kernel) fl_RX6_29 rfl, s_bad, s_bad, s_icmp_ge (off := 29) (by decide +kernel) (by decide), s_bad, s_bad, s_aload_n (k := 0) (i := 0) (by decide +kernel) rfl, s_getR (by decide +kernel) fl_RX6_11 rfl, s_bad, s_bad, s_iload (by decide +kernel), s_bad, s_aald (by decide +kernel), s_aload_n (k := 0) (i := 0) (by decide +kernel) rfl, s_getR (by decide +kernel) fl_RX6_25 rfl, s_bad, s_bad, s_callV1 (by decide +kernel) lv_RX6_64 ⟨by decide, by decide⟩, s_bad, s_bad, s_if_eq (off := 6) (by decide +kernel) (by decide), s_bad, s_bad, s_iload (by decide +kernel), s_bad, s_iret (by decide +kernel) rfl, s_iinc (n := 1) (by decide +kernel) (by decide +kernel) (by decide), s_bad, s_bad, s_goto (off := (-32)) (by decide +kernel) (by decide), s_bad, s_bad, s_aload_n (k := 0) (i := 0) (by decide +kernel) rfl, s_getI (by decide +kernel) fl_RX6_29 rfl, s_bad, s_bad, s_bipush (n := 100) (by decide +kernel) (by decide +kernel), s_bad, s_icmp_lt (off := 10) (by decide +kernel) (by decide), s_bad, s_bad, s_aload_n (k := 0) (i := 0) (by decide +kernel) rfl, s_iconst (n := 1) (by decide +kernel) (by decide +kernel), s_putZ (by decide +kernel) fl_RX6_39 fp_6_7 rfl, s_bad, s_bad, s_iconst (n := (-1)) (by decide +kernel) (by decide +kernel), s_iret (by decide +kernel) rfl, s_aload_n (k := 0) (i := 0) (by decide +kernel) rfl, s_getR (by decide +kernel) fl_RX6_11 rfl, s_bad, s_bad, s_aload_n (k := 0) (i := 0) (by decide +kernel) rfl, s_getI (by decide +kernel) fl_RX6_29 rfl, s_bad, s_bad, s_aald (by decide +kernel), s_aload_n (k := 0) (i := 0) (by decide +kernel) rfl, s_getR (by decide +kernel) fl_RX6_25 rfl, s_bad, s_bad, s_callV1 (by decide +kernel) lv_RX6_48 ⟨by decide, by decide⟩, s_bad, s_bad, s_aload_n (k := 0) (i := 0) (by decide +kernel) rfl, s_dup (by decide +kernel), s_getI (by decide +kernel) fl_RX6_29 rfl, s_bad, s_bad, s_iconst (n := 1) (by decide +kernel) (by decide +kernel), s_iadd (by decide +kernel), s_putI (by decide +kernel) fl_RX6_29 fp_6_4 rfl, s_bad, s_bad, s_aload_n (k := 0) (i := 0) (by decide +kernel) rfl, s_getI (by decide +kernel) fl_RX6_29 rfl, s_bad, s_bad, s_iconst (n := 1) (by decide +kernel) (by decide +kernel), s_isub (by decide +kernel), s_iret (by decide +kernel) rfl, trivial⟩
theorem kX6_follow_0 : List.getD tX6_follow 0 x_bad = x_aload 1 1 := rfl
theorem kX6_follow_1 : List.getD tX6_follow 1 x_bad = x_iload 3 1 := rfl
theorem kX6_follow_2 : List.getD tX6_follow 2 x_bad = x_aload 0 1 := rfl
theorem kX6_follow_3 : List.getD tX6_follow 3 x_bad = x_getR 6 0 := rfl
theorem kX6_follow_6 : List.getD tX6_follow 6 x_bad = x_iload 2 1 := rfl
theorem kX6_follow_7 : List.getD tX6_follow 7 x_bad = x_aald := rfl
theorem kX6_follow_8 : List.getD tX6_follow 8 x_bad = x_callV2 5 mX5_canOccur := rfl
theorem kX6_follow_11 : List.getD tX6_follow 11 x_bad = x_ifn (fun a => a = 0) 16 := rfl
theorem kX6_follow_14 : List.getD tX6_follow 14 x_bad = x_push (.int (-1)) 1 := rfl
theorem kX6_follow_15 : List.getD tX6_follow 15 x_bad = x_iret := rfl
theorem kX6_follow_16 : List.getD tX6_follow 16 x_bad = x_aload 0 1 := rfl
theorem kX6_follow_17 : List.getD tX6_follow 17 x_bad = x_dup := rfl
theorem kX6_follow_18 : List.getD tX6_follow 18 x_bad = x_getI 6 5 := rfl
theorem kX6_follow_21 : List.getD tX6_follow 21 x_bad = x_push (.int (nI 1)) 1 := rfl
theorem kX6_follow_22 : List.getD tX6_follow 22 x_bad = x_ii (fun a b => a + b) := rfl
theorem kX6_follow_23 : List.getD tX6_follow 23 x_bad = x_putI 6 5 := rfl
theorem kX6_follow_26 : List.getD tX6_follow 26 x_bad = x_aload 0 1 := rfl
theorem kX6_follow_27 : List.getD tX6_follow 27 x_bad = x_getR 6 3 := rfl
theorem kX6_follow_30 : List.getD tX6_follow 30 x_bad = x_aload 0 1 := rfl
theorem kX6_follow_31 : List.getD tX6_follow 31 x_bad = x_getR 6 0 := rfl
theorem kX6_follow_34 : List.getD tX6_follow 34 x_bad = x_iload 2 1 := rfl
theorem kX6_follow_35 : List.getD tX6_follow 35 x_bad = x_aald := rfl
theorem kX6_follow_36 : List.getD tX6_follow 36 x_bad = x_callV1 1 mX1_become := rfl
theorem kX6_follow_39 : List.getD tX6_follow 39 x_bad = x_aload 1 1 := rfl
theorem kX6_follow_40 : List.getD tX6_follow 40 x_bad = x_iload 3 1 := rfl
theorem kX6_follow_41 : List.getD tX6_follow 41 x_bad = x_aload 0 1 := rfl
theorem kX6_follow_42 : List.getD tX6_follow 42 x_bad = x_getR 6 3 := rfl
theorem kX6_follow_45 : List.getD tX6_follow 45 x_bad = x_callV2 5 mX5_occur := rfl
theorem kX6_follow_48 : List.getD tX6_follow 48 x_bad = x_push (.int (nI 0)) 1 := rfl
theorem kX6_follow_49 : List.getD tX6_follow 49 x_bad = x_istore 4 2 := rfl
theorem kX6_follow_51 : List.getD tX6_follow 51 x_bad = x_iload 4 2 := rfl
theorem kX6_follow_53 : List.getD tX6_follow 53 x_bad = x_aload 0 1 := rfl
theorem kX6_follow_54 : List.getD tX6_follow 54 x_bad = x_getI 6 4 := rfl
theorem kX6_follow_57 : List.getD tX6_follow 57 x_bad = x_icmp (fun a b => b ≤ a) 86 := rfl
theorem kX6_follow_60 : List.getD tX6_follow 60 x_bad = x_aload 0 1 := rfl
theorem kX6_follow_61 : List.getD tX6_follow 61 x_bad = x_getR 6 0 := rfl
theorem kX6_follow_64 : List.getD tX6_follow 64 x_bad = x_iload 4 2 := rfl
theorem kX6_follow_66 : List.getD tX6_follow 66 x_bad = x_aald := rfl
theorem kX6_follow_67 : List.getD tX6_follow 67 x_bad = x_aload 0 1 := rfl
theorem kX6_follow_68 : List.getD tX6_follow 68 x_bad = x_getR 6 3 := rfl
theorem kX6_follow_71 : List.getD tX6_follow 71 x_bad = x_callV1 1 mX1_same := rfl
theorem kX6_follow_74 : List.getD tX6_follow 74 x_bad = x_if (fun a => a = 0) 80 := rfl
theorem kX6_follow_77 : List.getD tX6_follow 77 x_bad = x_iload 4 2 := rfl
theorem kX6_follow_79 : List.getD tX6_follow 79 x_bad = x_iret := rfl
theorem kX6_follow_80 : List.getD tX6_follow 80 x_bad = x_iinc 4 (nI 1) := rfl
theorem kX6_follow_83 : List.getD tX6_follow 83 x_bad = x_goto 51 := rfl
theorem kX6_follow_86 : List.getD tX6_follow 86 x_bad = x_aload 0 1 := rfl
theorem kX6_follow_87 : List.getD tX6_follow 87 x_bad = x_getI 6 4 := rfl
theorem kX6_follow_90 : List.getD tX6_follow 90 x_bad = x_push (.int (nI 100)) 2 := rfl
theorem kX6_follow_92 : List.getD tX6_follow 92 x_bad = x_icmp (fun a b => a < b) 102 := rfl
theorem kX6_follow_95 : List.getD tX6_follow 95 x_bad = x_aload 0 1 := rfl
theorem kX6_follow_96 : List.getD tX6_follow 96 x_bad = x_push (.int (nI 1)) 1 := rfl
theorem kX6_follow_97 : List.getD tX6_follow 97 x_bad = x_putZ 6 7 := rfl
theorem kX6_follow_100 : List.getD tX6_follow 100 x_bad = x_push (.int (-1)) 1 := rfl
theorem kX6_follow_101 : List.getD tX6_follow 101 x_bad = x_iret := rfl
theorem kX6_follow_102 : List.getD tX6_follow 102 x_bad = x_aload 0 1 := rfl
theorem kX6_follow_103 : List.getD tX6_follow 103 x_bad = x_getR 6 0 := rfl
theorem kX6_follow_106 : List.getD tX6_follow 106 x_bad = x_aload 0 1 := rfl
theorem kX6_follow_107 : List.getD tX6_follow 107 x_bad = x_getI 6 4 := rfl
theorem kX6_follow_110 : List.getD tX6_follow 110 x_bad = x_aald := rfl
theorem kX6_follow_111 : List.getD tX6_follow 111 x_bad = x_aload 0 1 := rfl
theorem kX6_follow_112 : List.getD tX6_follow 112 x_bad = x_getR 6 3 := rfl
theorem kX6_follow_115 : List.getD tX6_follow 115 x_bad = x_callV1 1 mX1_become := rfl
theorem kX6_follow_118 : List.getD tX6_follow 118 x_bad = x_aload 0 1 := rfl
theorem kX6_follow_119 : List.getD tX6_follow 119 x_bad = x_dup := rfl
theorem kX6_follow_120 : List.getD tX6_follow 120 x_bad = x_getI 6 4 := rfl
theorem kX6_follow_123 : List.getD tX6_follow 123 x_bad = x_push (.int (nI 1)) 1 := rfl
theorem kX6_follow_124 : List.getD tX6_follow 124 x_bad = x_ii (fun a b => a + b) := rfl
theorem kX6_follow_125 : List.getD tX6_follow 125 x_bad = x_putI 6 4 := rfl
theorem kX6_follow_128 : List.getD tX6_follow 128 x_bad = x_aload 0 1 := rfl
theorem kX6_follow_129 : List.getD tX6_follow 129 x_bad = x_getI 6 4 := rfl
theorem kX6_follow_132 : List.getD tX6_follow 132 x_bad = x_push (.int (nI 1)) 1 := rfl
theorem kX6_follow_133 : List.getD tX6_follow 133 x_bad = x_ii (fun a b => a - b) := rfl
theorem kX6_follow_134 : List.getD tX6_follow 134 x_bad = x_iret := rfl
def tX6_init : List PT := [x_aload 0 1, x_objinit, x_bad, x_bad, x_aload 0 1, x_push (.int (nI 100)) 2, x_bad, x_anewa 25, x_bad, x_bad, x_putR 6 0, x_bad, x_bad, x_aload 0 1, x_push (.int (nI 800)) 3, x_bad, x_bad, x_newa 20, x_bad, x_putR 6 1, x_bad, x_bad, x_aload 0 1, x_push (.int (nI 100)) 2, x_bad, x_newa 20, x_bad, x_putR 6 2, x_bad, x_bad, x_aload 0 1, x_new 1, x_bad, x_bad, x_dup, x_callI mX1_init 0, x_bad, x_bad, x_putR 6 3, x_bad, x_bad, x_aload 0 1, x_push (.int (nI 0)) 1, x_putI 6 4, x_bad, x_bad, x_aload 0 1, x_push (.int (nI 0)) 1, x_putI 6 5, x_bad, x_bad, x_aload 0 1, x_push (.int (nI 0)) 1, x_putI 6 6, x_bad, x_bad, x_aload 0 1, x_push (.int (nI 0)) 1, x_putZ 6 7, x_bad, x_bad, x_push (.int (nI 0)) 1, x_istore 1 1, x_iload 1 1, x_push (.int (nI 100)) 2, x_bad, x_icmp (fun a b => b ≤ a) 88, x_bad, x_bad, x_aload 0 1, x_getR 6 0, x_bad, x_bad, x_iload 1 1, x_new 1, x_bad, x_bad, x_dup, x_callI mX1_init 0, x_bad, x_bad, x_aast 1, x_iinc 1 (nI 1), x_bad, x_bad, x_goto 63, x_bad, x_bad, x_vret]
set_option maxRecDepth 20000 in
theorem okX6_init : SndT RX6 cX6_init mX6_init.2.2.1 mX6_init.2.2.2.2.1 mX6_init.2.2.2.2.2 true mX6_init.2.2.2.1 0 tX6_init := ⟨s_aload_n (k := 0) (i := 0) (by decide +kernel) rfl, s_objinit (by decide +kernel) tb_320 tb_90 tb_91 (by decide) (by decide), s_bad, s_bad, s_aload_n (k := 0) (i := 0) (by decide +kernel) rfl, s_bipush (n := 100) (by decide +kernel) (by decide +kernel), s_bad, s_anewa (by decide +kernel) tb_321 (by decide) (by decide), s_bad, s_bad, s_putR rfl (by decide +kernel) fl_RX6_11 fp_6_0 rfl (fun _ => ⟨rfl, rfl⟩) ⟨_, rfl, rfl⟩ (fun r hr => by cases hr; exact tb_323), s_bad, s_bad, s_aload_n (k := 0) (i := 0) (by decide +kernel) rfl, s_sipush (n := 800) (by decide +kernel) (by decide +kernel), s_bad, s_bad, s_newa_i (by decide +kernel) tb_110, s_bad, s_putR rfl (by decide +kernel) fl_RX6_17 fp_6_1 rfl (fun _ => ⟨rfl, rfl⟩) ⟨_, rfl, rfl⟩ (fun r hr => by cases hr; exact tb_324), s_bad, s_bad, s_aload_n (k := 0) (i := 0) (by decide +kernel) rfl, s_bipush (n := 100) (by decide +kernel) (by decide +kernel), s_bad, s_newa_i (by decide +kernel) tb_110, s_bad, s_putR rfl (by decide +kernel) fl_RX6_21 fp_6_2 rfl (fun _ => ⟨rfl, rfl⟩) ⟨_, rfl, rfl⟩ (fun r hr => by cases hr; exact tb_325), s_bad, s_bad, s_aload_n (k := 0) (i := 0) (by decide +kernel) rfl, s_new (by decide +kernel) nok_1 ⟨_, rfl, tb_321⟩, s_bad, s_bad, s_dup (by decide +kernel), s_callI (by decide +kernel) li_RX6_24 ⟨by decide, by decide⟩, s_bad, s_bad, s_putR rfl (by decide +kernel) fl_RX6_25 fp_6_3 rfl (fun _ => ⟨rfl, rfl⟩) ⟨_, rfl, rfl⟩ (fun r hr => by cases hr; exact tb_326), s_bad, s_bad, s_aload_n (k := 0) (i := 0) (by decide +kernel) rfl, s_iconst (n := 0) (by decide +kernel) (by decide +kernel), s_putI (by decide +kernel) fl_RX6_29 fp_6_4 rfl, s_bad, s_bad, s_aload_n (k := 0) (i := 0) (by decide +kernel) rfl, s_iconst (n := 0) (by decide +kernel) (by decide +kernel), s_putI (by decide +kernel) fl_RX6_33 fp_6_5 rfl, s_bad, s_bad, s_aload_n (k := 0) (i := 0) (by decide +kernel) rfl, s_iconst (n := 0) (by decide +kernel) (by decide +kernel), s_putI (by decide +kernel) fl_RX6_36 fp_6_6 rfl, s_bad, s_bad, s_aload_n (k := 0) (i := 0) (by decide +kernel) rfl, s_iconst (n := 0) (by decide +kernel) (by decide +kernel), s_putZ (by decide +kernel) fl_RX6_39 fp_6_7 rfl, s_bad, s_bad, s_iconst (n := 0) (by decide +kernel) (by decide +kernel), s_istore_n (k := 1) (i := 1) (by decide +kernel) rfl (by decide), s_iload_n (k := 1) (i := 1) (by decide +kernel) rfl, s_bipush (n := 100) (by decide +kernel) (by decide +kernel), s_bad, s_icmp_ge (off := 22) (by decide +kernel) (by decide), s_bad, s_bad, s_aload_n (k := 0) (i := 0) (by decide +kernel) rfl, s_getR (by decide +kernel) fl_RX6_11 rfl, s_bad, s_bad, s_iload_n (k := 1) (i := 1) (by decide +kernel) rfl, s_new (by decide +kernel) nok_1 ⟨_, rfl, tb_321⟩, s_bad, s_bad, s_dup (by decide +kernel), s_callI (by decide +kernel) li_RX6_24 ⟨by decide, by decide⟩, s_bad, s_bad, s_aast (by decide +kernel), s_iinc (n := 1) (by decide +kernel) (by decide +kernel) (by decide), s_bad, s_bad, s_goto (off := (-22)) (by decide +kernel) (by decide), s_bad, s_bad, s_vret (by decide +kernel) rfl, trivial⟩
theorem kX6_init_0 : List.getD tX6_init 0 x_bad = x_aload 0 1 := rfl
theorem kX6_init_1 : List.getD tX6_init 1 x_bad = x_objinit := rfl
theorem kX6_init_4 : List.getD tX6_init 4 x_bad = x_aload 0 1 := rfl
theorem kX6_init_5 : List.getD tX6_init 5 x_bad = x_push (.int (nI 100)) 2 := rfl
theorem kX6_init_7 : List.getD tX6_init 7 x_bad = x_anewa 25 := rfl
theorem kX6_init_10 : List.getD tX6_init 10 x_bad = x_putR 6 0 := rfl
theorem kX6_init_13 : List.getD tX6_init 13 x_bad = x_aload 0 1 := rfl
theorem kX6_init_14 : List.getD tX6_init 14 x_bad = x_push (.int (nI 800)) 3 := rfl
theorem kX6_init_17 : List.getD tX6_init 17 x_bad = x_newa 20 := rfl
theorem kX6_init_19 : List.getD tX6_init 19 x_bad = x_putR 6 1 := rfl
theorem kX6_init_22 : List.getD tX6_init 22 x_bad = x_aload 0 1 := rfl
theorem kX6_init_23 : List.getD tX6_init 23 x_bad = x_push (.int (nI 100)) 2 := rfl
theorem kX6_init_25 : List.getD tX6_init 25 x_bad = x_newa 20 := rfl
theorem kX6_init_27 : List.getD tX6_init 27 x_bad = x_putR 6 2 := rfl
theorem kX6_init_30 : List.getD tX6_init 30 x_bad = x_aload 0 1 := rfl
theorem kX6_init_31 : List.getD tX6_init 31 x_bad = x_new 1 := rfl
theorem kX6_init_34 : List.getD tX6_init 34 x_bad = x_dup := rfl
theorem kX6_init_35 : List.getD tX6_init 35 x_bad = x_callI mX1_init 0 := rfl
theorem kX6_init_38 : List.getD tX6_init 38 x_bad = x_putR 6 3 := rfl
theorem kX6_init_41 : List.getD tX6_init 41 x_bad = x_aload 0 1 := rfl
theorem kX6_init_42 : List.getD tX6_init 42 x_bad = x_push (.int (nI 0)) 1 := rfl
theorem kX6_init_43 : List.getD tX6_init 43 x_bad = x_putI 6 4 := rfl
theorem kX6_init_46 : List.getD tX6_init 46 x_bad = x_aload 0 1 := rfl
theorem kX6_init_47 : List.getD tX6_init 47 x_bad = x_push (.int (nI 0)) 1 := rfl
theorem kX6_init_48 : List.getD tX6_init 48 x_bad = x_putI 6 5 := rfl
theorem kX6_init_51 : List.getD tX6_init 51 x_bad = x_aload 0 1 := rfl
theorem kX6_init_52 : List.getD tX6_init 52 x_bad = x_push (.int (nI 0)) 1 := rfl
theorem kX6_init_53 : List.getD tX6_init 53 x_bad = x_putI 6 6 := rfl
theorem kX6_init_56 : List.getD tX6_init 56 x_bad = x_aload 0 1 := rfl
theorem kX6_init_57 : List.getD tX6_init 57 x_bad = x_push (.int (nI 0)) 1 := rfl
theorem kX6_init_58 : List.getD tX6_init 58 x_bad = x_putZ 6 7 := rfl
theorem kX6_init_61 : List.getD tX6_init 61 x_bad = x_push (.int (nI 0)) 1 := rfl
theorem kX6_init_62 : List.getD tX6_init 62 x_bad = x_istore 1 1 := rfl
theorem kX6_init_63 : List.getD tX6_init 63 x_bad = x_iload 1 1 := rfl
theorem kX6_init_64 : List.getD tX6_init 64 x_bad = x_push (.int (nI 100)) 2 := rfl
theorem kX6_init_66 : List.getD tX6_init 66 x_bad = x_icmp (fun a b => b ≤ a) 88 := rfl
theorem kX6_init_69 : List.getD tX6_init 69 x_bad = x_aload 0 1 := rfl
theorem kX6_init_70 : List.getD tX6_init 70 x_bad = x_getR 6 0 := rfl
theorem kX6_init_73 : List.getD tX6_init 73 x_bad = x_iload 1 1 := rfl
theorem kX6_init_74 : List.getD tX6_init 74 x_bad = x_new 1 := rfl
theorem kX6_init_77 : List.getD tX6_init 77 x_bad = x_dup := rfl
theorem kX6_init_78 : List.getD tX6_init 78 x_bad = x_callI mX1_init 0 := rfl
theorem kX6_init_81 : List.getD tX6_init 81 x_bad = x_aast 1 := rfl
theorem kX6_init_82 : List.getD tX6_init 82 x_bad = x_iinc 1 (nI 1) := rfl
theorem kX6_init_85 : List.getD tX6_init 85 x_bad = x_goto 63 := rfl
theorem kX6_init_88 : List.getD tX6_init 88 x_bad = x_vret := rfl
def tX0_study : List PT := [x_aload 0 1, x_aload 1 1, x_callV1 0 mX0_findRegions, x_bad, x_bad, x_aload 0 1, x_aload 1 1, x_callV1 0 mX0_listSeparations, x_bad, x_bad, x_aload 0 1, x_callV0 0 mX0_findSolvable, x_bad, x_bad, x_vret]
set_option maxRecDepth 20000 in
theorem okX0_study : SndT RX0 cX0_study mX0_study.2.2.1 mX0_study.2.2.2.2.1 mX0_study.2.2.2.2.2 false mX0_study.2.2.2.1 0 tX0_study := ⟨s_aload_n (k := 0) (i := 0) (by decide +kernel) rfl, s_aload_n (k := 1) (i := 1) (by decide +kernel) rfl, s_callV1 (by decide +kernel) lv_RX0_57 ⟨by decide, by decide⟩, s_bad, s_bad, s_aload_n (k := 0) (i := 0) (by decide +kernel) rfl, s_aload_n (k := 1) (i := 1) (by decide +kernel) rfl, s_callV1 (by decide +kernel) lv_RX0_61 ⟨by decide, by decide⟩, s_bad, s_bad, s_aload_n (k := 0) (i := 0) (by decide +kernel) rfl, s_callV0 (by decide +kernel) lv_RX0_64 ⟨by decide, by decide⟩, s_bad, s_bad, s_vret (by decide +kernel) rfl, trivial⟩
theorem kX0_study_0 : List.getD tX0_study 0 x_bad = x_aload 0 1 := rfl
theorem kX0_study_1 : List.getD tX0_study 1 x_bad = x_aload 1 1 := rfl
theorem kX0_study_2 : List.getD tX0_study 2 x_bad = x_callV1 0 mX0_findRegions := rfl
theorem kX0_study_5 : List.getD tX0_study 5 x_bad = x_aload 0 1 := rfl
theorem kX0_study_6 : List.getD tX0_study 6 x_bad = x_aload 1 1 := rfl
theorem kX0_study_7 : List.getD tX0_study 7 x_bad = x_callV1 0 mX0_listSeparations := rfl
theorem kX0_study_10 : List.getD tX0_study 10 x_bad = x_aload 0 1 := rfl
theorem kX0_study_11 : List.getD tX0_study 11 x_bad = x_callV0 0 mX0_findSolvable := rfl
theorem kX0_study_14 : List.getD tX0_study 14 x_bad = x_vret := rfl
def tX5_dropRedundantPlaces : List PT := [x_push (.int (nI 0)) 1, x_istore 1 1, x_push (.int (nI 0)) 1, x_istore 2 1, x_iload 2 1, x_push (.int (nI 125)) 2, x_bad, x_icmp (fun a b => b ≤ a) 43, x_bad, x_bad, x_iload 1 1, x_aload 0 1, x_getI 5 1, x_bad, x_bad, x_icmp (fun a b => b ≤ a) 43, x_bad, x_bad, x_aload 0 1, x_iload 1 1, x_callV1 5 mX5_solvedAlone, x_bad, x_bad, x_if (fun a => a ≤ 0) 32, x_bad, x_bad, x_iinc 1 (nI 1), x_bad, x_bad, x_goto 37, x_bad, x_bad, x_aload 0 1, x_iload 1 1, x_callV1 5 mX5_removePlace, x_bad, x_bad, x_iinc 2 (nI 1), x_bad, x_bad, x_goto 4, x_bad, x_bad, x_vret]
set_option maxRecDepth 20000 in
theorem okX5_dropRedundantPlaces : SndT RX5 cX5_dropRedundantPlaces mX5_dropRedundantPlaces.2.2.1 mX5_dropRedundantPlaces.2.2.2.2.1 mX5_dropRedundantPlaces.2.2.2.2.2 false mX5_dropRedundantPlaces.2.2.2.1 0 tX5_dropRedundantPlaces := ⟨s_iconst (n := 0) (by decide +kernel) (by decide +kernel), s_istore_n (k := 1) (i := 1) (by decide +kernel) rfl (by decide), s_iconst (n := 0) (by decide +kernel) (by decide +kernel), s_istore_n (k := 2) (i := 2) (by decide +kernel) rfl (by decide), s_iload_n (k := 2) (i := 2) (by decide +kernel) rfl, s_bipush (n := 125) (by decide +kernel) (by decide +kernel), s_bad, s_icmp_ge (off := 36) (by decide +kernel) (by decide), s_bad, s_bad, s_iload_n (k := 1) (i := 1) (by decide +kernel) rfl, s_aload_n (k := 0) (i := 0) (by decide +kernel) rfl, s_getI (by decide +kernel) fl_RX5_15 rfl, s_bad, s_bad, s_icmp_ge (off := 28) (by decide +kernel) (by decide), s_bad, s_bad, s_aload_n (k := 0) (i := 0) (by decide +kernel) rfl, s_iload_n (k := 1) (i := 1) (by decide +kernel) rfl, s_callV1 (by decide +kernel) lv_RX5_88 ⟨by decide, by decide⟩, s_bad, s_bad, s_if_le (off := 9) (by decide +kernel) (by decide), s_bad, s_bad, s_iinc (n := 1) (by decide +kernel) (by decide +kernel) (by decide), s_bad, s_bad, s_goto (off := 8) (by decide +kernel) (by decide), s_bad, s_bad, s_aload_n (k := 0) (i := 0) (by decide +kernel) rfl, s_iload_n (k := 1) (i := 1) (by decide +kernel) rfl, s_callV1 (by decide +kernel) lv_RX5_92 ⟨by decide, by decide⟩, s_bad, s_bad, s_iinc (n := 1) (by decide +kernel) (by decide +kernel) (by decide), s_bad, s_bad, s_goto (off := (-36)) (by decide +kernel) (by decide), s_bad, s_bad, s_vret (by decide +kernel) rfl, trivial⟩
theorem kX5_dropRedundantPlaces_0 : List.getD tX5_dropRedundantPlaces 0 x_bad = x_push (.int (nI 0)) 1 := rfl
theorem kX5_dropRedundantPlaces_1 : List.getD tX5_dropRedundantPlaces 1 x_bad = x_istore 1 1 := rfl
theorem kX5_dropRedundantPlaces_2 : List.getD tX5_dropRedundantPlaces 2 x_bad = x_push (.int (nI 0)) 1 := rfl
theorem kX5_dropRedundantPlaces_3 : List.getD tX5_dropRedundantPlaces 3 x_bad = x_istore 2 1 := rfl
theorem kX5_dropRedundantPlaces_4 : List.getD tX5_dropRedundantPlaces 4 x_bad = x_iload 2 1 := rfl
theorem kX5_dropRedundantPlaces_5 : List.getD tX5_dropRedundantPlaces 5 x_bad = x_push (.int (nI 125)) 2 := rfl
theorem kX5_dropRedundantPlaces_7 : List.getD tX5_dropRedundantPlaces 7 x_bad = x_icmp (fun a b => b ≤ a) 43 := rfl
theorem kX5_dropRedundantPlaces_10 : List.getD tX5_dropRedundantPlaces 10 x_bad = x_iload 1 1 := rfl
theorem kX5_dropRedundantPlaces_11 : List.getD tX5_dropRedundantPlaces 11 x_bad = x_aload 0 1 := rfl
theorem kX5_dropRedundantPlaces_12 : List.getD tX5_dropRedundantPlaces 12 x_bad = x_getI 5 1 := rfl
theorem kX5_dropRedundantPlaces_15 : List.getD tX5_dropRedundantPlaces 15 x_bad = x_icmp (fun a b => b ≤ a) 43 := rfl
theorem kX5_dropRedundantPlaces_18 : List.getD tX5_dropRedundantPlaces 18 x_bad = x_aload 0 1 := rfl
theorem kX5_dropRedundantPlaces_19 : List.getD tX5_dropRedundantPlaces 19 x_bad = x_iload 1 1 := rfl
theorem kX5_dropRedundantPlaces_20 : List.getD tX5_dropRedundantPlaces 20 x_bad = x_callV1 5 mX5_solvedAlone := rfl
theorem kX5_dropRedundantPlaces_23 : List.getD tX5_dropRedundantPlaces 23 x_bad = x_if (fun a => a ≤ 0) 32 := rfl
theorem kX5_dropRedundantPlaces_26 : List.getD tX5_dropRedundantPlaces 26 x_bad = x_iinc 1 (nI 1) := rfl
theorem kX5_dropRedundantPlaces_29 : List.getD tX5_dropRedundantPlaces 29 x_bad = x_goto 37 := rfl
theorem kX5_dropRedundantPlaces_32 : List.getD tX5_dropRedundantPlaces 32 x_bad = x_aload 0 1 := rfl
theorem kX5_dropRedundantPlaces_33 : List.getD tX5_dropRedundantPlaces 33 x_bad = x_iload 1 1 := rfl
theorem kX5_dropRedundantPlaces_34 : List.getD tX5_dropRedundantPlaces 34 x_bad = x_callV1 5 mX5_removePlace := rfl
theorem kX5_dropRedundantPlaces_37 : List.getD tX5_dropRedundantPlaces 37 x_bad = x_iinc 2 (nI 1) := rfl
theorem kX5_dropRedundantPlaces_40 : List.getD tX5_dropRedundantPlaces 40 x_bad = x_goto 4 := rfl
theorem kX5_dropRedundantPlaces_43 : List.getD tX5_dropRedundantPlaces 43 x_bad = x_vret := rfl
def tX6_explore : List PT := [x_aload 0 1, x_getR 6 0, x_bad, x_bad, x_push (.int (nI 0)) 1, x_aald, x_aload 1 1, x_getR 5 5, x_bad, x_bad, x_callV1 1 mX1_become, x_bad, x_bad, x_aload 0 1, x_push (.int (nI 1)) 1, x_putI 6 4, x_bad, x_bad, x_aload 0 1, x_push (.int (nI 0)) 1, x_putI 6 5, x_bad, x_bad, x_aload 0 1, x_push (.int (nI 0)) 1, x_putI 6 6, x_bad, x_bad, x_aload 0 1, x_push (.int (nI 0)) 1, x_putZ 6 7, x_bad, x_bad, x_push (.int (nI 0)) 1, x_istore 2 1, x_iload 2 1, x_push (.int (nI 100)) 2, x_bad, x_icmp (fun a b => b ≤ a) 121, x_bad, x_bad, x_iload 2 1, x_aload 0 1, x_getI 6 4, x_bad, x_bad, x_icmp (fun a b => b ≤ a) 121, x_bad, x_bad, x_aload 0 1, x_getI 6 7, x_bad, x_bad, x_ifn (fun a => a = 0) 121, x_bad, x_bad, x_aload 0 1, x_getI 6 5, x_bad, x_bad, x_istore 3 1, x_push (.int (nI 0)) 1, x_istore 4 2, x_bad, x_iload 4 2, x_bad, x_push (.int (nI 8)) 2, x_bad, x_icmp (fun a b => b ≤ a) 97, x_bad, x_bad, x_aload 0 1, x_getR 6 1, x_bad, x_bad, x_iload 2 1, x_push (.int (nI 8)) 2, x_bad, x_ii (fun a b => a * b), x_iload 4 2, x_bad, x_ii (fun a b => a + b), x_aload 0 1, x_aload 1 1, x_iload 2 1, x_iload 4 2, x_bad, x_callV3 6 mX6_follow, x_bad, x_bad, x_iast, x_iinc 4 (nI 1), x_bad, x_bad, x_goto 64, x_bad, x_bad, x_aload 0 1, x_getI 6 5, x_bad, x_bad, x_iload 3 1, x_icmpn (fun a b => a = b) 115, x_bad, x_bad, x_aload 0 1, x_dup, x_getI 6 6, x_bad, x_bad, x_push (.int (nI 1)) 1, x_ii (fun a b => a + b), x_putI 6 6, x_bad, x_bad, x_iinc 2 (nI 1), x_bad, x_bad, x_goto 35, x_bad, x_bad, x_vret]
set_option maxRecDepth 20000 in
theorem okX6_explore : SndT RX6 cX6_explore mX6_explore.2.2.1 mX6_explore.2.2.2.2.1 mX6_explore.2.2.2.2.2 false mX6_explore.2.2.2.1 0 tX6_explore := ⟨s_aload_n (k := 0) (i := 0) (by decide +kernel) rfl, s_getR (by decide +kernel) fl_RX6_11 rfl, s_bad, s_bad, s_iconst (n := 0) (by decide +kernel) (by decide +kernel), s_aald (by decide +kernel), s_aload_n (k := 1) (i := 1) (by decide +kernel) rfl, s_getR (by decide +kernel) fl_RX6_43 rfl, s_bad, s_bad, s_callV1 (by decide +kernel) lv_RX6_48 ⟨by decide, by decide⟩, s_bad, s_bad, s_aload_n (k := 0) (i := 0) (by decide +kernel) rfl, s_iconst (n := 1) (by decide +kernel) (by decide +kernel), s_putI (by decide +kernel) fl_RX6_29 fp_6_4 rfl, s_bad, s_bad, s_aload_n (k := 0) (i := 0) (by decide +kernel) rfl, s_iconst (n := 0) (by decide +kernel) (by decide +kernel), s_putI (by decide +kernel) fl_RX6_33 fp_6_5 rfl, s_bad, s_bad, s_aload_n (k := 0) (i := 0) (by decide +kernel) rfl, s_iconst (n := 0) (by decide +kernel) (by decide +kernel), s_putI (by decide +kernel) fl_RX6_36 fp_6_6 rfl, s_bad, s_bad, s_aload_n (k := 0) (i := 0) (by decide +kernel) rfl, s_iconst (n := 0) (by decide +kernel) (by decide +kernel), s_putZ (by decide +kernel) fl_RX6_39 fp_6_7 rfl, s_bad, s_bad, s_iconst (n := 0) (by decide +kernel) (by decide +kernel), s_istore_n (k := 2) (i := 2) (by decide +kernel) rfl (by decide), s_iload_n (k := 2) (i := 2) (by decide +kernel) rfl, s_bipush (n := 100) (by decide +kernel) (by decide +kernel), s_bad, s_icmp_ge (off := 83) (by decide +kernel) (by decide), s_bad, s_bad, s_iload_n (k := 2) (i := 2) (by decide +kernel) rfl, s_aload_n (k := 0) (i := 0) (by decide +kernel) rfl, s_getI (by decide +kernel) fl_RX6_29 rfl, s_bad, s_bad, s_icmp_ge (off := 75) (by decide +kernel) (by decide), s_bad, s_bad, s_aload_n (k := 0) (i := 0) (by decide +kernel) rfl, s_getI (by decide +kernel) fl_RX6_39 rfl, s_bad, s_bad, s_if_ne (off := 68) (by decide +kernel) (by decide), s_bad, s_bad, s_aload_n (k := 0) (i := 0) (by decide +kernel) rfl, s_getI (by decide +kernel) fl_RX6_33 rfl, s_bad, s_bad, s_istore_n (k := 3) (i := 3) (by decide +kernel) rfl (by decide), s_iconst (n := 0) (by decide +kernel) (by decide +kernel), s_istore (by decide +kernel) (by decide), s_bad, s_iload (by decide +kernel), s_bad, s_bipush (n := 8) (by decide +kernel) (by decide +kernel), s_bad, s_icmp_ge (off := 29) (by decide +kernel) (by decide), s_bad, s_bad, s_aload_n (k := 0) (i := 0) (by decide +kernel) rfl, s_getR (by decide +kernel) fl_RX6_17 rfl, s_bad, s_bad, s_iload_n (k := 2) (i := 2) (by decide +kernel) rfl, s_bipush (n := 8) (by decide +kernel) (by decide +kernel), s_bad, s_imul (by decide +kernel), s_iload (by decide +kernel), s_bad, s_iadd (by decide +kernel), s_aload_n (k := 0) (i := 0) (by decide +kernel) rfl, s_aload_n (k := 1) (i := 1) (by decide +kernel) rfl, s_iload_n (k := 2) (i := 2) (by decide +kernel) rfl, s_iload (by decide +kernel), s_bad, s_callV3 (by decide +kernel) lv_RX6_52 ⟨by decide, by decide⟩, s_bad, s_bad, s_iast (by decide +kernel), s_iinc (n := 1) (by decide +kernel) (by decide +kernel) (by decide), s_bad, s_bad, s_goto (off := (-30)) (by decide +kernel) (by decide), s_bad, s_bad, s_aload_n (k := 0) (i := 0) (by decide +kernel) rfl, s_getI (by decide +kernel) fl_RX6_33 rfl, s_bad, s_bad, s_iload_n (k := 3) (i := 3) (by decide +kernel) rfl, s_icmp_ne (off := 13) (by decide +kernel) (by decide), s_bad, s_bad, s_aload_n (k := 0) (i := 0) (by decide +kernel) rfl, s_dup (by decide +kernel), s_getI (by decide +kernel) fl_RX6_36 rfl, s_bad, s_bad, s_iconst (n := 1) (by decide +kernel) (by decide +kernel), s_iadd (by decide +kernel), s_putI (by decide +kernel) fl_RX6_36 fp_6_6 rfl, s_bad, s_bad, s_iinc (n := 1) (by decide +kernel) (by decide +kernel) (by decide), s_bad, s_bad, s_goto (off := (-83)) (by decide +kernel) (by decide), s_bad, s_bad, s_vret (by decide +kernel) rfl, trivial⟩
theorem kX6_explore_0 : List.getD tX6_explore 0 x_bad = x_aload 0 1 := rfl
theorem kX6_explore_1 : List.getD tX6_explore 1 x_bad = x_getR 6 0 := rfl
theorem kX6_explore_4 : List.getD tX6_explore 4 x_bad = x_push (.int (nI 0)) 1 := rfl
theorem kX6_explore_5 : List.getD tX6_explore 5 x_bad = x_aald := rfl
theorem kX6_explore_6 : List.getD tX6_explore 6 x_bad = x_aload 1 1 := rfl
theorem kX6_explore_7 : List.getD tX6_explore 7 x_bad = x_getR 5 5 := rfl
theorem kX6_explore_10 : List.getD tX6_explore 10 x_bad = x_callV1 1 mX1_become := rfl
theorem kX6_explore_13 : List.getD tX6_explore 13 x_bad = x_aload 0 1 := rfl
theorem kX6_explore_14 : List.getD tX6_explore 14 x_bad = x_push (.int (nI 1)) 1 := rfl
theorem kX6_explore_15 : List.getD tX6_explore 15 x_bad = x_putI 6 4 := rfl
theorem kX6_explore_18 : List.getD tX6_explore 18 x_bad = x_aload 0 1 := rfl
theorem kX6_explore_19 : List.getD tX6_explore 19 x_bad = x_push (.int (nI 0)) 1 := rfl
theorem kX6_explore_20 : List.getD tX6_explore 20 x_bad = x_putI 6 5 := rfl
theorem kX6_explore_23 : List.getD tX6_explore 23 x_bad = x_aload 0 1 := rfl
theorem kX6_explore_24 : List.getD tX6_explore 24 x_bad = x_push (.int (nI 0)) 1 := rfl
theorem kX6_explore_25 : List.getD tX6_explore 25 x_bad = x_putI 6 6 := rfl
theorem kX6_explore_28 : List.getD tX6_explore 28 x_bad = x_aload 0 1 := rfl
theorem kX6_explore_29 : List.getD tX6_explore 29 x_bad = x_push (.int (nI 0)) 1 := rfl
theorem kX6_explore_30 : List.getD tX6_explore 30 x_bad = x_putZ 6 7 := rfl
theorem kX6_explore_33 : List.getD tX6_explore 33 x_bad = x_push (.int (nI 0)) 1 := rfl
theorem kX6_explore_34 : List.getD tX6_explore 34 x_bad = x_istore 2 1 := rfl
theorem kX6_explore_35 : List.getD tX6_explore 35 x_bad = x_iload 2 1 := rfl
theorem kX6_explore_36 : List.getD tX6_explore 36 x_bad = x_push (.int (nI 100)) 2 := rfl
theorem kX6_explore_38 : List.getD tX6_explore 38 x_bad = x_icmp (fun a b => b ≤ a) 121 := rfl
theorem kX6_explore_41 : List.getD tX6_explore 41 x_bad = x_iload 2 1 := rfl
theorem kX6_explore_42 : List.getD tX6_explore 42 x_bad = x_aload 0 1 := rfl
theorem kX6_explore_43 : List.getD tX6_explore 43 x_bad = x_getI 6 4 := rfl
theorem kX6_explore_46 : List.getD tX6_explore 46 x_bad = x_icmp (fun a b => b ≤ a) 121 := rfl
theorem kX6_explore_49 : List.getD tX6_explore 49 x_bad = x_aload 0 1 := rfl
theorem kX6_explore_50 : List.getD tX6_explore 50 x_bad = x_getI 6 7 := rfl
theorem kX6_explore_53 : List.getD tX6_explore 53 x_bad = x_ifn (fun a => a = 0) 121 := rfl
theorem kX6_explore_56 : List.getD tX6_explore 56 x_bad = x_aload 0 1 := rfl
theorem kX6_explore_57 : List.getD tX6_explore 57 x_bad = x_getI 6 5 := rfl
theorem kX6_explore_60 : List.getD tX6_explore 60 x_bad = x_istore 3 1 := rfl
theorem kX6_explore_61 : List.getD tX6_explore 61 x_bad = x_push (.int (nI 0)) 1 := rfl
theorem kX6_explore_62 : List.getD tX6_explore 62 x_bad = x_istore 4 2 := rfl
theorem kX6_explore_64 : List.getD tX6_explore 64 x_bad = x_iload 4 2 := rfl
theorem kX6_explore_66 : List.getD tX6_explore 66 x_bad = x_push (.int (nI 8)) 2 := rfl
theorem kX6_explore_68 : List.getD tX6_explore 68 x_bad = x_icmp (fun a b => b ≤ a) 97 := rfl
theorem kX6_explore_71 : List.getD tX6_explore 71 x_bad = x_aload 0 1 := rfl
theorem kX6_explore_72 : List.getD tX6_explore 72 x_bad = x_getR 6 1 := rfl
theorem kX6_explore_75 : List.getD tX6_explore 75 x_bad = x_iload 2 1 := rfl
theorem kX6_explore_76 : List.getD tX6_explore 76 x_bad = x_push (.int (nI 8)) 2 := rfl
theorem kX6_explore_78 : List.getD tX6_explore 78 x_bad = x_ii (fun a b => a * b) := rfl
theorem kX6_explore_79 : List.getD tX6_explore 79 x_bad = x_iload 4 2 := rfl
theorem kX6_explore_81 : List.getD tX6_explore 81 x_bad = x_ii (fun a b => a + b) := rfl
theorem kX6_explore_82 : List.getD tX6_explore 82 x_bad = x_aload 0 1 := rfl
theorem kX6_explore_83 : List.getD tX6_explore 83 x_bad = x_aload 1 1 := rfl
theorem kX6_explore_84 : List.getD tX6_explore 84 x_bad = x_iload 2 1 := rfl
theorem kX6_explore_85 : List.getD tX6_explore 85 x_bad = x_iload 4 2 := rfl
theorem kX6_explore_87 : List.getD tX6_explore 87 x_bad = x_callV3 6 mX6_follow := rfl
theorem kX6_explore_90 : List.getD tX6_explore 90 x_bad = x_iast := rfl
theorem kX6_explore_91 : List.getD tX6_explore 91 x_bad = x_iinc 4 (nI 1) := rfl
theorem kX6_explore_94 : List.getD tX6_explore 94 x_bad = x_goto 64 := rfl
theorem kX6_explore_97 : List.getD tX6_explore 97 x_bad = x_aload 0 1 := rfl
theorem kX6_explore_98 : List.getD tX6_explore 98 x_bad = x_getI 6 5 := rfl
theorem kX6_explore_101 : List.getD tX6_explore 101 x_bad = x_iload 3 1 := rfl
theorem kX6_explore_102 : List.getD tX6_explore 102 x_bad = x_icmpn (fun a b => a = b) 115 := rfl
theorem kX6_explore_105 : List.getD tX6_explore 105 x_bad = x_aload 0 1 := rfl
theorem kX6_explore_106 : List.getD tX6_explore 106 x_bad = x_dup := rfl
theorem kX6_explore_107 : List.getD tX6_explore 107 x_bad = x_getI 6 6 := rfl
theorem kX6_explore_110 : List.getD tX6_explore 110 x_bad = x_push (.int (nI 1)) 1 := rfl
theorem kX6_explore_111 : List.getD tX6_explore 111 x_bad = x_ii (fun a b => a + b) := rfl
theorem kX6_explore_112 : List.getD tX6_explore 112 x_bad = x_putI 6 6 := rfl
theorem kX6_explore_115 : List.getD tX6_explore 115 x_bad = x_iinc 2 (nI 1) := rfl
theorem kX6_explore_118 : List.getD tX6_explore 118 x_bad = x_goto 35 := rfl
theorem kX6_explore_121 : List.getD tX6_explore 121 x_bad = x_vret := rfl
def tX5_build : List PT := [x_aload 0 1, x_iload 2 1, x_putI 5 7, x_bad, x_bad, x_aload 0 1, x_aload 1 1, x_callV1 5 mX5_findSolved, x_bad, x_bad, x_aload 0 1, x_aload 1 1, x_callV1 5 mX5_choosePlaces, x_bad, x_bad, x_aload 0 1, x_callV0 5 mX5_dropRedundantPlaces, x_bad, x_bad, x_aload 0 1, x_aload 1 1, x_callV1 5 mX5_connect, x_bad, x_bad, x_vret]
set_option maxRecDepth 20000 in
theorem okX5_build : SndT RX5 cX5_build mX5_build.2.2.1 mX5_build.2.2.2.2.1 mX5_build.2.2.2.2.2 false mX5_build.2.2.2.1 0 tX5_build := ⟨s_aload_n (k := 0) (i := 0) (by decide +kernel) rfl, s_iload_n (k := 2) (i := 2) (by decide +kernel) rfl, s_putI (by decide +kernel) fl_RX5_39 fp_5_7 rfl, s_bad, s_bad, s_aload_n (k := 0) (i := 0) (by decide +kernel) rfl, s_aload_n (k := 1) (i := 1) (by decide +kernel) rfl, s_callV1 (by decide +kernel) lv_RX5_42 ⟨by decide, by decide⟩, s_bad, s_bad, s_aload_n (k := 0) (i := 0) (by decide +kernel) rfl, s_aload_n (k := 1) (i := 1) (by decide +kernel) rfl, s_callV1 (by decide +kernel) lv_RX5_46 ⟨by decide, by decide⟩, s_bad, s_bad, s_aload_n (k := 0) (i := 0) (by decide +kernel) rfl, s_callV0 (by decide +kernel) lv_RX5_49 ⟨by decide, by decide⟩, s_bad, s_bad, s_aload_n (k := 0) (i := 0) (by decide +kernel) rfl, s_aload_n (k := 1) (i := 1) (by decide +kernel) rfl, s_callV1 (by decide +kernel) lv_RX5_52 ⟨by decide, by decide⟩, s_bad, s_bad, s_vret (by decide +kernel) rfl, trivial⟩
theorem kX5_build_0 : List.getD tX5_build 0 x_bad = x_aload 0 1 := rfl
theorem kX5_build_1 : List.getD tX5_build 1 x_bad = x_iload 2 1 := rfl
theorem kX5_build_2 : List.getD tX5_build 2 x_bad = x_putI 5 7 := rfl
theorem kX5_build_5 : List.getD tX5_build 5 x_bad = x_aload 0 1 := rfl
theorem kX5_build_6 : List.getD tX5_build 6 x_bad = x_aload 1 1 := rfl
theorem kX5_build_7 : List.getD tX5_build 7 x_bad = x_callV1 5 mX5_findSolved := rfl
theorem kX5_build_10 : List.getD tX5_build 10 x_bad = x_aload 0 1 := rfl
theorem kX5_build_11 : List.getD tX5_build 11 x_bad = x_aload 1 1 := rfl
theorem kX5_build_12 : List.getD tX5_build 12 x_bad = x_callV1 5 mX5_choosePlaces := rfl
theorem kX5_build_15 : List.getD tX5_build 15 x_bad = x_aload 0 1 := rfl
theorem kX5_build_16 : List.getD tX5_build 16 x_bad = x_callV0 5 mX5_dropRedundantPlaces := rfl
theorem kX5_build_19 : List.getD tX5_build 19 x_bad = x_aload 0 1 := rfl
theorem kX5_build_20 : List.getD tX5_build 20 x_bad = x_aload 1 1 := rfl
theorem kX5_build_21 : List.getD tX5_build 21 x_bad = x_callV1 5 mX5_connect := rfl
theorem kX5_build_24 : List.getD tX5_build 24 x_bad = x_vret := rfl
