def tX10_all : List PT := [x_push (.int (nI 1)) 1, x_aload 0 1, x_getR 10 0, x_bad, x_bad, x_push (.int (nI 0)) 1, x_iald, x_ii (fun a b => a <<< (b &&& 31)), x_push (.int (nI 1)) 1, x_ii (fun a b => a - b), x_iret]
set_option maxRecDepth 20000 in
theorem okX10_all : SndT RX10 cX10_all mX10_all.2.2.1 mX10_all.2.2.2.2.1 mX10_all.2.2.2.2.2 false mX10_all.2.2.2.1 0 tX10_all := ⟨s_iconst (n := 1) (by decide +kernel) (by decide +kernel), s_aload_n (k := 0) (i := 0) (by decide +kernel) rfl, s_getR (by decide +kernel) fl_RX10_7 rfl, s_bad, s_bad, s_iconst (n := 0) (by decide +kernel) (by decide +kernel), s_iald (by decide +kernel), s_ishl (by decide +kernel), s_iconst (n := 1) (by decide +kernel) (by decide +kernel), s_isub (by decide +kernel), s_iret (by decide +kernel) rfl, trivial⟩
theorem kX10_all_0 : List.getD tX10_all 0 x_bad = x_push (.int (nI 1)) 1 := rfl
theorem kX10_all_1 : List.getD tX10_all 1 x_bad = x_aload 0 1 := rfl
theorem kX10_all_2 : List.getD tX10_all 2 x_bad = x_getR 10 0 := rfl
theorem kX10_all_5 : List.getD tX10_all 5 x_bad = x_push (.int (nI 0)) 1 := rfl
theorem kX10_all_6 : List.getD tX10_all 6 x_bad = x_iald := rfl
theorem kX10_all_7 : List.getD tX10_all 7 x_bad = x_ii (fun a b => a <<< (b &&& 31)) := rfl
theorem kX10_all_8 : List.getD tX10_all 8 x_bad = x_push (.int (nI 1)) 1 := rfl
theorem kX10_all_9 : List.getD tX10_all 9 x_bad = x_ii (fun a b => a - b) := rfl
theorem kX10_all_10 : List.getD tX10_all 10 x_bad = x_iret := rfl
def tX10_begins : List PT := [x_aload 0 1, x_getR 10 0, x_bad, x_bad, x_push (.int (nI 74)) 2, x_bad, x_push (.int (nI 0)) 1, x_iast, x_push (.int (nI 0)) 1, x_istore 1 1, x_iload 1 1, x_push (.int (nI 128)) 3, x_bad, x_bad, x_icmp (fun a b => b ≤ a) 52, x_bad, x_bad, x_aload 0 1, x_getR 10 0, x_bad, x_bad, x_push (.int (nI 75)) 2, x_bad, x_iload 1 1, x_ii (fun a b => a + b), x_iload 1 1, x_aload 0 1, x_getI 10 12, x_bad, x_bad, x_icmp (fun a b => b ≤ a) 44, x_bad, x_bad, x_aload 0 1, x_getR 10 11, x_bad, x_bad, x_iload 1 1, x_iald, x_push (.int (nI 1)) 1, x_ii (fun a b => a &&& b), x_goto 45, x_bad, x_bad, x_push (.int (nI 0)) 1, x_iast, x_iinc 1 (nI 1), x_bad, x_bad, x_goto 10, x_bad, x_bad, x_vret]
set_option maxRecDepth 20000 in
theorem okX10_begins : SndT RX10 cX10_begins mX10_begins.2.2.1 mX10_begins.2.2.2.2.1 mX10_begins.2.2.2.2.2 false mX10_begins.2.2.2.1 0 tX10_begins := ⟨s_aload_n (k := 0) (i := 0) (by decide +kernel) rfl, s_getR (by decide +kernel) fl_RX10_7 rfl, s_bad, s_bad, s_bipush (n := 74) (by decide +kernel) (by decide +kernel), s_bad, s_iconst (n := 0) (by decide +kernel) (by decide +kernel), s_iast (by decide +kernel), s_iconst (n := 0) (by decide +kernel) (by decide +kernel), s_istore_n (k := 1) (i := 1) (by decide +kernel) rfl (by decide), s_iload_n (k := 1) (i := 1) (by decide +kernel) rfl, s_sipush (n := 128) (by decide +kernel) (by decide +kernel), s_bad, s_bad, s_icmp_ge (off := 38) (by decide +kernel) (by decide), s_bad, s_bad, s_aload_n (k := 0) (i := 0) (by decide +kernel) rfl, s_getR (by decide +kernel) fl_RX10_7 rfl, s_bad, s_bad, s_bipush (n := 75) (by decide +kernel) (by decide +kernel), s_bad, s_iload_n (k := 1) (i := 1) (by decide +kernel) rfl, s_iadd (by decide +kernel), s_iload_n (k := 1) (i := 1) (by decide +kernel) rfl, s_aload_n (k := 0) (i := 0) (by decide +kernel) rfl, s_getI (by decide +kernel) fl_RX10_117 rfl, s_bad, s_bad, s_icmp_ge (off := 14) (by decide +kernel) (by decide), s_bad, s_bad, s_aload_n (k := 0) (i := 0) (by decide +kernel) rfl, s_getR (by decide +kernel) fl_RX10_32 rfl, s_bad, s_bad, s_iload_n (k := 1) (i := 1) (by decide +kernel) rfl, s_iald (by decide +kernel), s_iconst (n := 1) (by decide +kernel) (by decide +kernel), s_iand (by decide +kernel), s_goto (off := 4) (by decide +kernel) (by decide), s_bad, s_bad, s_iconst (n := 0) (by decide +kernel) (by decide +kernel), s_iast (by decide +kernel), s_iinc (n := 1) (by decide +kernel) (by decide +kernel) (by decide), s_bad, s_bad, s_goto (off := (-39)) (by decide +kernel) (by decide), s_bad, s_bad, s_vret (by decide +kernel) rfl, trivial⟩
theorem kX10_begins_0 : List.getD tX10_begins 0 x_bad = x_aload 0 1 := rfl
theorem kX10_begins_1 : List.getD tX10_begins 1 x_bad = x_getR 10 0 := rfl
theorem kX10_begins_4 : List.getD tX10_begins 4 x_bad = x_push (.int (nI 74)) 2 := rfl
theorem kX10_begins_6 : List.getD tX10_begins 6 x_bad = x_push (.int (nI 0)) 1 := rfl
theorem kX10_begins_7 : List.getD tX10_begins 7 x_bad = x_iast := rfl
theorem kX10_begins_8 : List.getD tX10_begins 8 x_bad = x_push (.int (nI 0)) 1 := rfl
theorem kX10_begins_9 : List.getD tX10_begins 9 x_bad = x_istore 1 1 := rfl
theorem kX10_begins_10 : List.getD tX10_begins 10 x_bad = x_iload 1 1 := rfl
theorem kX10_begins_11 : List.getD tX10_begins 11 x_bad = x_push (.int (nI 128)) 3 := rfl
theorem kX10_begins_14 : List.getD tX10_begins 14 x_bad = x_icmp (fun a b => b ≤ a) 52 := rfl
theorem kX10_begins_17 : List.getD tX10_begins 17 x_bad = x_aload 0 1 := rfl
theorem kX10_begins_18 : List.getD tX10_begins 18 x_bad = x_getR 10 0 := rfl
theorem kX10_begins_21 : List.getD tX10_begins 21 x_bad = x_push (.int (nI 75)) 2 := rfl
theorem kX10_begins_23 : List.getD tX10_begins 23 x_bad = x_iload 1 1 := rfl
theorem kX10_begins_24 : List.getD tX10_begins 24 x_bad = x_ii (fun a b => a + b) := rfl
theorem kX10_begins_25 : List.getD tX10_begins 25 x_bad = x_iload 1 1 := rfl
theorem kX10_begins_26 : List.getD tX10_begins 26 x_bad = x_aload 0 1 := rfl
theorem kX10_begins_27 : List.getD tX10_begins 27 x_bad = x_getI 10 12 := rfl
theorem kX10_begins_30 : List.getD tX10_begins 30 x_bad = x_icmp (fun a b => b ≤ a) 44 := rfl
theorem kX10_begins_33 : List.getD tX10_begins 33 x_bad = x_aload 0 1 := rfl
theorem kX10_begins_34 : List.getD tX10_begins 34 x_bad = x_getR 10 11 := rfl
theorem kX10_begins_37 : List.getD tX10_begins 37 x_bad = x_iload 1 1 := rfl
theorem kX10_begins_38 : List.getD tX10_begins 38 x_bad = x_iald := rfl
theorem kX10_begins_39 : List.getD tX10_begins 39 x_bad = x_push (.int (nI 1)) 1 := rfl
theorem kX10_begins_40 : List.getD tX10_begins 40 x_bad = x_ii (fun a b => a &&& b) := rfl
theorem kX10_begins_41 : List.getD tX10_begins 41 x_bad = x_goto 45 := rfl
theorem kX10_begins_44 : List.getD tX10_begins 44 x_bad = x_push (.int (nI 0)) 1 := rfl
theorem kX10_begins_45 : List.getD tX10_begins 45 x_bad = x_iast := rfl
theorem kX10_begins_46 : List.getD tX10_begins 46 x_bad = x_iinc 1 (nI 1) := rfl
theorem kX10_begins_49 : List.getD tX10_begins 49 x_bad = x_goto 10 := rfl
theorem kX10_begins_52 : List.getD tX10_begins 52 x_bad = x_vret := rfl
def tX10_bits : List PT := [x_push (.int (nI 0)) 1, x_istore 1 1, x_push (.int (nI 0)) 1, x_istore 2 1, x_iload 2 1, x_push (.int (nI 10)) 2, x_bad, x_icmp (fun a b => b ≤ a) 24, x_bad, x_bad, x_iload 1 1, x_iload 0 1, x_iload 2 1, x_ii (fun a b => a >>> (b &&& 31)), x_push (.int (nI 1)) 1, x_ii (fun a b => a &&& b), x_ii (fun a b => a + b), x_istore 1 1, x_iinc 2 (nI 1), x_bad, x_bad, x_goto 4, x_bad, x_bad, x_iload 1 1, x_iret]
set_option maxRecDepth 20000 in
theorem okX10_bits : SndT RX10 cX10_bits mX10_bits.2.2.1 mX10_bits.2.2.2.2.1 mX10_bits.2.2.2.2.2 false mX10_bits.2.2.2.1 0 tX10_bits := ⟨s_iconst (n := 0) (by decide +kernel) (by decide +kernel), s_istore_n (k := 1) (i := 1) (by decide +kernel) rfl (by decide), s_iconst (n := 0) (by decide +kernel) (by decide +kernel), s_istore_n (k := 2) (i := 2) (by decide +kernel) rfl (by decide), s_iload_n (k := 2) (i := 2) (by decide +kernel) rfl, s_bipush (n := 10) (by decide +kernel) (by decide +kernel), s_bad, s_icmp_ge (off := 17) (by decide +kernel) (by decide), s_bad, s_bad, s_iload_n (k := 1) (i := 1) (by decide +kernel) rfl, s_iload_n (k := 0) (i := 0) (by decide +kernel) rfl, s_iload_n (k := 2) (i := 2) (by decide +kernel) rfl, s_ishr (by decide +kernel), s_iconst (n := 1) (by decide +kernel) (by decide +kernel), s_iand (by decide +kernel), s_iadd (by decide +kernel), s_istore_n (k := 1) (i := 1) (by decide +kernel) rfl (by decide), s_iinc (n := 1) (by decide +kernel) (by decide +kernel) (by decide), s_bad, s_bad, s_goto (off := (-17)) (by decide +kernel) (by decide), s_bad, s_bad, s_iload_n (k := 1) (i := 1) (by decide +kernel) rfl, s_iret (by decide +kernel) rfl, trivial⟩
theorem kX10_bits_0 : List.getD tX10_bits 0 x_bad = x_push (.int (nI 0)) 1 := rfl
theorem kX10_bits_1 : List.getD tX10_bits 1 x_bad = x_istore 1 1 := rfl
theorem kX10_bits_2 : List.getD tX10_bits 2 x_bad = x_push (.int (nI 0)) 1 := rfl
theorem kX10_bits_3 : List.getD tX10_bits 3 x_bad = x_istore 2 1 := rfl
theorem kX10_bits_4 : List.getD tX10_bits 4 x_bad = x_iload 2 1 := rfl
theorem kX10_bits_5 : List.getD tX10_bits 5 x_bad = x_push (.int (nI 10)) 2 := rfl
theorem kX10_bits_7 : List.getD tX10_bits 7 x_bad = x_icmp (fun a b => b ≤ a) 24 := rfl
theorem kX10_bits_10 : List.getD tX10_bits 10 x_bad = x_iload 1 1 := rfl
theorem kX10_bits_11 : List.getD tX10_bits 11 x_bad = x_iload 0 1 := rfl
theorem kX10_bits_12 : List.getD tX10_bits 12 x_bad = x_iload 2 1 := rfl
theorem kX10_bits_13 : List.getD tX10_bits 13 x_bad = x_ii (fun a b => a >>> (b &&& 31)) := rfl
theorem kX10_bits_14 : List.getD tX10_bits 14 x_bad = x_push (.int (nI 1)) 1 := rfl
theorem kX10_bits_15 : List.getD tX10_bits 15 x_bad = x_ii (fun a b => a &&& b) := rfl
theorem kX10_bits_16 : List.getD tX10_bits 16 x_bad = x_ii (fun a b => a + b) := rfl
theorem kX10_bits_17 : List.getD tX10_bits 17 x_bad = x_istore 1 1 := rfl
theorem kX10_bits_18 : List.getD tX10_bits 18 x_bad = x_iinc 2 (nI 1) := rfl
theorem kX10_bits_21 : List.getD tX10_bits 21 x_bad = x_goto 4 := rfl
theorem kX10_bits_24 : List.getD tX10_bits 24 x_bad = x_iload 1 1 := rfl
theorem kX10_bits_25 : List.getD tX10_bits 25 x_bad = x_iret := rfl
def tX10_clearText : List PT := [x_aload 0 1, x_getI 10 25, x_bad, x_bad, x_istore 1 1, x_aload 0 1, x_push (.int (nI 0)) 1, x_putI 10 25, x_bad, x_bad, x_iload 1 1, x_iret]
set_option maxRecDepth 20000 in
theorem okX10_clearText : SndT RX10 cX10_clearText mX10_clearText.2.2.1 mX10_clearText.2.2.2.2.1 mX10_clearText.2.2.2.2.2 false mX10_clearText.2.2.2.1 0 tX10_clearText := ⟨s_aload_n (k := 0) (i := 0) (by decide +kernel) rfl, s_getI (by decide +kernel) fl_RX10_173 rfl, s_bad, s_bad, s_istore_n (k := 1) (i := 1) (by decide +kernel) rfl (by decide), s_aload_n (k := 0) (i := 0) (by decide +kernel) rfl, s_iconst (n := 0) (by decide +kernel) (by decide +kernel), s_putI (by decide +kernel) fl_RX10_173 fp_10_25 rfl, s_bad, s_bad, s_iload_n (k := 1) (i := 1) (by decide +kernel) rfl, s_iret (by decide +kernel) rfl, trivial⟩
theorem kX10_clearText_0 : List.getD tX10_clearText 0 x_bad = x_aload 0 1 := rfl
theorem kX10_clearText_1 : List.getD tX10_clearText 1 x_bad = x_getI 10 25 := rfl
theorem kX10_clearText_4 : List.getD tX10_clearText 4 x_bad = x_istore 1 1 := rfl
theorem kX10_clearText_5 : List.getD tX10_clearText 5 x_bad = x_aload 0 1 := rfl
theorem kX10_clearText_6 : List.getD tX10_clearText 6 x_bad = x_push (.int (nI 0)) 1 := rfl
theorem kX10_clearText_7 : List.getD tX10_clearText 7 x_bad = x_putI 10 25 := rfl
theorem kX10_clearText_10 : List.getD tX10_clearText 10 x_bad = x_iload 1 1 := rfl
theorem kX10_clearText_11 : List.getD tX10_clearText 11 x_bad = x_iret := rfl
def tX10_copies : List PT := [x_push (.int (nI 0)) 1, x_istore 3 1, x_iload 3 1, x_push (.int (nI 203)) 3, x_bad, x_bad, x_icmp (fun a b => b ≤ a) 39, x_bad, x_bad, x_aload 0 1, x_getR 10 0, x_bad, x_bad, x_push (.int (nI 203)) 3, x_bad, x_bad, x_iload 2 1, x_ii (fun a b => a * b), x_iload 3 1, x_ii (fun a b => a + b), x_aload 0 1, x_getR 10 0, x_bad, x_bad, x_push (.int (nI 203)) 3, x_bad, x_bad, x_iload 1 1, x_ii (fun a b => a * b), x_iload 3 1, x_ii (fun a b => a + b), x_iald, x_iast, x_iinc 3 (nI 1), x_bad, x_bad, x_goto 2, x_bad, x_bad, x_vret]
set_option maxRecDepth 20000 in
theorem okX10_copies : SndT RX10 cX10_copies mX10_copies.2.2.1 mX10_copies.2.2.2.2.1 mX10_copies.2.2.2.2.2 false mX10_copies.2.2.2.1 0 tX10_copies := ⟨s_iconst (n := 0) (by decide +kernel) (by decide +kernel), s_istore_n (k := 3) (i := 3) (by decide +kernel) rfl (by decide), s_iload_n (k := 3) (i := 3) (by decide +kernel) rfl, s_sipush (n := 203) (by decide +kernel) (by decide +kernel), s_bad, s_bad, s_icmp_ge (off := 33) (by decide +kernel) (by decide), s_bad, s_bad, s_aload_n (k := 0) (i := 0) (by decide +kernel) rfl, s_getR (by decide +kernel) fl_RX10_7 rfl, s_bad, s_bad, s_sipush (n := 203) (by decide +kernel) (by decide +kernel), s_bad, s_bad, s_iload_n (k := 2) (i := 2) (by decide +kernel) rfl, s_imul (by decide +kernel), s_iload_n (k := 3) (i := 3) (by decide +kernel) rfl, s_iadd (by decide +kernel), s_aload_n (k := 0) (i := 0) (by decide +kernel) rfl, s_getR (by decide +kernel) fl_RX10_7 rfl, s_bad, s_bad, s_sipush (n := 203) (by decide +kernel) (by decide +kernel), s_bad, s_bad, s_iload_n (k := 1) (i := 1) (by decide +kernel) rfl, s_imul (by decide +kernel), s_iload_n (k := 3) (i := 3) (by decide +kernel) rfl, s_iadd (by decide +kernel), s_iald (by decide +kernel), s_iast (by decide +kernel), s_iinc (n := 1) (by decide +kernel) (by decide +kernel) (by decide), s_bad, s_bad, s_goto (off := (-34)) (by decide +kernel) (by decide), s_bad, s_bad, s_vret (by decide +kernel) rfl, trivial⟩
theorem kX10_copies_0 : List.getD tX10_copies 0 x_bad = x_push (.int (nI 0)) 1 := rfl
theorem kX10_copies_1 : List.getD tX10_copies 1 x_bad = x_istore 3 1 := rfl
theorem kX10_copies_2 : List.getD tX10_copies 2 x_bad = x_iload 3 1 := rfl
theorem kX10_copies_3 : List.getD tX10_copies 3 x_bad = x_push (.int (nI 203)) 3 := rfl
theorem kX10_copies_6 : List.getD tX10_copies 6 x_bad = x_icmp (fun a b => b ≤ a) 39 := rfl
theorem kX10_copies_9 : List.getD tX10_copies 9 x_bad = x_aload 0 1 := rfl
theorem kX10_copies_10 : List.getD tX10_copies 10 x_bad = x_getR 10 0 := rfl
theorem kX10_copies_13 : List.getD tX10_copies 13 x_bad = x_push (.int (nI 203)) 3 := rfl
theorem kX10_copies_16 : List.getD tX10_copies 16 x_bad = x_iload 2 1 := rfl
theorem kX10_copies_17 : List.getD tX10_copies 17 x_bad = x_ii (fun a b => a * b) := rfl
theorem kX10_copies_18 : List.getD tX10_copies 18 x_bad = x_iload 3 1 := rfl
theorem kX10_copies_19 : List.getD tX10_copies 19 x_bad = x_ii (fun a b => a + b) := rfl
theorem kX10_copies_20 : List.getD tX10_copies 20 x_bad = x_aload 0 1 := rfl
theorem kX10_copies_21 : List.getD tX10_copies 21 x_bad = x_getR 10 0 := rfl
theorem kX10_copies_24 : List.getD tX10_copies 24 x_bad = x_push (.int (nI 203)) 3 := rfl
theorem kX10_copies_27 : List.getD tX10_copies 27 x_bad = x_iload 1 1 := rfl
theorem kX10_copies_28 : List.getD tX10_copies 28 x_bad = x_ii (fun a b => a * b) := rfl
theorem kX10_copies_29 : List.getD tX10_copies 29 x_bad = x_iload 3 1 := rfl
theorem kX10_copies_30 : List.getD tX10_copies 30 x_bad = x_ii (fun a b => a + b) := rfl
theorem kX10_copies_31 : List.getD tX10_copies 31 x_bad = x_iald := rfl
theorem kX10_copies_32 : List.getD tX10_copies 32 x_bad = x_iast := rfl
theorem kX10_copies_33 : List.getD tX10_copies 33 x_bad = x_iinc 3 (nI 1) := rfl
theorem kX10_copies_36 : List.getD tX10_copies 36 x_bad = x_goto 2 := rfl
theorem kX10_copies_39 : List.getD tX10_copies 39 x_bad = x_vret := rfl
def tX10_fails : List PT := [x_aload 0 1, x_iload 1 1, x_putI 10 26, x_bad, x_bad, x_aload 0 1, x_iload 2 1, x_putI 10 27, x_bad, x_bad, x_vret]
set_option maxRecDepth 20000 in
theorem okX10_fails : SndT RX10 cX10_fails mX10_fails.2.2.1 mX10_fails.2.2.2.2.1 mX10_fails.2.2.2.2.2 false mX10_fails.2.2.2.1 0 tX10_fails := ⟨s_aload_n (k := 0) (i := 0) (by decide +kernel) rfl, s_iload_n (k := 1) (i := 1) (by decide +kernel) rfl, s_putI (by decide +kernel) fl_RX10_176 fp_10_26 rfl, s_bad, s_bad, s_aload_n (k := 0) (i := 0) (by decide +kernel) rfl, s_iload_n (k := 2) (i := 2) (by decide +kernel) rfl, s_putI (by decide +kernel) fl_RX10_179 fp_10_27 rfl, s_bad, s_bad, s_vret (by decide +kernel) rfl, trivial⟩
theorem kX10_fails_0 : List.getD tX10_fails 0 x_bad = x_aload 0 1 := rfl
theorem kX10_fails_1 : List.getD tX10_fails 1 x_bad = x_iload 1 1 := rfl
theorem kX10_fails_2 : List.getD tX10_fails 2 x_bad = x_putI 10 26 := rfl
theorem kX10_fails_5 : List.getD tX10_fails 5 x_bad = x_aload 0 1 := rfl
theorem kX10_fails_6 : List.getD tX10_fails 6 x_bad = x_iload 2 1 := rfl
theorem kX10_fails_7 : List.getD tX10_fails 7 x_bad = x_putI 10 27 := rfl
theorem kX10_fails_10 : List.getD tX10_fails 10 x_bad = x_vret := rfl
def tX10_faultKind : List PT := [x_aload 0 1, x_getI 10 26, x_bad, x_bad, x_iret]
set_option maxRecDepth 20000 in
theorem okX10_faultKind : SndT RX10 cX10_faultKind mX10_faultKind.2.2.1 mX10_faultKind.2.2.2.2.1 mX10_faultKind.2.2.2.2.2 false mX10_faultKind.2.2.2.1 0 tX10_faultKind := ⟨s_aload_n (k := 0) (i := 0) (by decide +kernel) rfl, s_getI (by decide +kernel) fl_RX10_176 rfl, s_bad, s_bad, s_iret (by decide +kernel) rfl, trivial⟩
theorem kX10_faultKind_0 : List.getD tX10_faultKind 0 x_bad = x_aload 0 1 := rfl
theorem kX10_faultKind_1 : List.getD tX10_faultKind 1 x_bad = x_getI 10 26 := rfl
theorem kX10_faultKind_4 : List.getD tX10_faultKind 4 x_bad = x_iret := rfl
def tX10_in : List PT := [x_iload 0 1, x_iload 1 1, x_icmp (fun a b => a < b) 14, x_bad, x_bad, x_iload 0 1, x_iload 2 1, x_icmp (fun a b => b < a) 14, x_bad, x_bad, x_push (.int (nI 1)) 1, x_goto 15, x_bad, x_bad, x_push (.int (nI 0)) 1, x_zret]
set_option maxRecDepth 20000 in
theorem okX10_in : SndT RX10 cX10_in mX10_in.2.2.1 mX10_in.2.2.2.2.1 mX10_in.2.2.2.2.2 false mX10_in.2.2.2.1 0 tX10_in := ⟨s_iload_n (k := 0) (i := 0) (by decide +kernel) rfl, s_iload_n (k := 1) (i := 1) (by decide +kernel) rfl, s_icmp_lt (off := 12) (by decide +kernel) (by decide), s_bad, s_bad, s_iload_n (k := 0) (i := 0) (by decide +kernel) rfl, s_iload_n (k := 2) (i := 2) (by decide +kernel) rfl, s_icmp_gt (off := 7) (by decide +kernel) (by decide), s_bad, s_bad, s_iconst (n := 1) (by decide +kernel) (by decide +kernel), s_goto (off := 4) (by decide +kernel) (by decide), s_bad, s_bad, s_iconst (n := 0) (by decide +kernel) (by decide +kernel), s_zret (by decide +kernel) rfl, trivial⟩
theorem kX10_in_0 : List.getD tX10_in 0 x_bad = x_iload 0 1 := rfl
theorem kX10_in_1 : List.getD tX10_in 1 x_bad = x_iload 1 1 := rfl
theorem kX10_in_2 : List.getD tX10_in 2 x_bad = x_icmp (fun a b => a < b) 14 := rfl
theorem kX10_in_5 : List.getD tX10_in 5 x_bad = x_iload 0 1 := rfl
theorem kX10_in_6 : List.getD tX10_in 6 x_bad = x_iload 2 1 := rfl
theorem kX10_in_7 : List.getD tX10_in 7 x_bad = x_icmp (fun a b => b < a) 14 := rfl
theorem kX10_in_10 : List.getD tX10_in 10 x_bad = x_push (.int (nI 1)) 1 := rfl
theorem kX10_in_11 : List.getD tX10_in 11 x_bad = x_goto 15 := rfl
theorem kX10_in_14 : List.getD tX10_in 14 x_bad = x_push (.int (nI 0)) 1 := rfl
theorem kX10_in_15 : List.getD tX10_in 15 x_bad = x_zret := rfl
def tX10_isTooLarge : List PT := [x_aload 0 1, x_getI 10 18, x_bad, x_bad, x_push (.int (nI 100)) 2, x_bad, x_icmp (fun a b => a ≤ b) 13, x_bad, x_bad, x_push (.int (nI 1)) 1, x_goto 14, x_bad, x_bad, x_push (.int (nI 0)) 1, x_zret]
set_option maxRecDepth 20000 in
theorem okX10_isTooLarge : SndT RX10 cX10_isTooLarge mX10_isTooLarge.2.2.1 mX10_isTooLarge.2.2.2.2.1 mX10_isTooLarge.2.2.2.2.2 false mX10_isTooLarge.2.2.2.1 0 tX10_isTooLarge := ⟨s_aload_n (k := 0) (i := 0) (by decide +kernel) rfl, s_getI (by decide +kernel) fl_RX10_131 rfl, s_bad, s_bad, s_bipush (n := 100) (by decide +kernel) (by decide +kernel), s_bad, s_icmp_le (off := 7) (by decide +kernel) (by decide), s_bad, s_bad, s_iconst (n := 1) (by decide +kernel) (by decide +kernel), s_goto (off := 4) (by decide +kernel) (by decide), s_bad, s_bad, s_iconst (n := 0) (by decide +kernel) (by decide +kernel), s_zret (by decide +kernel) rfl, trivial⟩
theorem kX10_isTooLarge_0 : List.getD tX10_isTooLarge 0 x_bad = x_aload 0 1 := rfl
theorem kX10_isTooLarge_1 : List.getD tX10_isTooLarge 1 x_bad = x_getI 10 18 := rfl
theorem kX10_isTooLarge_4 : List.getD tX10_isTooLarge 4 x_bad = x_push (.int (nI 100)) 2 := rfl
theorem kX10_isTooLarge_6 : List.getD tX10_isTooLarge 6 x_bad = x_icmp (fun a b => a ≤ b) 13 := rfl
theorem kX10_isTooLarge_9 : List.getD tX10_isTooLarge 9 x_bad = x_push (.int (nI 1)) 1 := rfl
theorem kX10_isTooLarge_10 : List.getD tX10_isTooLarge 10 x_bad = x_goto 14 := rfl
theorem kX10_isTooLarge_13 : List.getD tX10_isTooLarge 13 x_bad = x_push (.int (nI 0)) 1 := rfl
theorem kX10_isTooLarge_14 : List.getD tX10_isTooLarge 14 x_bad = x_zret := rfl
def tX10_marked : List PT := [x_push (.long 0) 1, x_lstore 2 1, x_iload 1 1, x_istore 4 2, x_bad, x_iload 4 2, x_bad, x_iload 1 1, x_push (.int (nI 64)) 2, x_bad, x_ii (fun a b => a + b), x_icmp (fun a b => b ≤ a) 39, x_bad, x_bad, x_lload 2 1, x_aload 0 1, x_getR 10 0, x_bad, x_bad, x_push (.int (nI 75)) 2, x_bad, x_iload 4 2, x_bad, x_ii (fun a b => a + b), x_iald, x_i2l, x_iload 4 2, x_bad, x_iload 1 1, x_ii (fun a b => a - b), x_li (fun a b => a <<< (b.toInt64 &&& 63)), x_ll (fun a b => a ||| b), x_lstore 2 1, x_iinc 4 (nI 1), x_bad, x_bad, x_goto 5, x_bad, x_bad, x_lload 2 1, x_lret]
set_option maxRecDepth 20000 in
theorem okX10_marked : SndT RX10 cX10_marked mX10_marked.2.2.1 mX10_marked.2.2.2.2.1 mX10_marked.2.2.2.2.2 false mX10_marked.2.2.2.1 0 tX10_marked := ⟨s_lconst (n := 0) (by decide +kernel) (by decide +kernel), s_lstore_n (k := 2) (i := 2) (by decide +kernel) rfl (by decide), s_iload_n (k := 1) (i := 1) (by decide +kernel) rfl, s_istore (by decide +kernel) (by decide), s_bad, s_iload (by decide +kernel), s_bad, s_iload_n (k := 1) (i := 1) (by decide +kernel) rfl, s_bipush (n := 64) (by decide +kernel) (by decide +kernel), s_bad, s_iadd (by decide +kernel), s_icmp_ge (off := 28) (by decide +kernel) (by decide), s_bad, s_bad, s_lload_n (k := 2) (i := 2) (by decide +kernel) rfl, s_aload_n (k := 0) (i := 0) (by decide +kernel) rfl, s_getR (by decide +kernel) fl_RX10_7 rfl, s_bad, s_bad, s_bipush (n := 75) (by decide +kernel) (by decide +kernel), s_bad, s_iload (by decide +kernel), s_bad, s_iadd (by decide +kernel), s_iald (by decide +kernel), s_i2l (by decide +kernel), s_iload (by decide +kernel), s_bad, s_iload_n (k := 1) (i := 1) (by decide +kernel) rfl, s_isub (by decide +kernel), s_lshl (by decide +kernel), s_lor (by decide +kernel), s_lstore_n (k := 2) (i := 2) (by decide +kernel) rfl (by decide), s_iinc (n := 1) (by decide +kernel) (by decide +kernel) (by decide), s_bad, s_bad, s_goto (off := (-31)) (by decide +kernel) (by decide), s_bad, s_bad, s_lload_n (k := 2) (i := 2) (by decide +kernel) rfl, s_lret (by decide +kernel) rfl, trivial⟩
theorem kX10_marked_0 : List.getD tX10_marked 0 x_bad = x_push (.long 0) 1 := rfl
theorem kX10_marked_1 : List.getD tX10_marked 1 x_bad = x_lstore 2 1 := rfl
theorem kX10_marked_2 : List.getD tX10_marked 2 x_bad = x_iload 1 1 := rfl
theorem kX10_marked_3 : List.getD tX10_marked 3 x_bad = x_istore 4 2 := rfl
theorem kX10_marked_5 : List.getD tX10_marked 5 x_bad = x_iload 4 2 := rfl
theorem kX10_marked_7 : List.getD tX10_marked 7 x_bad = x_iload 1 1 := rfl
theorem kX10_marked_8 : List.getD tX10_marked 8 x_bad = x_push (.int (nI 64)) 2 := rfl
theorem kX10_marked_10 : List.getD tX10_marked 10 x_bad = x_ii (fun a b => a + b) := rfl
theorem kX10_marked_11 : List.getD tX10_marked 11 x_bad = x_icmp (fun a b => b ≤ a) 39 := rfl
theorem kX10_marked_14 : List.getD tX10_marked 14 x_bad = x_lload 2 1 := rfl
theorem kX10_marked_15 : List.getD tX10_marked 15 x_bad = x_aload 0 1 := rfl
theorem kX10_marked_16 : List.getD tX10_marked 16 x_bad = x_getR 10 0 := rfl
theorem kX10_marked_19 : List.getD tX10_marked 19 x_bad = x_push (.int (nI 75)) 2 := rfl
theorem kX10_marked_21 : List.getD tX10_marked 21 x_bad = x_iload 4 2 := rfl
theorem kX10_marked_23 : List.getD tX10_marked 23 x_bad = x_ii (fun a b => a + b) := rfl
theorem kX10_marked_24 : List.getD tX10_marked 24 x_bad = x_iald := rfl
theorem kX10_marked_25 : List.getD tX10_marked 25 x_bad = x_i2l := rfl
theorem kX10_marked_26 : List.getD tX10_marked 26 x_bad = x_iload 4 2 := rfl
theorem kX10_marked_28 : List.getD tX10_marked 28 x_bad = x_iload 1 1 := rfl
theorem kX10_marked_29 : List.getD tX10_marked 29 x_bad = x_ii (fun a b => a - b) := rfl
theorem kX10_marked_30 : List.getD tX10_marked 30 x_bad = x_li (fun a b => a <<< (b.toInt64 &&& 63)) := rfl
theorem kX10_marked_31 : List.getD tX10_marked 31 x_bad = x_ll (fun a b => a ||| b) := rfl
theorem kX10_marked_32 : List.getD tX10_marked 32 x_bad = x_lstore 2 1 := rfl
theorem kX10_marked_33 : List.getD tX10_marked 33 x_bad = x_iinc 4 (nI 1) := rfl
theorem kX10_marked_36 : List.getD tX10_marked 36 x_bad = x_goto 5 := rfl
theorem kX10_marked_39 : List.getD tX10_marked 39 x_bad = x_lload 2 1 := rfl
theorem kX10_marked_40 : List.getD tX10_marked 40 x_bad = x_lret := rfl
def tX10_markingAt : List PT := [x_push (.int (nI 0)) 1, x_istore 5 2, x_bad, x_iload 5 2, x_bad, x_aload 0 1, x_getI 10 18, x_bad, x_bad, x_icmp (fun a b => b ≤ a) 42, x_bad, x_bad, x_aload 0 1, x_getR 10 16, x_bad, x_bad, x_iload 5 2, x_bad, x_lald, x_lload 1 1, x_lcmp, x_ifn (fun a => a = 0) 36, x_bad, x_bad, x_aload 0 1, x_getR 10 17, x_bad, x_bad, x_iload 5 2, x_bad, x_lald, x_lload 3 1, x_lcmp, x_if (fun a => a = 0) 42, x_bad, x_bad, x_iinc 5 (nI 1), x_bad, x_bad, x_goto 3, x_bad, x_bad, x_iload 5 2, x_bad, x_iret]
set_option maxRecDepth 20000 in
theorem okX10_markingAt : SndT RX10 cX10_markingAt mX10_markingAt.2.2.1 mX10_markingAt.2.2.2.2.1 mX10_markingAt.2.2.2.2.2 false mX10_markingAt.2.2.2.1 0 tX10_markingAt := ⟨s_iconst (n := 0) (by decide +kernel) (by decide +kernel), s_istore (by decide +kernel) (by decide), s_bad, s_iload (by decide +kernel), s_bad, s_aload_n (k := 0) (i := 0) (by decide +kernel) rfl, s_getI (by decide +kernel) fl_RX10_131 rfl, s_bad, s_bad, s_icmp_ge (off := 33) (by decide +kernel) (by decide), s_bad, s_bad, s_aload_n (k := 0) (i := 0) (by decide +kernel) rfl, s_getR (by decide +kernel) fl_RX10_45 rfl, s_bad, s_bad, s_iload (by decide +kernel), s_bad, s_lald (by decide +kernel), s_lload_n (k := 1) (i := 1) (by decide +kernel) rfl, s_lcmp (by decide +kernel), s_if_ne (off := 15) (by decide +kernel) (by decide), s_bad, s_bad, s_aload_n (k := 0) (i := 0) (by decide +kernel) rfl, s_getR (by decide +kernel) fl_RX10_48 rfl, s_bad, s_bad, s_iload (by decide +kernel), s_bad, s_lald (by decide +kernel), s_lload_n (k := 3) (i := 3) (by decide +kernel) rfl, s_lcmp (by decide +kernel), s_if_eq (off := 9) (by decide +kernel) (by decide), s_bad, s_bad, s_iinc (n := 1) (by decide +kernel) (by decide +kernel) (by decide), s_bad, s_bad, s_goto (off := (-36)) (by decide +kernel) (by decide), s_bad, s_bad, s_iload (by decide +kernel), s_bad, s_iret (by decide +kernel) rfl, trivial⟩
theorem kX10_markingAt_0 : List.getD tX10_markingAt 0 x_bad = x_push (.int (nI 0)) 1 := rfl
theorem kX10_markingAt_1 : List.getD tX10_markingAt 1 x_bad = x_istore 5 2 := rfl
theorem kX10_markingAt_3 : List.getD tX10_markingAt 3 x_bad = x_iload 5 2 := rfl
theorem kX10_markingAt_5 : List.getD tX10_markingAt 5 x_bad = x_aload 0 1 := rfl
theorem kX10_markingAt_6 : List.getD tX10_markingAt 6 x_bad = x_getI 10 18 := rfl
theorem kX10_markingAt_9 : List.getD tX10_markingAt 9 x_bad = x_icmp (fun a b => b ≤ a) 42 := rfl
theorem kX10_markingAt_12 : List.getD tX10_markingAt 12 x_bad = x_aload 0 1 := rfl
theorem kX10_markingAt_13 : List.getD tX10_markingAt 13 x_bad = x_getR 10 16 := rfl
theorem kX10_markingAt_16 : List.getD tX10_markingAt 16 x_bad = x_iload 5 2 := rfl
theorem kX10_markingAt_18 : List.getD tX10_markingAt 18 x_bad = x_lald := rfl
theorem kX10_markingAt_19 : List.getD tX10_markingAt 19 x_bad = x_lload 1 1 := rfl
theorem kX10_markingAt_20 : List.getD tX10_markingAt 20 x_bad = x_lcmp := rfl
theorem kX10_markingAt_21 : List.getD tX10_markingAt 21 x_bad = x_ifn (fun a => a = 0) 36 := rfl
theorem kX10_markingAt_24 : List.getD tX10_markingAt 24 x_bad = x_aload 0 1 := rfl
theorem kX10_markingAt_25 : List.getD tX10_markingAt 25 x_bad = x_getR 10 17 := rfl
theorem kX10_markingAt_28 : List.getD tX10_markingAt 28 x_bad = x_iload 5 2 := rfl
theorem kX10_markingAt_30 : List.getD tX10_markingAt 30 x_bad = x_lald := rfl
theorem kX10_markingAt_31 : List.getD tX10_markingAt 31 x_bad = x_lload 3 1 := rfl
theorem kX10_markingAt_32 : List.getD tX10_markingAt 32 x_bad = x_lcmp := rfl
theorem kX10_markingAt_33 : List.getD tX10_markingAt 33 x_bad = x_if (fun a => a = 0) 42 := rfl
theorem kX10_markingAt_36 : List.getD tX10_markingAt 36 x_bad = x_iinc 5 (nI 1) := rfl
theorem kX10_markingAt_39 : List.getD tX10_markingAt 39 x_bad = x_goto 3 := rfl
theorem kX10_markingAt_42 : List.getD tX10_markingAt 42 x_bad = x_iload 5 2 := rfl
theorem kX10_markingAt_44 : List.getD tX10_markingAt 44 x_bad = x_iret := rfl
def tX10_mixes : List PT := [x_aload 0 1, x_push (.long 31) 3, x_bad, x_bad, x_aload 0 1, x_getL 10 28, x_bad, x_bad, x_ll (fun a b => a * b), x_iload 1 1, x_i2l, x_ll (fun a b => a + b), x_putL 10 28, x_bad, x_bad, x_vret]
set_option maxRecDepth 20000 in
theorem okX10_mixes : SndT RX10 cX10_mixes mX10_mixes.2.2.1 mX10_mixes.2.2.2.2.1 mX10_mixes.2.2.2.2.2 false mX10_mixes.2.2.2.1 0 tX10_mixes := ⟨s_aload_n (k := 0) (i := 0) (by decide +kernel) rfl, s_ldc2 (by decide +kernel) tb_1265, s_bad, s_bad, s_aload_n (k := 0) (i := 0) (by decide +kernel) rfl, s_getL (by decide +kernel) fl_RX10_261 rfl, s_bad, s_bad, s_lmul (by decide +kernel), s_iload_n (k := 1) (i := 1) (by decide +kernel) rfl, s_i2l (by decide +kernel), s_ladd (by decide +kernel), s_putL (by decide +kernel) fl_RX10_261 fp_10_28 rfl, s_bad, s_bad, s_vret (by decide +kernel) rfl, trivial⟩
theorem kX10_mixes_0 : List.getD tX10_mixes 0 x_bad = x_aload 0 1 := rfl
theorem kX10_mixes_1 : List.getD tX10_mixes 1 x_bad = x_push (.long 31) 3 := rfl
theorem kX10_mixes_4 : List.getD tX10_mixes 4 x_bad = x_aload 0 1 := rfl
theorem kX10_mixes_5 : List.getD tX10_mixes 5 x_bad = x_getL 10 28 := rfl
theorem kX10_mixes_8 : List.getD tX10_mixes 8 x_bad = x_ll (fun a b => a * b) := rfl
theorem kX10_mixes_9 : List.getD tX10_mixes 9 x_bad = x_iload 1 1 := rfl
theorem kX10_mixes_10 : List.getD tX10_mixes 10 x_bad = x_i2l := rfl
theorem kX10_mixes_11 : List.getD tX10_mixes 11 x_bad = x_ll (fun a b => a + b) := rfl
theorem kX10_mixes_12 : List.getD tX10_mixes 12 x_bad = x_putL 10 28 := rfl
theorem kX10_mixes_15 : List.getD tX10_mixes 15 x_bad = x_vret := rfl
def tX10_of : List PT := [x_aload 0 1, x_getR 10 0, x_bad, x_bad, x_push (.int (nI 2)) 1, x_push (.int (nI 3)) 1, x_iload 1 1, x_ii (fun a b => a * b), x_ii (fun a b => a + b), x_iload 2 1, x_ii (fun a b => a + b), x_iald, x_iret]
set_option maxRecDepth 20000 in
theorem okX10_of : SndT RX10 cX10_of mX10_of.2.2.1 mX10_of.2.2.2.2.1 mX10_of.2.2.2.2.2 false mX10_of.2.2.2.1 0 tX10_of := ⟨s_aload_n (k := 0) (i := 0) (by decide +kernel) rfl, s_getR (by decide +kernel) fl_RX10_7 rfl, s_bad, s_bad, s_iconst (n := 2) (by decide +kernel) (by decide +kernel), s_iconst (n := 3) (by decide +kernel) (by decide +kernel), s_iload_n (k := 1) (i := 1) (by decide +kernel) rfl, s_imul (by decide +kernel), s_iadd (by decide +kernel), s_iload_n (k := 2) (i := 2) (by decide +kernel) rfl, s_iadd (by decide +kernel), s_iald (by decide +kernel), s_iret (by decide +kernel) rfl, trivial⟩
theorem kX10_of_0 : List.getD tX10_of 0 x_bad = x_aload 0 1 := rfl
theorem kX10_of_1 : List.getD tX10_of 1 x_bad = x_getR 10 0 := rfl
theorem kX10_of_4 : List.getD tX10_of 4 x_bad = x_push (.int (nI 2)) 1 := rfl
theorem kX10_of_5 : List.getD tX10_of 5 x_bad = x_push (.int (nI 3)) 1 := rfl
theorem kX10_of_6 : List.getD tX10_of 6 x_bad = x_iload 1 1 := rfl
theorem kX10_of_7 : List.getD tX10_of 7 x_bad = x_ii (fun a b => a * b) := rfl
theorem kX10_of_8 : List.getD tX10_of 8 x_bad = x_ii (fun a b => a + b) := rfl
theorem kX10_of_9 : List.getD tX10_of 9 x_bad = x_iload 2 1 := rfl
theorem kX10_of_10 : List.getD tX10_of 10 x_bad = x_ii (fun a b => a + b) := rfl
theorem kX10_of_11 : List.getD tX10_of 11 x_bad = x_iald := rfl
theorem kX10_of_12 : List.getD tX10_of 12 x_bad = x_iret := rfl
def tX10_places : List PT := [x_aload 0 1, x_getI 10 12, x_bad, x_bad, x_iret]
set_option maxRecDepth 20000 in
theorem okX10_places : SndT RX10 cX10_places mX10_places.2.2.1 mX10_places.2.2.2.2.1 mX10_places.2.2.2.2.2 false mX10_places.2.2.2.1 0 tX10_places := ⟨s_aload_n (k := 0) (i := 0) (by decide +kernel) rfl, s_getI (by decide +kernel) fl_RX10_117 rfl, s_bad, s_bad, s_iret (by decide +kernel) rfl, trivial⟩
theorem kX10_places_0 : List.getD tX10_places 0 x_bad = x_aload 0 1 := rfl
theorem kX10_places_1 : List.getD tX10_places 1 x_bad = x_getI 10 12 := rfl
theorem kX10_places_4 : List.getD tX10_places 4 x_bad = x_iret := rfl
def tX10_puts : List PT := [x_push (.int (nI 2)) 1, x_push (.int (nI 3)) 1, x_aload 0 1, x_getR 10 0, x_bad, x_bad, x_push (.int (nI 1)) 1, x_iald, x_ii (fun a b => a * b), x_ii (fun a b => a + b), x_istore 4 2, x_bad, x_aload 0 1, x_getR 10 0, x_bad, x_bad, x_iload 4 2, x_bad, x_iload 1 1, x_iast, x_aload 0 1, x_getR 10 0, x_bad, x_bad, x_iload 4 2, x_bad, x_push (.int (nI 1)) 1, x_ii (fun a b => a + b), x_iload 2 1, x_iast, x_aload 0 1, x_getR 10 0, x_bad, x_bad, x_iload 4 2, x_bad, x_push (.int (nI 2)) 1, x_ii (fun a b => a + b), x_iload 3 1, x_iast, x_aload 0 1, x_getR 10 0, x_bad, x_bad, x_push (.int (nI 1)) 1, x_dup2, x_iald, x_push (.int (nI 1)) 1, x_ii (fun a b => a + b), x_iast, x_vret]
set_option maxRecDepth 20000 in
theorem okX10_puts : SndT RX10 cX10_puts mX10_puts.2.2.1 mX10_puts.2.2.2.2.1 mX10_puts.2.2.2.2.2 false mX10_puts.2.2.2.1 0 tX10_puts := ⟨s_iconst (n := 2) (by decide +kernel) (by decide +kernel), s_iconst (n := 3) (by decide +kernel) (by decide +kernel), s_aload_n (k := 0) (i := 0) (by decide +kernel) rfl, s_getR (by decide +kernel) fl_RX10_7 rfl, s_bad, s_bad, s_iconst (n := 1) (by decide +kernel) (by decide +kernel), s_iald (by decide +kernel), s_imul (by decide +kernel), s_iadd (by decide +kernel), s_istore (by decide +kernel) (by decide), s_bad, s_aload_n (k := 0) (i := 0) (by decide +kernel) rfl, s_getR (by decide +kernel) fl_RX10_7 rfl, s_bad, s_bad, s_iload (by decide +kernel), s_bad, s_iload_n (k := 1) (i := 1) (by decide +kernel) rfl, s_iast (by decide +kernel), s_aload_n (k := 0) (i := 0) (by decide +kernel) rfl, s_getR (by decide +kernel) fl_RX10_7 rfl, s_bad, s_bad, s_iload (by decide +kernel), s_bad, s_iconst (n := 1) (by decide +kernel) (by decide +kernel), s_iadd (by decide +kernel), s_iload_n (k := 2) (i := 2) (by decide +kernel) rfl, s_iast (by decide +kernel), s_aload_n (k := 0) (i := 0) (by decide +kernel) rfl, s_getR (by decide +kernel) fl_RX10_7 rfl, s_bad, s_bad, s_iload (by decide +kernel), s_bad, s_iconst (n := 2) (by decide +kernel) (by decide +kernel), s_iadd (by decide +kernel), s_iload_n (k := 3) (i := 3) (by decide +kernel) rfl, s_iast (by decide +kernel), s_aload_n (k := 0) (i := 0) (by decide +kernel) rfl, s_getR (by decide +kernel) fl_RX10_7 rfl, s_bad, s_bad, s_iconst (n := 1) (by decide +kernel) (by decide +kernel), s_dup2 (by decide +kernel), s_iald (by decide +kernel), s_iconst (n := 1) (by decide +kernel) (by decide +kernel), s_iadd (by decide +kernel), s_iast (by decide +kernel), s_vret (by decide +kernel) rfl, trivial⟩
theorem kX10_puts_0 : List.getD tX10_puts 0 x_bad = x_push (.int (nI 2)) 1 := rfl
theorem kX10_puts_1 : List.getD tX10_puts 1 x_bad = x_push (.int (nI 3)) 1 := rfl
theorem kX10_puts_2 : List.getD tX10_puts 2 x_bad = x_aload 0 1 := rfl
theorem kX10_puts_3 : List.getD tX10_puts 3 x_bad = x_getR 10 0 := rfl
theorem kX10_puts_6 : List.getD tX10_puts 6 x_bad = x_push (.int (nI 1)) 1 := rfl
theorem kX10_puts_7 : List.getD tX10_puts 7 x_bad = x_iald := rfl
theorem kX10_puts_8 : List.getD tX10_puts 8 x_bad = x_ii (fun a b => a * b) := rfl
theorem kX10_puts_9 : List.getD tX10_puts 9 x_bad = x_ii (fun a b => a + b) := rfl
theorem kX10_puts_10 : List.getD tX10_puts 10 x_bad = x_istore 4 2 := rfl
theorem kX10_puts_12 : List.getD tX10_puts 12 x_bad = x_aload 0 1 := rfl
theorem kX10_puts_13 : List.getD tX10_puts 13 x_bad = x_getR 10 0 := rfl
theorem kX10_puts_16 : List.getD tX10_puts 16 x_bad = x_iload 4 2 := rfl
theorem kX10_puts_18 : List.getD tX10_puts 18 x_bad = x_iload 1 1 := rfl
theorem kX10_puts_19 : List.getD tX10_puts 19 x_bad = x_iast := rfl
theorem kX10_puts_20 : List.getD tX10_puts 20 x_bad = x_aload 0 1 := rfl
theorem kX10_puts_21 : List.getD tX10_puts 21 x_bad = x_getR 10 0 := rfl
theorem kX10_puts_24 : List.getD tX10_puts 24 x_bad = x_iload 4 2 := rfl
theorem kX10_puts_26 : List.getD tX10_puts 26 x_bad = x_push (.int (nI 1)) 1 := rfl
theorem kX10_puts_27 : List.getD tX10_puts 27 x_bad = x_ii (fun a b => a + b) := rfl
theorem kX10_puts_28 : List.getD tX10_puts 28 x_bad = x_iload 2 1 := rfl
theorem kX10_puts_29 : List.getD tX10_puts 29 x_bad = x_iast := rfl
theorem kX10_puts_30 : List.getD tX10_puts 30 x_bad = x_aload 0 1 := rfl
theorem kX10_puts_31 : List.getD tX10_puts 31 x_bad = x_getR 10 0 := rfl
theorem kX10_puts_34 : List.getD tX10_puts 34 x_bad = x_iload 4 2 := rfl
theorem kX10_puts_36 : List.getD tX10_puts 36 x_bad = x_push (.int (nI 2)) 1 := rfl
theorem kX10_puts_37 : List.getD tX10_puts 37 x_bad = x_ii (fun a b => a + b) := rfl
theorem kX10_puts_38 : List.getD tX10_puts 38 x_bad = x_iload 3 1 := rfl
theorem kX10_puts_39 : List.getD tX10_puts 39 x_bad = x_iast := rfl
theorem kX10_puts_40 : List.getD tX10_puts 40 x_bad = x_aload 0 1 := rfl
theorem kX10_puts_41 : List.getD tX10_puts 41 x_bad = x_getR 10 0 := rfl
theorem kX10_puts_44 : List.getD tX10_puts 44 x_bad = x_push (.int (nI 1)) 1 := rfl
theorem kX10_puts_45 : List.getD tX10_puts 45 x_bad = x_dup2 := rfl
theorem kX10_puts_46 : List.getD tX10_puts 46 x_bad = x_iald := rfl
theorem kX10_puts_47 : List.getD tX10_puts 47 x_bad = x_push (.int (nI 1)) 1 := rfl
theorem kX10_puts_48 : List.getD tX10_puts 48 x_bad = x_ii (fun a b => a + b) := rfl
theorem kX10_puts_49 : List.getD tX10_puts 49 x_bad = x_iast := rfl
theorem kX10_puts_50 : List.getD tX10_puts 50 x_bad = x_vret := rfl
def tX10_regions : List PT := [x_iload 1 1, x_if (fun a => a = 0) 11, x_bad, x_bad, x_aload 0 1, x_getI 10 5, x_bad, x_bad, x_goto 15, x_bad, x_bad, x_aload 0 1, x_getI 10 3, x_bad, x_bad, x_iret]
set_option maxRecDepth 20000 in
theorem okX10_regions : SndT RX10 cX10_regions mX10_regions.2.2.1 mX10_regions.2.2.2.2.1 mX10_regions.2.2.2.2.2 false mX10_regions.2.2.2.1 0 tX10_regions := ⟨s_iload_n (k := 1) (i := 1) (by decide +kernel) rfl, s_if_eq (off := 10) (by decide +kernel) (by decide), s_bad, s_bad, s_aload_n (k := 0) (i := 0) (by decide +kernel) rfl, s_getI (by decide +kernel) fl_RX10_92 rfl, s_bad, s_bad, s_goto (off := 7) (by decide +kernel) (by decide), s_bad, s_bad, s_aload_n (k := 0) (i := 0) (by decide +kernel) rfl, s_getI (by decide +kernel) fl_RX10_89 rfl, s_bad, s_bad, s_iret (by decide +kernel) rfl, trivial⟩
theorem kX10_regions_0 : List.getD tX10_regions 0 x_bad = x_iload 1 1 := rfl
theorem kX10_regions_1 : List.getD tX10_regions 1 x_bad = x_if (fun a => a = 0) 11 := rfl
theorem kX10_regions_4 : List.getD tX10_regions 4 x_bad = x_aload 0 1 := rfl
theorem kX10_regions_5 : List.getD tX10_regions 5 x_bad = x_getI 10 5 := rfl
theorem kX10_regions_8 : List.getD tX10_regions 8 x_bad = x_goto 15 := rfl
theorem kX10_regions_11 : List.getD tX10_regions 11 x_bad = x_aload 0 1 := rfl
theorem kX10_regions_12 : List.getD tX10_regions 12 x_bad = x_getI 10 3 := rfl
theorem kX10_regions_15 : List.getD tX10_regions 15 x_bad = x_iret := rfl
def tX10_unsolved : List PT := [x_iload 1 1, x_if (fun a => 0 ≤ a) 6, x_bad, x_bad, x_push (.int (-1)) 1, x_iret, x_iload 1 1, x_istore 2 1, x_push (.int (nI 0)) 1, x_istore 3 1, x_iload 3 1, x_aload 0 1, x_getI 10 9, x_bad, x_bad, x_icmp (fun a b => b ≤ a) 68, x_bad, x_bad, x_aload 0 1, x_getR 10 10, x_bad, x_bad, x_iload 3 1, x_zald, x_ifn (fun a => a = 0) 62, x_bad, x_bad, x_iload 2 1, x_ifn (fun a => a = 0) 59, x_bad, x_bad, x_push (.int (nI 1000)) 3, x_bad, x_bad, x_aload 0 1, x_getR 10 6, x_bad, x_bad, x_iload 3 1, x_iald, x_ii (fun a b => a * b), x_push (.int (nI 100)) 2, x_bad, x_aload 0 1, x_getR 10 7, x_bad, x_bad, x_iload 3 1, x_iald, x_ii (fun a b => a * b), x_ii (fun a b => a + b), x_aload 0 1, x_getR 10 8, x_bad, x_bad, x_iload 3 1, x_iald, x_ii (fun a b => a + b), x_iret, x_iinc 2 (-1), x_bad, x_bad, x_iinc 3 (nI 1), x_bad, x_bad, x_goto 10, x_bad, x_bad, x_push (.int (-9)) 2, x_bad, x_iret]
set_option maxRecDepth 20000 in
theorem okX10_unsolved : SndT RX10 cX10_unsolved mX10_unsolved.2.2.1 mX10_unsolved.2.2.2.2.1 mX10_unsolved.2.2.2.2.2 false mX10_unsolved.2.2.2.1 0 tX10_unsolved := ⟨s_iload_n (k := 1) (i := 1) (by decide +kernel) rfl, s_if_ge (off := 5) (by decide +kernel) (by decide), s_bad, s_bad, s_iconst (n := (-1)) (by decide +kernel) (by decide +kernel), s_iret (by decide +kernel) rfl, s_iload_n (k := 1) (i := 1) (by decide +kernel) rfl, s_istore_n (k := 2) (i := 2) (by decide +kernel) rfl (by decide), s_iconst (n := 0) (by decide +kernel) (by decide +kernel), s_istore_n (k := 3) (i := 3) (by decide +kernel) rfl (by decide), s_iload_n (k := 3) (i := 3) (by decide +kernel) rfl, s_aload_n (k := 0) (i := 0) (by decide +kernel) rfl, s_getI (by decide +kernel) fl_RX10_103 rfl, s_bad, s_bad, s_icmp_ge (off := 53) (by decide +kernel) (by decide), s_bad, s_bad, s_aload_n (k := 0) (i := 0) (by decide +kernel) rfl, s_getR (by decide +kernel) fl_RX10_28 rfl, s_bad, s_bad, s_iload_n (k := 3) (i := 3) (by decide +kernel) rfl, s_zald (by decide +kernel), s_if_ne (off := 38) (by decide +kernel) (by decide), s_bad, s_bad, s_iload_n (k := 2) (i := 2) (by decide +kernel) rfl, s_if_ne (off := 31) (by decide +kernel) (by decide), s_bad, s_bad, s_sipush (n := 1000) (by decide +kernel) (by decide +kernel), s_bad, s_bad, s_aload_n (k := 0) (i := 0) (by decide +kernel) rfl, s_getR (by decide +kernel) fl_RX10_19 rfl, s_bad, s_bad, s_iload_n (k := 3) (i := 3) (by decide +kernel) rfl, s_iald (by decide +kernel), s_imul (by decide +kernel), s_bipush (n := 100) (by decide +kernel) (by decide +kernel), s_bad, s_aload_n (k := 0) (i := 0) (by decide +kernel) rfl, s_getR (by decide +kernel) fl_RX10_22 rfl, s_bad, s_bad, s_iload_n (k := 3) (i := 3) (by decide +kernel) rfl, s_iald (by decide +kernel), s_imul (by decide +kernel), s_iadd (by decide +kernel), s_aload_n (k := 0) (i := 0) (by decide +kernel) rfl, s_getR (by decide +kernel) fl_RX10_25 rfl, s_bad, s_bad, s_iload_n (k := 3) (i := 3) (by decide +kernel) rfl, s_iald (by decide +kernel), s_iadd (by decide +kernel), s_iret (by decide +kernel) rfl, s_iinc (n := (-1)) (by decide +kernel) (by decide +kernel) (by decide), s_bad, s_bad, s_iinc (n := 1) (by decide +kernel) (by decide +kernel) (by decide), s_bad, s_bad, s_goto (off := (-55)) (by decide +kernel) (by decide), s_bad, s_bad, s_bipush (n := (-9)) (by decide +kernel) (by decide +kernel), s_bad, s_iret (by decide +kernel) rfl, trivial⟩
theorem kX10_unsolved_0 : List.getD tX10_unsolved 0 x_bad = x_iload 1 1 := rfl
theorem kX10_unsolved_1 : List.getD tX10_unsolved 1 x_bad = x_if (fun a => 0 ≤ a) 6 := rfl
theorem kX10_unsolved_4 : List.getD tX10_unsolved 4 x_bad = x_push (.int (-1)) 1 := rfl
theorem kX10_unsolved_5 : List.getD tX10_unsolved 5 x_bad = x_iret := rfl
theorem kX10_unsolved_6 : List.getD tX10_unsolved 6 x_bad = x_iload 1 1 := rfl
theorem kX10_unsolved_7 : List.getD tX10_unsolved 7 x_bad = x_istore 2 1 := rfl
theorem kX10_unsolved_8 : List.getD tX10_unsolved 8 x_bad = x_push (.int (nI 0)) 1 := rfl
theorem kX10_unsolved_9 : List.getD tX10_unsolved 9 x_bad = x_istore 3 1 := rfl
theorem kX10_unsolved_10 : List.getD tX10_unsolved 10 x_bad = x_iload 3 1 := rfl
theorem kX10_unsolved_11 : List.getD tX10_unsolved 11 x_bad = x_aload 0 1 := rfl
theorem kX10_unsolved_12 : List.getD tX10_unsolved 12 x_bad = x_getI 10 9 := rfl
theorem kX10_unsolved_15 : List.getD tX10_unsolved 15 x_bad = x_icmp (fun a b => b ≤ a) 68 := rfl
theorem kX10_unsolved_18 : List.getD tX10_unsolved 18 x_bad = x_aload 0 1 := rfl
theorem kX10_unsolved_19 : List.getD tX10_unsolved 19 x_bad = x_getR 10 10 := rfl
theorem kX10_unsolved_22 : List.getD tX10_unsolved 22 x_bad = x_iload 3 1 := rfl
theorem kX10_unsolved_23 : List.getD tX10_unsolved 23 x_bad = x_zald := rfl
theorem kX10_unsolved_24 : List.getD tX10_unsolved 24 x_bad = x_ifn (fun a => a = 0) 62 := rfl
theorem kX10_unsolved_27 : List.getD tX10_unsolved 27 x_bad = x_iload 2 1 := rfl
theorem kX10_unsolved_28 : List.getD tX10_unsolved 28 x_bad = x_ifn (fun a => a = 0) 59 := rfl
theorem kX10_unsolved_31 : List.getD tX10_unsolved 31 x_bad = x_push (.int (nI 1000)) 3 := rfl
theorem kX10_unsolved_34 : List.getD tX10_unsolved 34 x_bad = x_aload 0 1 := rfl
theorem kX10_unsolved_35 : List.getD tX10_unsolved 35 x_bad = x_getR 10 6 := rfl
theorem kX10_unsolved_38 : List.getD tX10_unsolved 38 x_bad = x_iload 3 1 := rfl
theorem kX10_unsolved_39 : List.getD tX10_unsolved 39 x_bad = x_iald := rfl
theorem kX10_unsolved_40 : List.getD tX10_unsolved 40 x_bad = x_ii (fun a b => a * b) := rfl
theorem kX10_unsolved_41 : List.getD tX10_unsolved 41 x_bad = x_push (.int (nI 100)) 2 := rfl
theorem kX10_unsolved_43 : List.getD tX10_unsolved 43 x_bad = x_aload 0 1 := rfl
theorem kX10_unsolved_44 : List.getD tX10_unsolved 44 x_bad = x_getR 10 7 := rfl
theorem kX10_unsolved_47 : List.getD tX10_unsolved 47 x_bad = x_iload 3 1 := rfl
theorem kX10_unsolved_48 : List.getD tX10_unsolved 48 x_bad = x_iald := rfl
theorem kX10_unsolved_49 : List.getD tX10_unsolved 49 x_bad = x_ii (fun a b => a * b) := rfl
theorem kX10_unsolved_50 : List.getD tX10_unsolved 50 x_bad = x_ii (fun a b => a + b) := rfl
theorem kX10_unsolved_51 : List.getD tX10_unsolved 51 x_bad = x_aload 0 1 := rfl
theorem kX10_unsolved_52 : List.getD tX10_unsolved 52 x_bad = x_getR 10 8 := rfl
theorem kX10_unsolved_55 : List.getD tX10_unsolved 55 x_bad = x_iload 3 1 := rfl
theorem kX10_unsolved_56 : List.getD tX10_unsolved 56 x_bad = x_iald := rfl
theorem kX10_unsolved_57 : List.getD tX10_unsolved 57 x_bad = x_ii (fun a b => a + b) := rfl
theorem kX10_unsolved_58 : List.getD tX10_unsolved 58 x_bad = x_iret := rfl
theorem kX10_unsolved_59 : List.getD tX10_unsolved 59 x_bad = x_iinc 2 (-1) := rfl
theorem kX10_unsolved_62 : List.getD tX10_unsolved 62 x_bad = x_iinc 3 (nI 1) := rfl
theorem kX10_unsolved_65 : List.getD tX10_unsolved 65 x_bad = x_goto 10 := rfl
theorem kX10_unsolved_68 : List.getD tX10_unsolved 68 x_bad = x_push (.int (-9)) 2 := rfl
theorem kX10_unsolved_70 : List.getD tX10_unsolved 70 x_bad = x_iret := rfl
def tX10_unsolvedMany : List PT := [x_push (.int (nI 0)) 1, x_istore 1 1, x_push (.int (nI 0)) 1, x_istore 2 1, x_iload 2 1, x_aload 0 1, x_getI 10 9, x_bad, x_bad, x_icmp (fun a b => b ≤ a) 35, x_bad, x_bad, x_iload 1 1, x_aload 0 1, x_getR 10 10, x_bad, x_bad, x_iload 2 1, x_zald, x_if (fun a => a = 0) 26, x_bad, x_bad, x_push (.int (nI 0)) 1, x_goto 27, x_bad, x_bad, x_push (.int (nI 1)) 1, x_ii (fun a b => a + b), x_istore 1 1, x_iinc 2 (nI 1), x_bad, x_bad, x_goto 4, x_bad, x_bad, x_iload 1 1, x_iret]
set_option maxRecDepth 20000 in
theorem okX10_unsolvedMany : SndT RX10 cX10_unsolvedMany mX10_unsolvedMany.2.2.1 mX10_unsolvedMany.2.2.2.2.1 mX10_unsolvedMany.2.2.2.2.2 false mX10_unsolvedMany.2.2.2.1 0 tX10_unsolvedMany := ⟨s_iconst (n := 0) (by decide +kernel) (by decide +kernel), s_istore_n (k := 1) (i := 1) (by decide +kernel) rfl (by decide), s_iconst (n := 0) (by decide +kernel) (by decide +kernel), s_istore_n (k := 2) (i := 2) (by decide +kernel) rfl (by decide), s_iload_n (k := 2) (i := 2) (by decide +kernel) rfl, s_aload_n (k := 0) (i := 0) (by decide +kernel) rfl, s_getI (by decide +kernel) fl_RX10_103 rfl, s_bad, s_bad, s_icmp_ge (off := 26) (by decide +kernel) (by decide), s_bad, s_bad, s_iload_n (k := 1) (i := 1) (by decide +kernel) rfl, s_aload_n (k := 0) (i := 0) (by decide +kernel) rfl, s_getR (by decide +kernel) fl_RX10_28 rfl, s_bad, s_bad, s_iload_n (k := 2) (i := 2) (by decide +kernel) rfl, s_zald (by decide +kernel), s_if_eq (off := 7) (by decide +kernel) (by decide), s_bad, s_bad, s_iconst (n := 0) (by decide +kernel) (by decide +kernel), s_goto (off := 4) (by decide +kernel) (by decide), s_bad, s_bad, s_iconst (n := 1) (by decide +kernel) (by decide +kernel), s_iadd (by decide +kernel), s_istore_n (k := 1) (i := 1) (by decide +kernel) rfl (by decide), s_iinc (n := 1) (by decide +kernel) (by decide +kernel) (by decide), s_bad, s_bad, s_goto (off := (-28)) (by decide +kernel) (by decide), s_bad, s_bad, s_iload_n (k := 1) (i := 1) (by decide +kernel) rfl, s_iret (by decide +kernel) rfl, trivial⟩
theorem kX10_unsolvedMany_0 : List.getD tX10_unsolvedMany 0 x_bad = x_push (.int (nI 0)) 1 := rfl
theorem kX10_unsolvedMany_1 : List.getD tX10_unsolvedMany 1 x_bad = x_istore 1 1 := rfl
theorem kX10_unsolvedMany_2 : List.getD tX10_unsolvedMany 2 x_bad = x_push (.int (nI 0)) 1 := rfl
theorem kX10_unsolvedMany_3 : List.getD tX10_unsolvedMany 3 x_bad = x_istore 2 1 := rfl
theorem kX10_unsolvedMany_4 : List.getD tX10_unsolvedMany 4 x_bad = x_iload 2 1 := rfl
theorem kX10_unsolvedMany_5 : List.getD tX10_unsolvedMany 5 x_bad = x_aload 0 1 := rfl
theorem kX10_unsolvedMany_6 : List.getD tX10_unsolvedMany 6 x_bad = x_getI 10 9 := rfl
theorem kX10_unsolvedMany_9 : List.getD tX10_unsolvedMany 9 x_bad = x_icmp (fun a b => b ≤ a) 35 := rfl
theorem kX10_unsolvedMany_12 : List.getD tX10_unsolvedMany 12 x_bad = x_iload 1 1 := rfl
theorem kX10_unsolvedMany_13 : List.getD tX10_unsolvedMany 13 x_bad = x_aload 0 1 := rfl
theorem kX10_unsolvedMany_14 : List.getD tX10_unsolvedMany 14 x_bad = x_getR 10 10 := rfl
theorem kX10_unsolvedMany_17 : List.getD tX10_unsolvedMany 17 x_bad = x_iload 2 1 := rfl
theorem kX10_unsolvedMany_18 : List.getD tX10_unsolvedMany 18 x_bad = x_zald := rfl
theorem kX10_unsolvedMany_19 : List.getD tX10_unsolvedMany 19 x_bad = x_if (fun a => a = 0) 26 := rfl
theorem kX10_unsolvedMany_22 : List.getD tX10_unsolvedMany 22 x_bad = x_push (.int (nI 0)) 1 := rfl
theorem kX10_unsolvedMany_23 : List.getD tX10_unsolvedMany 23 x_bad = x_goto 27 := rfl
theorem kX10_unsolvedMany_26 : List.getD tX10_unsolvedMany 26 x_bad = x_push (.int (nI 1)) 1 := rfl
theorem kX10_unsolvedMany_27 : List.getD tX10_unsolvedMany 27 x_bad = x_ii (fun a b => a + b) := rfl
theorem kX10_unsolvedMany_28 : List.getD tX10_unsolvedMany 28 x_bad = x_istore 1 1 := rfl
theorem kX10_unsolvedMany_29 : List.getD tX10_unsolvedMany 29 x_bad = x_iinc 2 (nI 1) := rfl
theorem kX10_unsolvedMany_32 : List.getD tX10_unsolvedMany 32 x_bad = x_goto 4 := rfl
theorem kX10_unsolvedMany_35 : List.getD tX10_unsolvedMany 35 x_bad = x_iload 1 1 := rfl
theorem kX10_unsolvedMany_36 : List.getD tX10_unsolvedMany 36 x_bad = x_iret := rfl
def tX10_arcsOf : List PT := [x_push (.int (nI 0)) 1, x_istore 2 1, x_push (.int (nI 0)) 1, x_istore 3 1, x_iload 3 1, x_aload 0 1, x_getR 10 0, x_bad, x_bad, x_push (.int (nI 1)) 1, x_iald, x_icmp (fun a b => b ≤ a) 38, x_bad, x_bad, x_iload 2 1, x_aload 0 1, x_iload 3 1, x_push (.int (nI 1)) 1, x_callV2 10 mX10_of, x_bad, x_bad, x_iload 1 1, x_icmpn (fun a b => a = b) 29, x_bad, x_bad, x_push (.int (nI 1)) 1, x_goto 30, x_bad, x_bad, x_push (.int (nI 0)) 1, x_ii (fun a b => a + b), x_istore 2 1, x_iinc 3 (nI 1), x_bad, x_bad, x_goto 4, x_bad, x_bad, x_iload 2 1, x_iret]
set_option maxRecDepth 20000 in
theorem okX10_arcsOf : SndT RX10 cX10_arcsOf mX10_arcsOf.2.2.1 mX10_arcsOf.2.2.2.2.1 mX10_arcsOf.2.2.2.2.2 false mX10_arcsOf.2.2.2.1 0 tX10_arcsOf := ⟨s_iconst (n := 0) (by decide +kernel) (by decide +kernel), s_istore_n (k := 2) (i := 2) (by decide +kernel) rfl (by decide), s_iconst (n := 0) (by decide +kernel) (by decide +kernel), s_istore_n (k := 3) (i := 3) (by decide +kernel) rfl (by decide), s_iload_n (k := 3) (i := 3) (by decide +kernel) rfl, s_aload_n (k := 0) (i := 0) (by decide +kernel) rfl, s_getR (by decide +kernel) fl_RX10_7 rfl, s_bad, s_bad, s_iconst (n := 1) (by decide +kernel) (by decide +kernel), s_iald (by decide +kernel), s_icmp_ge (off := 27) (by decide +kernel) (by decide), s_bad, s_bad, s_iload_n (k := 2) (i := 2) (by decide +kernel) rfl, s_aload_n (k := 0) (i := 0) (by decide +kernel) rfl, s_iload_n (k := 3) (i := 3) (by decide +kernel) rfl, s_iconst (n := 1) (by decide +kernel) (by decide +kernel), s_callV2 (by decide +kernel) lv_RX10_78 ⟨by decide, by decide⟩, s_bad, s_bad, s_iload_n (k := 1) (i := 1) (by decide +kernel) rfl, s_icmp_ne (off := 7) (by decide +kernel) (by decide), s_bad, s_bad, s_iconst (n := 1) (by decide +kernel) (by decide +kernel), s_goto (off := 4) (by decide +kernel) (by decide), s_bad, s_bad, s_iconst (n := 0) (by decide +kernel) (by decide +kernel), s_iadd (by decide +kernel), s_istore_n (k := 2) (i := 2) (by decide +kernel) rfl (by decide), s_iinc (n := 1) (by decide +kernel) (by decide +kernel) (by decide), s_bad, s_bad, s_goto (off := (-31)) (by decide +kernel) (by decide), s_bad, s_bad, s_iload_n (k := 2) (i := 2) (by decide +kernel) rfl, s_iret (by decide +kernel) rfl, trivial⟩
theorem kX10_arcsOf_0 : List.getD tX10_arcsOf 0 x_bad = x_push (.int (nI 0)) 1 := rfl
theorem kX10_arcsOf_1 : List.getD tX10_arcsOf 1 x_bad = x_istore 2 1 := rfl
theorem kX10_arcsOf_2 : List.getD tX10_arcsOf 2 x_bad = x_push (.int (nI 0)) 1 := rfl
theorem kX10_arcsOf_3 : List.getD tX10_arcsOf 3 x_bad = x_istore 3 1 := rfl
theorem kX10_arcsOf_4 : List.getD tX10_arcsOf 4 x_bad = x_iload 3 1 := rfl
theorem kX10_arcsOf_5 : List.getD tX10_arcsOf 5 x_bad = x_aload 0 1 := rfl
theorem kX10_arcsOf_6 : List.getD tX10_arcsOf 6 x_bad = x_getR 10 0 := rfl
theorem kX10_arcsOf_9 : List.getD tX10_arcsOf 9 x_bad = x_push (.int (nI 1)) 1 := rfl
theorem kX10_arcsOf_10 : List.getD tX10_arcsOf 10 x_bad = x_iald := rfl
theorem kX10_arcsOf_11 : List.getD tX10_arcsOf 11 x_bad = x_icmp (fun a b => b ≤ a) 38 := rfl
theorem kX10_arcsOf_14 : List.getD tX10_arcsOf 14 x_bad = x_iload 2 1 := rfl
theorem kX10_arcsOf_15 : List.getD tX10_arcsOf 15 x_bad = x_aload 0 1 := rfl
theorem kX10_arcsOf_16 : List.getD tX10_arcsOf 16 x_bad = x_iload 3 1 := rfl
theorem kX10_arcsOf_17 : List.getD tX10_arcsOf 17 x_bad = x_push (.int (nI 1)) 1 := rfl
theorem kX10_arcsOf_18 : List.getD tX10_arcsOf 18 x_bad = x_callV2 10 mX10_of := rfl
theorem kX10_arcsOf_21 : List.getD tX10_arcsOf 21 x_bad = x_iload 1 1 := rfl
theorem kX10_arcsOf_22 : List.getD tX10_arcsOf 22 x_bad = x_icmpn (fun a b => a = b) 29 := rfl
theorem kX10_arcsOf_25 : List.getD tX10_arcsOf 25 x_bad = x_push (.int (nI 1)) 1 := rfl
theorem kX10_arcsOf_26 : List.getD tX10_arcsOf 26 x_bad = x_goto 30 := rfl
theorem kX10_arcsOf_29 : List.getD tX10_arcsOf 29 x_bad = x_push (.int (nI 0)) 1 := rfl
theorem kX10_arcsOf_30 : List.getD tX10_arcsOf 30 x_bad = x_ii (fun a b => a + b) := rfl
theorem kX10_arcsOf_31 : List.getD tX10_arcsOf 31 x_bad = x_istore 2 1 := rfl
theorem kX10_arcsOf_32 : List.getD tX10_arcsOf 32 x_bad = x_iinc 3 (nI 1) := rfl
theorem kX10_arcsOf_35 : List.getD tX10_arcsOf 35 x_bad = x_goto 4 := rfl
theorem kX10_arcsOf_38 : List.getD tX10_arcsOf 38 x_bad = x_iload 2 1 := rfl
theorem kX10_arcsOf_39 : List.getD tX10_arcsOf 39 x_bad = x_iret := rfl
def tX10_crossing : List PT := [x_push (.int (nI 1)) 1, x_istore 3 1, x_push (.int (nI 1)) 1, x_istore 4 2, x_bad, x_push (.int (nI 1)) 1, x_istore 5 2, x_bad, x_push (.int (nI 0)) 1, x_istore 6 2, x_bad, x_iload 6 2, x_bad, x_aload 0 1, x_getR 10 0, x_bad, x_bad, x_push (.int (nI 1)) 1, x_iald, x_icmp (fun a b => b ≤ a) 144, x_bad, x_bad, x_aload 0 1, x_iload 6 2, x_bad, x_push (.int (nI 1)) 1, x_callV2 10 mX10_of, x_bad, x_bad, x_iload 2 1, x_icmpn (fun a b => a = b) 138, x_bad, x_bad, x_iload 1 1, x_aload 0 1, x_iload 6 2, x_bad, x_push (.int (nI 0)) 1, x_callV2 10 mX10_of, x_bad, x_bad, x_ii (fun a b => a >>> (b &&& 31)), x_push (.int (nI 1)) 1, x_ii (fun a b => a &&& b), x_push (.int (nI 1)) 1, x_icmpn (fun a b => a = b) 52, x_bad, x_bad, x_push (.int (nI 1)) 1, x_goto 53, x_bad, x_bad, x_push (.int (nI 0)) 1, x_istore 7 2, x_bad, x_iload 1 1, x_aload 0 1, x_iload 6 2, x_bad, x_push (.int (nI 2)) 1, x_callV2 10 mX10_of, x_bad, x_bad, x_ii (fun a b => a >>> (b &&& 31)), x_push (.int (nI 1)) 1, x_ii (fun a b => a &&& b), x_push (.int (nI 1)) 1, x_icmpn (fun a b => a = b) 74, x_bad, x_bad, x_push (.int (nI 1)) 1, x_goto 75, x_bad, x_bad, x_push (.int (nI 0)) 1, x_istore 8 2, x_bad, x_iload 3 1, x_if (fun a => a = 0) 95, x_bad, x_bad, x_iload 7 2, x_bad, x_ifn (fun a => a = 0) 95, x_bad, x_bad, x_iload 8 2, x_bad, x_if (fun a => a = 0) 95, x_bad, x_bad, x_push (.int (nI 1)) 1, x_goto 96, x_bad, x_bad, x_push (.int (nI 0)) 1, x_istore 3 1, x_iload 4 2, x_bad, x_if (fun a => a = 0) 116, x_bad, x_bad, x_iload 7 2, x_bad, x_if (fun a => a = 0) 116, x_bad, x_bad, x_iload 8 2, x_bad, x_ifn (fun a => a = 0) 116, x_bad, x_bad, x_push (.int (nI 1)) 1, x_goto 117, x_bad, x_bad, x_push (.int (nI 0)) 1, x_istore 4 2, x_bad, x_iload 5 2, x_bad, x_if (fun a => a = 0) 135, x_bad, x_bad, x_iload 7 2, x_bad, x_iload 8 2, x_bad, x_icmpn (fun a b => a = b) 135, x_bad, x_bad, x_push (.int (nI 1)) 1, x_goto 136, x_bad, x_bad, x_push (.int (nI 0)) 1, x_istore 5 2, x_bad, x_iinc 6 (nI 1), x_bad, x_bad, x_goto 11, x_bad, x_bad, x_iload 5 2, x_bad, x_if (fun a => a = 0) 153, x_bad, x_bad, x_push (.int (nI 0)) 1, x_goto 171, x_bad, x_bad, x_iload 3 1, x_if (fun a => a = 0) 161, x_bad, x_bad, x_push (.int (nI 1)) 1, x_goto 171, x_bad, x_bad, x_iload 4 2, x_bad, x_if (fun a => a = 0) 170, x_bad, x_bad, x_push (.int (nI 2)) 1, x_goto 171, x_bad, x_bad, x_push (.int (nI 3)) 1, x_iret]
set_option maxRecDepth 20000 in
theorem okX10_crossing : SndT RX10 cX10_crossing mX10_crossing.2.2.1 mX10_crossing.2.2.2.2.1 mX10_crossing.2.2.2.2.2 false mX10_crossing.2.2.2.1 0 tX10_crossing := ⟨s_iconst (n := 1) (by decide +kernel) (by decide +kernel), s_istore_n (k := 3) (i := 3) (by decide +kernel) rfl (by decide), s_iconst (n := 1) (by decide +kernel) (by decide +kernel), s_istore (by decide +kernel) (by decide), s_bad, s_iconst (n := 1) (by decide +kernel) (by decide +kernel), s_istore (by decide +kernel) (by decide), s_bad, s_iconst (n := 0) (by decide +kernel) (by decide +kernel), s_istore (by decide +kernel) (by decide), s_bad, s_iload (by decide +kernel), s_bad, s_aload_n (k := 0) (i := 0) (by decide +kernel) rfl, s_getR (by decide +kernel) fl_RX10_7 rfl, s_bad, s_bad, s_iconst (n := 1) (by decide +kernel) (by decide +kernel), s_iald (by decide +kernel), s_icmp_ge (off := 125) (by decide +kernel) (by decide), s_bad, s_bad, s_aload_n (k := 0) (i := 0) (by decide +kernel) rfl, s_iload (by decide +kernel), s_bad, s_iconst (n := 1) (by decide +kernel) (by decide +kernel), s_callV2 (by decide +kernel) lv_RX10_78 ⟨by decide, by decide⟩, s_bad, s_bad, s_iload_n (k := 2) (i := 2) (by decide +kernel) rfl, s_icmp_ne (off := 108) (by decide +kernel) (by decide), s_bad, s_bad, s_iload_n (k := 1) (i := 1) (by decide +kernel) rfl, s_aload_n (k := 0) (i := 0) (by decide +kernel) rfl, s_iload (by decide +kernel), s_bad, s_iconst (n := 0) (by decide +kernel) (by decide +kernel), s_callV2 (by decide +kernel) lv_RX10_78 ⟨by decide, by decide⟩, s_bad, s_bad, s_ishr (by decide +kernel), s_iconst (n := 1) (by decide +kernel) (by decide +kernel), s_iand (by decide +kernel), s_iconst (n := 1) (by decide +kernel) (by decide +kernel), s_icmp_ne (off := 7) (by decide +kernel) (by decide), s_bad, s_bad, s_iconst (n := 1) (by decide +kernel) (by decide +kernel), s_goto (off := 4) (by decide +kernel) (by decide), s_bad, s_bad, s_iconst (n := 0) (by decide +kernel) (by decide +kernel), s_istore (by decide +kernel) (by decide), s_bad, s_iload_n (k := 1) (i := 1) (by decide +kernel) rfl, s_aload_n (k := 0) (i := 0) (by decide +kernel) rfl, s_iload (by decide +kernel), s_bad, s_iconst (n := 2) (by decide +kernel) (by decide +kernel), s_callV2 (by decide +kernel) lv_RX10_78 ⟨by decide, by decide⟩, s_bad, s_bad, s_ishr (by decide +kernel), s_iconst (n := 1) (by decide +kernel) (by decide +kernel), s_iand (by decide +kernel), s_iconst (n := 1) (by decide +kernel) (by decide +kernel), s_icmp_ne (off := 7) (by decide +kernel) (by decide), s_bad, s_bad, s_iconst (n := 1) (by decide +kernel) (by decide +kernel), s_goto (off := 4) (by decide +kernel) (by decide), s_bad, s_bad, s_iconst (n := 0) (by decide +kernel) (by decide +kernel), s_istore (by decide +kernel) (by decide), s_bad, s_iload_n (k := 3) (i := 3) (by decide +kernel) rfl, s_if_eq (off := 17) (by decide +kernel) (by decide), s_bad, s_bad, s_iload (by decide +kernel), s_bad, s_if_ne (off := 12) (by decide +kernel) (by decide), s_bad, s_bad, s_iload (by decide +kernel), s_bad, s_if_eq (off := 7) (by decide +kernel) (by decide), s_bad, s_bad, s_iconst (n := 1) (by decide +kernel) (by decide +kernel), s_goto (off := 4) (by decide +kernel) (by decide), s_bad, s_bad, s_iconst (n := 0) (by decide +kernel) (by decide +kernel), s_istore_n (k := 3) (i := 3) (by decide +kernel) rfl (by decide), s_iload (by decide +kernel), s_bad, s_if_eq (off := 17) (by decide +kernel) (by decide), s_bad, s_bad, s_iload (by decide +kernel), s_bad, s_if_eq (off := 12) (by decide +kernel) (by decide), s_bad, s_bad, s_iload (by decide +kernel), s_bad, s_if_ne (off := 7) (by decide +kernel) (by decide), s_bad, s_bad, s_iconst (n := 1) (by decide +kernel) (by decide +kernel), s_goto (off := 4) (by decide +kernel) (by decide), s_bad, s_bad, s_iconst (n := 0) (by decide +kernel) (by decide +kernel), s_istore (by decide +kernel) (by decide), s_bad, s_iload (by decide +kernel), s_bad, s_if_eq (off := 14) (by decide +kernel) (by decide), s_bad, s_bad, s_iload (by decide +kernel), s_bad, s_iload (by decide +kernel), s_bad, s_icmp_ne (off := 7) (by decide +kernel) (by decide), s_bad, s_bad, s_iconst (n := 1) (by decide +kernel) (by decide +kernel), s_goto (off := 4) (by decide +kernel) (by decide), s_bad, s_bad, s_iconst (n := 0) (by decide +kernel) (by decide +kernel), s_istore (by decide +kernel) (by decide), s_bad, s_iinc (n := 1) (by decide +kernel) (by decide +kernel) (by decide), s_bad, s_bad, s_goto (off := (-130)) (by decide +kernel) (by decide), s_bad, s_bad, s_iload (by decide +kernel), s_bad, s_if_eq (off := 7) (by decide +kernel) (by decide), s_bad, s_bad, s_iconst (n := 0) (by decide +kernel) (by decide +kernel), s_goto (off := 21) (by decide +kernel) (by decide), s_bad, s_bad, s_iload_n (k := 3) (i := 3) (by decide +kernel) rfl, s_if_eq (off := 7) (by decide +kernel) (by decide), s_bad, s_bad, s_iconst (n := 1) (by decide +kernel) (by decide +kernel), s_goto (off := 13) (by decide +kernel) (by decide), s_bad, s_bad, s_iload (by decide +kernel), s_bad, s_if_eq (off := 7) (by decide +kernel) (by decide), s_bad, s_bad, s_iconst (n := 2) (by decide +kernel) (by decide +kernel), s_goto (off := 4) (by decide +kernel) (by decide), s_bad, s_bad, s_iconst (n := 3) (by decide +kernel) (by decide +kernel), s_iret (by decide +kernel) rfl, trivial⟩
theorem kX10_crossing_0 : List.getD tX10_crossing 0 x_bad = x_push (.int (nI 1)) 1 := rfl
theorem kX10_crossing_1 : List.getD tX10_crossing 1 x_bad = x_istore 3 1 := rfl
theorem kX10_crossing_2 : List.getD tX10_crossing 2 x_bad = x_push (.int (nI 1)) 1 := rfl
theorem kX10_crossing_3 : List.getD tX10_crossing 3 x_bad = x_istore 4 2 := rfl
theorem kX10_crossing_5 : List.getD tX10_crossing 5 x_bad = x_push (.int (nI 1)) 1 := rfl
theorem kX10_crossing_6 : List.getD tX10_crossing 6 x_bad = x_istore 5 2 := rfl
theorem kX10_crossing_8 : List.getD tX10_crossing 8 x_bad = x_push (.int (nI 0)) 1 := rfl
theorem kX10_crossing_9 : List.getD tX10_crossing 9 x_bad = x_istore 6 2 := rfl
theorem kX10_crossing_11 : List.getD tX10_crossing 11 x_bad = x_iload 6 2 := rfl
theorem kX10_crossing_13 : List.getD tX10_crossing 13 x_bad = x_aload 0 1 := rfl
theorem kX10_crossing_14 : List.getD tX10_crossing 14 x_bad = x_getR 10 0 := rfl
theorem kX10_crossing_17 : List.getD tX10_crossing 17 x_bad = x_push (.int (nI 1)) 1 := rfl
theorem kX10_crossing_18 : List.getD tX10_crossing 18 x_bad = x_iald := rfl
theorem kX10_crossing_19 : List.getD tX10_crossing 19 x_bad = x_icmp (fun a b => b ≤ a) 144 := rfl
theorem kX10_crossing_22 : List.getD tX10_crossing 22 x_bad = x_aload 0 1 := rfl
theorem kX10_crossing_23 : List.getD tX10_crossing 23 x_bad = x_iload 6 2 := rfl
theorem kX10_crossing_25 : List.getD tX10_crossing 25 x_bad = x_push (.int (nI 1)) 1 := rfl
theorem kX10_crossing_26 : List.getD tX10_crossing 26 x_bad = x_callV2 10 mX10_of := rfl
theorem kX10_crossing_29 : List.getD tX10_crossing 29 x_bad = x_iload 2 1 := rfl
theorem kX10_crossing_30 : List.getD tX10_crossing 30 x_bad = x_icmpn (fun a b => a = b) 138 := rfl
theorem kX10_crossing_33 : List.getD tX10_crossing 33 x_bad = x_iload 1 1 := rfl
theorem kX10_crossing_34 : List.getD tX10_crossing 34 x_bad = x_aload 0 1 := rfl
theorem kX10_crossing_35 : List.getD tX10_crossing 35 x_bad = x_iload 6 2 := rfl
theorem kX10_crossing_37 : List.getD tX10_crossing 37 x_bad = x_push (.int (nI 0)) 1 := rfl
theorem kX10_crossing_38 : List.getD tX10_crossing 38 x_bad = x_callV2 10 mX10_of := rfl
theorem kX10_crossing_41 : List.getD tX10_crossing 41 x_bad = x_ii (fun a b => a >>> (b &&& 31)) := rfl
theorem kX10_crossing_42 : List.getD tX10_crossing 42 x_bad = x_push (.int (nI 1)) 1 := rfl
theorem kX10_crossing_43 : List.getD tX10_crossing 43 x_bad = x_ii (fun a b => a &&& b) := rfl
theorem kX10_crossing_44 : List.getD tX10_crossing 44 x_bad = x_push (.int (nI 1)) 1 := rfl
theorem kX10_crossing_45 : List.getD tX10_crossing 45 x_bad = x_icmpn (fun a b => a = b) 52 := rfl
theorem kX10_crossing_48 : List.getD tX10_crossing 48 x_bad = x_push (.int (nI 1)) 1 := rfl
theorem kX10_crossing_49 : List.getD tX10_crossing 49 x_bad = x_goto 53 := rfl
theorem kX10_crossing_52 : List.getD tX10_crossing 52 x_bad = x_push (.int (nI 0)) 1 := rfl
theorem kX10_crossing_53 : List.getD tX10_crossing 53 x_bad = x_istore 7 2 := rfl
theorem kX10_crossing_55 : List.getD tX10_crossing 55 x_bad = x_iload 1 1 := rfl
theorem kX10_crossing_56 : List.getD tX10_crossing 56 x_bad = x_aload 0 1 := rfl
theorem kX10_crossing_57 : List.getD tX10_crossing 57 x_bad = x_iload 6 2 := rfl
theorem kX10_crossing_59 : List.getD tX10_crossing 59 x_bad = x_push (.int (nI 2)) 1 := rfl
theorem kX10_crossing_60 : List.getD tX10_crossing 60 x_bad = x_callV2 10 mX10_of := rfl
theorem kX10_crossing_63 : List.getD tX10_crossing 63 x_bad = x_ii (fun a b => a >>> (b &&& 31)) := rfl
theorem kX10_crossing_64 : List.getD tX10_crossing 64 x_bad = x_push (.int (nI 1)) 1 := rfl
theorem kX10_crossing_65 : List.getD tX10_crossing 65 x_bad = x_ii (fun a b => a &&& b) := rfl
theorem kX10_crossing_66 : List.getD tX10_crossing 66 x_bad = x_push (.int (nI 1)) 1 := rfl
theorem kX10_crossing_67 : List.getD tX10_crossing 67 x_bad = x_icmpn (fun a b => a = b) 74 := rfl
theorem kX10_crossing_70 : List.getD tX10_crossing 70 x_bad = x_push (.int (nI 1)) 1 := rfl
theorem kX10_crossing_71 : List.getD tX10_crossing 71 x_bad = x_goto 75 := rfl
theorem kX10_crossing_74 : List.getD tX10_crossing 74 x_bad = x_push (.int (nI 0)) 1 := rfl
theorem kX10_crossing_75 : List.getD tX10_crossing 75 x_bad = x_istore 8 2 := rfl
theorem kX10_crossing_77 : List.getD tX10_crossing 77 x_bad = x_iload 3 1 := rfl
theorem kX10_crossing_78 : List.getD tX10_crossing 78 x_bad = x_if (fun a => a = 0) 95 := rfl
theorem kX10_crossing_81 : List.getD tX10_crossing 81 x_bad = x_iload 7 2 := rfl
theorem kX10_crossing_83 : List.getD tX10_crossing 83 x_bad = x_ifn (fun a => a = 0) 95 := rfl
theorem kX10_crossing_86 : List.getD tX10_crossing 86 x_bad = x_iload 8 2 := rfl
theorem kX10_crossing_88 : List.getD tX10_crossing 88 x_bad = x_if (fun a => a = 0) 95 := rfl
theorem kX10_crossing_91 : List.getD tX10_crossing 91 x_bad = x_push (.int (nI 1)) 1 := rfl
theorem kX10_crossing_92 : List.getD tX10_crossing 92 x_bad = x_goto 96 := rfl
theorem kX10_crossing_95 : List.getD tX10_crossing 95 x_bad = x_push (.int (nI 0)) 1 := rfl
theorem kX10_crossing_96 : List.getD tX10_crossing 96 x_bad = x_istore 3 1 := rfl
theorem kX10_crossing_97 : List.getD tX10_crossing 97 x_bad = x_iload 4 2 := rfl
theorem kX10_crossing_99 : List.getD tX10_crossing 99 x_bad = x_if (fun a => a = 0) 116 := rfl
theorem kX10_crossing_102 : List.getD tX10_crossing 102 x_bad = x_iload 7 2 := rfl
theorem kX10_crossing_104 : List.getD tX10_crossing 104 x_bad = x_if (fun a => a = 0) 116 := rfl
theorem kX10_crossing_107 : List.getD tX10_crossing 107 x_bad = x_iload 8 2 := rfl
theorem kX10_crossing_109 : List.getD tX10_crossing 109 x_bad = x_ifn (fun a => a = 0) 116 := rfl
theorem kX10_crossing_112 : List.getD tX10_crossing 112 x_bad = x_push (.int (nI 1)) 1 := rfl
theorem kX10_crossing_113 : List.getD tX10_crossing 113 x_bad = x_goto 117 := rfl
theorem kX10_crossing_116 : List.getD tX10_crossing 116 x_bad = x_push (.int (nI 0)) 1 := rfl
theorem kX10_crossing_117 : List.getD tX10_crossing 117 x_bad = x_istore 4 2 := rfl
theorem kX10_crossing_119 : List.getD tX10_crossing 119 x_bad = x_iload 5 2 := rfl
theorem kX10_crossing_121 : List.getD tX10_crossing 121 x_bad = x_if (fun a => a = 0) 135 := rfl
theorem kX10_crossing_124 : List.getD tX10_crossing 124 x_bad = x_iload 7 2 := rfl
theorem kX10_crossing_126 : List.getD tX10_crossing 126 x_bad = x_iload 8 2 := rfl
theorem kX10_crossing_128 : List.getD tX10_crossing 128 x_bad = x_icmpn (fun a b => a = b) 135 := rfl
theorem kX10_crossing_131 : List.getD tX10_crossing 131 x_bad = x_push (.int (nI 1)) 1 := rfl
theorem kX10_crossing_132 : List.getD tX10_crossing 132 x_bad = x_goto 136 := rfl
theorem kX10_crossing_135 : List.getD tX10_crossing 135 x_bad = x_push (.int (nI 0)) 1 := rfl
theorem kX10_crossing_136 : List.getD tX10_crossing 136 x_bad = x_istore 5 2 := rfl
theorem kX10_crossing_138 : List.getD tX10_crossing 138 x_bad = x_iinc 6 (nI 1) := rfl
theorem kX10_crossing_141 : List.getD tX10_crossing 141 x_bad = x_goto 11 := rfl
theorem kX10_crossing_144 : List.getD tX10_crossing 144 x_bad = x_iload 5 2 := rfl
theorem kX10_crossing_146 : List.getD tX10_crossing 146 x_bad = x_if (fun a => a = 0) 153 := rfl
theorem kX10_crossing_149 : List.getD tX10_crossing 149 x_bad = x_push (.int (nI 0)) 1 := rfl
theorem kX10_crossing_150 : List.getD tX10_crossing 150 x_bad = x_goto 171 := rfl
theorem kX10_crossing_153 : List.getD tX10_crossing 153 x_bad = x_iload 3 1 := rfl
theorem kX10_crossing_154 : List.getD tX10_crossing 154 x_bad = x_if (fun a => a = 0) 161 := rfl
theorem kX10_crossing_157 : List.getD tX10_crossing 157 x_bad = x_push (.int (nI 1)) 1 := rfl
theorem kX10_crossing_158 : List.getD tX10_crossing 158 x_bad = x_goto 171 := rfl
theorem kX10_crossing_161 : List.getD tX10_crossing 161 x_bad = x_iload 4 2 := rfl
theorem kX10_crossing_163 : List.getD tX10_crossing 163 x_bad = x_if (fun a => a = 0) 170 := rfl
theorem kX10_crossing_166 : List.getD tX10_crossing 166 x_bad = x_push (.int (nI 2)) 1 := rfl
theorem kX10_crossing_167 : List.getD tX10_crossing 167 x_bad = x_goto 171 := rfl
theorem kX10_crossing_170 : List.getD tX10_crossing 170 x_bad = x_push (.int (nI 3)) 1 := rfl
theorem kX10_crossing_171 : List.getD tX10_crossing 171 x_bad = x_iret := rfl
def tX10_fits : List PT := [x_aload 0 1, x_callV0 10 mX10_isTooLarge, x_bad, x_bad, x_ifn (fun a => a = 0) 18, x_bad, x_bad, x_aload 0 1, x_getI 10 21, x_bad, x_bad, x_if (fun a => a = 0) 18, x_bad, x_bad, x_push (.int (nI 1)) 1, x_goto 19, x_bad, x_bad, x_push (.int (nI 0)) 1, x_iret]
set_option maxRecDepth 20000 in
theorem okX10_fits : SndT RX10 cX10_fits mX10_fits.2.2.1 mX10_fits.2.2.2.2.1 mX10_fits.2.2.2.2.2 false mX10_fits.2.2.2.1 0 tX10_fits := ⟨s_aload_n (k := 0) (i := 0) (by decide +kernel) rfl, s_callV0 (by decide +kernel) lv_RX10_239 ⟨by decide, by decide⟩, s_bad, s_bad, s_if_ne (off := 14) (by decide +kernel) (by decide), s_bad, s_bad, s_aload_n (k := 0) (i := 0) (by decide +kernel) rfl, s_getI (by decide +kernel) fl_RX10_138 rfl, s_bad, s_bad, s_if_eq (off := 7) (by decide +kernel) (by decide), s_bad, s_bad, s_iconst (n := 1) (by decide +kernel) (by decide +kernel), s_goto (off := 4) (by decide +kernel) (by decide), s_bad, s_bad, s_iconst (n := 0) (by decide +kernel) (by decide +kernel), s_iret (by decide +kernel) rfl, trivial⟩
theorem kX10_fits_0 : List.getD tX10_fits 0 x_bad = x_aload 0 1 := rfl
theorem kX10_fits_1 : List.getD tX10_fits 1 x_bad = x_callV0 10 mX10_isTooLarge := rfl
theorem kX10_fits_4 : List.getD tX10_fits 4 x_bad = x_ifn (fun a => a = 0) 18 := rfl
theorem kX10_fits_7 : List.getD tX10_fits 7 x_bad = x_aload 0 1 := rfl
theorem kX10_fits_8 : List.getD tX10_fits 8 x_bad = x_getI 10 21 := rfl
theorem kX10_fits_11 : List.getD tX10_fits 11 x_bad = x_if (fun a => a = 0) 18 := rfl
theorem kX10_fits_14 : List.getD tX10_fits 14 x_bad = x_push (.int (nI 1)) 1 := rfl
theorem kX10_fits_15 : List.getD tX10_fits 15 x_bad = x_goto 19 := rfl
theorem kX10_fits_18 : List.getD tX10_fits 18 x_bad = x_push (.int (nI 0)) 1 := rfl
theorem kX10_fits_19 : List.getD tX10_fits 19 x_bad = x_iret := rfl
def tX10_greatest : List PT := [x_push (.int (nI 0)) 1, x_istore 1 1, x_push (.int (nI 0)) 1, x_istore 2 1, x_iload 2 1, x_aload 0 1, x_getR 10 0, x_bad, x_bad, x_push (.int (nI 1)) 1, x_iald, x_icmp (fun a b => b ≤ a) 62, x_bad, x_bad, x_aload 0 1, x_iload 2 1, x_push (.int (nI 0)) 1, x_callV2 10 mX10_of, x_bad, x_bad, x_iload 1 1, x_icmp (fun a b => a ≤ b) 33, x_bad, x_bad, x_aload 0 1, x_iload 2 1, x_push (.int (nI 0)) 1, x_callV2 10 mX10_of, x_bad, x_bad, x_goto 34, x_bad, x_bad, x_iload 1 1, x_istore 1 1, x_aload 0 1, x_iload 2 1, x_push (.int (nI 2)) 1, x_callV2 10 mX10_of, x_bad, x_bad, x_iload 1 1, x_icmp (fun a b => a ≤ b) 54, x_bad, x_bad, x_aload 0 1, x_iload 2 1, x_push (.int (nI 2)) 1, x_callV2 10 mX10_of, x_bad, x_bad, x_goto 55, x_bad, x_bad, x_iload 1 1, x_istore 1 1, x_iinc 2 (nI 1), x_bad, x_bad, x_goto 4, x_bad, x_bad, x_iload 1 1, x_iret]
set_option maxRecDepth 20000 in
theorem okX10_greatest : SndT RX10 cX10_greatest mX10_greatest.2.2.1 mX10_greatest.2.2.2.2.1 mX10_greatest.2.2.2.2.2 false mX10_greatest.2.2.2.1 0 tX10_greatest := ⟨s_iconst (n := 0) (by decide +kernel) (by decide +kernel), s_istore_n (k := 1) (i := 1) (by decide +kernel) rfl (by decide), s_iconst (n := 0) (by decide +kernel) (by decide +kernel), s_istore_n (k := 2) (i := 2) (by decide +kernel) rfl (by decide), s_iload_n (k := 2) (i := 2) (by decide +kernel) rfl, s_aload_n (k := 0) (i := 0) (by decide +kernel) rfl, s_getR (by decide +kernel) fl_RX10_7 rfl, s_bad, s_bad, s_iconst (n := 1) (by decide +kernel) (by decide +kernel), s_iald (by decide +kernel), s_icmp_ge (off := 51) (by decide +kernel) (by decide), s_bad, s_bad, s_aload_n (k := 0) (i := 0) (by decide +kernel) rfl, s_iload_n (k := 2) (i := 2) (by decide +kernel) rfl, s_iconst (n := 0) (by decide +kernel) (by decide +kernel), s_callV2 (by decide +kernel) lv_RX10_78 ⟨by decide, by decide⟩, s_bad, s_bad, s_iload_n (k := 1) (i := 1) (by decide +kernel) rfl, s_icmp_le (off := 12) (by decide +kernel) (by decide), s_bad, s_bad, s_aload_n (k := 0) (i := 0) (by decide +kernel) rfl, s_iload_n (k := 2) (i := 2) (by decide +kernel) rfl, s_iconst (n := 0) (by decide +kernel) (by decide +kernel), s_callV2 (by decide +kernel) lv_RX10_78 ⟨by decide, by decide⟩, s_bad, s_bad, s_goto (off := 4) (by decide +kernel) (by decide), s_bad, s_bad, s_iload_n (k := 1) (i := 1) (by decide +kernel) rfl, s_istore_n (k := 1) (i := 1) (by decide +kernel) rfl (by decide), s_aload_n (k := 0) (i := 0) (by decide +kernel) rfl, s_iload_n (k := 2) (i := 2) (by decide +kernel) rfl, s_iconst (n := 2) (by decide +kernel) (by decide +kernel), s_callV2 (by decide +kernel) lv_RX10_78 ⟨by decide, by decide⟩, s_bad, s_bad, s_iload_n (k := 1) (i := 1) (by decide +kernel) rfl, s_icmp_le (off := 12) (by decide +kernel) (by decide), s_bad, s_bad, s_aload_n (k := 0) (i := 0) (by decide +kernel) rfl, s_iload_n (k := 2) (i := 2) (by decide +kernel) rfl, s_iconst (n := 2) (by decide +kernel) (by decide +kernel), s_callV2 (by decide +kernel) lv_RX10_78 ⟨by decide, by decide⟩, s_bad, s_bad, s_goto (off := 4) (by decide +kernel) (by decide), s_bad, s_bad, s_iload_n (k := 1) (i := 1) (by decide +kernel) rfl, s_istore_n (k := 1) (i := 1) (by decide +kernel) rfl (by decide), s_iinc (n := 1) (by decide +kernel) (by decide +kernel) (by decide), s_bad, s_bad, s_goto (off := (-55)) (by decide +kernel) (by decide), s_bad, s_bad, s_iload_n (k := 1) (i := 1) (by decide +kernel) rfl, s_iret (by decide +kernel) rfl, trivial⟩
theorem kX10_greatest_0 : List.getD tX10_greatest 0 x_bad = x_push (.int (nI 0)) 1 := rfl
theorem kX10_greatest_1 : List.getD tX10_greatest 1 x_bad = x_istore 1 1 := rfl
theorem kX10_greatest_2 : List.getD tX10_greatest 2 x_bad = x_push (.int (nI 0)) 1 := rfl
theorem kX10_greatest_3 : List.getD tX10_greatest 3 x_bad = x_istore 2 1 := rfl
theorem kX10_greatest_4 : List.getD tX10_greatest 4 x_bad = x_iload 2 1 := rfl
theorem kX10_greatest_5 : List.getD tX10_greatest 5 x_bad = x_aload 0 1 := rfl
theorem kX10_greatest_6 : List.getD tX10_greatest 6 x_bad = x_getR 10 0 := rfl
theorem kX10_greatest_9 : List.getD tX10_greatest 9 x_bad = x_push (.int (nI 1)) 1 := rfl
theorem kX10_greatest_10 : List.getD tX10_greatest 10 x_bad = x_iald := rfl
theorem kX10_greatest_11 : List.getD tX10_greatest 11 x_bad = x_icmp (fun a b => b ≤ a) 62 := rfl
theorem kX10_greatest_14 : List.getD tX10_greatest 14 x_bad = x_aload 0 1 := rfl
theorem kX10_greatest_15 : List.getD tX10_greatest 15 x_bad = x_iload 2 1 := rfl
theorem kX10_greatest_16 : List.getD tX10_greatest 16 x_bad = x_push (.int (nI 0)) 1 := rfl
theorem kX10_greatest_17 : List.getD tX10_greatest 17 x_bad = x_callV2 10 mX10_of := rfl
theorem kX10_greatest_20 : List.getD tX10_greatest 20 x_bad = x_iload 1 1 := rfl
theorem kX10_greatest_21 : List.getD tX10_greatest 21 x_bad = x_icmp (fun a b => a ≤ b) 33 := rfl
theorem kX10_greatest_24 : List.getD tX10_greatest 24 x_bad = x_aload 0 1 := rfl
theorem kX10_greatest_25 : List.getD tX10_greatest 25 x_bad = x_iload 2 1 := rfl
theorem kX10_greatest_26 : List.getD tX10_greatest 26 x_bad = x_push (.int (nI 0)) 1 := rfl
theorem kX10_greatest_27 : List.getD tX10_greatest 27 x_bad = x_callV2 10 mX10_of := rfl
theorem kX10_greatest_30 : List.getD tX10_greatest 30 x_bad = x_goto 34 := rfl
theorem kX10_greatest_33 : List.getD tX10_greatest 33 x_bad = x_iload 1 1 := rfl
theorem kX10_greatest_34 : List.getD tX10_greatest 34 x_bad = x_istore 1 1 := rfl
theorem kX10_greatest_35 : List.getD tX10_greatest 35 x_bad = x_aload 0 1 := rfl
theorem kX10_greatest_36 : List.getD tX10_greatest 36 x_bad = x_iload 2 1 := rfl
theorem kX10_greatest_37 : List.getD tX10_greatest 37 x_bad = x_push (.int (nI 2)) 1 := rfl
theorem kX10_greatest_38 : List.getD tX10_greatest 38 x_bad = x_callV2 10 mX10_of := rfl
theorem kX10_greatest_41 : List.getD tX10_greatest 41 x_bad = x_iload 1 1 := rfl
theorem kX10_greatest_42 : List.getD tX10_greatest 42 x_bad = x_icmp (fun a b => a ≤ b) 54 := rfl
theorem kX10_greatest_45 : List.getD tX10_greatest 45 x_bad = x_aload 0 1 := rfl
theorem kX10_greatest_46 : List.getD tX10_greatest 46 x_bad = x_iload 2 1 := rfl
theorem kX10_greatest_47 : List.getD tX10_greatest 47 x_bad = x_push (.int (nI 2)) 1 := rfl
theorem kX10_greatest_48 : List.getD tX10_greatest 48 x_bad = x_callV2 10 mX10_of := rfl
theorem kX10_greatest_51 : List.getD tX10_greatest 51 x_bad = x_goto 55 := rfl
theorem kX10_greatest_54 : List.getD tX10_greatest 54 x_bad = x_iload 1 1 := rfl
theorem kX10_greatest_55 : List.getD tX10_greatest 55 x_bad = x_istore 1 1 := rfl
theorem kX10_greatest_56 : List.getD tX10_greatest 56 x_bad = x_iinc 2 (nI 1) := rfl
theorem kX10_greatest_59 : List.getD tX10_greatest 59 x_bad = x_goto 4 := rfl
theorem kX10_greatest_62 : List.getD tX10_greatest 62 x_bad = x_iload 1 1 := rfl
theorem kX10_greatest_63 : List.getD tX10_greatest 63 x_bad = x_iret := rfl
def tX10_isArc : List PT := [x_iload 1 1, x_push (.int (nI 0)) 1, x_aload 0 1, x_getR 10 0, x_bad, x_bad, x_push (.int (nI 1)) 1, x_iald, x_push (.int (nI 1)) 1, x_ii (fun a b => a - b), x_callS3 mX10_in, x_bad, x_bad, x_zret]
set_option maxRecDepth 20000 in
theorem okX10_isArc : SndT RX10 cX10_isArc mX10_isArc.2.2.1 mX10_isArc.2.2.2.2.1 mX10_isArc.2.2.2.2.2 false mX10_isArc.2.2.2.1 0 tX10_isArc := ⟨s_iload_n (k := 1) (i := 1) (by decide +kernel) rfl, s_iconst (n := 0) (by decide +kernel) (by decide +kernel), s_aload_n (k := 0) (i := 0) (by decide +kernel) rfl, s_getR (by decide +kernel) fl_RX10_7 rfl, s_bad, s_bad, s_iconst (n := 1) (by decide +kernel) (by decide +kernel), s_iald (by decide +kernel), s_iconst (n := 1) (by decide +kernel) (by decide +kernel), s_isub (by decide +kernel), s_callS3 (by decide +kernel) ls_RX10_74 ⟨by decide, by decide⟩, s_bad, s_bad, s_zret (by decide +kernel) rfl, trivial⟩
theorem kX10_isArc_0 : List.getD tX10_isArc 0 x_bad = x_iload 1 1 := rfl
theorem kX10_isArc_1 : List.getD tX10_isArc 1 x_bad = x_push (.int (nI 0)) 1 := rfl
theorem kX10_isArc_2 : List.getD tX10_isArc 2 x_bad = x_aload 0 1 := rfl
theorem kX10_isArc_3 : List.getD tX10_isArc 3 x_bad = x_getR 10 0 := rfl
theorem kX10_isArc_6 : List.getD tX10_isArc 6 x_bad = x_push (.int (nI 1)) 1 := rfl
theorem kX10_isArc_7 : List.getD tX10_isArc 7 x_bad = x_iald := rfl
theorem kX10_isArc_8 : List.getD tX10_isArc 8 x_bad = x_push (.int (nI 1)) 1 := rfl
theorem kX10_isArc_9 : List.getD tX10_isArc 9 x_bad = x_ii (fun a b => a - b) := rfl
theorem kX10_isArc_10 : List.getD tX10_isArc 10 x_bad = x_callS3 mX10_in := rfl
theorem kX10_isArc_13 : List.getD tX10_isArc 13 x_bad = x_zret := rfl
def tX10_isAt : List PT := [x_iload 1 1, x_aload 0 1, x_getI 10 25, x_bad, x_bad, x_icmp (fun a b => b ≤ a) 26, x_bad, x_bad, x_aload 0 1, x_getR 10 24, x_bad, x_bad, x_iload 1 1, x_iald, x_iload 2 1, x_iload 3 1, x_callS3 mX10_in, x_bad, x_bad, x_if (fun a => a = 0) 26, x_bad, x_bad, x_push (.int (nI 1)) 1, x_goto 27, x_bad, x_bad, x_push (.int (nI 0)) 1, x_zret]
set_option maxRecDepth 20000 in
theorem okX10_isAt : SndT RX10 cX10_isAt mX10_isAt.2.2.1 mX10_isAt.2.2.2.2.1 mX10_isAt.2.2.2.2.2 false mX10_isAt.2.2.2.1 0 tX10_isAt := ⟨s_iload_n (k := 1) (i := 1) (by decide +kernel) rfl, s_aload_n (k := 0) (i := 0) (by decide +kernel) rfl, s_getI (by decide +kernel) fl_RX10_173 rfl, s_bad, s_bad, s_icmp_ge (off := 21) (by decide +kernel) (by decide), s_bad, s_bad, s_aload_n (k := 0) (i := 0) (by decide +kernel) rfl, s_getR (by decide +kernel) fl_RX10_57 rfl, s_bad, s_bad, s_iload_n (k := 1) (i := 1) (by decide +kernel) rfl, s_iald (by decide +kernel), s_iload_n (k := 2) (i := 2) (by decide +kernel) rfl, s_iload_n (k := 3) (i := 3) (by decide +kernel) rfl, s_callS3 (by decide +kernel) ls_RX10_74 ⟨by decide, by decide⟩, s_bad, s_bad, s_if_eq (off := 7) (by decide +kernel) (by decide), s_bad, s_bad, s_iconst (n := 1) (by decide +kernel) (by decide +kernel), s_goto (off := 4) (by decide +kernel) (by decide), s_bad, s_bad, s_iconst (n := 0) (by decide +kernel) (by decide +kernel), s_zret (by decide +kernel) rfl, trivial⟩
theorem kX10_isAt_0 : List.getD tX10_isAt 0 x_bad = x_iload 1 1 := rfl
theorem kX10_isAt_1 : List.getD tX10_isAt 1 x_bad = x_aload 0 1 := rfl
theorem kX10_isAt_2 : List.getD tX10_isAt 2 x_bad = x_getI 10 25 := rfl
theorem kX10_isAt_5 : List.getD tX10_isAt 5 x_bad = x_icmp (fun a b => b ≤ a) 26 := rfl
theorem kX10_isAt_8 : List.getD tX10_isAt 8 x_bad = x_aload 0 1 := rfl
theorem kX10_isAt_9 : List.getD tX10_isAt 9 x_bad = x_getR 10 24 := rfl
theorem kX10_isAt_12 : List.getD tX10_isAt 12 x_bad = x_iload 1 1 := rfl
theorem kX10_isAt_13 : List.getD tX10_isAt 13 x_bad = x_iald := rfl
theorem kX10_isAt_14 : List.getD tX10_isAt 14 x_bad = x_iload 2 1 := rfl
theorem kX10_isAt_15 : List.getD tX10_isAt 15 x_bad = x_iload 3 1 := rfl
theorem kX10_isAt_16 : List.getD tX10_isAt 16 x_bad = x_callS3 mX10_in := rfl
theorem kX10_isAt_19 : List.getD tX10_isAt 19 x_bad = x_if (fun a => a = 0) 26 := rfl
theorem kX10_isAt_22 : List.getD tX10_isAt 22 x_bad = x_push (.int (nI 1)) 1 := rfl
theorem kX10_isAt_23 : List.getD tX10_isAt 23 x_bad = x_goto 27 := rfl
theorem kX10_isAt_26 : List.getD tX10_isAt 26 x_bad = x_push (.int (nI 0)) 1 := rfl
theorem kX10_isAt_27 : List.getD tX10_isAt 27 x_bad = x_zret := rfl
def tX10_isEvent : List PT := [x_iload 0 1, x_push (.int (nI 0)) 1, x_push (.int (nI 7)) 2, x_bad, x_callS3 mX10_in, x_bad, x_bad, x_zret]
set_option maxRecDepth 20000 in
theorem okX10_isEvent : SndT RX10 cX10_isEvent mX10_isEvent.2.2.1 mX10_isEvent.2.2.2.2.1 mX10_isEvent.2.2.2.2.2 false mX10_isEvent.2.2.2.1 0 tX10_isEvent := ⟨s_iload_n (k := 0) (i := 0) (by decide +kernel) rfl, s_iconst (n := 0) (by decide +kernel) (by decide +kernel), s_bipush (n := 7) (by decide +kernel) (by decide +kernel), s_bad, s_callS3 (by decide +kernel) ls_RX10_74 ⟨by decide, by decide⟩, s_bad, s_bad, s_zret (by decide +kernel) rfl, trivial⟩
theorem kX10_isEvent_0 : List.getD tX10_isEvent 0 x_bad = x_iload 0 1 := rfl
theorem kX10_isEvent_1 : List.getD tX10_isEvent 1 x_bad = x_push (.int (nI 0)) 1 := rfl
theorem kX10_isEvent_2 : List.getD tX10_isEvent 2 x_bad = x_push (.int (nI 7)) 2 := rfl
theorem kX10_isEvent_4 : List.getD tX10_isEvent 4 x_bad = x_callS3 mX10_in := rfl
theorem kX10_isEvent_7 : List.getD tX10_isEvent 7 x_bad = x_zret := rfl
def tX10_isState : List PT := [x_iload 1 1, x_push (.int (nI 0)) 1, x_aload 0 1, x_getR 10 0, x_bad, x_bad, x_push (.int (nI 0)) 1, x_iald, x_push (.int (nI 1)) 1, x_ii (fun a b => a - b), x_callS3 mX10_in, x_bad, x_bad, x_zret]
set_option maxRecDepth 20000 in
theorem okX10_isState : SndT RX10 cX10_isState mX10_isState.2.2.1 mX10_isState.2.2.2.2.1 mX10_isState.2.2.2.2.2 false mX10_isState.2.2.2.1 0 tX10_isState := ⟨s_iload_n (k := 1) (i := 1) (by decide +kernel) rfl, s_iconst (n := 0) (by decide +kernel) (by decide +kernel), s_aload_n (k := 0) (i := 0) (by decide +kernel) rfl, s_getR (by decide +kernel) fl_RX10_7 rfl, s_bad, s_bad, s_iconst (n := 0) (by decide +kernel) (by decide +kernel), s_iald (by decide +kernel), s_iconst (n := 1) (by decide +kernel) (by decide +kernel), s_isub (by decide +kernel), s_callS3 (by decide +kernel) ls_RX10_74 ⟨by decide, by decide⟩, s_bad, s_bad, s_zret (by decide +kernel) rfl, trivial⟩
theorem kX10_isState_0 : List.getD tX10_isState 0 x_bad = x_iload 1 1 := rfl
theorem kX10_isState_1 : List.getD tX10_isState 1 x_bad = x_push (.int (nI 0)) 1 := rfl
theorem kX10_isState_2 : List.getD tX10_isState 2 x_bad = x_aload 0 1 := rfl
theorem kX10_isState_3 : List.getD tX10_isState 3 x_bad = x_getR 10 0 := rfl
theorem kX10_isState_6 : List.getD tX10_isState 6 x_bad = x_push (.int (nI 0)) 1 := rfl
theorem kX10_isState_7 : List.getD tX10_isState 7 x_bad = x_iald := rfl
theorem kX10_isState_8 : List.getD tX10_isState 8 x_bad = x_push (.int (nI 1)) 1 := rfl
theorem kX10_isState_9 : List.getD tX10_isState 9 x_bad = x_ii (fun a b => a - b) := rfl
theorem kX10_isState_10 : List.getD tX10_isState 10 x_bad = x_callS3 mX10_in := rfl
theorem kX10_isState_13 : List.getD tX10_isState 13 x_bad = x_zret := rfl
def tX10_leads : List PT := [x_push (.int (nI 0)) 1, x_istore 3 1, x_iload 3 1, x_aload 0 1, x_getR 10 0, x_bad, x_bad, x_push (.int (nI 1)) 1, x_iald, x_icmp (fun a b => b ≤ a) 45, x_bad, x_bad, x_aload 0 1, x_iload 3 1, x_push (.int (nI 0)) 1, x_callV2 10 mX10_of, x_bad, x_bad, x_iload 1 1, x_icmpn (fun a b => a = b) 39, x_bad, x_bad, x_aload 0 1, x_iload 3 1, x_push (.int (nI 1)) 1, x_callV2 10 mX10_of, x_bad, x_bad, x_iload 2 1, x_icmpn (fun a b => a = b) 39, x_bad, x_bad, x_aload 0 1, x_iload 3 1, x_push (.int (nI 2)) 1, x_callV2 10 mX10_of, x_bad, x_bad, x_iret, x_iinc 3 (nI 1), x_bad, x_bad, x_goto 2, x_bad, x_bad, x_push (.int (-9)) 2, x_bad, x_iret]
set_option maxRecDepth 20000 in
theorem okX10_leads : SndT RX10 cX10_leads mX10_leads.2.2.1 mX10_leads.2.2.2.2.1 mX10_leads.2.2.2.2.2 false mX10_leads.2.2.2.1 0 tX10_leads := ⟨s_iconst (n := 0) (by decide +kernel) (by decide +kernel), s_istore_n (k := 3) (i := 3) (by decide +kernel) rfl (by decide), s_iload_n (k := 3) (i := 3) (by decide +kernel) rfl, s_aload_n (k := 0) (i := 0) (by decide +kernel) rfl, s_getR (by decide +kernel) fl_RX10_7 rfl, s_bad, s_bad, s_iconst (n := 1) (by decide +kernel) (by decide +kernel), s_iald (by decide +kernel), s_icmp_ge (off := 36) (by decide +kernel) (by decide), s_bad, s_bad, s_aload_n (k := 0) (i := 0) (by decide +kernel) rfl, s_iload_n (k := 3) (i := 3) (by decide +kernel) rfl, s_iconst (n := 0) (by decide +kernel) (by decide +kernel), s_callV2 (by decide +kernel) lv_RX10_78 ⟨by decide, by decide⟩, s_bad, s_bad, s_iload_n (k := 1) (i := 1) (by decide +kernel) rfl, s_icmp_ne (off := 20) (by decide +kernel) (by decide), s_bad, s_bad, s_aload_n (k := 0) (i := 0) (by decide +kernel) rfl, s_iload_n (k := 3) (i := 3) (by decide +kernel) rfl, s_iconst (n := 1) (by decide +kernel) (by decide +kernel), s_callV2 (by decide +kernel) lv_RX10_78 ⟨by decide, by decide⟩, s_bad, s_bad, s_iload_n (k := 2) (i := 2) (by decide +kernel) rfl, s_icmp_ne (off := 10) (by decide +kernel) (by decide), s_bad, s_bad, s_aload_n (k := 0) (i := 0) (by decide +kernel) rfl, s_iload_n (k := 3) (i := 3) (by decide +kernel) rfl, s_iconst (n := 2) (by decide +kernel) (by decide +kernel), s_callV2 (by decide +kernel) lv_RX10_78 ⟨by decide, by decide⟩, s_bad, s_bad, s_iret (by decide +kernel) rfl, s_iinc (n := 1) (by decide +kernel) (by decide +kernel) (by decide), s_bad, s_bad, s_goto (off := (-40)) (by decide +kernel) (by decide), s_bad, s_bad, s_bipush (n := (-9)) (by decide +kernel) (by decide +kernel), s_bad, s_iret (by decide +kernel) rfl, trivial⟩
theorem kX10_leads_0 : List.getD tX10_leads 0 x_bad = x_push (.int (nI 0)) 1 := rfl
theorem kX10_leads_1 : List.getD tX10_leads 1 x_bad = x_istore 3 1 := rfl
theorem kX10_leads_2 : List.getD tX10_leads 2 x_bad = x_iload 3 1 := rfl
theorem kX10_leads_3 : List.getD tX10_leads 3 x_bad = x_aload 0 1 := rfl
theorem kX10_leads_4 : List.getD tX10_leads 4 x_bad = x_getR 10 0 := rfl
theorem kX10_leads_7 : List.getD tX10_leads 7 x_bad = x_push (.int (nI 1)) 1 := rfl
theorem kX10_leads_8 : List.getD tX10_leads 8 x_bad = x_iald := rfl
theorem kX10_leads_9 : List.getD tX10_leads 9 x_bad = x_icmp (fun a b => b ≤ a) 45 := rfl
theorem kX10_leads_12 : List.getD tX10_leads 12 x_bad = x_aload 0 1 := rfl
theorem kX10_leads_13 : List.getD tX10_leads 13 x_bad = x_iload 3 1 := rfl
theorem kX10_leads_14 : List.getD tX10_leads 14 x_bad = x_push (.int (nI 0)) 1 := rfl
theorem kX10_leads_15 : List.getD tX10_leads 15 x_bad = x_callV2 10 mX10_of := rfl
theorem kX10_leads_18 : List.getD tX10_leads 18 x_bad = x_iload 1 1 := rfl
theorem kX10_leads_19 : List.getD tX10_leads 19 x_bad = x_icmpn (fun a b => a = b) 39 := rfl
theorem kX10_leads_22 : List.getD tX10_leads 22 x_bad = x_aload 0 1 := rfl
theorem kX10_leads_23 : List.getD tX10_leads 23 x_bad = x_iload 3 1 := rfl
theorem kX10_leads_24 : List.getD tX10_leads 24 x_bad = x_push (.int (nI 1)) 1 := rfl
theorem kX10_leads_25 : List.getD tX10_leads 25 x_bad = x_callV2 10 mX10_of := rfl
theorem kX10_leads_28 : List.getD tX10_leads 28 x_bad = x_iload 2 1 := rfl
theorem kX10_leads_29 : List.getD tX10_leads 29 x_bad = x_icmpn (fun a b => a = b) 39 := rfl
theorem kX10_leads_32 : List.getD tX10_leads 32 x_bad = x_aload 0 1 := rfl
theorem kX10_leads_33 : List.getD tX10_leads 33 x_bad = x_iload 3 1 := rfl
theorem kX10_leads_34 : List.getD tX10_leads 34 x_bad = x_push (.int (nI 2)) 1 := rfl
theorem kX10_leads_35 : List.getD tX10_leads 35 x_bad = x_callV2 10 mX10_of := rfl
theorem kX10_leads_38 : List.getD tX10_leads 38 x_bad = x_iret := rfl
theorem kX10_leads_39 : List.getD tX10_leads 39 x_bad = x_iinc 3 (nI 1) := rfl
theorem kX10_leads_42 : List.getD tX10_leads 42 x_bad = x_goto 2 := rfl
theorem kX10_leads_45 : List.getD tX10_leads 45 x_bad = x_push (.int (-9)) 2 := rfl
theorem kX10_leads_47 : List.getD tX10_leads 47 x_bad = x_iret := rfl
def tX10_netGraph : List PT := [x_iload 1 1, x_push (.int (nI 0)) 1, x_push (.int (nI 2)) 1, x_callS3 mX10_in, x_bad, x_bad, x_ifn (fun a => a = 0) 11, x_bad, x_bad, x_push (.int (-1)) 1, x_iret, x_aload 0 1, x_callV0 10 mX10_isTooLarge, x_bad, x_bad, x_if (fun a => a = 0) 23, x_bad, x_bad, x_push (.int (-3)) 2, x_bad, x_goto 50, x_bad, x_bad, x_iload 1 1, x_ifn (fun a => a = 0) 34, x_bad, x_bad, x_aload 0 1, x_getI 10 18, x_bad, x_bad, x_goto 50, x_bad, x_bad, x_iload 1 1, x_push (.int (nI 1)) 1, x_icmpn (fun a b => a = b) 46, x_bad, x_bad, x_aload 0 1, x_getI 10 19, x_bad, x_bad, x_goto 50, x_bad, x_bad, x_aload 0 1, x_getI 10 20, x_bad, x_bad, x_iret]
set_option maxRecDepth 20000 in
theorem okX10_netGraph : SndT RX10 cX10_netGraph mX10_netGraph.2.2.1 mX10_netGraph.2.2.2.2.1 mX10_netGraph.2.2.2.2.2 false mX10_netGraph.2.2.2.1 0 tX10_netGraph := ⟨s_iload_n (k := 1) (i := 1) (by decide +kernel) rfl, s_iconst (n := 0) (by decide +kernel) (by decide +kernel), s_iconst (n := 2) (by decide +kernel) (by decide +kernel), s_callS3 (by decide +kernel) ls_RX10_74 ⟨by decide, by decide⟩, s_bad, s_bad, s_if_ne (off := 5) (by decide +kernel) (by decide), s_bad, s_bad, s_iconst (n := (-1)) (by decide +kernel) (by decide +kernel), s_iret (by decide +kernel) rfl, s_aload_n (k := 0) (i := 0) (by decide +kernel) rfl, s_callV0 (by decide +kernel) lv_RX10_239 ⟨by decide, by decide⟩, s_bad, s_bad, s_if_eq (off := 8) (by decide +kernel) (by decide), s_bad, s_bad, s_bipush (n := (-3)) (by decide +kernel) (by decide +kernel), s_bad, s_goto (off := 30) (by decide +kernel) (by decide), s_bad, s_bad, s_iload_n (k := 1) (i := 1) (by decide +kernel) rfl, s_if_ne (off := 10) (by decide +kernel) (by decide), s_bad, s_bad, s_aload_n (k := 0) (i := 0) (by decide +kernel) rfl, s_getI (by decide +kernel) fl_RX10_131 rfl, s_bad, s_bad, s_goto (off := 19) (by decide +kernel) (by decide), s_bad, s_bad, s_iload_n (k := 1) (i := 1) (by decide +kernel) rfl, s_iconst (n := 1) (by decide +kernel) (by decide +kernel), s_icmp_ne (off := 10) (by decide +kernel) (by decide), s_bad, s_bad, s_aload_n (k := 0) (i := 0) (by decide +kernel) rfl, s_getI (by decide +kernel) fl_RX10_142 rfl, s_bad, s_bad, s_goto (off := 7) (by decide +kernel) (by decide), s_bad, s_bad, s_aload_n (k := 0) (i := 0) (by decide +kernel) rfl, s_getI (by decide +kernel) fl_RX10_145 rfl, s_bad, s_bad, s_iret (by decide +kernel) rfl, trivial⟩
theorem kX10_netGraph_0 : List.getD tX10_netGraph 0 x_bad = x_iload 1 1 := rfl
theorem kX10_netGraph_1 : List.getD tX10_netGraph 1 x_bad = x_push (.int (nI 0)) 1 := rfl
theorem kX10_netGraph_2 : List.getD tX10_netGraph 2 x_bad = x_push (.int (nI 2)) 1 := rfl
theorem kX10_netGraph_3 : List.getD tX10_netGraph 3 x_bad = x_callS3 mX10_in := rfl
theorem kX10_netGraph_6 : List.getD tX10_netGraph 6 x_bad = x_ifn (fun a => a = 0) 11 := rfl
theorem kX10_netGraph_9 : List.getD tX10_netGraph 9 x_bad = x_push (.int (-1)) 1 := rfl
theorem kX10_netGraph_10 : List.getD tX10_netGraph 10 x_bad = x_iret := rfl
theorem kX10_netGraph_11 : List.getD tX10_netGraph 11 x_bad = x_aload 0 1 := rfl
theorem kX10_netGraph_12 : List.getD tX10_netGraph 12 x_bad = x_callV0 10 mX10_isTooLarge := rfl
theorem kX10_netGraph_15 : List.getD tX10_netGraph 15 x_bad = x_if (fun a => a = 0) 23 := rfl
theorem kX10_netGraph_18 : List.getD tX10_netGraph 18 x_bad = x_push (.int (-3)) 2 := rfl
theorem kX10_netGraph_20 : List.getD tX10_netGraph 20 x_bad = x_goto 50 := rfl
theorem kX10_netGraph_23 : List.getD tX10_netGraph 23 x_bad = x_iload 1 1 := rfl
theorem kX10_netGraph_24 : List.getD tX10_netGraph 24 x_bad = x_ifn (fun a => a = 0) 34 := rfl
theorem kX10_netGraph_27 : List.getD tX10_netGraph 27 x_bad = x_aload 0 1 := rfl
theorem kX10_netGraph_28 : List.getD tX10_netGraph 28 x_bad = x_getI 10 18 := rfl
theorem kX10_netGraph_31 : List.getD tX10_netGraph 31 x_bad = x_goto 50 := rfl
theorem kX10_netGraph_34 : List.getD tX10_netGraph 34 x_bad = x_iload 1 1 := rfl
theorem kX10_netGraph_35 : List.getD tX10_netGraph 35 x_bad = x_push (.int (nI 1)) 1 := rfl
theorem kX10_netGraph_36 : List.getD tX10_netGraph 36 x_bad = x_icmpn (fun a b => a = b) 46 := rfl
theorem kX10_netGraph_39 : List.getD tX10_netGraph 39 x_bad = x_aload 0 1 := rfl
theorem kX10_netGraph_40 : List.getD tX10_netGraph 40 x_bad = x_getI 10 19 := rfl
theorem kX10_netGraph_43 : List.getD tX10_netGraph 43 x_bad = x_goto 50 := rfl
theorem kX10_netGraph_46 : List.getD tX10_netGraph 46 x_bad = x_aload 0 1 := rfl
theorem kX10_netGraph_47 : List.getD tX10_netGraph 47 x_bad = x_getI 10 20 := rfl
theorem kX10_netGraph_50 : List.getD tX10_netGraph 50 x_bad = x_iret := rfl
def tX10_reachable : List PT := [x_push (.int (nI 1)) 1, x_istore 1 1, x_push (.int (nI 0)) 1, x_istore 2 1, x_iload 2 1, x_aload 0 1, x_getR 10 0, x_bad, x_bad, x_push (.int (nI 0)) 1, x_iald, x_icmp (fun a b => b ≤ a) 58, x_bad, x_bad, x_push (.int (nI 0)) 1, x_istore 3 1, x_iload 3 1, x_aload 0 1, x_getR 10 0, x_bad, x_bad, x_push (.int (nI 1)) 1, x_iald, x_icmp (fun a b => b ≤ a) 52, x_bad, x_bad, x_iload 1 1, x_iload 1 1, x_aload 0 1, x_iload 3 1, x_push (.int (nI 0)) 1, x_callV2 10 mX10_of, x_bad, x_bad, x_ii (fun a b => a >>> (b &&& 31)), x_push (.int (nI 1)) 1, x_ii (fun a b => a &&& b), x_aload 0 1, x_iload 3 1, x_push (.int (nI 2)) 1, x_callV2 10 mX10_of, x_bad, x_bad, x_ii (fun a b => a <<< (b &&& 31)), x_ii (fun a b => a ||| b), x_istore 1 1, x_iinc 3 (nI 1), x_bad, x_bad, x_goto 16, x_bad, x_bad, x_iinc 2 (nI 1), x_bad, x_bad, x_goto 4, x_bad, x_bad, x_iload 1 1, x_callS1 mX10_bits, x_bad, x_bad, x_iret]
set_option maxRecDepth 20000 in
theorem okX10_reachable : SndT RX10 cX10_reachable mX10_reachable.2.2.1 mX10_reachable.2.2.2.2.1 mX10_reachable.2.2.2.2.2 false mX10_reachable.2.2.2.1 0 tX10_reachable := ⟨s_iconst (n := 1) (by decide +kernel) (by decide +kernel), s_istore_n (k := 1) (i := 1) (by decide +kernel) rfl (by decide), s_iconst (n := 0) (by decide +kernel) (by decide +kernel), s_istore_n (k := 2) (i := 2) (by decide +kernel) rfl (by decide), s_iload_n (k := 2) (i := 2) (by decide +kernel) rfl, s_aload_n (k := 0) (i := 0) (by decide +kernel) rfl, s_getR (by decide +kernel) fl_RX10_7 rfl, s_bad, s_bad, s_iconst (n := 0) (by decide +kernel) (by decide +kernel), s_iald (by decide +kernel), s_icmp_ge (off := 47) (by decide +kernel) (by decide), s_bad, s_bad, s_iconst (n := 0) (by decide +kernel) (by decide +kernel), s_istore_n (k := 3) (i := 3) (by decide +kernel) rfl (by decide), s_iload_n (k := 3) (i := 3) (by decide +kernel) rfl, s_aload_n (k := 0) (i := 0) (by decide +kernel) rfl, s_getR (by decide +kernel) fl_RX10_7 rfl, s_bad, s_bad, s_iconst (n := 1) (by decide +kernel) (by decide +kernel), s_iald (by decide +kernel), s_icmp_ge (off := 29) (by decide +kernel) (by decide), s_bad, s_bad, s_iload_n (k := 1) (i := 1) (by decide +kernel) rfl, s_iload_n (k := 1) (i := 1) (by decide +kernel) rfl, s_aload_n (k := 0) (i := 0) (by decide +kernel) rfl, s_iload_n (k := 3) (i := 3) (by decide +kernel) rfl, s_iconst (n := 0) (by decide +kernel) (by decide +kernel), s_callV2 (by decide +kernel) lv_RX10_78 ⟨by decide, by decide⟩, s_bad, s_bad, s_ishr (by decide +kernel), s_iconst (n := 1) (by decide +kernel) (by decide +kernel), s_iand (by decide +kernel), s_aload_n (k := 0) (i := 0) (by decide +kernel) rfl, s_iload_n (k := 3) (i := 3) (by decide +kernel) rfl, s_iconst (n := 2) (by decide +kernel) (by decide +kernel), s_callV2 (by decide +kernel) lv_RX10_78 ⟨by decide, by decide⟩, s_bad, s_bad, s_ishl (by decide +kernel), s_ior (by decide +kernel), s_istore_n (k := 1) (i := 1) (by decide +kernel) rfl (by decide), s_iinc (n := 1) (by decide +kernel) (by decide +kernel) (by decide), s_bad, s_bad, s_goto (off := (-33)) (by decide +kernel) (by decide), s_bad, s_bad, s_iinc (n := 1) (by decide +kernel) (by decide +kernel) (by decide), s_bad, s_bad, s_goto (off := (-51)) (by decide +kernel) (by decide), s_bad, s_bad, s_iload_n (k := 1) (i := 1) (by decide +kernel) rfl, s_callS1 (by decide +kernel) ls_RX10_230 ⟨by decide, by decide⟩, s_bad, s_bad, s_iret (by decide +kernel) rfl, trivial⟩
theorem kX10_reachable_0 : List.getD tX10_reachable 0 x_bad = x_push (.int (nI 1)) 1 := rfl
theorem kX10_reachable_1 : List.getD tX10_reachable 1 x_bad = x_istore 1 1 := rfl
theorem kX10_reachable_2 : List.getD tX10_reachable 2 x_bad = x_push (.int (nI 0)) 1 := rfl
theorem kX10_reachable_3 : List.getD tX10_reachable 3 x_bad = x_istore 2 1 := rfl
theorem kX10_reachable_4 : List.getD tX10_reachable 4 x_bad = x_iload 2 1 := rfl
theorem kX10_reachable_5 : List.getD tX10_reachable 5 x_bad = x_aload 0 1 := rfl
theorem kX10_reachable_6 : List.getD tX10_reachable 6 x_bad = x_getR 10 0 := rfl
theorem kX10_reachable_9 : List.getD tX10_reachable 9 x_bad = x_push (.int (nI 0)) 1 := rfl
theorem kX10_reachable_10 : List.getD tX10_reachable 10 x_bad = x_iald := rfl
theorem kX10_reachable_11 : List.getD tX10_reachable 11 x_bad = x_icmp (fun a b => b ≤ a) 58 := rfl
theorem kX10_reachable_14 : List.getD tX10_reachable 14 x_bad = x_push (.int (nI 0)) 1 := rfl
theorem kX10_reachable_15 : List.getD tX10_reachable 15 x_bad = x_istore 3 1 := rfl
theorem kX10_reachable_16 : List.getD tX10_reachable 16 x_bad = x_iload 3 1 := rfl
theorem kX10_reachable_17 : List.getD tX10_reachable 17 x_bad = x_aload 0 1 := rfl
theorem kX10_reachable_18 : List.getD tX10_reachable 18 x_bad = x_getR 10 0 := rfl
theorem kX10_reachable_21 : List.getD tX10_reachable 21 x_bad = x_push (.int (nI 1)) 1 := rfl
theorem kX10_reachable_22 : List.getD tX10_reachable 22 x_bad = x_iald := rfl
theorem kX10_reachable_23 : List.getD tX10_reachable 23 x_bad = x_icmp (fun a b => b ≤ a) 52 := rfl
theorem kX10_reachable_26 : List.getD tX10_reachable 26 x_bad = x_iload 1 1 := rfl
theorem kX10_reachable_27 : List.getD tX10_reachable 27 x_bad = x_iload 1 1 := rfl
theorem kX10_reachable_28 : List.getD tX10_reachable 28 x_bad = x_aload 0 1 := rfl
theorem kX10_reachable_29 : List.getD tX10_reachable 29 x_bad = x_iload 3 1 := rfl
theorem kX10_reachable_30 : List.getD tX10_reachable 30 x_bad = x_push (.int (nI 0)) 1 := rfl
theorem kX10_reachable_31 : List.getD tX10_reachable 31 x_bad = x_callV2 10 mX10_of := rfl
theorem kX10_reachable_34 : List.getD tX10_reachable 34 x_bad = x_ii (fun a b => a >>> (b &&& 31)) := rfl
theorem kX10_reachable_35 : List.getD tX10_reachable 35 x_bad = x_push (.int (nI 1)) 1 := rfl
theorem kX10_reachable_36 : List.getD tX10_reachable 36 x_bad = x_ii (fun a b => a &&& b) := rfl
theorem kX10_reachable_37 : List.getD tX10_reachable 37 x_bad = x_aload 0 1 := rfl
theorem kX10_reachable_38 : List.getD tX10_reachable 38 x_bad = x_iload 3 1 := rfl
theorem kX10_reachable_39 : List.getD tX10_reachable 39 x_bad = x_push (.int (nI 2)) 1 := rfl
theorem kX10_reachable_40 : List.getD tX10_reachable 40 x_bad = x_callV2 10 mX10_of := rfl
theorem kX10_reachable_43 : List.getD tX10_reachable 43 x_bad = x_ii (fun a b => a <<< (b &&& 31)) := rfl
theorem kX10_reachable_44 : List.getD tX10_reachable 44 x_bad = x_ii (fun a b => a ||| b) := rfl
theorem kX10_reachable_45 : List.getD tX10_reachable 45 x_bad = x_istore 1 1 := rfl
theorem kX10_reachable_46 : List.getD tX10_reachable 46 x_bad = x_iinc 3 (nI 1) := rfl
theorem kX10_reachable_49 : List.getD tX10_reachable 49 x_bad = x_goto 16 := rfl
theorem kX10_reachable_52 : List.getD tX10_reachable 52 x_bad = x_iinc 2 (nI 1) := rfl
theorem kX10_reachable_55 : List.getD tX10_reachable 55 x_bad = x_goto 4 := rfl
theorem kX10_reachable_58 : List.getD tX10_reachable 58 x_bad = x_iload 1 1 := rfl
theorem kX10_reachable_59 : List.getD tX10_reachable 59 x_bad = x_callS1 mX10_bits := rfl
theorem kX10_reachable_62 : List.getD tX10_reachable 62 x_bad = x_iret := rfl
def tX10_records : List PT := [x_aload 0 1, x_getI 10 1, x_bad, x_bad, x_push (.int (nI 8)) 2, x_bad, x_icmpn (fun a b => a = b) 41, x_bad, x_bad, x_push (.int (nI 1)) 1, x_istore 1 1, x_iload 1 1, x_push (.int (nI 8)) 2, x_bad, x_icmp (fun a b => b ≤ a) 31, x_bad, x_bad, x_aload 0 1, x_iload 1 1, x_push (.int (nI 1)) 1, x_ii (fun a b => a + b), x_iload 1 1, x_callV2 10 mX10_copies, x_bad, x_bad, x_iinc 1 (nI 1), x_bad, x_bad, x_goto 11, x_bad, x_bad, x_aload 0 1, x_dup, x_getI 10 1, x_bad, x_bad, x_push (.int (nI 1)) 1, x_ii (fun a b => a - b), x_putI 10 1, x_bad, x_bad, x_aload 0 1, x_dup, x_getI 10 1, x_bad, x_bad, x_push (.int (nI 1)) 1, x_ii (fun a b => a + b), x_putI 10 1, x_bad, x_bad, x_aload 0 1, x_push (.int (nI 0)) 1, x_aload 0 1, x_getI 10 1, x_bad, x_bad, x_callV2 10 mX10_copies, x_bad, x_bad, x_vret]
set_option maxRecDepth 20000 in
theorem okX10_records : SndT RX10 cX10_records mX10_records.2.2.1 mX10_records.2.2.2.2.1 mX10_records.2.2.2.2.2 false mX10_records.2.2.2.1 0 tX10_records := ⟨s_aload_n (k := 0) (i := 0) (by decide +kernel) rfl, s_getI (by decide +kernel) fl_RX10_63 rfl, s_bad, s_bad, s_bipush (n := 8) (by decide +kernel) (by decide +kernel), s_bad, s_icmp_ne (off := 35) (by decide +kernel) (by decide), s_bad, s_bad, s_iconst (n := 1) (by decide +kernel) (by decide +kernel), s_istore_n (k := 1) (i := 1) (by decide +kernel) rfl (by decide), s_iload_n (k := 1) (i := 1) (by decide +kernel) rfl, s_bipush (n := 8) (by decide +kernel) (by decide +kernel), s_bad, s_icmp_ge (off := 17) (by decide +kernel) (by decide), s_bad, s_bad, s_aload_n (k := 0) (i := 0) (by decide +kernel) rfl, s_iload_n (k := 1) (i := 1) (by decide +kernel) rfl, s_iconst (n := 1) (by decide +kernel) (by decide +kernel), s_iadd (by decide +kernel), s_iload_n (k := 1) (i := 1) (by decide +kernel) rfl, s_callV2 (by decide +kernel) lv_RX10_67 ⟨by decide, by decide⟩, s_bad, s_bad, s_iinc (n := 1) (by decide +kernel) (by decide +kernel) (by decide), s_bad, s_bad, s_goto (off := (-17)) (by decide +kernel) (by decide), s_bad, s_bad, s_aload_n (k := 0) (i := 0) (by decide +kernel) rfl, s_dup (by decide +kernel), s_getI (by decide +kernel) fl_RX10_63 rfl, s_bad, s_bad, s_iconst (n := 1) (by decide +kernel) (by decide +kernel), s_isub (by decide +kernel), s_putI (by decide +kernel) fl_RX10_63 fp_10_1 rfl, s_bad, s_bad, s_aload_n (k := 0) (i := 0) (by decide +kernel) rfl, s_dup (by decide +kernel), s_getI (by decide +kernel) fl_RX10_63 rfl, s_bad, s_bad, s_iconst (n := 1) (by decide +kernel) (by decide +kernel), s_iadd (by decide +kernel), s_putI (by decide +kernel) fl_RX10_63 fp_10_1 rfl, s_bad, s_bad, s_aload_n (k := 0) (i := 0) (by decide +kernel) rfl, s_iconst (n := 0) (by decide +kernel) (by decide +kernel), s_aload_n (k := 0) (i := 0) (by decide +kernel) rfl, s_getI (by decide +kernel) fl_RX10_63 rfl, s_bad, s_bad, s_callV2 (by decide +kernel) lv_RX10_67 ⟨by decide, by decide⟩, s_bad, s_bad, s_vret (by decide +kernel) rfl, trivial⟩
theorem kX10_records_0 : List.getD tX10_records 0 x_bad = x_aload 0 1 := rfl
theorem kX10_records_1 : List.getD tX10_records 1 x_bad = x_getI 10 1 := rfl
theorem kX10_records_4 : List.getD tX10_records 4 x_bad = x_push (.int (nI 8)) 2 := rfl
theorem kX10_records_6 : List.getD tX10_records 6 x_bad = x_icmpn (fun a b => a = b) 41 := rfl
theorem kX10_records_9 : List.getD tX10_records 9 x_bad = x_push (.int (nI 1)) 1 := rfl
theorem kX10_records_10 : List.getD tX10_records 10 x_bad = x_istore 1 1 := rfl
theorem kX10_records_11 : List.getD tX10_records 11 x_bad = x_iload 1 1 := rfl
theorem kX10_records_12 : List.getD tX10_records 12 x_bad = x_push (.int (nI 8)) 2 := rfl
theorem kX10_records_14 : List.getD tX10_records 14 x_bad = x_icmp (fun a b => b ≤ a) 31 := rfl
theorem kX10_records_17 : List.getD tX10_records 17 x_bad = x_aload 0 1 := rfl
theorem kX10_records_18 : List.getD tX10_records 18 x_bad = x_iload 1 1 := rfl
theorem kX10_records_19 : List.getD tX10_records 19 x_bad = x_push (.int (nI 1)) 1 := rfl
theorem kX10_records_20 : List.getD tX10_records 20 x_bad = x_ii (fun a b => a + b) := rfl
theorem kX10_records_21 : List.getD tX10_records 21 x_bad = x_iload 1 1 := rfl
theorem kX10_records_22 : List.getD tX10_records 22 x_bad = x_callV2 10 mX10_copies := rfl
theorem kX10_records_25 : List.getD tX10_records 25 x_bad = x_iinc 1 (nI 1) := rfl
theorem kX10_records_28 : List.getD tX10_records 28 x_bad = x_goto 11 := rfl
theorem kX10_records_31 : List.getD tX10_records 31 x_bad = x_aload 0 1 := rfl
theorem kX10_records_32 : List.getD tX10_records 32 x_bad = x_dup := rfl
theorem kX10_records_33 : List.getD tX10_records 33 x_bad = x_getI 10 1 := rfl
theorem kX10_records_36 : List.getD tX10_records 36 x_bad = x_push (.int (nI 1)) 1 := rfl
theorem kX10_records_37 : List.getD tX10_records 37 x_bad = x_ii (fun a b => a - b) := rfl
theorem kX10_records_38 : List.getD tX10_records 38 x_bad = x_putI 10 1 := rfl
theorem kX10_records_41 : List.getD tX10_records 41 x_bad = x_aload 0 1 := rfl
theorem kX10_records_42 : List.getD tX10_records 42 x_bad = x_dup := rfl
theorem kX10_records_43 : List.getD tX10_records 43 x_bad = x_getI 10 1 := rfl
theorem kX10_records_46 : List.getD tX10_records 46 x_bad = x_push (.int (nI 1)) 1 := rfl
theorem kX10_records_47 : List.getD tX10_records 47 x_bad = x_ii (fun a b => a + b) := rfl
theorem kX10_records_48 : List.getD tX10_records 48 x_bad = x_putI 10 1 := rfl
theorem kX10_records_51 : List.getD tX10_records 51 x_bad = x_aload 0 1 := rfl
theorem kX10_records_52 : List.getD tX10_records 52 x_bad = x_push (.int (nI 0)) 1 := rfl
theorem kX10_records_53 : List.getD tX10_records 53 x_bad = x_aload 0 1 := rfl
theorem kX10_records_54 : List.getD tX10_records 54 x_bad = x_getI 10 1 := rfl
theorem kX10_records_57 : List.getD tX10_records 57 x_bad = x_callV2 10 mX10_copies := rfl
theorem kX10_records_60 : List.getD tX10_records 60 x_bad = x_vret := rfl
def tX10_region : List PT := [x_iload 1 1, x_if (fun a => 0 ≤ a) 6, x_bad, x_bad, x_push (.int (-1)) 1, x_iret, x_iload 1 1, x_aload 0 1, x_iload 2 1, x_callV1 10 mX10_regions, x_bad, x_bad, x_icmp (fun a b => a < b) 20, x_bad, x_bad, x_push (.int (-9)) 2, x_bad, x_goto 39, x_bad, x_bad, x_iload 2 1, x_if (fun a => a = 0) 33, x_bad, x_bad, x_aload 0 1, x_getR 10 4, x_bad, x_bad, x_iload 1 1, x_iald, x_goto 39, x_bad, x_bad, x_aload 0 1, x_getR 10 2, x_bad, x_bad, x_iload 1 1, x_iald, x_iret]
set_option maxRecDepth 20000 in
theorem okX10_region : SndT RX10 cX10_region mX10_region.2.2.1 mX10_region.2.2.2.2.1 mX10_region.2.2.2.2.2 false mX10_region.2.2.2.1 0 tX10_region := ⟨s_iload_n (k := 1) (i := 1) (by decide +kernel) rfl, s_if_ge (off := 5) (by decide +kernel) (by decide), s_bad, s_bad, s_iconst (n := (-1)) (by decide +kernel) (by decide +kernel), s_iret (by decide +kernel) rfl, s_iload_n (k := 1) (i := 1) (by decide +kernel) rfl, s_aload_n (k := 0) (i := 0) (by decide +kernel) rfl, s_iload_n (k := 2) (i := 2) (by decide +kernel) rfl, s_callV1 (by decide +kernel) lv_RX10_226 ⟨by decide, by decide⟩, s_bad, s_bad, s_icmp_lt (off := 8) (by decide +kernel) (by decide), s_bad, s_bad, s_bipush (n := (-9)) (by decide +kernel) (by decide +kernel), s_bad, s_goto (off := 22) (by decide +kernel) (by decide), s_bad, s_bad, s_iload_n (k := 2) (i := 2) (by decide +kernel) rfl, s_if_eq (off := 12) (by decide +kernel) (by decide), s_bad, s_bad, s_aload_n (k := 0) (i := 0) (by decide +kernel) rfl, s_getR (by decide +kernel) fl_RX10_16 rfl, s_bad, s_bad, s_iload_n (k := 1) (i := 1) (by decide +kernel) rfl, s_iald (by decide +kernel), s_goto (off := 9) (by decide +kernel) (by decide), s_bad, s_bad, s_aload_n (k := 0) (i := 0) (by decide +kernel) rfl, s_getR (by decide +kernel) fl_RX10_13 rfl, s_bad, s_bad, s_iload_n (k := 1) (i := 1) (by decide +kernel) rfl, s_iald (by decide +kernel), s_iret (by decide +kernel) rfl, trivial⟩
theorem kX10_region_0 : List.getD tX10_region 0 x_bad = x_iload 1 1 := rfl
theorem kX10_region_1 : List.getD tX10_region 1 x_bad = x_if (fun a => 0 ≤ a) 6 := rfl
theorem kX10_region_4 : List.getD tX10_region 4 x_bad = x_push (.int (-1)) 1 := rfl
theorem kX10_region_5 : List.getD tX10_region 5 x_bad = x_iret := rfl
theorem kX10_region_6 : List.getD tX10_region 6 x_bad = x_iload 1 1 := rfl
theorem kX10_region_7 : List.getD tX10_region 7 x_bad = x_aload 0 1 := rfl
theorem kX10_region_8 : List.getD tX10_region 8 x_bad = x_iload 2 1 := rfl
theorem kX10_region_9 : List.getD tX10_region 9 x_bad = x_callV1 10 mX10_regions := rfl
theorem kX10_region_12 : List.getD tX10_region 12 x_bad = x_icmp (fun a b => a < b) 20 := rfl
theorem kX10_region_15 : List.getD tX10_region 15 x_bad = x_push (.int (-9)) 2 := rfl
theorem kX10_region_17 : List.getD tX10_region 17 x_bad = x_goto 39 := rfl
theorem kX10_region_20 : List.getD tX10_region 20 x_bad = x_iload 2 1 := rfl
theorem kX10_region_21 : List.getD tX10_region 21 x_bad = x_if (fun a => a = 0) 33 := rfl
theorem kX10_region_24 : List.getD tX10_region 24 x_bad = x_aload 0 1 := rfl
theorem kX10_region_25 : List.getD tX10_region 25 x_bad = x_getR 10 4 := rfl
theorem kX10_region_28 : List.getD tX10_region 28 x_bad = x_iload 1 1 := rfl
theorem kX10_region_29 : List.getD tX10_region 29 x_bad = x_iald := rfl
theorem kX10_region_30 : List.getD tX10_region 30 x_bad = x_goto 39 := rfl
theorem kX10_region_33 : List.getD tX10_region 33 x_bad = x_aload 0 1 := rfl
theorem kX10_region_34 : List.getD tX10_region 34 x_bad = x_getR 10 2 := rfl
theorem kX10_region_37 : List.getD tX10_region 37 x_bad = x_iload 1 1 := rfl
theorem kX10_region_38 : List.getD tX10_region 38 x_bad = x_iald := rfl
theorem kX10_region_39 : List.getD tX10_region 39 x_bad = x_iret := rfl
def tX10_regionAround : List PT := [x_iload 1 1, x_push (.int (nI 0)) 1, x_aload 0 1, x_callV0 10 mX10_all, x_bad, x_bad, x_callS3 mX10_in, x_bad, x_bad, x_ifn (fun a => a = 0) 14, x_bad, x_bad, x_push (.int (-1)) 1, x_iret, x_push (.int (-9)) 2, x_bad, x_istore 2 1, x_push (.int (nI 0)) 1, x_istore 3 1, x_iload 3 1, x_aload 0 1, x_getI 10 3, x_bad, x_bad, x_icmp (fun a b => b ≤ a) 91, x_bad, x_bad, x_iload 1 1, x_aload 0 1, x_getR 10 2, x_bad, x_bad, x_iload 3 1, x_iald, x_push (.int (-1)) 1, x_ii (fun a b => a ^^^ b), x_ii (fun a b => a &&& b), x_ifn (fun a => a = 0) 44, x_bad, x_bad, x_push (.int (nI 1)) 1, x_goto 45, x_bad, x_bad, x_push (.int (nI 0)) 1, x_istore 4 2, x_bad, x_iload 4 2, x_bad, x_if (fun a => a = 0) 83, x_bad, x_bad, x_iload 2 1, x_push (.int (-9)) 2, x_bad, x_icmp (fun a b => a = b) 74, x_bad, x_bad, x_aload 0 1, x_getR 10 2, x_bad, x_bad, x_iload 3 1, x_iald, x_callS1 mX10_bits, x_bad, x_bad, x_iload 2 1, x_callS1 mX10_bits, x_bad, x_bad, x_icmp (fun a b => b ≤ a) 83, x_bad, x_bad, x_aload 0 1, x_getR 10 2, x_bad, x_bad, x_iload 3 1, x_iald, x_goto 84, x_bad, x_bad, x_iload 2 1, x_istore 2 1, x_iinc 3 (nI 1), x_bad, x_bad, x_goto 19, x_bad, x_bad, x_iload 2 1, x_iret]
set_option maxRecDepth 20000 in
theorem okX10_regionAround : SndT RX10 cX10_regionAround mX10_regionAround.2.2.1 mX10_regionAround.2.2.2.2.1 mX10_regionAround.2.2.2.2.2 false mX10_regionAround.2.2.2.1 0 tX10_regionAround := ⟨s_iload_n (k := 1) (i := 1) (by decide +kernel) rfl, s_iconst (n := 0) (by decide +kernel) (by decide +kernel), s_aload_n (k := 0) (i := 0) (by decide +kernel) rfl, s_callV0 (by decide +kernel) lv_RX10_95 ⟨by decide, by decide⟩, s_bad, s_bad, s_callS3 (by decide +kernel) ls_RX10_74 ⟨by decide, by decide⟩, s_bad, s_bad, s_if_ne (off := 5) (by decide +kernel) (by decide), s_bad, s_bad, s_iconst (n := (-1)) (by decide +kernel) (by decide +kernel), s_iret (by decide +kernel) rfl, s_bipush (n := (-9)) (by decide +kernel) (by decide +kernel), s_bad, s_istore_n (k := 2) (i := 2) (by decide +kernel) rfl (by decide), s_iconst (n := 0) (by decide +kernel) (by decide +kernel), s_istore_n (k := 3) (i := 3) (by decide +kernel) rfl (by decide), s_iload_n (k := 3) (i := 3) (by decide +kernel) rfl, s_aload_n (k := 0) (i := 0) (by decide +kernel) rfl, s_getI (by decide +kernel) fl_RX10_89 rfl, s_bad, s_bad, s_icmp_ge (off := 67) (by decide +kernel) (by decide), s_bad, s_bad, s_iload_n (k := 1) (i := 1) (by decide +kernel) rfl, s_aload_n (k := 0) (i := 0) (by decide +kernel) rfl, s_getR (by decide +kernel) fl_RX10_13 rfl, s_bad, s_bad, s_iload_n (k := 3) (i := 3) (by decide +kernel) rfl, s_iald (by decide +kernel), s_iconst (n := (-1)) (by decide +kernel) (by decide +kernel), s_ixor (by decide +kernel), s_iand (by decide +kernel), s_if_ne (off := 7) (by decide +kernel) (by decide), s_bad, s_bad, s_iconst (n := 1) (by decide +kernel) (by decide +kernel), s_goto (off := 4) (by decide +kernel) (by decide), s_bad, s_bad, s_iconst (n := 0) (by decide +kernel) (by decide +kernel), s_istore (by decide +kernel) (by decide), s_bad, s_iload (by decide +kernel), s_bad, s_if_eq (off := 34) (by decide +kernel) (by decide), s_bad, s_bad, s_iload_n (k := 2) (i := 2) (by decide +kernel) rfl, s_bipush (n := (-9)) (by decide +kernel) (by decide +kernel), s_bad, s_icmp_eq (off := 19) (by decide +kernel) (by decide), s_bad, s_bad, s_aload_n (k := 0) (i := 0) (by decide +kernel) rfl, s_getR (by decide +kernel) fl_RX10_13 rfl, s_bad, s_bad, s_iload_n (k := 3) (i := 3) (by decide +kernel) rfl, s_iald (by decide +kernel), s_callS1 (by decide +kernel) ls_RX10_230 ⟨by decide, by decide⟩, s_bad, s_bad, s_iload_n (k := 2) (i := 2) (by decide +kernel) rfl, s_callS1 (by decide +kernel) ls_RX10_230 ⟨by decide, by decide⟩, s_bad, s_bad, s_icmp_ge (off := 12) (by decide +kernel) (by decide), s_bad, s_bad, s_aload_n (k := 0) (i := 0) (by decide +kernel) rfl, s_getR (by decide +kernel) fl_RX10_13 rfl, s_bad, s_bad, s_iload_n (k := 3) (i := 3) (by decide +kernel) rfl, s_iald (by decide +kernel), s_goto (off := 4) (by decide +kernel) (by decide), s_bad, s_bad, s_iload_n (k := 2) (i := 2) (by decide +kernel) rfl, s_istore_n (k := 2) (i := 2) (by decide +kernel) rfl (by decide), s_iinc (n := 1) (by decide +kernel) (by decide +kernel) (by decide), s_bad, s_bad, s_goto (off := (-69)) (by decide +kernel) (by decide), s_bad, s_bad, s_iload_n (k := 2) (i := 2) (by decide +kernel) rfl, s_iret (by decide +kernel) rfl, trivial⟩
theorem kX10_regionAround_0 : List.getD tX10_regionAround 0 x_bad = x_iload 1 1 := rfl
theorem kX10_regionAround_1 : List.getD tX10_regionAround 1 x_bad = x_push (.int (nI 0)) 1 := rfl
theorem kX10_regionAround_2 : List.getD tX10_regionAround 2 x_bad = x_aload 0 1 := rfl
theorem kX10_regionAround_3 : List.getD tX10_regionAround 3 x_bad = x_callV0 10 mX10_all := rfl
theorem kX10_regionAround_6 : List.getD tX10_regionAround 6 x_bad = x_callS3 mX10_in := rfl
theorem kX10_regionAround_9 : List.getD tX10_regionAround 9 x_bad = x_ifn (fun a => a = 0) 14 := rfl
theorem kX10_regionAround_12 : List.getD tX10_regionAround 12 x_bad = x_push (.int (-1)) 1 := rfl
theorem kX10_regionAround_13 : List.getD tX10_regionAround 13 x_bad = x_iret := rfl
theorem kX10_regionAround_14 : List.getD tX10_regionAround 14 x_bad = x_push (.int (-9)) 2 := rfl
theorem kX10_regionAround_16 : List.getD tX10_regionAround 16 x_bad = x_istore 2 1 := rfl
theorem kX10_regionAround_17 : List.getD tX10_regionAround 17 x_bad = x_push (.int (nI 0)) 1 := rfl
theorem kX10_regionAround_18 : List.getD tX10_regionAround 18 x_bad = x_istore 3 1 := rfl
theorem kX10_regionAround_19 : List.getD tX10_regionAround 19 x_bad = x_iload 3 1 := rfl
theorem kX10_regionAround_20 : List.getD tX10_regionAround 20 x_bad = x_aload 0 1 := rfl
theorem kX10_regionAround_21 : List.getD tX10_regionAround 21 x_bad = x_getI 10 3 := rfl
theorem kX10_regionAround_24 : List.getD tX10_regionAround 24 x_bad = x_icmp (fun a b => b ≤ a) 91 := rfl
theorem kX10_regionAround_27 : List.getD tX10_regionAround 27 x_bad = x_iload 1 1 := rfl
theorem kX10_regionAround_28 : List.getD tX10_regionAround 28 x_bad = x_aload 0 1 := rfl
theorem kX10_regionAround_29 : List.getD tX10_regionAround 29 x_bad = x_getR 10 2 := rfl
theorem kX10_regionAround_32 : List.getD tX10_regionAround 32 x_bad = x_iload 3 1 := rfl
theorem kX10_regionAround_33 : List.getD tX10_regionAround 33 x_bad = x_iald := rfl
theorem kX10_regionAround_34 : List.getD tX10_regionAround 34 x_bad = x_push (.int (-1)) 1 := rfl
theorem kX10_regionAround_35 : List.getD tX10_regionAround 35 x_bad = x_ii (fun a b => a ^^^ b) := rfl
theorem kX10_regionAround_36 : List.getD tX10_regionAround 36 x_bad = x_ii (fun a b => a &&& b) := rfl
theorem kX10_regionAround_37 : List.getD tX10_regionAround 37 x_bad = x_ifn (fun a => a = 0) 44 := rfl
theorem kX10_regionAround_40 : List.getD tX10_regionAround 40 x_bad = x_push (.int (nI 1)) 1 := rfl
theorem kX10_regionAround_41 : List.getD tX10_regionAround 41 x_bad = x_goto 45 := rfl
theorem kX10_regionAround_44 : List.getD tX10_regionAround 44 x_bad = x_push (.int (nI 0)) 1 := rfl
theorem kX10_regionAround_45 : List.getD tX10_regionAround 45 x_bad = x_istore 4 2 := rfl
theorem kX10_regionAround_47 : List.getD tX10_regionAround 47 x_bad = x_iload 4 2 := rfl
theorem kX10_regionAround_49 : List.getD tX10_regionAround 49 x_bad = x_if (fun a => a = 0) 83 := rfl
theorem kX10_regionAround_52 : List.getD tX10_regionAround 52 x_bad = x_iload 2 1 := rfl
theorem kX10_regionAround_53 : List.getD tX10_regionAround 53 x_bad = x_push (.int (-9)) 2 := rfl
theorem kX10_regionAround_55 : List.getD tX10_regionAround 55 x_bad = x_icmp (fun a b => a = b) 74 := rfl
theorem kX10_regionAround_58 : List.getD tX10_regionAround 58 x_bad = x_aload 0 1 := rfl
theorem kX10_regionAround_59 : List.getD tX10_regionAround 59 x_bad = x_getR 10 2 := rfl
theorem kX10_regionAround_62 : List.getD tX10_regionAround 62 x_bad = x_iload 3 1 := rfl
theorem kX10_regionAround_63 : List.getD tX10_regionAround 63 x_bad = x_iald := rfl
theorem kX10_regionAround_64 : List.getD tX10_regionAround 64 x_bad = x_callS1 mX10_bits := rfl
theorem kX10_regionAround_67 : List.getD tX10_regionAround 67 x_bad = x_iload 2 1 := rfl
theorem kX10_regionAround_68 : List.getD tX10_regionAround 68 x_bad = x_callS1 mX10_bits := rfl
theorem kX10_regionAround_71 : List.getD tX10_regionAround 71 x_bad = x_icmp (fun a b => b ≤ a) 83 := rfl
theorem kX10_regionAround_74 : List.getD tX10_regionAround 74 x_bad = x_aload 0 1 := rfl
theorem kX10_regionAround_75 : List.getD tX10_regionAround 75 x_bad = x_getR 10 2 := rfl
theorem kX10_regionAround_78 : List.getD tX10_regionAround 78 x_bad = x_iload 3 1 := rfl
theorem kX10_regionAround_79 : List.getD tX10_regionAround 79 x_bad = x_iald := rfl
theorem kX10_regionAround_80 : List.getD tX10_regionAround 80 x_bad = x_goto 84 := rfl
theorem kX10_regionAround_83 : List.getD tX10_regionAround 83 x_bad = x_iload 2 1 := rfl
theorem kX10_regionAround_84 : List.getD tX10_regionAround 84 x_bad = x_istore 2 1 := rfl
theorem kX10_regionAround_85 : List.getD tX10_regionAround 85 x_bad = x_iinc 3 (nI 1) := rfl
theorem kX10_regionAround_88 : List.getD tX10_regionAround 88 x_bad = x_goto 19 := rfl
theorem kX10_regionAround_91 : List.getD tX10_regionAround 91 x_bad = x_iload 2 1 := rfl
theorem kX10_regionAround_92 : List.getD tX10_regionAround 92 x_bad = x_iret := rfl
def tX10_separations : List PT := [x_iload 1 1, x_push (.int (nI 0)) 1, x_push (.int (nI 1)) 1, x_callS3 mX10_in, x_bad, x_bad, x_ifn (fun a => a = 0) 11, x_bad, x_bad, x_push (.int (-1)) 1, x_iret, x_push (.int (nI 0)) 1, x_istore 3 1, x_push (.int (nI 0)) 1, x_istore 4 2, x_bad, x_iload 4 2, x_bad, x_aload 0 1, x_getI 10 9, x_bad, x_bad, x_icmp (fun a b => b ≤ a) 61, x_bad, x_bad, x_iload 3 1, x_aload 0 1, x_getR 10 6, x_bad, x_bad, x_iload 4 2, x_bad, x_iald, x_iload 1 1, x_icmpn (fun a b => a = b) 52, x_bad, x_bad, x_aload 0 1, x_getR 10 10, x_bad, x_bad, x_iload 4 2, x_bad, x_zald, x_iload 2 1, x_icmpn (fun a b => a = b) 52, x_bad, x_bad, x_push (.int (nI 1)) 1, x_goto 53, x_bad, x_bad, x_push (.int (nI 0)) 1, x_ii (fun a b => a + b), x_istore 3 1, x_iinc 4 (nI 1), x_bad, x_bad, x_goto 16, x_bad, x_bad, x_iload 3 1, x_iret]
set_option maxRecDepth 20000 in
theorem okX10_separations : SndT RX10 cX10_separations mX10_separations.2.2.1 mX10_separations.2.2.2.2.1 mX10_separations.2.2.2.2.2 false mX10_separations.2.2.2.1 0 tX10_separations := ⟨s_iload_n (k := 1) (i := 1) (by decide +kernel) rfl, s_iconst (n := 0) (by decide +kernel) (by decide +kernel), s_iconst (n := 1) (by decide +kernel) (by decide +kernel), s_callS3 (by decide +kernel) ls_RX10_74 ⟨by decide, by decide⟩, s_bad, s_bad, s_if_ne (off := 5) (by decide +kernel) (by decide), s_bad, s_bad, s_iconst (n := (-1)) (by decide +kernel) (by decide +kernel), s_iret (by decide +kernel) rfl, s_iconst (n := 0) (by decide +kernel) (by decide +kernel), s_istore_n (k := 3) (i := 3) (by decide +kernel) rfl (by decide), s_iconst (n := 0) (by decide +kernel) (by decide +kernel), s_istore (by decide +kernel) (by decide), s_bad, s_iload (by decide +kernel), s_bad, s_aload_n (k := 0) (i := 0) (by decide +kernel) rfl, s_getI (by decide +kernel) fl_RX10_103 rfl, s_bad, s_bad, s_icmp_ge (off := 39) (by decide +kernel) (by decide), s_bad, s_bad, s_iload_n (k := 3) (i := 3) (by decide +kernel) rfl, s_aload_n (k := 0) (i := 0) (by decide +kernel) rfl, s_getR (by decide +kernel) fl_RX10_19 rfl, s_bad, s_bad, s_iload (by decide +kernel), s_bad, s_iald (by decide +kernel), s_iload_n (k := 1) (i := 1) (by decide +kernel) rfl, s_icmp_ne (off := 18) (by decide +kernel) (by decide), s_bad, s_bad, s_aload_n (k := 0) (i := 0) (by decide +kernel) rfl, s_getR (by decide +kernel) fl_RX10_28 rfl, s_bad, s_bad, s_iload (by decide +kernel), s_bad, s_zald (by decide +kernel), s_iload_n (k := 2) (i := 2) (by decide +kernel) rfl, s_icmp_ne (off := 7) (by decide +kernel) (by decide), s_bad, s_bad, s_iconst (n := 1) (by decide +kernel) (by decide +kernel), s_goto (off := 4) (by decide +kernel) (by decide), s_bad, s_bad, s_iconst (n := 0) (by decide +kernel) (by decide +kernel), s_iadd (by decide +kernel), s_istore_n (k := 3) (i := 3) (by decide +kernel) rfl (by decide), s_iinc (n := 1) (by decide +kernel) (by decide +kernel) (by decide), s_bad, s_bad, s_goto (off := (-42)) (by decide +kernel) (by decide), s_bad, s_bad, s_iload_n (k := 3) (i := 3) (by decide +kernel) rfl, s_iret (by decide +kernel) rfl, trivial⟩
theorem kX10_separations_0 : List.getD tX10_separations 0 x_bad = x_iload 1 1 := rfl
theorem kX10_separations_1 : List.getD tX10_separations 1 x_bad = x_push (.int (nI 0)) 1 := rfl
theorem kX10_separations_2 : List.getD tX10_separations 2 x_bad = x_push (.int (nI 1)) 1 := rfl
theorem kX10_separations_3 : List.getD tX10_separations 3 x_bad = x_callS3 mX10_in := rfl
theorem kX10_separations_6 : List.getD tX10_separations 6 x_bad = x_ifn (fun a => a = 0) 11 := rfl
theorem kX10_separations_9 : List.getD tX10_separations 9 x_bad = x_push (.int (-1)) 1 := rfl
theorem kX10_separations_10 : List.getD tX10_separations 10 x_bad = x_iret := rfl
theorem kX10_separations_11 : List.getD tX10_separations 11 x_bad = x_push (.int (nI 0)) 1 := rfl
theorem kX10_separations_12 : List.getD tX10_separations 12 x_bad = x_istore 3 1 := rfl
theorem kX10_separations_13 : List.getD tX10_separations 13 x_bad = x_push (.int (nI 0)) 1 := rfl
theorem kX10_separations_14 : List.getD tX10_separations 14 x_bad = x_istore 4 2 := rfl
theorem kX10_separations_16 : List.getD tX10_separations 16 x_bad = x_iload 4 2 := rfl
theorem kX10_separations_18 : List.getD tX10_separations 18 x_bad = x_aload 0 1 := rfl
theorem kX10_separations_19 : List.getD tX10_separations 19 x_bad = x_getI 10 9 := rfl
theorem kX10_separations_22 : List.getD tX10_separations 22 x_bad = x_icmp (fun a b => b ≤ a) 61 := rfl
theorem kX10_separations_25 : List.getD tX10_separations 25 x_bad = x_iload 3 1 := rfl
theorem kX10_separations_26 : List.getD tX10_separations 26 x_bad = x_aload 0 1 := rfl
theorem kX10_separations_27 : List.getD tX10_separations 27 x_bad = x_getR 10 6 := rfl
theorem kX10_separations_30 : List.getD tX10_separations 30 x_bad = x_iload 4 2 := rfl
theorem kX10_separations_32 : List.getD tX10_separations 32 x_bad = x_iald := rfl
theorem kX10_separations_33 : List.getD tX10_separations 33 x_bad = x_iload 1 1 := rfl
theorem kX10_separations_34 : List.getD tX10_separations 34 x_bad = x_icmpn (fun a b => a = b) 52 := rfl
theorem kX10_separations_37 : List.getD tX10_separations 37 x_bad = x_aload 0 1 := rfl
theorem kX10_separations_38 : List.getD tX10_separations 38 x_bad = x_getR 10 10 := rfl
theorem kX10_separations_41 : List.getD tX10_separations 41 x_bad = x_iload 4 2 := rfl
theorem kX10_separations_43 : List.getD tX10_separations 43 x_bad = x_zald := rfl
theorem kX10_separations_44 : List.getD tX10_separations 44 x_bad = x_iload 2 1 := rfl
theorem kX10_separations_45 : List.getD tX10_separations 45 x_bad = x_icmpn (fun a b => a = b) 52 := rfl
theorem kX10_separations_48 : List.getD tX10_separations 48 x_bad = x_push (.int (nI 1)) 1 := rfl
theorem kX10_separations_49 : List.getD tX10_separations 49 x_bad = x_goto 53 := rfl
theorem kX10_separations_52 : List.getD tX10_separations 52 x_bad = x_push (.int (nI 0)) 1 := rfl
theorem kX10_separations_53 : List.getD tX10_separations 53 x_bad = x_ii (fun a b => a + b) := rfl
theorem kX10_separations_54 : List.getD tX10_separations 54 x_bad = x_istore 3 1 := rfl
theorem kX10_separations_55 : List.getD tX10_separations 55 x_bad = x_iinc 4 (nI 1) := rfl
theorem kX10_separations_58 : List.getD tX10_separations 58 x_bad = x_goto 16 := rfl
theorem kX10_separations_61 : List.getD tX10_separations 61 x_bad = x_iload 3 1 := rfl
theorem kX10_separations_62 : List.getD tX10_separations 62 x_bad = x_iret := rfl
def tX10_type : List PT := [x_iload 1 1, x_push (.int (nI 32)) 2, x_bad, x_push (.int (nI 126)) 2, x_bad, x_callS3 mX10_in, x_bad, x_bad, x_ifn (fun a => a = 0) 13, x_bad, x_bad, x_push (.int (-1)) 1, x_iret, x_aload 0 1, x_getI 10 25, x_bad, x_bad, x_push (.int (nI 80)) 2, x_bad, x_icmpn (fun a b => a = b) 25, x_bad, x_bad, x_push (.int (-3)) 2, x_bad, x_iret, x_aload 0 1, x_getR 10 24, x_bad, x_bad, x_aload 0 1, x_getI 10 25, x_bad, x_bad, x_iload 1 1, x_iast, x_aload 0 1, x_dup, x_getI 10 25, x_bad, x_bad, x_push (.int (nI 1)) 1, x_ii (fun a b => a + b), x_putI 10 25, x_bad, x_bad, x_aload 0 1, x_getI 10 25, x_bad, x_bad, x_iret]
set_option maxRecDepth 20000 in
theorem okX10_type : SndT RX10 cX10_type mX10_type.2.2.1 mX10_type.2.2.2.2.1 mX10_type.2.2.2.2.2 false mX10_type.2.2.2.1 0 tX10_type := ⟨s_iload_n (k := 1) (i := 1) (by decide +kernel) rfl, s_bipush (n := 32) (by decide +kernel) (by decide +kernel), s_bad, s_bipush (n := 126) (by decide +kernel) (by decide +kernel), s_bad, s_callS3 (by decide +kernel) ls_RX10_74 ⟨by decide, by decide⟩, s_bad, s_bad, s_if_ne (off := 5) (by decide +kernel) (by decide), s_bad, s_bad, s_iconst (n := (-1)) (by decide +kernel) (by decide +kernel), s_iret (by decide +kernel) rfl, s_aload_n (k := 0) (i := 0) (by decide +kernel) rfl, s_getI (by decide +kernel) fl_RX10_173 rfl, s_bad, s_bad, s_bipush (n := 80) (by decide +kernel) (by decide +kernel), s_bad, s_icmp_ne (off := 6) (by decide +kernel) (by decide), s_bad, s_bad, s_bipush (n := (-3)) (by decide +kernel) (by decide +kernel), s_bad, s_iret (by decide +kernel) rfl, s_aload_n (k := 0) (i := 0) (by decide +kernel) rfl, s_getR (by decide +kernel) fl_RX10_57 rfl, s_bad, s_bad, s_aload_n (k := 0) (i := 0) (by decide +kernel) rfl, s_getI (by decide +kernel) fl_RX10_173 rfl, s_bad, s_bad, s_iload_n (k := 1) (i := 1) (by decide +kernel) rfl, s_iast (by decide +kernel), s_aload_n (k := 0) (i := 0) (by decide +kernel) rfl, s_dup (by decide +kernel), s_getI (by decide +kernel) fl_RX10_173 rfl, s_bad, s_bad, s_iconst (n := 1) (by decide +kernel) (by decide +kernel), s_iadd (by decide +kernel), s_putI (by decide +kernel) fl_RX10_173 fp_10_25 rfl, s_bad, s_bad, s_aload_n (k := 0) (i := 0) (by decide +kernel) rfl, s_getI (by decide +kernel) fl_RX10_173 rfl, s_bad, s_bad, s_iret (by decide +kernel) rfl, trivial⟩
theorem kX10_type_0 : List.getD tX10_type 0 x_bad = x_iload 1 1 := rfl
theorem kX10_type_1 : List.getD tX10_type 1 x_bad = x_push (.int (nI 32)) 2 := rfl
theorem kX10_type_3 : List.getD tX10_type 3 x_bad = x_push (.int (nI 126)) 2 := rfl
theorem kX10_type_5 : List.getD tX10_type 5 x_bad = x_callS3 mX10_in := rfl
theorem kX10_type_8 : List.getD tX10_type 8 x_bad = x_ifn (fun a => a = 0) 13 := rfl
theorem kX10_type_11 : List.getD tX10_type 11 x_bad = x_push (.int (-1)) 1 := rfl
theorem kX10_type_12 : List.getD tX10_type 12 x_bad = x_iret := rfl
theorem kX10_type_13 : List.getD tX10_type 13 x_bad = x_aload 0 1 := rfl
theorem kX10_type_14 : List.getD tX10_type 14 x_bad = x_getI 10 25 := rfl
theorem kX10_type_17 : List.getD tX10_type 17 x_bad = x_push (.int (nI 80)) 2 := rfl
theorem kX10_type_19 : List.getD tX10_type 19 x_bad = x_icmpn (fun a b => a = b) 25 := rfl
theorem kX10_type_22 : List.getD tX10_type 22 x_bad = x_push (.int (-3)) 2 := rfl
theorem kX10_type_24 : List.getD tX10_type 24 x_bad = x_iret := rfl
theorem kX10_type_25 : List.getD tX10_type 25 x_bad = x_aload 0 1 := rfl
theorem kX10_type_26 : List.getD tX10_type 26 x_bad = x_getR 10 24 := rfl
theorem kX10_type_29 : List.getD tX10_type 29 x_bad = x_aload 0 1 := rfl
theorem kX10_type_30 : List.getD tX10_type 30 x_bad = x_getI 10 25 := rfl
theorem kX10_type_33 : List.getD tX10_type 33 x_bad = x_iload 1 1 := rfl
theorem kX10_type_34 : List.getD tX10_type 34 x_bad = x_iast := rfl
theorem kX10_type_35 : List.getD tX10_type 35 x_bad = x_aload 0 1 := rfl
theorem kX10_type_36 : List.getD tX10_type 36 x_bad = x_dup := rfl
theorem kX10_type_37 : List.getD tX10_type 37 x_bad = x_getI 10 25 := rfl
theorem kX10_type_40 : List.getD tX10_type 40 x_bad = x_push (.int (nI 1)) 1 := rfl
theorem kX10_type_41 : List.getD tX10_type 41 x_bad = x_ii (fun a b => a + b) := rfl
theorem kX10_type_42 : List.getD tX10_type 42 x_bad = x_putI 10 25 := rfl
theorem kX10_type_45 : List.getD tX10_type 45 x_bad = x_aload 0 1 := rfl
theorem kX10_type_46 : List.getD tX10_type 46 x_bad = x_getI 10 25 := rfl
theorem kX10_type_49 : List.getD tX10_type 49 x_bad = x_iret := rfl
def tX10_arc : List PT := [x_aload 0 1, x_iload 1 1, x_callV1 10 mX10_isArc, x_bad, x_bad, x_if (fun a => a = 0) 26, x_bad, x_bad, x_iload 2 1, x_push (.int (nI 0)) 1, x_push (.int (nI 2)) 1, x_callS3 mX10_in, x_bad, x_bad, x_if (fun a => a = 0) 26, x_bad, x_bad, x_aload 0 1, x_iload 1 1, x_iload 2 1, x_callV2 10 mX10_of, x_bad, x_bad, x_goto 27, x_bad, x_bad, x_push (.int (-1)) 1, x_iret]
set_option maxRecDepth 20000 in
theorem okX10_arc : SndT RX10 cX10_arc mX10_arc.2.2.1 mX10_arc.2.2.2.2.1 mX10_arc.2.2.2.2.2 false mX10_arc.2.2.2.1 0 tX10_arc := ⟨s_aload_n (k := 0) (i := 0) (by decide +kernel) rfl, s_iload_n (k := 1) (i := 1) (by decide +kernel) rfl, s_callV1 (by decide +kernel) lv_RX10_211 ⟨by decide, by decide⟩, s_bad, s_bad, s_if_eq (off := 21) (by decide +kernel) (by decide), s_bad, s_bad, s_iload_n (k := 2) (i := 2) (by decide +kernel) rfl, s_iconst (n := 0) (by decide +kernel) (by decide +kernel), s_iconst (n := 2) (by decide +kernel) (by decide +kernel), s_callS3 (by decide +kernel) ls_RX10_74 ⟨by decide, by decide⟩, s_bad, s_bad, s_if_eq (off := 12) (by decide +kernel) (by decide), s_bad, s_bad, s_aload_n (k := 0) (i := 0) (by decide +kernel) rfl, s_iload_n (k := 1) (i := 1) (by decide +kernel) rfl, s_iload_n (k := 2) (i := 2) (by decide +kernel) rfl, s_callV2 (by decide +kernel) lv_RX10_78 ⟨by decide, by decide⟩, s_bad, s_bad, s_goto (off := 4) (by decide +kernel) (by decide), s_bad, s_bad, s_iconst (n := (-1)) (by decide +kernel) (by decide +kernel), s_iret (by decide +kernel) rfl, trivial⟩
theorem kX10_arc_0 : List.getD tX10_arc 0 x_bad = x_aload 0 1 := rfl
theorem kX10_arc_1 : List.getD tX10_arc 1 x_bad = x_iload 1 1 := rfl
theorem kX10_arc_2 : List.getD tX10_arc 2 x_bad = x_callV1 10 mX10_isArc := rfl
theorem kX10_arc_5 : List.getD tX10_arc 5 x_bad = x_if (fun a => a = 0) 26 := rfl
theorem kX10_arc_8 : List.getD tX10_arc 8 x_bad = x_iload 2 1 := rfl
theorem kX10_arc_9 : List.getD tX10_arc 9 x_bad = x_push (.int (nI 0)) 1 := rfl
theorem kX10_arc_10 : List.getD tX10_arc 10 x_bad = x_push (.int (nI 2)) 1 := rfl
theorem kX10_arc_11 : List.getD tX10_arc 11 x_bad = x_callS3 mX10_in := rfl
theorem kX10_arc_14 : List.getD tX10_arc 14 x_bad = x_if (fun a => a = 0) 26 := rfl
theorem kX10_arc_17 : List.getD tX10_arc 17 x_bad = x_aload 0 1 := rfl
theorem kX10_arc_18 : List.getD tX10_arc 18 x_bad = x_iload 1 1 := rfl
theorem kX10_arc_19 : List.getD tX10_arc 19 x_bad = x_iload 2 1 := rfl
theorem kX10_arc_20 : List.getD tX10_arc 20 x_bad = x_callV2 10 mX10_of := rfl
theorem kX10_arc_23 : List.getD tX10_arc 23 x_bad = x_goto 27 := rfl
theorem kX10_arc_26 : List.getD tX10_arc 26 x_bad = x_push (.int (-1)) 1 := rfl
theorem kX10_arc_27 : List.getD tX10_arc 27 x_bad = x_iret := rfl
def tX10_canOccur : List PT := [x_aload 0 1, x_getR 10 14, x_bad, x_bad, x_push (.int (nI 2)) 1, x_iload 1 1, x_ii (fun a b => a * b), x_lald, x_lload 2 1, x_push (.long (-1)) 3, x_bad, x_bad, x_ll (fun a b => a ^^^ b), x_ll (fun a b => a &&& b), x_push (.long 0) 1, x_lcmp, x_ifn (fun a => a = 0) 45, x_bad, x_bad, x_aload 0 1, x_getR 10 14, x_bad, x_bad, x_push (.int (nI 2)) 1, x_iload 1 1, x_ii (fun a b => a * b), x_push (.int (nI 1)) 1, x_ii (fun a b => a + b), x_lald, x_lload 4 2, x_bad, x_push (.long (-1)) 3, x_bad, x_bad, x_ll (fun a b => a ^^^ b), x_ll (fun a b => a &&& b), x_push (.long 0) 1, x_lcmp, x_ifn (fun a => a = 0) 45, x_bad, x_bad, x_push (.int (nI 1)) 1, x_goto 46, x_bad, x_bad, x_push (.int (nI 0)) 1, x_istore 6 2, x_bad, x_aload 0 1, x_iload 1 1, x_callV1 10 mX10_arcsOf, x_bad, x_bad, x_if (fun a => a ≤ 0) 98, x_bad, x_bad, x_iload 6 2, x_bad, x_if (fun a => a = 0) 98, x_bad, x_bad, x_aload 0 1, x_getR 10 15, x_bad, x_bad, x_push (.int (nI 2)) 1, x_iload 1 1, x_ii (fun a b => a * b), x_lald, x_lload 2 1, x_ll (fun a b => a &&& b), x_push (.long 0) 1, x_lcmp, x_ifn (fun a => a = 0) 98, x_bad, x_bad, x_aload 0 1, x_getR 10 15, x_bad, x_bad, x_push (.int (nI 2)) 1, x_iload 1 1, x_ii (fun a b => a * b), x_push (.int (nI 1)) 1, x_ii (fun a b => a + b), x_lald, x_lload 4 2, x_bad, x_ll (fun a b => a &&& b), x_push (.long 0) 1, x_lcmp, x_ifn (fun a => a = 0) 98, x_bad, x_bad, x_push (.int (nI 1)) 1, x_goto 99, x_bad, x_bad, x_push (.int (nI 0)) 1, x_zret]
set_option maxRecDepth 20000 in
theorem okX10_canOccur : SndT RX10 cX10_canOccur mX10_canOccur.2.2.1 mX10_canOccur.2.2.2.2.1 mX10_canOccur.2.2.2.2.2 false mX10_canOccur.2.2.2.1 0 tX10_canOccur := ⟨s_aload_n (k := 0) (i := 0) (by decide +kernel) rfl, s_getR (by decide +kernel) fl_RX10_38 rfl, s_bad, s_bad, s_iconst (n := 2) (by decide +kernel) (by decide +kernel), s_iload_n (k := 1) (i := 1) (by decide +kernel) rfl, s_imul (by decide +kernel), s_lald (by decide +kernel), s_lload_n (k := 2) (i := 2) (by decide +kernel) rfl, s_ldc2 (by decide +kernel) tb_934, s_bad, s_bad, s_lxor (by decide +kernel), s_land (by decide +kernel), s_lconst (n := 0) (by decide +kernel) (by decide +kernel), s_lcmp (by decide +kernel), s_if_ne (off := 29) (by decide +kernel) (by decide), s_bad, s_bad, s_aload_n (k := 0) (i := 0) (by decide +kernel) rfl, s_getR (by decide +kernel) fl_RX10_38 rfl, s_bad, s_bad, s_iconst (n := 2) (by decide +kernel) (by decide +kernel), s_iload_n (k := 1) (i := 1) (by decide +kernel) rfl, s_imul (by decide +kernel), s_iconst (n := 1) (by decide +kernel) (by decide +kernel), s_iadd (by decide +kernel), s_lald (by decide +kernel), s_lload (by decide +kernel), s_bad, s_ldc2 (by decide +kernel) tb_934, s_bad, s_bad, s_lxor (by decide +kernel), s_land (by decide +kernel), s_lconst (n := 0) (by decide +kernel) (by decide +kernel), s_lcmp (by decide +kernel), s_if_ne (off := 7) (by decide +kernel) (by decide), s_bad, s_bad, s_iconst (n := 1) (by decide +kernel) (by decide +kernel), s_goto (off := 4) (by decide +kernel) (by decide), s_bad, s_bad, s_iconst (n := 0) (by decide +kernel) (by decide +kernel), s_istore (by decide +kernel) (by decide), s_bad, s_aload_n (k := 0) (i := 0) (by decide +kernel) rfl, s_iload_n (k := 1) (i := 1) (by decide +kernel) rfl, s_callV1 (by decide +kernel) lv_RX10_82 ⟨by decide, by decide⟩, s_bad, s_bad, s_if_le (off := 45) (by decide +kernel) (by decide), s_bad, s_bad, s_iload (by decide +kernel), s_bad, s_if_eq (off := 40) (by decide +kernel) (by decide), s_bad, s_bad, s_aload_n (k := 0) (i := 0) (by decide +kernel) rfl, s_getR (by decide +kernel) fl_RX10_42 rfl, s_bad, s_bad, s_iconst (n := 2) (by decide +kernel) (by decide +kernel), s_iload_n (k := 1) (i := 1) (by decide +kernel) rfl, s_imul (by decide +kernel), s_lald (by decide +kernel), s_lload_n (k := 2) (i := 2) (by decide +kernel) rfl, s_land (by decide +kernel), s_lconst (n := 0) (by decide +kernel) (by decide +kernel), s_lcmp (by decide +kernel), s_if_ne (off := 25) (by decide +kernel) (by decide), s_bad, s_bad, s_aload_n (k := 0) (i := 0) (by decide +kernel) rfl, s_getR (by decide +kernel) fl_RX10_42 rfl, s_bad, s_bad, s_iconst (n := 2) (by decide +kernel) (by decide +kernel), s_iload_n (k := 1) (i := 1) (by decide +kernel) rfl, s_imul (by decide +kernel), s_iconst (n := 1) (by decide +kernel) (by decide +kernel), s_iadd (by decide +kernel), s_lald (by decide +kernel), s_lload (by decide +kernel), s_bad, s_land (by decide +kernel), s_lconst (n := 0) (by decide +kernel) (by decide +kernel), s_lcmp (by decide +kernel), s_if_ne (off := 7) (by decide +kernel) (by decide), s_bad, s_bad, s_iconst (n := 1) (by decide +kernel) (by decide +kernel), s_goto (off := 4) (by decide +kernel) (by decide), s_bad, s_bad, s_iconst (n := 0) (by decide +kernel) (by decide +kernel), s_zret (by decide +kernel) rfl, trivial⟩
theorem kX10_canOccur_0 : List.getD tX10_canOccur 0 x_bad = x_aload 0 1 := rfl
theorem kX10_canOccur_1 : List.getD tX10_canOccur 1 x_bad = x_getR 10 14 := rfl
theorem kX10_canOccur_4 : List.getD tX10_canOccur 4 x_bad = x_push (.int (nI 2)) 1 := rfl
theorem kX10_canOccur_5 : List.getD tX10_canOccur 5 x_bad = x_iload 1 1 := rfl
theorem kX10_canOccur_6 : List.getD tX10_canOccur 6 x_bad = x_ii (fun a b => a * b) := rfl
theorem kX10_canOccur_7 : List.getD tX10_canOccur 7 x_bad = x_lald := rfl
theorem kX10_canOccur_8 : List.getD tX10_canOccur 8 x_bad = x_lload 2 1 := rfl
theorem kX10_canOccur_9 : List.getD tX10_canOccur 9 x_bad = x_push (.long (-1)) 3 := rfl
theorem kX10_canOccur_12 : List.getD tX10_canOccur 12 x_bad = x_ll (fun a b => a ^^^ b) := rfl
theorem kX10_canOccur_13 : List.getD tX10_canOccur 13 x_bad = x_ll (fun a b => a &&& b) := rfl
theorem kX10_canOccur_14 : List.getD tX10_canOccur 14 x_bad = x_push (.long 0) 1 := rfl
theorem kX10_canOccur_15 : List.getD tX10_canOccur 15 x_bad = x_lcmp := rfl
theorem kX10_canOccur_16 : List.getD tX10_canOccur 16 x_bad = x_ifn (fun a => a = 0) 45 := rfl
theorem kX10_canOccur_19 : List.getD tX10_canOccur 19 x_bad = x_aload 0 1 := rfl
theorem kX10_canOccur_20 : List.getD tX10_canOccur 20 x_bad = x_getR 10 14 := rfl
theorem kX10_canOccur_23 : List.getD tX10_canOccur 23 x_bad = x_push (.int (nI 2)) 1 := rfl
theorem kX10_canOccur_24 : List.getD tX10_canOccur 24 x_bad = x_iload 1 1 := rfl
theorem kX10_canOccur_25 : List.getD tX10_canOccur 25 x_bad = x_ii (fun a b => a * b) := rfl
theorem kX10_canOccur_26 : List.getD tX10_canOccur 26 x_bad = x_push (.int (nI 1)) 1 := rfl
theorem kX10_canOccur_27 : List.getD tX10_canOccur 27 x_bad = x_ii (fun a b => a + b) := rfl
theorem kX10_canOccur_28 : List.getD tX10_canOccur 28 x_bad = x_lald := rfl
theorem kX10_canOccur_29 : List.getD tX10_canOccur 29 x_bad = x_lload 4 2 := rfl
theorem kX10_canOccur_31 : List.getD tX10_canOccur 31 x_bad = x_push (.long (-1)) 3 := rfl
theorem kX10_canOccur_34 : List.getD tX10_canOccur 34 x_bad = x_ll (fun a b => a ^^^ b) := rfl
theorem kX10_canOccur_35 : List.getD tX10_canOccur 35 x_bad = x_ll (fun a b => a &&& b) := rfl
theorem kX10_canOccur_36 : List.getD tX10_canOccur 36 x_bad = x_push (.long 0) 1 := rfl
theorem kX10_canOccur_37 : List.getD tX10_canOccur 37 x_bad = x_lcmp := rfl
theorem kX10_canOccur_38 : List.getD tX10_canOccur 38 x_bad = x_ifn (fun a => a = 0) 45 := rfl
theorem kX10_canOccur_41 : List.getD tX10_canOccur 41 x_bad = x_push (.int (nI 1)) 1 := rfl
theorem kX10_canOccur_42 : List.getD tX10_canOccur 42 x_bad = x_goto 46 := rfl
theorem kX10_canOccur_45 : List.getD tX10_canOccur 45 x_bad = x_push (.int (nI 0)) 1 := rfl
theorem kX10_canOccur_46 : List.getD tX10_canOccur 46 x_bad = x_istore 6 2 := rfl
theorem kX10_canOccur_48 : List.getD tX10_canOccur 48 x_bad = x_aload 0 1 := rfl
theorem kX10_canOccur_49 : List.getD tX10_canOccur 49 x_bad = x_iload 1 1 := rfl
theorem kX10_canOccur_50 : List.getD tX10_canOccur 50 x_bad = x_callV1 10 mX10_arcsOf := rfl
theorem kX10_canOccur_53 : List.getD tX10_canOccur 53 x_bad = x_if (fun a => a ≤ 0) 98 := rfl
theorem kX10_canOccur_56 : List.getD tX10_canOccur 56 x_bad = x_iload 6 2 := rfl
theorem kX10_canOccur_58 : List.getD tX10_canOccur 58 x_bad = x_if (fun a => a = 0) 98 := rfl
theorem kX10_canOccur_61 : List.getD tX10_canOccur 61 x_bad = x_aload 0 1 := rfl
theorem kX10_canOccur_62 : List.getD tX10_canOccur 62 x_bad = x_getR 10 15 := rfl
theorem kX10_canOccur_65 : List.getD tX10_canOccur 65 x_bad = x_push (.int (nI 2)) 1 := rfl
theorem kX10_canOccur_66 : List.getD tX10_canOccur 66 x_bad = x_iload 1 1 := rfl
theorem kX10_canOccur_67 : List.getD tX10_canOccur 67 x_bad = x_ii (fun a b => a * b) := rfl
theorem kX10_canOccur_68 : List.getD tX10_canOccur 68 x_bad = x_lald := rfl
theorem kX10_canOccur_69 : List.getD tX10_canOccur 69 x_bad = x_lload 2 1 := rfl
theorem kX10_canOccur_70 : List.getD tX10_canOccur 70 x_bad = x_ll (fun a b => a &&& b) := rfl
theorem kX10_canOccur_71 : List.getD tX10_canOccur 71 x_bad = x_push (.long 0) 1 := rfl
theorem kX10_canOccur_72 : List.getD tX10_canOccur 72 x_bad = x_lcmp := rfl
theorem kX10_canOccur_73 : List.getD tX10_canOccur 73 x_bad = x_ifn (fun a => a = 0) 98 := rfl
theorem kX10_canOccur_76 : List.getD tX10_canOccur 76 x_bad = x_aload 0 1 := rfl
theorem kX10_canOccur_77 : List.getD tX10_canOccur 77 x_bad = x_getR 10 15 := rfl
theorem kX10_canOccur_80 : List.getD tX10_canOccur 80 x_bad = x_push (.int (nI 2)) 1 := rfl
theorem kX10_canOccur_81 : List.getD tX10_canOccur 81 x_bad = x_iload 1 1 := rfl
theorem kX10_canOccur_82 : List.getD tX10_canOccur 82 x_bad = x_ii (fun a b => a * b) := rfl
theorem kX10_canOccur_83 : List.getD tX10_canOccur 83 x_bad = x_push (.int (nI 1)) 1 := rfl
theorem kX10_canOccur_84 : List.getD tX10_canOccur 84 x_bad = x_ii (fun a b => a + b) := rfl
theorem kX10_canOccur_85 : List.getD tX10_canOccur 85 x_bad = x_lald := rfl
theorem kX10_canOccur_86 : List.getD tX10_canOccur 86 x_bad = x_lload 4 2 := rfl
theorem kX10_canOccur_88 : List.getD tX10_canOccur 88 x_bad = x_ll (fun a b => a &&& b) := rfl
theorem kX10_canOccur_89 : List.getD tX10_canOccur 89 x_bad = x_push (.long 0) 1 := rfl
theorem kX10_canOccur_90 : List.getD tX10_canOccur 90 x_bad = x_lcmp := rfl
theorem kX10_canOccur_91 : List.getD tX10_canOccur 91 x_bad = x_ifn (fun a => a = 0) 98 := rfl
theorem kX10_canOccur_94 : List.getD tX10_canOccur 94 x_bad = x_push (.int (nI 1)) 1 := rfl
theorem kX10_canOccur_95 : List.getD tX10_canOccur 95 x_bad = x_goto 99 := rfl
theorem kX10_canOccur_98 : List.getD tX10_canOccur 98 x_bad = x_push (.int (nI 0)) 1 := rfl
theorem kX10_canOccur_99 : List.getD tX10_canOccur 99 x_bad = x_zret := rfl
def tX10_crosses : List PT := [x_iload 1 1, x_push (.int (nI 0)) 1, x_aload 0 1, x_callV0 10 mX10_all, x_bad, x_bad, x_callS3 mX10_in, x_bad, x_bad, x_if (fun a => a = 0) 28, x_bad, x_bad, x_iload 2 1, x_callS1 mX10_isEvent, x_bad, x_bad, x_if (fun a => a = 0) 28, x_bad, x_bad, x_aload 0 1, x_iload 1 1, x_iload 2 1, x_callV2 10 mX10_crossing, x_bad, x_bad, x_goto 29, x_bad, x_bad, x_push (.int (-1)) 1, x_iret]
set_option maxRecDepth 20000 in
theorem okX10_crosses : SndT RX10 cX10_crosses mX10_crosses.2.2.1 mX10_crosses.2.2.2.2.1 mX10_crosses.2.2.2.2.2 false mX10_crosses.2.2.2.1 0 tX10_crosses := ⟨s_iload_n (k := 1) (i := 1) (by decide +kernel) rfl, s_iconst (n := 0) (by decide +kernel) (by decide +kernel), s_aload_n (k := 0) (i := 0) (by decide +kernel) rfl, s_callV0 (by decide +kernel) lv_RX10_95 ⟨by decide, by decide⟩, s_bad, s_bad, s_callS3 (by decide +kernel) ls_RX10_74 ⟨by decide, by decide⟩, s_bad, s_bad, s_if_eq (off := 19) (by decide +kernel) (by decide), s_bad, s_bad, s_iload_n (k := 2) (i := 2) (by decide +kernel) rfl, s_callS1 (by decide +kernel) ls_RX10_204 ⟨by decide, by decide⟩, s_bad, s_bad, s_if_eq (off := 12) (by decide +kernel) (by decide), s_bad, s_bad, s_aload_n (k := 0) (i := 0) (by decide +kernel) rfl, s_iload_n (k := 1) (i := 1) (by decide +kernel) rfl, s_iload_n (k := 2) (i := 2) (by decide +kernel) rfl, s_callV2 (by decide +kernel) lv_RX10_86 ⟨by decide, by decide⟩, s_bad, s_bad, s_goto (off := 4) (by decide +kernel) (by decide), s_bad, s_bad, s_iconst (n := (-1)) (by decide +kernel) (by decide +kernel), s_iret (by decide +kernel) rfl, trivial⟩
theorem kX10_crosses_0 : List.getD tX10_crosses 0 x_bad = x_iload 1 1 := rfl
theorem kX10_crosses_1 : List.getD tX10_crosses 1 x_bad = x_push (.int (nI 0)) 1 := rfl
theorem kX10_crosses_2 : List.getD tX10_crosses 2 x_bad = x_aload 0 1 := rfl
theorem kX10_crosses_3 : List.getD tX10_crosses 3 x_bad = x_callV0 10 mX10_all := rfl
theorem kX10_crosses_6 : List.getD tX10_crosses 6 x_bad = x_callS3 mX10_in := rfl
theorem kX10_crosses_9 : List.getD tX10_crosses 9 x_bad = x_if (fun a => a = 0) 28 := rfl
theorem kX10_crosses_12 : List.getD tX10_crosses 12 x_bad = x_iload 2 1 := rfl
theorem kX10_crosses_13 : List.getD tX10_crosses 13 x_bad = x_callS1 mX10_isEvent := rfl
theorem kX10_crosses_16 : List.getD tX10_crosses 16 x_bad = x_if (fun a => a = 0) 28 := rfl
theorem kX10_crosses_19 : List.getD tX10_crosses 19 x_bad = x_aload 0 1 := rfl
theorem kX10_crosses_20 : List.getD tX10_crosses 20 x_bad = x_iload 1 1 := rfl
theorem kX10_crosses_21 : List.getD tX10_crosses 21 x_bad = x_iload 2 1 := rfl
theorem kX10_crosses_22 : List.getD tX10_crosses 22 x_bad = x_callV2 10 mX10_crossing := rfl
theorem kX10_crosses_25 : List.getD tX10_crosses 25 x_bad = x_goto 29 := rfl
theorem kX10_crosses_28 : List.getD tX10_crosses 28 x_bad = x_push (.int (-1)) 1 := rfl
theorem kX10_crosses_29 : List.getD tX10_crosses 29 x_bad = x_iret := rfl
def tX10_eventsOf : List PT := [x_push (.int (nI 0)) 1, x_istore 3 1, x_push (.int (nI 0)) 1, x_istore 4 2, x_bad, x_iload 4 2, x_bad, x_push (.int (nI 8)) 2, x_bad, x_icmp (fun a b => b ≤ a) 40, x_bad, x_bad, x_iload 3 1, x_aload 0 1, x_iload 1 1, x_iload 4 2, x_bad, x_callV2 10 mX10_crossing, x_bad, x_bad, x_iload 2 1, x_icmpn (fun a b => a = b) 31, x_bad, x_bad, x_push (.int (nI 1)) 1, x_iload 4 2, x_bad, x_ii (fun a b => a <<< (b &&& 31)), x_goto 32, x_bad, x_bad, x_push (.int (nI 0)) 1, x_ii (fun a b => a ||| b), x_istore 3 1, x_iinc 4 (nI 1), x_bad, x_bad, x_goto 5, x_bad, x_bad, x_iload 3 1, x_iret]
set_option maxRecDepth 20000 in
theorem okX10_eventsOf : SndT RX10 cX10_eventsOf mX10_eventsOf.2.2.1 mX10_eventsOf.2.2.2.2.1 mX10_eventsOf.2.2.2.2.2 false mX10_eventsOf.2.2.2.1 0 tX10_eventsOf := ⟨s_iconst (n := 0) (by decide +kernel) (by decide +kernel), s_istore_n (k := 3) (i := 3) (by decide +kernel) rfl (by decide), s_iconst (n := 0) (by decide +kernel) (by decide +kernel), s_istore (by decide +kernel) (by decide), s_bad, s_iload (by decide +kernel), s_bad, s_bipush (n := 8) (by decide +kernel) (by decide +kernel), s_bad, s_icmp_ge (off := 31) (by decide +kernel) (by decide), s_bad, s_bad, s_iload_n (k := 3) (i := 3) (by decide +kernel) rfl, s_aload_n (k := 0) (i := 0) (by decide +kernel) rfl, s_iload_n (k := 1) (i := 1) (by decide +kernel) rfl, s_iload (by decide +kernel), s_bad, s_callV2 (by decide +kernel) lv_RX10_86 ⟨by decide, by decide⟩, s_bad, s_bad, s_iload_n (k := 2) (i := 2) (by decide +kernel) rfl, s_icmp_ne (off := 10) (by decide +kernel) (by decide), s_bad, s_bad, s_iconst (n := 1) (by decide +kernel) (by decide +kernel), s_iload (by decide +kernel), s_bad, s_ishl (by decide +kernel), s_goto (off := 4) (by decide +kernel) (by decide), s_bad, s_bad, s_iconst (n := 0) (by decide +kernel) (by decide +kernel), s_ior (by decide +kernel), s_istore_n (k := 3) (i := 3) (by decide +kernel) rfl (by decide), s_iinc (n := 1) (by decide +kernel) (by decide +kernel) (by decide), s_bad, s_bad, s_goto (off := (-32)) (by decide +kernel) (by decide), s_bad, s_bad, s_iload_n (k := 3) (i := 3) (by decide +kernel) rfl, s_iret (by decide +kernel) rfl, trivial⟩
theorem kX10_eventsOf_0 : List.getD tX10_eventsOf 0 x_bad = x_push (.int (nI 0)) 1 := rfl
theorem kX10_eventsOf_1 : List.getD tX10_eventsOf 1 x_bad = x_istore 3 1 := rfl
theorem kX10_eventsOf_2 : List.getD tX10_eventsOf 2 x_bad = x_push (.int (nI 0)) 1 := rfl
theorem kX10_eventsOf_3 : List.getD tX10_eventsOf 3 x_bad = x_istore 4 2 := rfl
theorem kX10_eventsOf_5 : List.getD tX10_eventsOf 5 x_bad = x_iload 4 2 := rfl
theorem kX10_eventsOf_7 : List.getD tX10_eventsOf 7 x_bad = x_push (.int (nI 8)) 2 := rfl
theorem kX10_eventsOf_9 : List.getD tX10_eventsOf 9 x_bad = x_icmp (fun a b => b ≤ a) 40 := rfl
theorem kX10_eventsOf_12 : List.getD tX10_eventsOf 12 x_bad = x_iload 3 1 := rfl
theorem kX10_eventsOf_13 : List.getD tX10_eventsOf 13 x_bad = x_aload 0 1 := rfl
theorem kX10_eventsOf_14 : List.getD tX10_eventsOf 14 x_bad = x_iload 1 1 := rfl
theorem kX10_eventsOf_15 : List.getD tX10_eventsOf 15 x_bad = x_iload 4 2 := rfl
theorem kX10_eventsOf_17 : List.getD tX10_eventsOf 17 x_bad = x_callV2 10 mX10_crossing := rfl
theorem kX10_eventsOf_20 : List.getD tX10_eventsOf 20 x_bad = x_iload 2 1 := rfl
theorem kX10_eventsOf_21 : List.getD tX10_eventsOf 21 x_bad = x_icmpn (fun a b => a = b) 31 := rfl
theorem kX10_eventsOf_24 : List.getD tX10_eventsOf 24 x_bad = x_push (.int (nI 1)) 1 := rfl
theorem kX10_eventsOf_25 : List.getD tX10_eventsOf 25 x_bad = x_iload 4 2 := rfl
theorem kX10_eventsOf_27 : List.getD tX10_eventsOf 27 x_bad = x_ii (fun a b => a <<< (b &&& 31)) := rfl
theorem kX10_eventsOf_28 : List.getD tX10_eventsOf 28 x_bad = x_goto 32 := rfl
theorem kX10_eventsOf_31 : List.getD tX10_eventsOf 31 x_bad = x_push (.int (nI 0)) 1 := rfl
theorem kX10_eventsOf_32 : List.getD tX10_eventsOf 32 x_bad = x_ii (fun a b => a ||| b) := rfl
theorem kX10_eventsOf_33 : List.getD tX10_eventsOf 33 x_bad = x_istore 3 1 := rfl
theorem kX10_eventsOf_34 : List.getD tX10_eventsOf 34 x_bad = x_iinc 4 (nI 1) := rfl
theorem kX10_eventsOf_37 : List.getD tX10_eventsOf 37 x_bad = x_goto 5 := rfl
theorem kX10_eventsOf_40 : List.getD tX10_eventsOf 40 x_bad = x_iload 3 1 := rfl
theorem kX10_eventsOf_41 : List.getD tX10_eventsOf 41 x_bad = x_iret := rfl
def tX10_findsFlows : List PT := [x_push (.int (nI 0)) 1, x_istore 1 1, x_iload 1 1, x_push (.int (nI 8)) 2, x_bad, x_icmp (fun a b => b ≤ a) 152, x_bad, x_bad, x_aload 0 1, x_getR 10 14, x_bad, x_bad, x_push (.int (nI 2)) 1, x_iload 1 1, x_ii (fun a b => a * b), x_push (.long 0) 1, x_last, x_aload 0 1, x_getR 10 14, x_bad, x_bad, x_push (.int (nI 2)) 1, x_iload 1 1, x_ii (fun a b => a * b), x_push (.int (nI 1)) 1, x_ii (fun a b => a + b), x_push (.long 0) 1, x_last, x_aload 0 1, x_getR 10 15, x_bad, x_bad, x_push (.int (nI 2)) 1, x_iload 1 1, x_ii (fun a b => a * b), x_push (.long 0) 1, x_last, x_aload 0 1, x_getR 10 15, x_bad, x_bad, x_push (.int (nI 2)) 1, x_iload 1 1, x_ii (fun a b => a * b), x_push (.int (nI 1)) 1, x_ii (fun a b => a + b), x_push (.long 0) 1, x_last, x_push (.int (nI 0)) 1, x_istore 2 1, x_iload 2 1, x_aload 0 1, x_getI 10 12, x_bad, x_bad, x_icmp (fun a b => b ≤ a) 146, x_bad, x_bad, x_aload 0 1, x_iload 1 1, x_callV1 10 mX10_arcsOf, x_bad, x_bad, x_if (fun a => a ≤ 0) 146, x_bad, x_bad, x_aload 0 1, x_aload 0 1, x_getR 10 11, x_bad, x_bad, x_iload 2 1, x_iald, x_iload 1 1, x_callV2 10 mX10_crossing, x_bad, x_bad, x_istore 3 1, x_aload 0 1, x_getR 10 14, x_bad, x_bad, x_push (.int (nI 2)) 1, x_iload 1 1, x_ii (fun a b => a * b), x_iload 2 1, x_push (.int (nI 64)) 2, x_bad, x_idiv, x_ii (fun a b => a + b), x_dup2, x_lald, x_iload 3 1, x_push (.int (nI 2)) 1, x_icmpn (fun a b => a = b) 106, x_bad, x_bad, x_push (.long 1) 1, x_iload 2 1, x_push (.int (nI 64)) 2, x_bad, x_irem, x_li (fun a b => a <<< (b.toInt64 &&& 63)), x_goto 107, x_bad, x_bad, x_push (.long 0) 1, x_ll (fun a b => a ||| b), x_last, x_aload 0 1, x_getR 10 15, x_bad, x_bad, x_push (.int (nI 2)) 1, x_iload 1 1, x_ii (fun a b => a * b), x_iload 2 1, x_push (.int (nI 64)) 2, x_bad, x_idiv, x_ii (fun a b => a + b), x_dup2, x_lald, x_iload 3 1, x_push (.int (nI 1)) 1, x_icmpn (fun a b => a = b) 137, x_bad, x_bad, x_push (.long 1) 1, x_iload 2 1, x_push (.int (nI 64)) 2, x_bad, x_irem, x_li (fun a b => a <<< (b.toInt64 &&& 63)), x_goto 138, x_bad, x_bad, x_push (.long 0) 1, x_ll (fun a b => a ||| b), x_last, x_iinc 2 (nI 1), x_bad, x_bad, x_goto 50, x_bad, x_bad, x_iinc 1 (nI 1), x_bad, x_bad, x_goto 2, x_bad, x_bad, x_vret]
set_option maxRecDepth 20000 in
theorem okX10_findsFlows : SndT RX10 cX10_findsFlows mX10_findsFlows.2.2.1 mX10_findsFlows.2.2.2.2.1 mX10_findsFlows.2.2.2.2.2 false mX10_findsFlows.2.2.2.1 0 tX10_findsFlows := ⟨s_iconst (n := 0) (by decide +kernel) (by decide +kernel), s_istore_n (k := 1) (i := 1) (by decide +kernel) rfl (by decide), s_iload_n (k := 1) (i := 1) (by decide +kernel) rfl, s_bipush (n := 8) (by decide +kernel) (by decide +kernel), s_bad, s_icmp_ge (off := 147) (by decide +kernel) (by decide), s_bad, s_bad, s_aload_n (k := 0) (i := 0) (by decide +kernel) rfl, s_getR (by decide +kernel) fl_RX10_38 rfl, s_bad, s_bad, s_iconst (n := 2) (by decide +kernel) (by decide +kernel), s_iload_n (k := 1) (i := 1) (by decide +kernel) rfl, s_imul (by decide +kernel), s_lconst (n := 0) (by decide +kernel) (by decide +kernel), s_last (by decide +kernel), s_aload_n (k := 0) (i := 0) (by decide +kernel) rfl, s_getR (by decide +kernel) fl_RX10_38 rfl, s_bad, s_bad, s_iconst (n := 2) (by decide +kernel) (by decide +kernel), s_iload_n (k := 1) (i := 1) (by decide +kernel) rfl, s_imul (by decide +kernel), s_iconst (n := 1) (by decide +kernel) (by decide +kernel), s_iadd (by decide +kernel), s_lconst (n := 0) (by decide +kernel) (by decide +kernel), s_last (by decide +kernel), s_aload_n (k := 0) (i := 0) (by decide +kernel) rfl, s_getR (by decide +kernel) fl_RX10_42 rfl, s_bad, s_bad, s_iconst (n := 2) (by decide +kernel) (by decide +kernel), s_iload_n (k := 1) (i := 1) (by decide +kernel) rfl, s_imul (by decide +kernel), s_lconst (n := 0) (by decide +kernel) (by decide +kernel), s_last (by decide +kernel), s_aload_n (k := 0) (i := 0) (by decide +kernel) rfl, s_getR (by decide +kernel) fl_RX10_42 rfl, s_bad, s_bad, s_iconst (n := 2) (by decide +kernel) (by decide +kernel), s_iload_n (k := 1) (i := 1) (by decide +kernel) rfl, s_imul (by decide +kernel), s_iconst (n := 1) (by decide +kernel) (by decide +kernel), s_iadd (by decide +kernel), s_lconst (n := 0) (by decide +kernel) (by decide +kernel), s_last (by decide +kernel), s_iconst (n := 0) (by decide +kernel) (by decide +kernel), s_istore_n (k := 2) (i := 2) (by decide +kernel) rfl (by decide), s_iload_n (k := 2) (i := 2) (by decide +kernel) rfl, s_aload_n (k := 0) (i := 0) (by decide +kernel) rfl, s_getI (by decide +kernel) fl_RX10_117 rfl, s_bad, s_bad, s_icmp_ge (off := 91) (by decide +kernel) (by decide), s_bad, s_bad, s_aload_n (k := 0) (i := 0) (by decide +kernel) rfl, s_iload_n (k := 1) (i := 1) (by decide +kernel) rfl, s_callV1 (by decide +kernel) lv_RX10_82 ⟨by decide, by decide⟩, s_bad, s_bad, s_if_le (off := 83) (by decide +kernel) (by decide), s_bad, s_bad, s_aload_n (k := 0) (i := 0) (by decide +kernel) rfl, s_aload_n (k := 0) (i := 0) (by decide +kernel) rfl, s_getR (by decide +kernel) fl_RX10_32 rfl, s_bad, s_bad, s_iload_n (k := 2) (i := 2) (by decide +kernel) rfl, s_iald (by decide +kernel), s_iload_n (k := 1) (i := 1) (by decide +kernel) rfl, s_callV2 (by decide +kernel) lv_RX10_86 ⟨by decide, by decide⟩, s_bad, s_bad, s_istore_n (k := 3) (i := 3) (by decide +kernel) rfl (by decide), s_aload_n (k := 0) (i := 0) (by decide +kernel) rfl, s_getR (by decide +kernel) fl_RX10_38 rfl, s_bad, s_bad, s_iconst (n := 2) (by decide +kernel) (by decide +kernel), s_iload_n (k := 1) (i := 1) (by decide +kernel) rfl, s_imul (by decide +kernel), s_iload_n (k := 2) (i := 2) (by decide +kernel) rfl, s_bipush (n := 64) (by decide +kernel) (by decide +kernel), s_bad, s_idiv (by decide +kernel), s_iadd (by decide +kernel), s_dup2 (by decide +kernel), s_lald (by decide +kernel), s_iload_n (k := 3) (i := 3) (by decide +kernel) rfl, s_iconst (n := 2) (by decide +kernel) (by decide +kernel), s_icmp_ne (off := 12) (by decide +kernel) (by decide), s_bad, s_bad, s_lconst (n := 1) (by decide +kernel) (by decide +kernel), s_iload_n (k := 2) (i := 2) (by decide +kernel) rfl, s_bipush (n := 64) (by decide +kernel) (by decide +kernel), s_bad, s_irem (by decide +kernel), s_lshl (by decide +kernel), s_goto (off := 4) (by decide +kernel) (by decide), s_bad, s_bad, s_lconst (n := 0) (by decide +kernel) (by decide +kernel), s_lor (by decide +kernel), s_last (by decide +kernel), s_aload_n (k := 0) (i := 0) (by decide +kernel) rfl, s_getR (by decide +kernel) fl_RX10_42 rfl, s_bad, s_bad, s_iconst (n := 2) (by decide +kernel) (by decide +kernel), s_iload_n (k := 1) (i := 1) (by decide +kernel) rfl, s_imul (by decide +kernel), s_iload_n (k := 2) (i := 2) (by decide +kernel) rfl, s_bipush (n := 64) (by decide +kernel) (by decide +kernel), s_bad, s_idiv (by decide +kernel), s_iadd (by decide +kernel), s_dup2 (by decide +kernel), s_lald (by decide +kernel), s_iload_n (k := 3) (i := 3) (by decide +kernel) rfl, s_iconst (n := 1) (by decide +kernel) (by decide +kernel), s_icmp_ne (off := 12) (by decide +kernel) (by decide), s_bad, s_bad, s_lconst (n := 1) (by decide +kernel) (by decide +kernel), s_iload_n (k := 2) (i := 2) (by decide +kernel) rfl, s_bipush (n := 64) (by decide +kernel) (by decide +kernel), s_bad, s_irem (by decide +kernel), s_lshl (by decide +kernel), s_goto (off := 4) (by decide +kernel) (by decide), s_bad, s_bad, s_lconst (n := 0) (by decide +kernel) (by decide +kernel), s_lor (by decide +kernel), s_last (by decide +kernel), s_iinc (n := 1) (by decide +kernel) (by decide +kernel) (by decide), s_bad, s_bad, s_goto (off := (-93)) (by decide +kernel) (by decide), s_bad, s_bad, s_iinc (n := 1) (by decide +kernel) (by decide +kernel) (by decide), s_bad, s_bad, s_goto (off := (-147)) (by decide +kernel) (by decide), s_bad, s_bad, s_vret (by decide +kernel) rfl, trivial⟩
theorem kX10_findsFlows_0 : List.getD tX10_findsFlows 0 x_bad = x_push (.int (nI 0)) 1 := rfl
theorem kX10_findsFlows_1 : List.getD tX10_findsFlows 1 x_bad = x_istore 1 1 := rfl
theorem kX10_findsFlows_2 : List.getD tX10_findsFlows 2 x_bad = x_iload 1 1 := rfl
theorem kX10_findsFlows_3 : List.getD tX10_findsFlows 3 x_bad = x_push (.int (nI 8)) 2 := rfl
theorem kX10_findsFlows_5 : List.getD tX10_findsFlows 5 x_bad = x_icmp (fun a b => b ≤ a) 152 := rfl
theorem kX10_findsFlows_8 : List.getD tX10_findsFlows 8 x_bad = x_aload 0 1 := rfl
theorem kX10_findsFlows_9 : List.getD tX10_findsFlows 9 x_bad = x_getR 10 14 := rfl
theorem kX10_findsFlows_12 : List.getD tX10_findsFlows 12 x_bad = x_push (.int (nI 2)) 1 := rfl
theorem kX10_findsFlows_13 : List.getD tX10_findsFlows 13 x_bad = x_iload 1 1 := rfl
theorem kX10_findsFlows_14 : List.getD tX10_findsFlows 14 x_bad = x_ii (fun a b => a * b) := rfl
theorem kX10_findsFlows_15 : List.getD tX10_findsFlows 15 x_bad = x_push (.long 0) 1 := rfl
theorem kX10_findsFlows_16 : List.getD tX10_findsFlows 16 x_bad = x_last := rfl
theorem kX10_findsFlows_17 : List.getD tX10_findsFlows 17 x_bad = x_aload 0 1 := rfl
theorem kX10_findsFlows_18 : List.getD tX10_findsFlows 18 x_bad = x_getR 10 14 := rfl
theorem kX10_findsFlows_21 : List.getD tX10_findsFlows 21 x_bad = x_push (.int (nI 2)) 1 := rfl
theorem kX10_findsFlows_22 : List.getD tX10_findsFlows 22 x_bad = x_iload 1 1 := rfl
theorem kX10_findsFlows_23 : List.getD tX10_findsFlows 23 x_bad = x_ii (fun a b => a * b) := rfl
theorem kX10_findsFlows_24 : List.getD tX10_findsFlows 24 x_bad = x_push (.int (nI 1)) 1 := rfl
theorem kX10_findsFlows_25 : List.getD tX10_findsFlows 25 x_bad = x_ii (fun a b => a + b) := rfl
theorem kX10_findsFlows_26 : List.getD tX10_findsFlows 26 x_bad = x_push (.long 0) 1 := rfl
theorem kX10_findsFlows_27 : List.getD tX10_findsFlows 27 x_bad = x_last := rfl
theorem kX10_findsFlows_28 : List.getD tX10_findsFlows 28 x_bad = x_aload 0 1 := rfl
theorem kX10_findsFlows_29 : List.getD tX10_findsFlows 29 x_bad = x_getR 10 15 := rfl
theorem kX10_findsFlows_32 : List.getD tX10_findsFlows 32 x_bad = x_push (.int (nI 2)) 1 := rfl
theorem kX10_findsFlows_33 : List.getD tX10_findsFlows 33 x_bad = x_iload 1 1 := rfl
theorem kX10_findsFlows_34 : List.getD tX10_findsFlows 34 x_bad = x_ii (fun a b => a * b) := rfl
theorem kX10_findsFlows_35 : List.getD tX10_findsFlows 35 x_bad = x_push (.long 0) 1 := rfl
theorem kX10_findsFlows_36 : List.getD tX10_findsFlows 36 x_bad = x_last := rfl
theorem kX10_findsFlows_37 : List.getD tX10_findsFlows 37 x_bad = x_aload 0 1 := rfl
theorem kX10_findsFlows_38 : List.getD tX10_findsFlows 38 x_bad = x_getR 10 15 := rfl
theorem kX10_findsFlows_41 : List.getD tX10_findsFlows 41 x_bad = x_push (.int (nI 2)) 1 := rfl
theorem kX10_findsFlows_42 : List.getD tX10_findsFlows 42 x_bad = x_iload 1 1 := rfl
theorem kX10_findsFlows_43 : List.getD tX10_findsFlows 43 x_bad = x_ii (fun a b => a * b) := rfl
theorem kX10_findsFlows_44 : List.getD tX10_findsFlows 44 x_bad = x_push (.int (nI 1)) 1 := rfl
theorem kX10_findsFlows_45 : List.getD tX10_findsFlows 45 x_bad = x_ii (fun a b => a + b) := rfl
theorem kX10_findsFlows_46 : List.getD tX10_findsFlows 46 x_bad = x_push (.long 0) 1 := rfl
theorem kX10_findsFlows_47 : List.getD tX10_findsFlows 47 x_bad = x_last := rfl
theorem kX10_findsFlows_48 : List.getD tX10_findsFlows 48 x_bad = x_push (.int (nI 0)) 1 := rfl
theorem kX10_findsFlows_49 : List.getD tX10_findsFlows 49 x_bad = x_istore 2 1 := rfl
theorem kX10_findsFlows_50 : List.getD tX10_findsFlows 50 x_bad = x_iload 2 1 := rfl
theorem kX10_findsFlows_51 : List.getD tX10_findsFlows 51 x_bad = x_aload 0 1 := rfl
theorem kX10_findsFlows_52 : List.getD tX10_findsFlows 52 x_bad = x_getI 10 12 := rfl
theorem kX10_findsFlows_55 : List.getD tX10_findsFlows 55 x_bad = x_icmp (fun a b => b ≤ a) 146 := rfl
theorem kX10_findsFlows_58 : List.getD tX10_findsFlows 58 x_bad = x_aload 0 1 := rfl
theorem kX10_findsFlows_59 : List.getD tX10_findsFlows 59 x_bad = x_iload 1 1 := rfl
theorem kX10_findsFlows_60 : List.getD tX10_findsFlows 60 x_bad = x_callV1 10 mX10_arcsOf := rfl
theorem kX10_findsFlows_63 : List.getD tX10_findsFlows 63 x_bad = x_if (fun a => a ≤ 0) 146 := rfl
theorem kX10_findsFlows_66 : List.getD tX10_findsFlows 66 x_bad = x_aload 0 1 := rfl
theorem kX10_findsFlows_67 : List.getD tX10_findsFlows 67 x_bad = x_aload 0 1 := rfl
theorem kX10_findsFlows_68 : List.getD tX10_findsFlows 68 x_bad = x_getR 10 11 := rfl
theorem kX10_findsFlows_71 : List.getD tX10_findsFlows 71 x_bad = x_iload 2 1 := rfl
theorem kX10_findsFlows_72 : List.getD tX10_findsFlows 72 x_bad = x_iald := rfl
theorem kX10_findsFlows_73 : List.getD tX10_findsFlows 73 x_bad = x_iload 1 1 := rfl
theorem kX10_findsFlows_74 : List.getD tX10_findsFlows 74 x_bad = x_callV2 10 mX10_crossing := rfl
theorem kX10_findsFlows_77 : List.getD tX10_findsFlows 77 x_bad = x_istore 3 1 := rfl
theorem kX10_findsFlows_78 : List.getD tX10_findsFlows 78 x_bad = x_aload 0 1 := rfl
theorem kX10_findsFlows_79 : List.getD tX10_findsFlows 79 x_bad = x_getR 10 14 := rfl
theorem kX10_findsFlows_82 : List.getD tX10_findsFlows 82 x_bad = x_push (.int (nI 2)) 1 := rfl
theorem kX10_findsFlows_83 : List.getD tX10_findsFlows 83 x_bad = x_iload 1 1 := rfl
theorem kX10_findsFlows_84 : List.getD tX10_findsFlows 84 x_bad = x_ii (fun a b => a * b) := rfl
theorem kX10_findsFlows_85 : List.getD tX10_findsFlows 85 x_bad = x_iload 2 1 := rfl
theorem kX10_findsFlows_86 : List.getD tX10_findsFlows 86 x_bad = x_push (.int (nI 64)) 2 := rfl
theorem kX10_findsFlows_88 : List.getD tX10_findsFlows 88 x_bad = x_idiv := rfl
theorem kX10_findsFlows_89 : List.getD tX10_findsFlows 89 x_bad = x_ii (fun a b => a + b) := rfl
theorem kX10_findsFlows_90 : List.getD tX10_findsFlows 90 x_bad = x_dup2 := rfl
theorem kX10_findsFlows_91 : List.getD tX10_findsFlows 91 x_bad = x_lald := rfl
theorem kX10_findsFlows_92 : List.getD tX10_findsFlows 92 x_bad = x_iload 3 1 := rfl
theorem kX10_findsFlows_93 : List.getD tX10_findsFlows 93 x_bad = x_push (.int (nI 2)) 1 := rfl
theorem kX10_findsFlows_94 : List.getD tX10_findsFlows 94 x_bad = x_icmpn (fun a b => a = b) 106 := rfl
theorem kX10_findsFlows_97 : List.getD tX10_findsFlows 97 x_bad = x_push (.long 1) 1 := rfl
theorem kX10_findsFlows_98 : List.getD tX10_findsFlows 98 x_bad = x_iload 2 1 := rfl
theorem kX10_findsFlows_99 : List.getD tX10_findsFlows 99 x_bad = x_push (.int (nI 64)) 2 := rfl
theorem kX10_findsFlows_101 : List.getD tX10_findsFlows 101 x_bad = x_irem := rfl
theorem kX10_findsFlows_102 : List.getD tX10_findsFlows 102 x_bad = x_li (fun a b => a <<< (b.toInt64 &&& 63)) := rfl
theorem kX10_findsFlows_103 : List.getD tX10_findsFlows 103 x_bad = x_goto 107 := rfl
theorem kX10_findsFlows_106 : List.getD tX10_findsFlows 106 x_bad = x_push (.long 0) 1 := rfl
theorem kX10_findsFlows_107 : List.getD tX10_findsFlows 107 x_bad = x_ll (fun a b => a ||| b) := rfl
theorem kX10_findsFlows_108 : List.getD tX10_findsFlows 108 x_bad = x_last := rfl
theorem kX10_findsFlows_109 : List.getD tX10_findsFlows 109 x_bad = x_aload 0 1 := rfl
theorem kX10_findsFlows_110 : List.getD tX10_findsFlows 110 x_bad = x_getR 10 15 := rfl
theorem kX10_findsFlows_113 : List.getD tX10_findsFlows 113 x_bad = x_push (.int (nI 2)) 1 := rfl
theorem kX10_findsFlows_114 : List.getD tX10_findsFlows 114 x_bad = x_iload 1 1 := rfl
theorem kX10_findsFlows_115 : List.getD tX10_findsFlows 115 x_bad = x_ii (fun a b => a * b) := rfl
theorem kX10_findsFlows_116 : List.getD tX10_findsFlows 116 x_bad = x_iload 2 1 := rfl
theorem kX10_findsFlows_117 : List.getD tX10_findsFlows 117 x_bad = x_push (.int (nI 64)) 2 := rfl
theorem kX10_findsFlows_119 : List.getD tX10_findsFlows 119 x_bad = x_idiv := rfl
theorem kX10_findsFlows_120 : List.getD tX10_findsFlows 120 x_bad = x_ii (fun a b => a + b) := rfl
theorem kX10_findsFlows_121 : List.getD tX10_findsFlows 121 x_bad = x_dup2 := rfl
theorem kX10_findsFlows_122 : List.getD tX10_findsFlows 122 x_bad = x_lald := rfl
theorem kX10_findsFlows_123 : List.getD tX10_findsFlows 123 x_bad = x_iload 3 1 := rfl
theorem kX10_findsFlows_124 : List.getD tX10_findsFlows 124 x_bad = x_push (.int (nI 1)) 1 := rfl
theorem kX10_findsFlows_125 : List.getD tX10_findsFlows 125 x_bad = x_icmpn (fun a b => a = b) 137 := rfl
theorem kX10_findsFlows_128 : List.getD tX10_findsFlows 128 x_bad = x_push (.long 1) 1 := rfl
theorem kX10_findsFlows_129 : List.getD tX10_findsFlows 129 x_bad = x_iload 2 1 := rfl
theorem kX10_findsFlows_130 : List.getD tX10_findsFlows 130 x_bad = x_push (.int (nI 64)) 2 := rfl
theorem kX10_findsFlows_132 : List.getD tX10_findsFlows 132 x_bad = x_irem := rfl
theorem kX10_findsFlows_133 : List.getD tX10_findsFlows 133 x_bad = x_li (fun a b => a <<< (b.toInt64 &&& 63)) := rfl
theorem kX10_findsFlows_134 : List.getD tX10_findsFlows 134 x_bad = x_goto 138 := rfl
theorem kX10_findsFlows_137 : List.getD tX10_findsFlows 137 x_bad = x_push (.long 0) 1 := rfl
theorem kX10_findsFlows_138 : List.getD tX10_findsFlows 138 x_bad = x_ll (fun a b => a ||| b) := rfl
theorem kX10_findsFlows_139 : List.getD tX10_findsFlows 139 x_bad = x_last := rfl
theorem kX10_findsFlows_140 : List.getD tX10_findsFlows 140 x_bad = x_iinc 2 (nI 1) := rfl
theorem kX10_findsFlows_143 : List.getD tX10_findsFlows 143 x_bad = x_goto 50 := rfl
theorem kX10_findsFlows_146 : List.getD tX10_findsFlows 146 x_bad = x_iinc 1 (nI 1) := rfl
theorem kX10_findsFlows_149 : List.getD tX10_findsFlows 149 x_bad = x_goto 2 := rfl
theorem kX10_findsFlows_152 : List.getD tX10_findsFlows 152 x_bad = x_vret := rfl
def tX10_follows : List PT := [x_aload 0 1, x_getR 10 16, x_bad, x_bad, x_iload 1 1, x_lald, x_aload 0 1, x_getR 10 14, x_bad, x_bad, x_push (.int (nI 2)) 1, x_iload 2 1, x_ii (fun a b => a * b), x_lald, x_push (.long (-1)) 3, x_bad, x_bad, x_ll (fun a b => a ^^^ b), x_ll (fun a b => a &&& b), x_aload 0 1, x_getR 10 15, x_bad, x_bad, x_push (.int (nI 2)) 1, x_iload 2 1, x_ii (fun a b => a * b), x_lald, x_ll (fun a b => a ||| b), x_lstore 3 1, x_aload 0 1, x_getR 10 17, x_bad, x_bad, x_iload 1 1, x_lald, x_aload 0 1, x_getR 10 14, x_bad, x_bad, x_push (.int (nI 2)) 1, x_iload 2 1, x_ii (fun a b => a * b), x_push (.int (nI 1)) 1, x_ii (fun a b => a + b), x_lald, x_push (.long (-1)) 3, x_bad, x_bad, x_ll (fun a b => a ^^^ b), x_ll (fun a b => a &&& b), x_aload 0 1, x_getR 10 15, x_bad, x_bad, x_push (.int (nI 2)) 1, x_iload 2 1, x_ii (fun a b => a * b), x_push (.int (nI 1)) 1, x_ii (fun a b => a + b), x_lald, x_ll (fun a b => a ||| b), x_lstore 5 2, x_bad, x_aload 0 1, x_lload 3 1, x_lload 5 2, x_bad, x_callV2 10 mX10_markingAt, x_bad, x_bad, x_istore 7 2, x_bad, x_iload 7 2, x_bad, x_aload 0 1, x_getI 10 18, x_bad, x_bad, x_icmpn (fun a b => a = b) 117, x_bad, x_bad, x_aload 0 1, x_getR 10 16, x_bad, x_bad, x_iload 7 2, x_bad, x_lload 3 1, x_last, x_aload 0 1, x_getR 10 17, x_bad, x_bad, x_iload 7 2, x_bad, x_lload 5 2, x_bad, x_last, x_aload 0 1, x_getR 10 22, x_bad, x_bad, x_iload 7 2, x_bad, x_push (.int (-9)) 2, x_bad, x_iast, x_aload 0 1, x_dup, x_getI 10 18, x_bad, x_bad, x_push (.int (nI 1)) 1, x_ii (fun a b => a + b), x_putI 10 18, x_bad, x_bad, x_aload 0 1, x_getR 10 22, x_bad, x_bad, x_iload 1 1, x_iald, x_push (.int (-9)) 2, x_bad, x_icmpn (fun a b => a = b) 133, x_bad, x_bad, x_push (.int (-9)) 2, x_bad, x_goto 144, x_bad, x_bad, x_aload 0 1, x_aload 0 1, x_getR 10 22, x_bad, x_bad, x_iload 1 1, x_iald, x_iload 2 1, x_callV2 10 mX10_leads, x_bad, x_bad, x_istore 8 2, x_bad, x_iload 8 2, x_bad, x_push (.int (-9)) 2, x_bad, x_icmpn (fun a b => a = b) 161, x_bad, x_bad, x_aload 0 1, x_push (.int (nI 0)) 1, x_putZ 10 21, x_bad, x_bad, x_goto 246, x_bad, x_bad, x_aload 0 1, x_getR 10 22, x_bad, x_bad, x_iload 7 2, x_bad, x_iald, x_push (.int (-9)) 2, x_bad, x_icmpn (fun a b => a = b) 206, x_bad, x_bad, x_aload 0 1, x_getR 10 23, x_bad, x_bad, x_iload 8 2, x_bad, x_iald, x_push (.int (-9)) 2, x_bad, x_icmpn (fun a b => a = b) 206, x_bad, x_bad, x_aload 0 1, x_getR 10 22, x_bad, x_bad, x_iload 7 2, x_bad, x_iload 8 2, x_bad, x_iast, x_aload 0 1, x_getR 10 23, x_bad, x_bad, x_iload 8 2, x_bad, x_iload 7 2, x_bad, x_iast, x_goto 246, x_bad, x_bad, x_aload 0 1, x_aload 0 1, x_getI 10 21, x_bad, x_bad, x_if (fun a => a = 0) 242, x_bad, x_bad, x_aload 0 1, x_getR 10 22, x_bad, x_bad, x_iload 7 2, x_bad, x_iald, x_iload 8 2, x_bad, x_icmpn (fun a b => a = b) 242, x_bad, x_bad, x_aload 0 1, x_getR 10 23, x_bad, x_bad, x_iload 8 2, x_bad, x_iald, x_iload 7 2, x_bad, x_icmpn (fun a b => a = b) 242, x_bad, x_bad, x_push (.int (nI 1)) 1, x_goto 243, x_bad, x_bad, x_push (.int (nI 0)) 1, x_putZ 10 21, x_bad, x_bad, x_vret]
set_option maxRecDepth 20000 in
theorem okX10_follows : SndT RX10 cX10_follows mX10_follows.2.2.1 mX10_follows.2.2.2.2.1 mX10_follows.2.2.2.2.2 false mX10_follows.2.2.2.1 0 tX10_follows := ⟨s_aload_n (k := 0) (i := 0) (by decide +kernel) rfl, s_getR (by decide +kernel) fl_RX10_45 rfl, s_bad, s_bad, s_iload_n (k := 1) (i := 1) (by decide +kernel) rfl, s_lald (by decide +kernel), s_aload_n (k := 0) (i := 0) (by decide +kernel) rfl, s_getR (by decide +kernel) fl_RX10_38 rfl, s_bad, s_bad, s_iconst (n := 2) (by decide +kernel) (by decide +kernel), s_iload_n (k := 2) (i := 2) (by decide +kernel) rfl, s_imul (by decide +kernel), s_lald (by decide +kernel), s_ldc2 (by decide +kernel) tb_934, s_bad, s_bad, s_lxor (by decide +kernel), s_land (by decide +kernel), s_aload_n (k := 0) (i := 0) (by decide +kernel) rfl, s_getR (by decide +kernel) fl_RX10_42 rfl, s_bad, s_bad, s_iconst (n := 2) (by decide +kernel) (by decide +kernel), s_iload_n (k := 2) (i := 2) (by decide +kernel) rfl, s_imul (by decide +kernel), s_lald (by decide +kernel), s_lor (by decide +kernel), s_lstore_n (k := 3) (i := 3) (by decide +kernel) rfl (by decide), s_aload_n (k := 0) (i := 0) (by decide +kernel) rfl, s_getR (by decide +kernel) fl_RX10_48 rfl, s_bad, s_bad, s_iload_n (k := 1) (i := 1) (by decide +kernel) rfl, s_lald (by decide +kernel), s_aload_n (k := 0) (i := 0) (by decide +kernel) rfl, s_getR (by decide +kernel) fl_RX10_38 rfl, s_bad, s_bad, s_iconst (n := 2) (by decide +kernel) (by decide +kernel), s_iload_n (k := 2) (i := 2) (by decide +kernel) rfl, s_imul (by decide +kernel), s_iconst (n := 1) (by decide +kernel) (by decide +kernel), s_iadd (by decide +kernel), s_lald (by decide +kernel), s_ldc2 (by decide +kernel) tb_934, s_bad, s_bad, s_lxor (by decide +kernel), s_land (by decide +kernel), s_aload_n (k := 0) (i := 0) (by decide +kernel) rfl, s_getR (by decide +kernel) fl_RX10_42 rfl, s_bad, s_bad, s_iconst (n := 2) (by decide +kernel) (by decide +kernel), s_iload_n (k := 2) (i := 2) (by decide +kernel) rfl, s_imul (by decide +kernel), s_iconst (n := 1) (by decide +kernel) (by decide +kernel), s_iadd (by decide +kernel), s_lald (by decide +kernel), s_lor (by decide +kernel), s_lstore (by decide +kernel) (by decide), s_bad, s_aload_n (k := 0) (i := 0) (by decide +kernel) rfl, s_lload_n (k := 3) (i := 3) (by decide +kernel) rfl, s_lload (by decide +kernel), s_bad, s_callV2 (by decide +kernel) lv_RX10_134 ⟨by decide, by decide⟩, s_bad, s_bad, s_istore (by decide +kernel) (by decide), s_bad, s_iload (by decide +kernel), s_bad, s_aload_n (k := 0) (i := 0) (by decide +kernel) rfl, s_getI (by decide +kernel) fl_RX10_131 rfl, s_bad, s_bad, s_icmp_ne (off := 39) (by decide +kernel) (by decide), s_bad, s_bad, s_aload_n (k := 0) (i := 0) (by decide +kernel) rfl, s_getR (by decide +kernel) fl_RX10_45 rfl, s_bad, s_bad, s_iload (by decide +kernel), s_bad, s_lload_n (k := 3) (i := 3) (by decide +kernel) rfl, s_last (by decide +kernel), s_aload_n (k := 0) (i := 0) (by decide +kernel) rfl, s_getR (by decide +kernel) fl_RX10_48 rfl, s_bad, s_bad, s_iload (by decide +kernel), s_bad, s_lload (by decide +kernel), s_bad, s_last (by decide +kernel), s_aload_n (k := 0) (i := 0) (by decide +kernel) rfl, s_getR (by decide +kernel) fl_RX10_51 rfl, s_bad, s_bad, s_iload (by decide +kernel), s_bad, s_bipush (n := (-9)) (by decide +kernel) (by decide +kernel), s_bad, s_iast (by decide +kernel), s_aload_n (k := 0) (i := 0) (by decide +kernel) rfl, s_dup (by decide +kernel), s_getI (by decide +kernel) fl_RX10_131 rfl, s_bad, s_bad, s_iconst (n := 1) (by decide +kernel) (by decide +kernel), s_iadd (by decide +kernel), s_putI (by decide +kernel) fl_RX10_131 fp_10_18 rfl, s_bad, s_bad, s_aload_n (k := 0) (i := 0) (by decide +kernel) rfl, s_getR (by decide +kernel) fl_RX10_51 rfl, s_bad, s_bad, s_iload_n (k := 1) (i := 1) (by decide +kernel) rfl, s_iald (by decide +kernel), s_bipush (n := (-9)) (by decide +kernel) (by decide +kernel), s_bad, s_icmp_ne (off := 8) (by decide +kernel) (by decide), s_bad, s_bad, s_bipush (n := (-9)) (by decide +kernel) (by decide +kernel), s_bad, s_goto (off := 14) (by decide +kernel) (by decide), s_bad, s_bad, s_aload_n (k := 0) (i := 0) (by decide +kernel) rfl, s_aload_n (k := 0) (i := 0) (by decide +kernel) rfl, s_getR (by decide +kernel) fl_RX10_51 rfl, s_bad, s_bad, s_iload_n (k := 1) (i := 1) (by decide +kernel) rfl, s_iald (by decide +kernel), s_iload_n (k := 2) (i := 2) (by decide +kernel) rfl, s_callV2 (by decide +kernel) lv_RX10_114 ⟨by decide, by decide⟩, s_bad, s_bad, s_istore (by decide +kernel) (by decide), s_bad, s_iload (by decide +kernel), s_bad, s_bipush (n := (-9)) (by decide +kernel) (by decide +kernel), s_bad, s_icmp_ne (off := 11) (by decide +kernel) (by decide), s_bad, s_bad, s_aload_n (k := 0) (i := 0) (by decide +kernel) rfl, s_iconst (n := 0) (by decide +kernel) (by decide +kernel), s_putZ (by decide +kernel) fl_RX10_138 fp_10_21 rfl, s_bad, s_bad, s_goto (off := 88) (by decide +kernel) (by decide), s_bad, s_bad, s_aload_n (k := 0) (i := 0) (by decide +kernel) rfl, s_getR (by decide +kernel) fl_RX10_51 rfl, s_bad, s_bad, s_iload (by decide +kernel), s_bad, s_iald (by decide +kernel), s_bipush (n := (-9)) (by decide +kernel) (by decide +kernel), s_bad, s_icmp_ne (off := 36) (by decide +kernel) (by decide), s_bad, s_bad, s_aload_n (k := 0) (i := 0) (by decide +kernel) rfl, s_getR (by decide +kernel) fl_RX10_54 rfl, s_bad, s_bad, s_iload (by decide +kernel), s_bad, s_iald (by decide +kernel), s_bipush (n := (-9)) (by decide +kernel) (by decide +kernel), s_bad, s_icmp_ne (off := 24) (by decide +kernel) (by decide), s_bad, s_bad, s_aload_n (k := 0) (i := 0) (by decide +kernel) rfl, s_getR (by decide +kernel) fl_RX10_51 rfl, s_bad, s_bad, s_iload (by decide +kernel), s_bad, s_iload (by decide +kernel), s_bad, s_iast (by decide +kernel), s_aload_n (k := 0) (i := 0) (by decide +kernel) rfl, s_getR (by decide +kernel) fl_RX10_54 rfl, s_bad, s_bad, s_iload (by decide +kernel), s_bad, s_iload (by decide +kernel), s_bad, s_iast (by decide +kernel), s_goto (off := 43) (by decide +kernel) (by decide), s_bad, s_bad, s_aload_n (k := 0) (i := 0) (by decide +kernel) rfl, s_aload_n (k := 0) (i := 0) (by decide +kernel) rfl, s_getI (by decide +kernel) fl_RX10_138 rfl, s_bad, s_bad, s_if_eq (off := 31) (by decide +kernel) (by decide), s_bad, s_bad, s_aload_n (k := 0) (i := 0) (by decide +kernel) rfl, s_getR (by decide +kernel) fl_RX10_51 rfl, s_bad, s_bad, s_iload (by decide +kernel), s_bad, s_iald (by decide +kernel), s_iload (by decide +kernel), s_bad, s_icmp_ne (off := 19) (by decide +kernel) (by decide), s_bad, s_bad, s_aload_n (k := 0) (i := 0) (by decide +kernel) rfl, s_getR (by decide +kernel) fl_RX10_54 rfl, s_bad, s_bad, s_iload (by decide +kernel), s_bad, s_iald (by decide +kernel), s_iload (by decide +kernel), s_bad, s_icmp_ne (off := 7) (by decide +kernel) (by decide), s_bad, s_bad, s_iconst (n := 1) (by decide +kernel) (by decide +kernel), s_goto (off := 4) (by decide +kernel) (by decide), s_bad, s_bad, s_iconst (n := 0) (by decide +kernel) (by decide +kernel), s_putZ (by decide +kernel) fl_RX10_138 fp_10_21 rfl, s_bad, s_bad, s_vret (by decide +kernel) rfl, trivial⟩
theorem kX10_follows_0 : List.getD tX10_follows 0 x_bad = x_aload 0 1 := rfl
theorem kX10_follows_1 : List.getD tX10_follows 1 x_bad = x_getR 10 16 := rfl
theorem kX10_follows_4 : List.getD tX10_follows 4 x_bad = x_iload 1 1 := rfl
theorem kX10_follows_5 : List.getD tX10_follows 5 x_bad = x_lald := rfl
theorem kX10_follows_6 : List.getD tX10_follows 6 x_bad = x_aload 0 1 := rfl
theorem kX10_follows_7 : List.getD tX10_follows 7 x_bad = x_getR 10 14 := rfl
theorem kX10_follows_10 : List.getD tX10_follows 10 x_bad = x_push (.int (nI 2)) 1 := rfl
theorem kX10_follows_11 : List.getD tX10_follows 11 x_bad = x_iload 2 1 := rfl
theorem kX10_follows_12 : List.getD tX10_follows 12 x_bad = x_ii (fun a b => a * b) := rfl
theorem kX10_follows_13 : List.getD tX10_follows 13 x_bad = x_lald := rfl
theorem kX10_follows_14 : List.getD tX10_follows 14 x_bad = x_push (.long (-1)) 3 := rfl
theorem kX10_follows_17 : List.getD tX10_follows 17 x_bad = x_ll (fun a b => a ^^^ b) := rfl
theorem kX10_follows_18 : List.getD tX10_follows 18 x_bad = x_ll (fun a b => a &&& b) := rfl
theorem kX10_follows_19 : List.getD tX10_follows 19 x_bad = x_aload 0 1 := rfl
theorem kX10_follows_20 : List.getD tX10_follows 20 x_bad = x_getR 10 15 := rfl
theorem kX10_follows_23 : List.getD tX10_follows 23 x_bad = x_push (.int (nI 2)) 1 := rfl
theorem kX10_follows_24 : List.getD tX10_follows 24 x_bad = x_iload 2 1 := rfl
theorem kX10_follows_25 : List.getD tX10_follows 25 x_bad = x_ii (fun a b => a * b) := rfl
theorem kX10_follows_26 : List.getD tX10_follows 26 x_bad = x_lald := rfl
theorem kX10_follows_27 : List.getD tX10_follows 27 x_bad = x_ll (fun a b => a ||| b) := rfl
theorem kX10_follows_28 : List.getD tX10_follows 28 x_bad = x_lstore 3 1 := rfl
theorem kX10_follows_29 : List.getD tX10_follows 29 x_bad = x_aload 0 1 := rfl
theorem kX10_follows_30 : List.getD tX10_follows 30 x_bad = x_getR 10 17 := rfl
theorem kX10_follows_33 : List.getD tX10_follows 33 x_bad = x_iload 1 1 := rfl
theorem kX10_follows_34 : List.getD tX10_follows 34 x_bad = x_lald := rfl
theorem kX10_follows_35 : List.getD tX10_follows 35 x_bad = x_aload 0 1 := rfl
theorem kX10_follows_36 : List.getD tX10_follows 36 x_bad = x_getR 10 14 := rfl
theorem kX10_follows_39 : List.getD tX10_follows 39 x_bad = x_push (.int (nI 2)) 1 := rfl
theorem kX10_follows_40 : List.getD tX10_follows 40 x_bad = x_iload 2 1 := rfl
theorem kX10_follows_41 : List.getD tX10_follows 41 x_bad = x_ii (fun a b => a * b) := rfl
theorem kX10_follows_42 : List.getD tX10_follows 42 x_bad = x_push (.int (nI 1)) 1 := rfl
theorem kX10_follows_43 : List.getD tX10_follows 43 x_bad = x_ii (fun a b => a + b) := rfl
theorem kX10_follows_44 : List.getD tX10_follows 44 x_bad = x_lald := rfl
theorem kX10_follows_45 : List.getD tX10_follows 45 x_bad = x_push (.long (-1)) 3 := rfl
theorem kX10_follows_48 : List.getD tX10_follows 48 x_bad = x_ll (fun a b => a ^^^ b) := rfl
theorem kX10_follows_49 : List.getD tX10_follows 49 x_bad = x_ll (fun a b => a &&& b) := rfl
theorem kX10_follows_50 : List.getD tX10_follows 50 x_bad = x_aload 0 1 := rfl
theorem kX10_follows_51 : List.getD tX10_follows 51 x_bad = x_getR 10 15 := rfl
theorem kX10_follows_54 : List.getD tX10_follows 54 x_bad = x_push (.int (nI 2)) 1 := rfl
theorem kX10_follows_55 : List.getD tX10_follows 55 x_bad = x_iload 2 1 := rfl
theorem kX10_follows_56 : List.getD tX10_follows 56 x_bad = x_ii (fun a b => a * b) := rfl
theorem kX10_follows_57 : List.getD tX10_follows 57 x_bad = x_push (.int (nI 1)) 1 := rfl
theorem kX10_follows_58 : List.getD tX10_follows 58 x_bad = x_ii (fun a b => a + b) := rfl
theorem kX10_follows_59 : List.getD tX10_follows 59 x_bad = x_lald := rfl
theorem kX10_follows_60 : List.getD tX10_follows 60 x_bad = x_ll (fun a b => a ||| b) := rfl
theorem kX10_follows_61 : List.getD tX10_follows 61 x_bad = x_lstore 5 2 := rfl
theorem kX10_follows_63 : List.getD tX10_follows 63 x_bad = x_aload 0 1 := rfl
theorem kX10_follows_64 : List.getD tX10_follows 64 x_bad = x_lload 3 1 := rfl
theorem kX10_follows_65 : List.getD tX10_follows 65 x_bad = x_lload 5 2 := rfl
theorem kX10_follows_67 : List.getD tX10_follows 67 x_bad = x_callV2 10 mX10_markingAt := rfl
theorem kX10_follows_70 : List.getD tX10_follows 70 x_bad = x_istore 7 2 := rfl
theorem kX10_follows_72 : List.getD tX10_follows 72 x_bad = x_iload 7 2 := rfl
theorem kX10_follows_74 : List.getD tX10_follows 74 x_bad = x_aload 0 1 := rfl
theorem kX10_follows_75 : List.getD tX10_follows 75 x_bad = x_getI 10 18 := rfl
theorem kX10_follows_78 : List.getD tX10_follows 78 x_bad = x_icmpn (fun a b => a = b) 117 := rfl
theorem kX10_follows_81 : List.getD tX10_follows 81 x_bad = x_aload 0 1 := rfl
theorem kX10_follows_82 : List.getD tX10_follows 82 x_bad = x_getR 10 16 := rfl
theorem kX10_follows_85 : List.getD tX10_follows 85 x_bad = x_iload 7 2 := rfl
theorem kX10_follows_87 : List.getD tX10_follows 87 x_bad = x_lload 3 1 := rfl
theorem kX10_follows_88 : List.getD tX10_follows 88 x_bad = x_last := rfl
theorem kX10_follows_89 : List.getD tX10_follows 89 x_bad = x_aload 0 1 := rfl
theorem kX10_follows_90 : List.getD tX10_follows 90 x_bad = x_getR 10 17 := rfl
theorem kX10_follows_93 : List.getD tX10_follows 93 x_bad = x_iload 7 2 := rfl
theorem kX10_follows_95 : List.getD tX10_follows 95 x_bad = x_lload 5 2 := rfl
theorem kX10_follows_97 : List.getD tX10_follows 97 x_bad = x_last := rfl
theorem kX10_follows_98 : List.getD tX10_follows 98 x_bad = x_aload 0 1 := rfl
theorem kX10_follows_99 : List.getD tX10_follows 99 x_bad = x_getR 10 22 := rfl
theorem kX10_follows_102 : List.getD tX10_follows 102 x_bad = x_iload 7 2 := rfl
theorem kX10_follows_104 : List.getD tX10_follows 104 x_bad = x_push (.int (-9)) 2 := rfl
theorem kX10_follows_106 : List.getD tX10_follows 106 x_bad = x_iast := rfl
theorem kX10_follows_107 : List.getD tX10_follows 107 x_bad = x_aload 0 1 := rfl
theorem kX10_follows_108 : List.getD tX10_follows 108 x_bad = x_dup := rfl
theorem kX10_follows_109 : List.getD tX10_follows 109 x_bad = x_getI 10 18 := rfl
theorem kX10_follows_112 : List.getD tX10_follows 112 x_bad = x_push (.int (nI 1)) 1 := rfl
theorem kX10_follows_113 : List.getD tX10_follows 113 x_bad = x_ii (fun a b => a + b) := rfl
theorem kX10_follows_114 : List.getD tX10_follows 114 x_bad = x_putI 10 18 := rfl
theorem kX10_follows_117 : List.getD tX10_follows 117 x_bad = x_aload 0 1 := rfl
theorem kX10_follows_118 : List.getD tX10_follows 118 x_bad = x_getR 10 22 := rfl
theorem kX10_follows_121 : List.getD tX10_follows 121 x_bad = x_iload 1 1 := rfl
theorem kX10_follows_122 : List.getD tX10_follows 122 x_bad = x_iald := rfl
theorem kX10_follows_123 : List.getD tX10_follows 123 x_bad = x_push (.int (-9)) 2 := rfl
theorem kX10_follows_125 : List.getD tX10_follows 125 x_bad = x_icmpn (fun a b => a = b) 133 := rfl
theorem kX10_follows_128 : List.getD tX10_follows 128 x_bad = x_push (.int (-9)) 2 := rfl
theorem kX10_follows_130 : List.getD tX10_follows 130 x_bad = x_goto 144 := rfl
theorem kX10_follows_133 : List.getD tX10_follows 133 x_bad = x_aload 0 1 := rfl
theorem kX10_follows_134 : List.getD tX10_follows 134 x_bad = x_aload 0 1 := rfl
theorem kX10_follows_135 : List.getD tX10_follows 135 x_bad = x_getR 10 22 := rfl
theorem kX10_follows_138 : List.getD tX10_follows 138 x_bad = x_iload 1 1 := rfl
theorem kX10_follows_139 : List.getD tX10_follows 139 x_bad = x_iald := rfl
theorem kX10_follows_140 : List.getD tX10_follows 140 x_bad = x_iload 2 1 := rfl
theorem kX10_follows_141 : List.getD tX10_follows 141 x_bad = x_callV2 10 mX10_leads := rfl
theorem kX10_follows_144 : List.getD tX10_follows 144 x_bad = x_istore 8 2 := rfl
theorem kX10_follows_146 : List.getD tX10_follows 146 x_bad = x_iload 8 2 := rfl
theorem kX10_follows_148 : List.getD tX10_follows 148 x_bad = x_push (.int (-9)) 2 := rfl
theorem kX10_follows_150 : List.getD tX10_follows 150 x_bad = x_icmpn (fun a b => a = b) 161 := rfl
theorem kX10_follows_153 : List.getD tX10_follows 153 x_bad = x_aload 0 1 := rfl
theorem kX10_follows_154 : List.getD tX10_follows 154 x_bad = x_push (.int (nI 0)) 1 := rfl
theorem kX10_follows_155 : List.getD tX10_follows 155 x_bad = x_putZ 10 21 := rfl
theorem kX10_follows_158 : List.getD tX10_follows 158 x_bad = x_goto 246 := rfl
theorem kX10_follows_161 : List.getD tX10_follows 161 x_bad = x_aload 0 1 := rfl
theorem kX10_follows_162 : List.getD tX10_follows 162 x_bad = x_getR 10 22 := rfl
theorem kX10_follows_165 : List.getD tX10_follows 165 x_bad = x_iload 7 2 := rfl
theorem kX10_follows_167 : List.getD tX10_follows 167 x_bad = x_iald := rfl
theorem kX10_follows_168 : List.getD tX10_follows 168 x_bad = x_push (.int (-9)) 2 := rfl
theorem kX10_follows_170 : List.getD tX10_follows 170 x_bad = x_icmpn (fun a b => a = b) 206 := rfl
theorem kX10_follows_173 : List.getD tX10_follows 173 x_bad = x_aload 0 1 := rfl
theorem kX10_follows_174 : List.getD tX10_follows 174 x_bad = x_getR 10 23 := rfl
theorem kX10_follows_177 : List.getD tX10_follows 177 x_bad = x_iload 8 2 := rfl
theorem kX10_follows_179 : List.getD tX10_follows 179 x_bad = x_iald := rfl
theorem kX10_follows_180 : List.getD tX10_follows 180 x_bad = x_push (.int (-9)) 2 := rfl
theorem kX10_follows_182 : List.getD tX10_follows 182 x_bad = x_icmpn (fun a b => a = b) 206 := rfl
theorem kX10_follows_185 : List.getD tX10_follows 185 x_bad = x_aload 0 1 := rfl
theorem kX10_follows_186 : List.getD tX10_follows 186 x_bad = x_getR 10 22 := rfl
theorem kX10_follows_189 : List.getD tX10_follows 189 x_bad = x_iload 7 2 := rfl
theorem kX10_follows_191 : List.getD tX10_follows 191 x_bad = x_iload 8 2 := rfl
theorem kX10_follows_193 : List.getD tX10_follows 193 x_bad = x_iast := rfl
theorem kX10_follows_194 : List.getD tX10_follows 194 x_bad = x_aload 0 1 := rfl
theorem kX10_follows_195 : List.getD tX10_follows 195 x_bad = x_getR 10 23 := rfl
theorem kX10_follows_198 : List.getD tX10_follows 198 x_bad = x_iload 8 2 := rfl
theorem kX10_follows_200 : List.getD tX10_follows 200 x_bad = x_iload 7 2 := rfl
theorem kX10_follows_202 : List.getD tX10_follows 202 x_bad = x_iast := rfl
theorem kX10_follows_203 : List.getD tX10_follows 203 x_bad = x_goto 246 := rfl
theorem kX10_follows_206 : List.getD tX10_follows 206 x_bad = x_aload 0 1 := rfl
theorem kX10_follows_207 : List.getD tX10_follows 207 x_bad = x_aload 0 1 := rfl
theorem kX10_follows_208 : List.getD tX10_follows 208 x_bad = x_getI 10 21 := rfl
theorem kX10_follows_211 : List.getD tX10_follows 211 x_bad = x_if (fun a => a = 0) 242 := rfl
theorem kX10_follows_214 : List.getD tX10_follows 214 x_bad = x_aload 0 1 := rfl
theorem kX10_follows_215 : List.getD tX10_follows 215 x_bad = x_getR 10 22 := rfl
theorem kX10_follows_218 : List.getD tX10_follows 218 x_bad = x_iload 7 2 := rfl
theorem kX10_follows_220 : List.getD tX10_follows 220 x_bad = x_iald := rfl
theorem kX10_follows_221 : List.getD tX10_follows 221 x_bad = x_iload 8 2 := rfl
theorem kX10_follows_223 : List.getD tX10_follows 223 x_bad = x_icmpn (fun a b => a = b) 242 := rfl
theorem kX10_follows_226 : List.getD tX10_follows 226 x_bad = x_aload 0 1 := rfl
theorem kX10_follows_227 : List.getD tX10_follows 227 x_bad = x_getR 10 23 := rfl
theorem kX10_follows_230 : List.getD tX10_follows 230 x_bad = x_iload 8 2 := rfl
theorem kX10_follows_232 : List.getD tX10_follows 232 x_bad = x_iald := rfl
theorem kX10_follows_233 : List.getD tX10_follows 233 x_bad = x_iload 7 2 := rfl
theorem kX10_follows_235 : List.getD tX10_follows 235 x_bad = x_icmpn (fun a b => a = b) 242 := rfl
theorem kX10_follows_238 : List.getD tX10_follows 238 x_bad = x_push (.int (nI 1)) 1 := rfl
theorem kX10_follows_239 : List.getD tX10_follows 239 x_bad = x_goto 243 := rfl
theorem kX10_follows_242 : List.getD tX10_follows 242 x_bad = x_push (.int (nI 0)) 1 := rfl
theorem kX10_follows_243 : List.getD tX10_follows 243 x_bad = x_putZ 10 21 := rfl
theorem kX10_follows_246 : List.getD tX10_follows 246 x_bad = x_vret := rfl
def tX10_isRegion : List PT := [x_push (.int (nI 1)) 1, x_istore 2 1, x_push (.int (nI 0)) 1, x_istore 3 1, x_iload 3 1, x_push (.int (nI 8)) 2, x_bad, x_icmp (fun a b => b ≤ a) 36, x_bad, x_bad, x_iload 2 1, x_if (fun a => a = 0) 36, x_bad, x_bad, x_aload 0 1, x_iload 1 1, x_iload 3 1, x_callV2 10 mX10_crossing, x_bad, x_bad, x_push (.int (nI 3)) 1, x_icmp (fun a b => b ≤ a) 28, x_bad, x_bad, x_push (.int (nI 1)) 1, x_goto 29, x_bad, x_bad, x_push (.int (nI 0)) 1, x_istore 2 1, x_iinc 3 (nI 1), x_bad, x_bad, x_goto 4, x_bad, x_bad, x_iload 2 1, x_zret]
set_option maxRecDepth 20000 in
theorem okX10_isRegion : SndT RX10 cX10_isRegion mX10_isRegion.2.2.1 mX10_isRegion.2.2.2.2.1 mX10_isRegion.2.2.2.2.2 false mX10_isRegion.2.2.2.1 0 tX10_isRegion := ⟨s_iconst (n := 1) (by decide +kernel) (by decide +kernel), s_istore_n (k := 2) (i := 2) (by decide +kernel) rfl (by decide), s_iconst (n := 0) (by decide +kernel) (by decide +kernel), s_istore_n (k := 3) (i := 3) (by decide +kernel) rfl (by decide), s_iload_n (k := 3) (i := 3) (by decide +kernel) rfl, s_bipush (n := 8) (by decide +kernel) (by decide +kernel), s_bad, s_icmp_ge (off := 29) (by decide +kernel) (by decide), s_bad, s_bad, s_iload_n (k := 2) (i := 2) (by decide +kernel) rfl, s_if_eq (off := 25) (by decide +kernel) (by decide), s_bad, s_bad, s_aload_n (k := 0) (i := 0) (by decide +kernel) rfl, s_iload_n (k := 1) (i := 1) (by decide +kernel) rfl, s_iload_n (k := 3) (i := 3) (by decide +kernel) rfl, s_callV2 (by decide +kernel) lv_RX10_86 ⟨by decide, by decide⟩, s_bad, s_bad, s_iconst (n := 3) (by decide +kernel) (by decide +kernel), s_icmp_ge (off := 7) (by decide +kernel) (by decide), s_bad, s_bad, s_iconst (n := 1) (by decide +kernel) (by decide +kernel), s_goto (off := 4) (by decide +kernel) (by decide), s_bad, s_bad, s_iconst (n := 0) (by decide +kernel) (by decide +kernel), s_istore_n (k := 2) (i := 2) (by decide +kernel) rfl (by decide), s_iinc (n := 1) (by decide +kernel) (by decide +kernel) (by decide), s_bad, s_bad, s_goto (off := (-29)) (by decide +kernel) (by decide), s_bad, s_bad, s_iload_n (k := 2) (i := 2) (by decide +kernel) rfl, s_zret (by decide +kernel) rfl, trivial⟩
theorem kX10_isRegion_0 : List.getD tX10_isRegion 0 x_bad = x_push (.int (nI 1)) 1 := rfl
theorem kX10_isRegion_1 : List.getD tX10_isRegion 1 x_bad = x_istore 2 1 := rfl
theorem kX10_isRegion_2 : List.getD tX10_isRegion 2 x_bad = x_push (.int (nI 0)) 1 := rfl
theorem kX10_isRegion_3 : List.getD tX10_isRegion 3 x_bad = x_istore 3 1 := rfl
theorem kX10_isRegion_4 : List.getD tX10_isRegion 4 x_bad = x_iload 3 1 := rfl
theorem kX10_isRegion_5 : List.getD tX10_isRegion 5 x_bad = x_push (.int (nI 8)) 2 := rfl
theorem kX10_isRegion_7 : List.getD tX10_isRegion 7 x_bad = x_icmp (fun a b => b ≤ a) 36 := rfl
theorem kX10_isRegion_10 : List.getD tX10_isRegion 10 x_bad = x_iload 2 1 := rfl
theorem kX10_isRegion_11 : List.getD tX10_isRegion 11 x_bad = x_if (fun a => a = 0) 36 := rfl
theorem kX10_isRegion_14 : List.getD tX10_isRegion 14 x_bad = x_aload 0 1 := rfl
theorem kX10_isRegion_15 : List.getD tX10_isRegion 15 x_bad = x_iload 1 1 := rfl
theorem kX10_isRegion_16 : List.getD tX10_isRegion 16 x_bad = x_iload 3 1 := rfl
theorem kX10_isRegion_17 : List.getD tX10_isRegion 17 x_bad = x_callV2 10 mX10_crossing := rfl
theorem kX10_isRegion_20 : List.getD tX10_isRegion 20 x_bad = x_push (.int (nI 3)) 1 := rfl
theorem kX10_isRegion_21 : List.getD tX10_isRegion 21 x_bad = x_icmp (fun a b => b ≤ a) 28 := rfl
theorem kX10_isRegion_24 : List.getD tX10_isRegion 24 x_bad = x_push (.int (nI 1)) 1 := rfl
theorem kX10_isRegion_25 : List.getD tX10_isRegion 25 x_bad = x_goto 29 := rfl
theorem kX10_isRegion_28 : List.getD tX10_isRegion 28 x_bad = x_push (.int (nI 0)) 1 := rfl
theorem kX10_isRegion_29 : List.getD tX10_isRegion 29 x_bad = x_istore 2 1 := rfl
theorem kX10_isRegion_30 : List.getD tX10_isRegion 30 x_bad = x_iinc 3 (nI 1) := rfl
theorem kX10_isRegion_33 : List.getD tX10_isRegion 33 x_bad = x_goto 4 := rfl
theorem kX10_isRegion_36 : List.getD tX10_isRegion 36 x_bad = x_iload 2 1 := rfl
theorem kX10_isRegion_37 : List.getD tX10_isRegion 37 x_bad = x_zret := rfl
def tX10_next : List PT := [x_aload 0 1, x_iload 1 1, x_callV1 10 mX10_isState, x_bad, x_bad, x_if (fun a => a = 0) 24, x_bad, x_bad, x_iload 2 1, x_callS1 mX10_isEvent, x_bad, x_bad, x_if (fun a => a = 0) 24, x_bad, x_bad, x_aload 0 1, x_iload 1 1, x_iload 2 1, x_callV2 10 mX10_leads, x_bad, x_bad, x_goto 25, x_bad, x_bad, x_push (.int (-1)) 1, x_iret]
set_option maxRecDepth 20000 in
theorem okX10_next : SndT RX10 cX10_next mX10_next.2.2.1 mX10_next.2.2.2.2.1 mX10_next.2.2.2.2.2 false mX10_next.2.2.2.1 0 tX10_next := ⟨s_aload_n (k := 0) (i := 0) (by decide +kernel) rfl, s_iload_n (k := 1) (i := 1) (by decide +kernel) rfl, s_callV1 (by decide +kernel) lv_RX10_201 ⟨by decide, by decide⟩, s_bad, s_bad, s_if_eq (off := 19) (by decide +kernel) (by decide), s_bad, s_bad, s_iload_n (k := 2) (i := 2) (by decide +kernel) rfl, s_callS1 (by decide +kernel) ls_RX10_204 ⟨by decide, by decide⟩, s_bad, s_bad, s_if_eq (off := 12) (by decide +kernel) (by decide), s_bad, s_bad, s_aload_n (k := 0) (i := 0) (by decide +kernel) rfl, s_iload_n (k := 1) (i := 1) (by decide +kernel) rfl, s_iload_n (k := 2) (i := 2) (by decide +kernel) rfl, s_callV2 (by decide +kernel) lv_RX10_114 ⟨by decide, by decide⟩, s_bad, s_bad, s_goto (off := 4) (by decide +kernel) (by decide), s_bad, s_bad, s_iconst (n := (-1)) (by decide +kernel) (by decide +kernel), s_iret (by decide +kernel) rfl, trivial⟩
theorem kX10_next_0 : List.getD tX10_next 0 x_bad = x_aload 0 1 := rfl
theorem kX10_next_1 : List.getD tX10_next 1 x_bad = x_iload 1 1 := rfl
theorem kX10_next_2 : List.getD tX10_next 2 x_bad = x_callV1 10 mX10_isState := rfl
theorem kX10_next_5 : List.getD tX10_next 5 x_bad = x_if (fun a => a = 0) 24 := rfl
theorem kX10_next_8 : List.getD tX10_next 8 x_bad = x_iload 2 1 := rfl
theorem kX10_next_9 : List.getD tX10_next 9 x_bad = x_callS1 mX10_isEvent := rfl
theorem kX10_next_12 : List.getD tX10_next 12 x_bad = x_if (fun a => a = 0) 24 := rfl
theorem kX10_next_15 : List.getD tX10_next 15 x_bad = x_aload 0 1 := rfl
theorem kX10_next_16 : List.getD tX10_next 16 x_bad = x_iload 1 1 := rfl
theorem kX10_next_17 : List.getD tX10_next 17 x_bad = x_iload 2 1 := rfl
theorem kX10_next_18 : List.getD tX10_next 18 x_bad = x_callV2 10 mX10_leads := rfl
theorem kX10_next_21 : List.getD tX10_next 21 x_bad = x_goto 25 := rfl
theorem kX10_next_24 : List.getD tX10_next 24 x_bad = x_push (.int (-1)) 1 := rfl
theorem kX10_next_25 : List.getD tX10_next 25 x_bad = x_iret := rfl
def tX10_preventer : List PT := [x_aload 0 1, x_iload 1 1, x_callV1 10 mX10_isState, x_bad, x_bad, x_if (fun a => a = 0) 15, x_bad, x_bad, x_iload 2 1, x_callS1 mX10_isEvent, x_bad, x_bad, x_ifn (fun a => a = 0) 17, x_bad, x_bad, x_push (.int (-1)) 1, x_iret, x_aload 0 1, x_iload 2 1, x_callV1 10 mX10_arcsOf, x_bad, x_bad, x_if (fun a => a = 0) 36, x_bad, x_bad, x_aload 0 1, x_iload 1 1, x_iload 2 1, x_callV2 10 mX10_leads, x_bad, x_bad, x_push (.int (-9)) 2, x_bad, x_icmp (fun a b => a = b) 39, x_bad, x_bad, x_push (.int (-2)) 2, x_bad, x_iret, x_push (.int (nI 0)) 1, x_istore 3 1, x_iload 3 1, x_aload 0 1, x_getI 10 5, x_bad, x_bad, x_icmp (fun a b => b ≤ a) 90, x_bad, x_bad, x_aload 0 1, x_getR 10 4, x_bad, x_bad, x_iload 3 1, x_iald, x_iload 1 1, x_ii (fun a b => a >>> (b &&& 31)), x_push (.int (nI 1)) 1, x_ii (fun a b => a &&& b), x_ifn (fun a => a = 0) 84, x_bad, x_bad, x_aload 0 1, x_aload 0 1, x_getR 10 4, x_bad, x_bad, x_iload 3 1, x_iald, x_iload 2 1, x_callV2 10 mX10_crossing, x_bad, x_bad, x_push (.int (nI 2)) 1, x_icmpn (fun a b => a = b) 84, x_bad, x_bad, x_aload 0 1, x_getR 10 4, x_bad, x_bad, x_iload 3 1, x_iald, x_iret, x_iinc 3 (nI 1), x_bad, x_bad, x_goto 41, x_bad, x_bad, x_push (.int (-9)) 2, x_bad, x_iret]
set_option maxRecDepth 20000 in
theorem okX10_preventer : SndT RX10 cX10_preventer mX10_preventer.2.2.1 mX10_preventer.2.2.2.2.1 mX10_preventer.2.2.2.2.2 false mX10_preventer.2.2.2.1 0 tX10_preventer := ⟨s_aload_n (k := 0) (i := 0) (by decide +kernel) rfl, s_iload_n (k := 1) (i := 1) (by decide +kernel) rfl, s_callV1 (by decide +kernel) lv_RX10_201 ⟨by decide, by decide⟩, s_bad, s_bad, s_if_eq (off := 10) (by decide +kernel) (by decide), s_bad, s_bad, s_iload_n (k := 2) (i := 2) (by decide +kernel) rfl, s_callS1 (by decide +kernel) ls_RX10_204 ⟨by decide, by decide⟩, s_bad, s_bad, s_if_ne (off := 5) (by decide +kernel) (by decide), s_bad, s_bad, s_iconst (n := (-1)) (by decide +kernel) (by decide +kernel), s_iret (by decide +kernel) rfl, s_aload_n (k := 0) (i := 0) (by decide +kernel) rfl, s_iload_n (k := 2) (i := 2) (by decide +kernel) rfl, s_callV1 (by decide +kernel) lv_RX10_82 ⟨by decide, by decide⟩, s_bad, s_bad, s_if_eq (off := 14) (by decide +kernel) (by decide), s_bad, s_bad, s_aload_n (k := 0) (i := 0) (by decide +kernel) rfl, s_iload_n (k := 1) (i := 1) (by decide +kernel) rfl, s_iload_n (k := 2) (i := 2) (by decide +kernel) rfl, s_callV2 (by decide +kernel) lv_RX10_114 ⟨by decide, by decide⟩, s_bad, s_bad, s_bipush (n := (-9)) (by decide +kernel) (by decide +kernel), s_bad, s_icmp_eq (off := 6) (by decide +kernel) (by decide), s_bad, s_bad, s_bipush (n := (-2)) (by decide +kernel) (by decide +kernel), s_bad, s_iret (by decide +kernel) rfl, s_iconst (n := 0) (by decide +kernel) (by decide +kernel), s_istore_n (k := 3) (i := 3) (by decide +kernel) rfl (by decide), s_iload_n (k := 3) (i := 3) (by decide +kernel) rfl, s_aload_n (k := 0) (i := 0) (by decide +kernel) rfl, s_getI (by decide +kernel) fl_RX10_92 rfl, s_bad, s_bad, s_icmp_ge (off := 44) (by decide +kernel) (by decide), s_bad, s_bad, s_aload_n (k := 0) (i := 0) (by decide +kernel) rfl, s_getR (by decide +kernel) fl_RX10_16 rfl, s_bad, s_bad, s_iload_n (k := 3) (i := 3) (by decide +kernel) rfl, s_iald (by decide +kernel), s_iload_n (k := 1) (i := 1) (by decide +kernel) rfl, s_ishr (by decide +kernel), s_iconst (n := 1) (by decide +kernel) (by decide +kernel), s_iand (by decide +kernel), s_if_ne (off := 25) (by decide +kernel) (by decide), s_bad, s_bad, s_aload_n (k := 0) (i := 0) (by decide +kernel) rfl, s_aload_n (k := 0) (i := 0) (by decide +kernel) rfl, s_getR (by decide +kernel) fl_RX10_16 rfl, s_bad, s_bad, s_iload_n (k := 3) (i := 3) (by decide +kernel) rfl, s_iald (by decide +kernel), s_iload_n (k := 2) (i := 2) (by decide +kernel) rfl, s_callV2 (by decide +kernel) lv_RX10_86 ⟨by decide, by decide⟩, s_bad, s_bad, s_iconst (n := 2) (by decide +kernel) (by decide +kernel), s_icmp_ne (off := 10) (by decide +kernel) (by decide), s_bad, s_bad, s_aload_n (k := 0) (i := 0) (by decide +kernel) rfl, s_getR (by decide +kernel) fl_RX10_16 rfl, s_bad, s_bad, s_iload_n (k := 3) (i := 3) (by decide +kernel) rfl, s_iald (by decide +kernel), s_iret (by decide +kernel) rfl, s_iinc (n := 1) (by decide +kernel) (by decide +kernel) (by decide), s_bad, s_bad, s_goto (off := (-46)) (by decide +kernel) (by decide), s_bad, s_bad, s_bipush (n := (-9)) (by decide +kernel) (by decide +kernel), s_bad, s_iret (by decide +kernel) rfl, trivial⟩
theorem kX10_preventer_0 : List.getD tX10_preventer 0 x_bad = x_aload 0 1 := rfl
theorem kX10_preventer_1 : List.getD tX10_preventer 1 x_bad = x_iload 1 1 := rfl
theorem kX10_preventer_2 : List.getD tX10_preventer 2 x_bad = x_callV1 10 mX10_isState := rfl
theorem kX10_preventer_5 : List.getD tX10_preventer 5 x_bad = x_if (fun a => a = 0) 15 := rfl
theorem kX10_preventer_8 : List.getD tX10_preventer 8 x_bad = x_iload 2 1 := rfl
theorem kX10_preventer_9 : List.getD tX10_preventer 9 x_bad = x_callS1 mX10_isEvent := rfl
theorem kX10_preventer_12 : List.getD tX10_preventer 12 x_bad = x_ifn (fun a => a = 0) 17 := rfl
theorem kX10_preventer_15 : List.getD tX10_preventer 15 x_bad = x_push (.int (-1)) 1 := rfl
theorem kX10_preventer_16 : List.getD tX10_preventer 16 x_bad = x_iret := rfl
theorem kX10_preventer_17 : List.getD tX10_preventer 17 x_bad = x_aload 0 1 := rfl
theorem kX10_preventer_18 : List.getD tX10_preventer 18 x_bad = x_iload 2 1 := rfl
theorem kX10_preventer_19 : List.getD tX10_preventer 19 x_bad = x_callV1 10 mX10_arcsOf := rfl
theorem kX10_preventer_22 : List.getD tX10_preventer 22 x_bad = x_if (fun a => a = 0) 36 := rfl
theorem kX10_preventer_25 : List.getD tX10_preventer 25 x_bad = x_aload 0 1 := rfl
theorem kX10_preventer_26 : List.getD tX10_preventer 26 x_bad = x_iload 1 1 := rfl
theorem kX10_preventer_27 : List.getD tX10_preventer 27 x_bad = x_iload 2 1 := rfl
theorem kX10_preventer_28 : List.getD tX10_preventer 28 x_bad = x_callV2 10 mX10_leads := rfl
theorem kX10_preventer_31 : List.getD tX10_preventer 31 x_bad = x_push (.int (-9)) 2 := rfl
theorem kX10_preventer_33 : List.getD tX10_preventer 33 x_bad = x_icmp (fun a b => a = b) 39 := rfl
theorem kX10_preventer_36 : List.getD tX10_preventer 36 x_bad = x_push (.int (-2)) 2 := rfl
theorem kX10_preventer_38 : List.getD tX10_preventer 38 x_bad = x_iret := rfl
theorem kX10_preventer_39 : List.getD tX10_preventer 39 x_bad = x_push (.int (nI 0)) 1 := rfl
theorem kX10_preventer_40 : List.getD tX10_preventer 40 x_bad = x_istore 3 1 := rfl
theorem kX10_preventer_41 : List.getD tX10_preventer 41 x_bad = x_iload 3 1 := rfl
theorem kX10_preventer_42 : List.getD tX10_preventer 42 x_bad = x_aload 0 1 := rfl
theorem kX10_preventer_43 : List.getD tX10_preventer 43 x_bad = x_getI 10 5 := rfl
theorem kX10_preventer_46 : List.getD tX10_preventer 46 x_bad = x_icmp (fun a b => b ≤ a) 90 := rfl
theorem kX10_preventer_49 : List.getD tX10_preventer 49 x_bad = x_aload 0 1 := rfl
theorem kX10_preventer_50 : List.getD tX10_preventer 50 x_bad = x_getR 10 4 := rfl
theorem kX10_preventer_53 : List.getD tX10_preventer 53 x_bad = x_iload 3 1 := rfl
theorem kX10_preventer_54 : List.getD tX10_preventer 54 x_bad = x_iald := rfl
theorem kX10_preventer_55 : List.getD tX10_preventer 55 x_bad = x_iload 1 1 := rfl
theorem kX10_preventer_56 : List.getD tX10_preventer 56 x_bad = x_ii (fun a b => a >>> (b &&& 31)) := rfl
theorem kX10_preventer_57 : List.getD tX10_preventer 57 x_bad = x_push (.int (nI 1)) 1 := rfl
theorem kX10_preventer_58 : List.getD tX10_preventer 58 x_bad = x_ii (fun a b => a &&& b) := rfl
theorem kX10_preventer_59 : List.getD tX10_preventer 59 x_bad = x_ifn (fun a => a = 0) 84 := rfl
theorem kX10_preventer_62 : List.getD tX10_preventer 62 x_bad = x_aload 0 1 := rfl
theorem kX10_preventer_63 : List.getD tX10_preventer 63 x_bad = x_aload 0 1 := rfl
theorem kX10_preventer_64 : List.getD tX10_preventer 64 x_bad = x_getR 10 4 := rfl
theorem kX10_preventer_67 : List.getD tX10_preventer 67 x_bad = x_iload 3 1 := rfl
theorem kX10_preventer_68 : List.getD tX10_preventer 68 x_bad = x_iald := rfl
theorem kX10_preventer_69 : List.getD tX10_preventer 69 x_bad = x_iload 2 1 := rfl
theorem kX10_preventer_70 : List.getD tX10_preventer 70 x_bad = x_callV2 10 mX10_crossing := rfl
theorem kX10_preventer_73 : List.getD tX10_preventer 73 x_bad = x_push (.int (nI 2)) 1 := rfl
theorem kX10_preventer_74 : List.getD tX10_preventer 74 x_bad = x_icmpn (fun a b => a = b) 84 := rfl
theorem kX10_preventer_77 : List.getD tX10_preventer 77 x_bad = x_aload 0 1 := rfl
theorem kX10_preventer_78 : List.getD tX10_preventer 78 x_bad = x_getR 10 4 := rfl
theorem kX10_preventer_81 : List.getD tX10_preventer 81 x_bad = x_iload 3 1 := rfl
theorem kX10_preventer_82 : List.getD tX10_preventer 82 x_bad = x_iald := rfl
theorem kX10_preventer_83 : List.getD tX10_preventer 83 x_bad = x_iret := rfl
theorem kX10_preventer_84 : List.getD tX10_preventer 84 x_bad = x_iinc 3 (nI 1) := rfl
theorem kX10_preventer_87 : List.getD tX10_preventer 87 x_bad = x_goto 41 := rfl
theorem kX10_preventer_90 : List.getD tX10_preventer 90 x_bad = x_push (.int (-9)) 2 := rfl
theorem kX10_preventer_92 : List.getD tX10_preventer 92 x_bad = x_iret := rfl
def tX10_readsItem : List PT := [x_aload 0 1, x_iload 1 1, x_push (.int (nI 48)) 2, x_bad, x_push (.int (nI 57)) 2, x_bad, x_callV3 10 mX10_isAt, x_bad, x_bad, x_ifn (fun a => a = 0) 21, x_bad, x_bad, x_aload 0 1, x_push (.int (nI 1)) 1, x_iload 1 1, x_callV2 10 mX10_fails, x_bad, x_bad, x_goto 189, x_bad, x_bad, x_aload 0 1, x_iload 1 1, x_push (.int (nI 1)) 1, x_ii (fun a b => a + b), x_push (.int (nI 97)) 2, x_bad, x_push (.int (nI 104)) 2, x_bad, x_callV3 10 mX10_isAt, x_bad, x_bad, x_ifn (fun a => a = 0) 46, x_bad, x_bad, x_aload 0 1, x_push (.int (nI 1)) 1, x_iload 1 1, x_push (.int (nI 1)) 1, x_ii (fun a b => a + b), x_callV2 10 mX10_fails, x_bad, x_bad, x_goto 189, x_bad, x_bad, x_aload 0 1, x_iload 1 1, x_push (.int (nI 2)) 1, x_ii (fun a b => a + b), x_push (.int (nI 48)) 2, x_bad, x_push (.int (nI 57)) 2, x_bad, x_callV3 10 mX10_isAt, x_bad, x_bad, x_ifn (fun a => a = 0) 71, x_bad, x_bad, x_aload 0 1, x_push (.int (nI 1)) 1, x_iload 1 1, x_push (.int (nI 2)) 1, x_ii (fun a b => a + b), x_callV2 10 mX10_fails, x_bad, x_bad, x_goto 189, x_bad, x_bad, x_aload 0 1, x_aload 0 1, x_getR 10 24, x_bad, x_bad, x_iload 1 1, x_iald, x_push (.int (nI 48)) 2, x_bad, x_ii (fun a b => a - b), x_aload 0 1, x_getR 10 24, x_bad, x_bad, x_iload 1 1, x_push (.int (nI 1)) 1, x_ii (fun a b => a + b), x_iald, x_push (.int (nI 97)) 2, x_bad, x_ii (fun a b => a - b), x_callV2 10 mX10_leads, x_bad, x_bad, x_push (.int (-9)) 2, x_bad, x_icmpn (fun a b => a = b) 111, x_bad, x_bad, x_aload 0 1, x_getR 10 0, x_bad, x_bad, x_push (.int (nI 1)) 1, x_iald, x_push (.int (nI 24)) 2, x_bad, x_icmpn (fun a b => a = b) 120, x_bad, x_bad, x_aload 0 1, x_push (.int (nI 2)) 1, x_iload 1 1, x_callV2 10 mX10_fails, x_bad, x_bad, x_goto 189, x_bad, x_bad, x_iload 1 1, x_push (.int (nI 3)) 1, x_ii (fun a b => a + b), x_aload 0 1, x_getI 10 25, x_bad, x_bad, x_icmp (fun a b => b ≤ a) 154, x_bad, x_bad, x_aload 0 1, x_getR 10 24, x_bad, x_bad, x_iload 1 1, x_push (.int (nI 3)) 1, x_ii (fun a b => a + b), x_iald, x_push (.int (nI 32)) 2, x_bad, x_icmp (fun a b => a = b) 154, x_bad, x_bad, x_aload 0 1, x_push (.int (nI 1)) 1, x_iload 1 1, x_push (.int (nI 3)) 1, x_ii (fun a b => a + b), x_callV2 10 mX10_fails, x_bad, x_bad, x_goto 189, x_bad, x_bad, x_aload 0 1, x_aload 0 1, x_getR 10 24, x_bad, x_bad, x_iload 1 1, x_iald, x_push (.int (nI 48)) 2, x_bad, x_ii (fun a b => a - b), x_aload 0 1, x_getR 10 24, x_bad, x_bad, x_iload 1 1, x_push (.int (nI 1)) 1, x_ii (fun a b => a + b), x_iald, x_push (.int (nI 97)) 2, x_bad, x_ii (fun a b => a - b), x_aload 0 1, x_getR 10 24, x_bad, x_bad, x_iload 1 1, x_push (.int (nI 2)) 1, x_ii (fun a b => a + b), x_iald, x_push (.int (nI 48)) 2, x_bad, x_ii (fun a b => a - b), x_callV3 10 mX10_puts, x_bad, x_bad, x_vret]
set_option maxRecDepth 20000 in
theorem okX10_readsItem : SndT RX10 cX10_readsItem mX10_readsItem.2.2.1 mX10_readsItem.2.2.2.2.1 mX10_readsItem.2.2.2.2.2 false mX10_readsItem.2.2.2.1 0 tX10_readsItem := ⟨s_aload_n (k := 0) (i := 0) (by decide +kernel) rfl, s_iload_n (k := 1) (i := 1) (by decide +kernel) rfl, s_bipush (n := 48) (by decide +kernel) (by decide +kernel), s_bad, s_bipush (n := 57) (by decide +kernel) (by decide +kernel), s_bad, s_callV3 (by decide +kernel) lv_RX10_182 ⟨by decide, by decide⟩, s_bad, s_bad, s_if_ne (off := 12) (by decide +kernel) (by decide), s_bad, s_bad, s_aload_n (k := 0) (i := 0) (by decide +kernel) rfl, s_iconst (n := 1) (by decide +kernel) (by decide +kernel), s_iload_n (k := 1) (i := 1) (by decide +kernel) rfl, s_callV2 (by decide +kernel) lv_RX10_185 ⟨by decide, by decide⟩, s_bad, s_bad, s_goto (off := 171) (by decide +kernel) (by decide), s_bad, s_bad, s_aload_n (k := 0) (i := 0) (by decide +kernel) rfl, s_iload_n (k := 1) (i := 1) (by decide +kernel) rfl, s_iconst (n := 1) (by decide +kernel) (by decide +kernel), s_iadd (by decide +kernel), s_bipush (n := 97) (by decide +kernel) (by decide +kernel), s_bad, s_bipush (n := 104) (by decide +kernel) (by decide +kernel), s_bad, s_callV3 (by decide +kernel) lv_RX10_182 ⟨by decide, by decide⟩, s_bad, s_bad, s_if_ne (off := 14) (by decide +kernel) (by decide), s_bad, s_bad, s_aload_n (k := 0) (i := 0) (by decide +kernel) rfl, s_iconst (n := 1) (by decide +kernel) (by decide +kernel), s_iload_n (k := 1) (i := 1) (by decide +kernel) rfl, s_iconst (n := 1) (by decide +kernel) (by decide +kernel), s_iadd (by decide +kernel), s_callV2 (by decide +kernel) lv_RX10_185 ⟨by decide, by decide⟩, s_bad, s_bad, s_goto (off := 146) (by decide +kernel) (by decide), s_bad, s_bad, s_aload_n (k := 0) (i := 0) (by decide +kernel) rfl, s_iload_n (k := 1) (i := 1) (by decide +kernel) rfl, s_iconst (n := 2) (by decide +kernel) (by decide +kernel), s_iadd (by decide +kernel), s_bipush (n := 48) (by decide +kernel) (by decide +kernel), s_bad, s_bipush (n := 57) (by decide +kernel) (by decide +kernel), s_bad, s_callV3 (by decide +kernel) lv_RX10_182 ⟨by decide, by decide⟩, s_bad, s_bad, s_if_ne (off := 14) (by decide +kernel) (by decide), s_bad, s_bad, s_aload_n (k := 0) (i := 0) (by decide +kernel) rfl, s_iconst (n := 1) (by decide +kernel) (by decide +kernel), s_iload_n (k := 1) (i := 1) (by decide +kernel) rfl, s_iconst (n := 2) (by decide +kernel) (by decide +kernel), s_iadd (by decide +kernel), s_callV2 (by decide +kernel) lv_RX10_185 ⟨by decide, by decide⟩, s_bad, s_bad, s_goto (off := 121) (by decide +kernel) (by decide), s_bad, s_bad, s_aload_n (k := 0) (i := 0) (by decide +kernel) rfl, s_aload_n (k := 0) (i := 0) (by decide +kernel) rfl, s_getR (by decide +kernel) fl_RX10_57 rfl, s_bad, s_bad, s_iload_n (k := 1) (i := 1) (by decide +kernel) rfl, s_iald (by decide +kernel), s_bipush (n := 48) (by decide +kernel) (by decide +kernel), s_bad, s_isub (by decide +kernel), s_aload_n (k := 0) (i := 0) (by decide +kernel) rfl, s_getR (by decide +kernel) fl_RX10_57 rfl, s_bad, s_bad, s_iload_n (k := 1) (i := 1) (by decide +kernel) rfl, s_iconst (n := 1) (by decide +kernel) (by decide +kernel), s_iadd (by decide +kernel), s_iald (by decide +kernel), s_bipush (n := 97) (by decide +kernel) (by decide +kernel), s_bad, s_isub (by decide +kernel), s_callV2 (by decide +kernel) lv_RX10_114 ⟨by decide, by decide⟩, s_bad, s_bad, s_bipush (n := (-9)) (by decide +kernel) (by decide +kernel), s_bad, s_icmp_ne (off := 14) (by decide +kernel) (by decide), s_bad, s_bad, s_aload_n (k := 0) (i := 0) (by decide +kernel) rfl, s_getR (by decide +kernel) fl_RX10_7 rfl, s_bad, s_bad, s_iconst (n := 1) (by decide +kernel) (by decide +kernel), s_iald (by decide +kernel), s_bipush (n := 24) (by decide +kernel) (by decide +kernel), s_bad, s_icmp_ne (off := 12) (by decide +kernel) (by decide), s_bad, s_bad, s_aload_n (k := 0) (i := 0) (by decide +kernel) rfl, s_iconst (n := 2) (by decide +kernel) (by decide +kernel), s_iload_n (k := 1) (i := 1) (by decide +kernel) rfl, s_callV2 (by decide +kernel) lv_RX10_185 ⟨by decide, by decide⟩, s_bad, s_bad, s_goto (off := 72) (by decide +kernel) (by decide), s_bad, s_bad, s_iload_n (k := 1) (i := 1) (by decide +kernel) rfl, s_iconst (n := 3) (by decide +kernel) (by decide +kernel), s_iadd (by decide +kernel), s_aload_n (k := 0) (i := 0) (by decide +kernel) rfl, s_getI (by decide +kernel) fl_RX10_173 rfl, s_bad, s_bad, s_icmp_ge (off := 27) (by decide +kernel) (by decide), s_bad, s_bad, s_aload_n (k := 0) (i := 0) (by decide +kernel) rfl, s_getR (by decide +kernel) fl_RX10_57 rfl, s_bad, s_bad, s_iload_n (k := 1) (i := 1) (by decide +kernel) rfl, s_iconst (n := 3) (by decide +kernel) (by decide +kernel), s_iadd (by decide +kernel), s_iald (by decide +kernel), s_bipush (n := 32) (by decide +kernel) (by decide +kernel), s_bad, s_icmp_eq (off := 14) (by decide +kernel) (by decide), s_bad, s_bad, s_aload_n (k := 0) (i := 0) (by decide +kernel) rfl, s_iconst (n := 1) (by decide +kernel) (by decide +kernel), s_iload_n (k := 1) (i := 1) (by decide +kernel) rfl, s_iconst (n := 3) (by decide +kernel) (by decide +kernel), s_iadd (by decide +kernel), s_callV2 (by decide +kernel) lv_RX10_185 ⟨by decide, by decide⟩, s_bad, s_bad, s_goto (off := 38) (by decide +kernel) (by decide), s_bad, s_bad, s_aload_n (k := 0) (i := 0) (by decide +kernel) rfl, s_aload_n (k := 0) (i := 0) (by decide +kernel) rfl, s_getR (by decide +kernel) fl_RX10_57 rfl, s_bad, s_bad, s_iload_n (k := 1) (i := 1) (by decide +kernel) rfl, s_iald (by decide +kernel), s_bipush (n := 48) (by decide +kernel) (by decide +kernel), s_bad, s_isub (by decide +kernel), s_aload_n (k := 0) (i := 0) (by decide +kernel) rfl, s_getR (by decide +kernel) fl_RX10_57 rfl, s_bad, s_bad, s_iload_n (k := 1) (i := 1) (by decide +kernel) rfl, s_iconst (n := 1) (by decide +kernel) (by decide +kernel), s_iadd (by decide +kernel), s_iald (by decide +kernel), s_bipush (n := 97) (by decide +kernel) (by decide +kernel), s_bad, s_isub (by decide +kernel), s_aload_n (k := 0) (i := 0) (by decide +kernel) rfl, s_getR (by decide +kernel) fl_RX10_57 rfl, s_bad, s_bad, s_iload_n (k := 1) (i := 1) (by decide +kernel) rfl, s_iconst (n := 2) (by decide +kernel) (by decide +kernel), s_iadd (by decide +kernel), s_iald (by decide +kernel), s_bipush (n := 48) (by decide +kernel) (by decide +kernel), s_bad, s_isub (by decide +kernel), s_callV3 (by decide +kernel) lv_RX10_188 ⟨by decide, by decide⟩, s_bad, s_bad, s_vret (by decide +kernel) rfl, trivial⟩
theorem kX10_readsItem_0 : List.getD tX10_readsItem 0 x_bad = x_aload 0 1 := rfl
theorem kX10_readsItem_1 : List.getD tX10_readsItem 1 x_bad = x_iload 1 1 := rfl
theorem kX10_readsItem_2 : List.getD tX10_readsItem 2 x_bad = x_push (.int (nI 48)) 2 := rfl
theorem kX10_readsItem_4 : List.getD tX10_readsItem 4 x_bad = x_push (.int (nI 57)) 2 := rfl
theorem kX10_readsItem_6 : List.getD tX10_readsItem 6 x_bad = x_callV3 10 mX10_isAt := rfl
theorem kX10_readsItem_9 : List.getD tX10_readsItem 9 x_bad = x_ifn (fun a => a = 0) 21 := rfl
theorem kX10_readsItem_12 : List.getD tX10_readsItem 12 x_bad = x_aload 0 1 := rfl
theorem kX10_readsItem_13 : List.getD tX10_readsItem 13 x_bad = x_push (.int (nI 1)) 1 := rfl
theorem kX10_readsItem_14 : List.getD tX10_readsItem 14 x_bad = x_iload 1 1 := rfl
theorem kX10_readsItem_15 : List.getD tX10_readsItem 15 x_bad = x_callV2 10 mX10_fails := rfl
theorem kX10_readsItem_18 : List.getD tX10_readsItem 18 x_bad = x_goto 189 := rfl
theorem kX10_readsItem_21 : List.getD tX10_readsItem 21 x_bad = x_aload 0 1 := rfl
theorem kX10_readsItem_22 : List.getD tX10_readsItem 22 x_bad = x_iload 1 1 := rfl
theorem kX10_readsItem_23 : List.getD tX10_readsItem 23 x_bad = x_push (.int (nI 1)) 1 := rfl
theorem kX10_readsItem_24 : List.getD tX10_readsItem 24 x_bad = x_ii (fun a b => a + b) := rfl
theorem kX10_readsItem_25 : List.getD tX10_readsItem 25 x_bad = x_push (.int (nI 97)) 2 := rfl
theorem kX10_readsItem_27 : List.getD tX10_readsItem 27 x_bad = x_push (.int (nI 104)) 2 := rfl
theorem kX10_readsItem_29 : List.getD tX10_readsItem 29 x_bad = x_callV3 10 mX10_isAt := rfl
theorem kX10_readsItem_32 : List.getD tX10_readsItem 32 x_bad = x_ifn (fun a => a = 0) 46 := rfl
theorem kX10_readsItem_35 : List.getD tX10_readsItem 35 x_bad = x_aload 0 1 := rfl
theorem kX10_readsItem_36 : List.getD tX10_readsItem 36 x_bad = x_push (.int (nI 1)) 1 := rfl
theorem kX10_readsItem_37 : List.getD tX10_readsItem 37 x_bad = x_iload 1 1 := rfl
theorem kX10_readsItem_38 : List.getD tX10_readsItem 38 x_bad = x_push (.int (nI 1)) 1 := rfl
theorem kX10_readsItem_39 : List.getD tX10_readsItem 39 x_bad = x_ii (fun a b => a + b) := rfl
theorem kX10_readsItem_40 : List.getD tX10_readsItem 40 x_bad = x_callV2 10 mX10_fails := rfl
theorem kX10_readsItem_43 : List.getD tX10_readsItem 43 x_bad = x_goto 189 := rfl
theorem kX10_readsItem_46 : List.getD tX10_readsItem 46 x_bad = x_aload 0 1 := rfl
theorem kX10_readsItem_47 : List.getD tX10_readsItem 47 x_bad = x_iload 1 1 := rfl
theorem kX10_readsItem_48 : List.getD tX10_readsItem 48 x_bad = x_push (.int (nI 2)) 1 := rfl
theorem kX10_readsItem_49 : List.getD tX10_readsItem 49 x_bad = x_ii (fun a b => a + b) := rfl
theorem kX10_readsItem_50 : List.getD tX10_readsItem 50 x_bad = x_push (.int (nI 48)) 2 := rfl
theorem kX10_readsItem_52 : List.getD tX10_readsItem 52 x_bad = x_push (.int (nI 57)) 2 := rfl
theorem kX10_readsItem_54 : List.getD tX10_readsItem 54 x_bad = x_callV3 10 mX10_isAt := rfl
theorem kX10_readsItem_57 : List.getD tX10_readsItem 57 x_bad = x_ifn (fun a => a = 0) 71 := rfl
theorem kX10_readsItem_60 : List.getD tX10_readsItem 60 x_bad = x_aload 0 1 := rfl
theorem kX10_readsItem_61 : List.getD tX10_readsItem 61 x_bad = x_push (.int (nI 1)) 1 := rfl
theorem kX10_readsItem_62 : List.getD tX10_readsItem 62 x_bad = x_iload 1 1 := rfl
theorem kX10_readsItem_63 : List.getD tX10_readsItem 63 x_bad = x_push (.int (nI 2)) 1 := rfl
theorem kX10_readsItem_64 : List.getD tX10_readsItem 64 x_bad = x_ii (fun a b => a + b) := rfl
theorem kX10_readsItem_65 : List.getD tX10_readsItem 65 x_bad = x_callV2 10 mX10_fails := rfl
theorem kX10_readsItem_68 : List.getD tX10_readsItem 68 x_bad = x_goto 189 := rfl
theorem kX10_readsItem_71 : List.getD tX10_readsItem 71 x_bad = x_aload 0 1 := rfl
theorem kX10_readsItem_72 : List.getD tX10_readsItem 72 x_bad = x_aload 0 1 := rfl
theorem kX10_readsItem_73 : List.getD tX10_readsItem 73 x_bad = x_getR 10 24 := rfl
theorem kX10_readsItem_76 : List.getD tX10_readsItem 76 x_bad = x_iload 1 1 := rfl
theorem kX10_readsItem_77 : List.getD tX10_readsItem 77 x_bad = x_iald := rfl
theorem kX10_readsItem_78 : List.getD tX10_readsItem 78 x_bad = x_push (.int (nI 48)) 2 := rfl
theorem kX10_readsItem_80 : List.getD tX10_readsItem 80 x_bad = x_ii (fun a b => a - b) := rfl
theorem kX10_readsItem_81 : List.getD tX10_readsItem 81 x_bad = x_aload 0 1 := rfl
theorem kX10_readsItem_82 : List.getD tX10_readsItem 82 x_bad = x_getR 10 24 := rfl
theorem kX10_readsItem_85 : List.getD tX10_readsItem 85 x_bad = x_iload 1 1 := rfl
theorem kX10_readsItem_86 : List.getD tX10_readsItem 86 x_bad = x_push (.int (nI 1)) 1 := rfl
theorem kX10_readsItem_87 : List.getD tX10_readsItem 87 x_bad = x_ii (fun a b => a + b) := rfl
theorem kX10_readsItem_88 : List.getD tX10_readsItem 88 x_bad = x_iald := rfl
theorem kX10_readsItem_89 : List.getD tX10_readsItem 89 x_bad = x_push (.int (nI 97)) 2 := rfl
theorem kX10_readsItem_91 : List.getD tX10_readsItem 91 x_bad = x_ii (fun a b => a - b) := rfl
theorem kX10_readsItem_92 : List.getD tX10_readsItem 92 x_bad = x_callV2 10 mX10_leads := rfl
theorem kX10_readsItem_95 : List.getD tX10_readsItem 95 x_bad = x_push (.int (-9)) 2 := rfl
theorem kX10_readsItem_97 : List.getD tX10_readsItem 97 x_bad = x_icmpn (fun a b => a = b) 111 := rfl
theorem kX10_readsItem_100 : List.getD tX10_readsItem 100 x_bad = x_aload 0 1 := rfl
theorem kX10_readsItem_101 : List.getD tX10_readsItem 101 x_bad = x_getR 10 0 := rfl
theorem kX10_readsItem_104 : List.getD tX10_readsItem 104 x_bad = x_push (.int (nI 1)) 1 := rfl
theorem kX10_readsItem_105 : List.getD tX10_readsItem 105 x_bad = x_iald := rfl
theorem kX10_readsItem_106 : List.getD tX10_readsItem 106 x_bad = x_push (.int (nI 24)) 2 := rfl
theorem kX10_readsItem_108 : List.getD tX10_readsItem 108 x_bad = x_icmpn (fun a b => a = b) 120 := rfl
theorem kX10_readsItem_111 : List.getD tX10_readsItem 111 x_bad = x_aload 0 1 := rfl
theorem kX10_readsItem_112 : List.getD tX10_readsItem 112 x_bad = x_push (.int (nI 2)) 1 := rfl
theorem kX10_readsItem_113 : List.getD tX10_readsItem 113 x_bad = x_iload 1 1 := rfl
theorem kX10_readsItem_114 : List.getD tX10_readsItem 114 x_bad = x_callV2 10 mX10_fails := rfl
theorem kX10_readsItem_117 : List.getD tX10_readsItem 117 x_bad = x_goto 189 := rfl
theorem kX10_readsItem_120 : List.getD tX10_readsItem 120 x_bad = x_iload 1 1 := rfl
theorem kX10_readsItem_121 : List.getD tX10_readsItem 121 x_bad = x_push (.int (nI 3)) 1 := rfl
theorem kX10_readsItem_122 : List.getD tX10_readsItem 122 x_bad = x_ii (fun a b => a + b) := rfl
theorem kX10_readsItem_123 : List.getD tX10_readsItem 123 x_bad = x_aload 0 1 := rfl
theorem kX10_readsItem_124 : List.getD tX10_readsItem 124 x_bad = x_getI 10 25 := rfl
theorem kX10_readsItem_127 : List.getD tX10_readsItem 127 x_bad = x_icmp (fun a b => b ≤ a) 154 := rfl
theorem kX10_readsItem_130 : List.getD tX10_readsItem 130 x_bad = x_aload 0 1 := rfl
theorem kX10_readsItem_131 : List.getD tX10_readsItem 131 x_bad = x_getR 10 24 := rfl
theorem kX10_readsItem_134 : List.getD tX10_readsItem 134 x_bad = x_iload 1 1 := rfl
theorem kX10_readsItem_135 : List.getD tX10_readsItem 135 x_bad = x_push (.int (nI 3)) 1 := rfl
theorem kX10_readsItem_136 : List.getD tX10_readsItem 136 x_bad = x_ii (fun a b => a + b) := rfl
theorem kX10_readsItem_137 : List.getD tX10_readsItem 137 x_bad = x_iald := rfl
theorem kX10_readsItem_138 : List.getD tX10_readsItem 138 x_bad = x_push (.int (nI 32)) 2 := rfl
theorem kX10_readsItem_140 : List.getD tX10_readsItem 140 x_bad = x_icmp (fun a b => a = b) 154 := rfl
theorem kX10_readsItem_143 : List.getD tX10_readsItem 143 x_bad = x_aload 0 1 := rfl
theorem kX10_readsItem_144 : List.getD tX10_readsItem 144 x_bad = x_push (.int (nI 1)) 1 := rfl
theorem kX10_readsItem_145 : List.getD tX10_readsItem 145 x_bad = x_iload 1 1 := rfl
theorem kX10_readsItem_146 : List.getD tX10_readsItem 146 x_bad = x_push (.int (nI 3)) 1 := rfl
theorem kX10_readsItem_147 : List.getD tX10_readsItem 147 x_bad = x_ii (fun a b => a + b) := rfl
theorem kX10_readsItem_148 : List.getD tX10_readsItem 148 x_bad = x_callV2 10 mX10_fails := rfl
theorem kX10_readsItem_151 : List.getD tX10_readsItem 151 x_bad = x_goto 189 := rfl
theorem kX10_readsItem_154 : List.getD tX10_readsItem 154 x_bad = x_aload 0 1 := rfl
theorem kX10_readsItem_155 : List.getD tX10_readsItem 155 x_bad = x_aload 0 1 := rfl
theorem kX10_readsItem_156 : List.getD tX10_readsItem 156 x_bad = x_getR 10 24 := rfl
theorem kX10_readsItem_159 : List.getD tX10_readsItem 159 x_bad = x_iload 1 1 := rfl
theorem kX10_readsItem_160 : List.getD tX10_readsItem 160 x_bad = x_iald := rfl
theorem kX10_readsItem_161 : List.getD tX10_readsItem 161 x_bad = x_push (.int (nI 48)) 2 := rfl
theorem kX10_readsItem_163 : List.getD tX10_readsItem 163 x_bad = x_ii (fun a b => a - b) := rfl
theorem kX10_readsItem_164 : List.getD tX10_readsItem 164 x_bad = x_aload 0 1 := rfl
theorem kX10_readsItem_165 : List.getD tX10_readsItem 165 x_bad = x_getR 10 24 := rfl
theorem kX10_readsItem_168 : List.getD tX10_readsItem 168 x_bad = x_iload 1 1 := rfl
theorem kX10_readsItem_169 : List.getD tX10_readsItem 169 x_bad = x_push (.int (nI 1)) 1 := rfl
theorem kX10_readsItem_170 : List.getD tX10_readsItem 170 x_bad = x_ii (fun a b => a + b) := rfl
theorem kX10_readsItem_171 : List.getD tX10_readsItem 171 x_bad = x_iald := rfl
theorem kX10_readsItem_172 : List.getD tX10_readsItem 172 x_bad = x_push (.int (nI 97)) 2 := rfl
theorem kX10_readsItem_174 : List.getD tX10_readsItem 174 x_bad = x_ii (fun a b => a - b) := rfl
theorem kX10_readsItem_175 : List.getD tX10_readsItem 175 x_bad = x_aload 0 1 := rfl
theorem kX10_readsItem_176 : List.getD tX10_readsItem 176 x_bad = x_getR 10 24 := rfl
theorem kX10_readsItem_179 : List.getD tX10_readsItem 179 x_bad = x_iload 1 1 := rfl
theorem kX10_readsItem_180 : List.getD tX10_readsItem 180 x_bad = x_push (.int (nI 2)) 1 := rfl
theorem kX10_readsItem_181 : List.getD tX10_readsItem 181 x_bad = x_ii (fun a b => a + b) := rfl
theorem kX10_readsItem_182 : List.getD tX10_readsItem 182 x_bad = x_iald := rfl
theorem kX10_readsItem_183 : List.getD tX10_readsItem 183 x_bad = x_push (.int (nI 48)) 2 := rfl
theorem kX10_readsItem_185 : List.getD tX10_readsItem 185 x_bad = x_ii (fun a b => a - b) := rfl
theorem kX10_readsItem_186 : List.getD tX10_readsItem 186 x_bad = x_callV3 10 mX10_puts := rfl
theorem kX10_readsItem_189 : List.getD tX10_readsItem 189 x_bad = x_vret := rfl
def tX10_restart : List PT := [x_aload 0 1, x_callV0 10 mX10_records, x_bad, x_bad, x_aload 0 1, x_getR 10 0, x_bad, x_bad, x_push (.int (nI 74)) 2, x_bad, x_iald, x_istore 1 1, x_aload 0 1, x_callV0 10 mX10_begins, x_bad, x_bad, x_iload 1 1, x_iret]
set_option maxRecDepth 20000 in
theorem okX10_restart : SndT RX10 cX10_restart mX10_restart.2.2.1 mX10_restart.2.2.2.2.1 mX10_restart.2.2.2.2.2 false mX10_restart.2.2.2.1 0 tX10_restart := ⟨s_aload_n (k := 0) (i := 0) (by decide +kernel) rfl, s_callV0 (by decide +kernel) lv_RX10_198 ⟨by decide, by decide⟩, s_bad, s_bad, s_aload_n (k := 0) (i := 0) (by decide +kernel) rfl, s_getR (by decide +kernel) fl_RX10_7 rfl, s_bad, s_bad, s_bipush (n := 74) (by decide +kernel) (by decide +kernel), s_bad, s_iald (by decide +kernel), s_istore_n (k := 1) (i := 1) (by decide +kernel) rfl (by decide), s_aload_n (k := 0) (i := 0) (by decide +kernel) rfl, s_callV0 (by decide +kernel) lv_RX10_170 ⟨by decide, by decide⟩, s_bad, s_bad, s_iload_n (k := 1) (i := 1) (by decide +kernel) rfl, s_iret (by decide +kernel) rfl, trivial⟩
theorem kX10_restart_0 : List.getD tX10_restart 0 x_bad = x_aload 0 1 := rfl
theorem kX10_restart_1 : List.getD tX10_restart 1 x_bad = x_callV0 10 mX10_records := rfl
theorem kX10_restart_4 : List.getD tX10_restart 4 x_bad = x_aload 0 1 := rfl
theorem kX10_restart_5 : List.getD tX10_restart 5 x_bad = x_getR 10 0 := rfl
theorem kX10_restart_8 : List.getD tX10_restart 8 x_bad = x_push (.int (nI 74)) 2 := rfl
theorem kX10_restart_10 : List.getD tX10_restart 10 x_bad = x_iald := rfl
theorem kX10_restart_11 : List.getD tX10_restart 11 x_bad = x_istore 1 1 := rfl
theorem kX10_restart_12 : List.getD tX10_restart 12 x_bad = x_aload 0 1 := rfl
theorem kX10_restart_13 : List.getD tX10_restart 13 x_bad = x_callV0 10 mX10_begins := rfl
theorem kX10_restart_16 : List.getD tX10_restart 16 x_bad = x_iload 1 1 := rfl
theorem kX10_restart_17 : List.getD tX10_restart 17 x_bad = x_iret := rfl
def tX10_solver : List PT := [x_aload 0 1, x_iload 1 1, x_callV1 10 mX10_isState, x_bad, x_bad, x_if (fun a => a = 0) 21, x_bad, x_bad, x_aload 0 1, x_iload 2 1, x_callV1 10 mX10_isState, x_bad, x_bad, x_if (fun a => a = 0) 21, x_bad, x_bad, x_iload 1 1, x_iload 2 1, x_icmpn (fun a b => a = b) 23, x_bad, x_bad, x_push (.int (-1)) 1, x_iret, x_push (.int (nI 0)) 1, x_istore 3 1, x_iload 3 1, x_aload 0 1, x_getI 10 5, x_bad, x_bad, x_icmp (fun a b => b ≤ a) 69, x_bad, x_bad, x_aload 0 1, x_getR 10 4, x_bad, x_bad, x_iload 3 1, x_iald, x_iload 1 1, x_ii (fun a b => a >>> (b &&& 31)), x_push (.int (nI 1)) 1, x_ii (fun a b => a &&& b), x_aload 0 1, x_getR 10 4, x_bad, x_bad, x_iload 3 1, x_iald, x_iload 2 1, x_ii (fun a b => a >>> (b &&& 31)), x_push (.int (nI 1)) 1, x_ii (fun a b => a &&& b), x_icmp (fun a b => a = b) 63, x_bad, x_bad, x_aload 0 1, x_getR 10 4, x_bad, x_bad, x_iload 3 1, x_iald, x_iret, x_iinc 3 (nI 1), x_bad, x_bad, x_goto 25, x_bad, x_bad, x_push (.int (-9)) 2, x_bad, x_iret]
set_option maxRecDepth 20000 in
theorem okX10_solver : SndT RX10 cX10_solver mX10_solver.2.2.1 mX10_solver.2.2.2.2.1 mX10_solver.2.2.2.2.2 false mX10_solver.2.2.2.1 0 tX10_solver := ⟨s_aload_n (k := 0) (i := 0) (by decide +kernel) rfl, s_iload_n (k := 1) (i := 1) (by decide +kernel) rfl, s_callV1 (by decide +kernel) lv_RX10_201 ⟨by decide, by decide⟩, s_bad, s_bad, s_if_eq (off := 16) (by decide +kernel) (by decide), s_bad, s_bad, s_aload_n (k := 0) (i := 0) (by decide +kernel) rfl, s_iload_n (k := 2) (i := 2) (by decide +kernel) rfl, s_callV1 (by decide +kernel) lv_RX10_201 ⟨by decide, by decide⟩, s_bad, s_bad, s_if_eq (off := 8) (by decide +kernel) (by decide), s_bad, s_bad, s_iload_n (k := 1) (i := 1) (by decide +kernel) rfl, s_iload_n (k := 2) (i := 2) (by decide +kernel) rfl, s_icmp_ne (off := 5) (by decide +kernel) (by decide), s_bad, s_bad, s_iconst (n := (-1)) (by decide +kernel) (by decide +kernel), s_iret (by decide +kernel) rfl, s_iconst (n := 0) (by decide +kernel) (by decide +kernel), s_istore_n (k := 3) (i := 3) (by decide +kernel) rfl (by decide), s_iload_n (k := 3) (i := 3) (by decide +kernel) rfl, s_aload_n (k := 0) (i := 0) (by decide +kernel) rfl, s_getI (by decide +kernel) fl_RX10_92 rfl, s_bad, s_bad, s_icmp_ge (off := 39) (by decide +kernel) (by decide), s_bad, s_bad, s_aload_n (k := 0) (i := 0) (by decide +kernel) rfl, s_getR (by decide +kernel) fl_RX10_16 rfl, s_bad, s_bad, s_iload_n (k := 3) (i := 3) (by decide +kernel) rfl, s_iald (by decide +kernel), s_iload_n (k := 1) (i := 1) (by decide +kernel) rfl, s_ishr (by decide +kernel), s_iconst (n := 1) (by decide +kernel) (by decide +kernel), s_iand (by decide +kernel), s_aload_n (k := 0) (i := 0) (by decide +kernel) rfl, s_getR (by decide +kernel) fl_RX10_16 rfl, s_bad, s_bad, s_iload_n (k := 3) (i := 3) (by decide +kernel) rfl, s_iald (by decide +kernel), s_iload_n (k := 2) (i := 2) (by decide +kernel) rfl, s_ishr (by decide +kernel), s_iconst (n := 1) (by decide +kernel) (by decide +kernel), s_iand (by decide +kernel), s_icmp_eq (off := 10) (by decide +kernel) (by decide), s_bad, s_bad, s_aload_n (k := 0) (i := 0) (by decide +kernel) rfl, s_getR (by decide +kernel) fl_RX10_16 rfl, s_bad, s_bad, s_iload_n (k := 3) (i := 3) (by decide +kernel) rfl, s_iald (by decide +kernel), s_iret (by decide +kernel) rfl, s_iinc (n := 1) (by decide +kernel) (by decide +kernel) (by decide), s_bad, s_bad, s_goto (off := (-41)) (by decide +kernel) (by decide), s_bad, s_bad, s_bipush (n := (-9)) (by decide +kernel) (by decide +kernel), s_bad, s_iret (by decide +kernel) rfl, trivial⟩
theorem kX10_solver_0 : List.getD tX10_solver 0 x_bad = x_aload 0 1 := rfl
theorem kX10_solver_1 : List.getD tX10_solver 1 x_bad = x_iload 1 1 := rfl
theorem kX10_solver_2 : List.getD tX10_solver 2 x_bad = x_callV1 10 mX10_isState := rfl
theorem kX10_solver_5 : List.getD tX10_solver 5 x_bad = x_if (fun a => a = 0) 21 := rfl
theorem kX10_solver_8 : List.getD tX10_solver 8 x_bad = x_aload 0 1 := rfl
theorem kX10_solver_9 : List.getD tX10_solver 9 x_bad = x_iload 2 1 := rfl
theorem kX10_solver_10 : List.getD tX10_solver 10 x_bad = x_callV1 10 mX10_isState := rfl
theorem kX10_solver_13 : List.getD tX10_solver 13 x_bad = x_if (fun a => a = 0) 21 := rfl
theorem kX10_solver_16 : List.getD tX10_solver 16 x_bad = x_iload 1 1 := rfl
theorem kX10_solver_17 : List.getD tX10_solver 17 x_bad = x_iload 2 1 := rfl
theorem kX10_solver_18 : List.getD tX10_solver 18 x_bad = x_icmpn (fun a b => a = b) 23 := rfl
theorem kX10_solver_21 : List.getD tX10_solver 21 x_bad = x_push (.int (-1)) 1 := rfl
theorem kX10_solver_22 : List.getD tX10_solver 22 x_bad = x_iret := rfl
theorem kX10_solver_23 : List.getD tX10_solver 23 x_bad = x_push (.int (nI 0)) 1 := rfl
theorem kX10_solver_24 : List.getD tX10_solver 24 x_bad = x_istore 3 1 := rfl
theorem kX10_solver_25 : List.getD tX10_solver 25 x_bad = x_iload 3 1 := rfl
theorem kX10_solver_26 : List.getD tX10_solver 26 x_bad = x_aload 0 1 := rfl
theorem kX10_solver_27 : List.getD tX10_solver 27 x_bad = x_getI 10 5 := rfl
theorem kX10_solver_30 : List.getD tX10_solver 30 x_bad = x_icmp (fun a b => b ≤ a) 69 := rfl
theorem kX10_solver_33 : List.getD tX10_solver 33 x_bad = x_aload 0 1 := rfl
theorem kX10_solver_34 : List.getD tX10_solver 34 x_bad = x_getR 10 4 := rfl
theorem kX10_solver_37 : List.getD tX10_solver 37 x_bad = x_iload 3 1 := rfl
theorem kX10_solver_38 : List.getD tX10_solver 38 x_bad = x_iald := rfl
theorem kX10_solver_39 : List.getD tX10_solver 39 x_bad = x_iload 1 1 := rfl
theorem kX10_solver_40 : List.getD tX10_solver 40 x_bad = x_ii (fun a b => a >>> (b &&& 31)) := rfl
theorem kX10_solver_41 : List.getD tX10_solver 41 x_bad = x_push (.int (nI 1)) 1 := rfl
theorem kX10_solver_42 : List.getD tX10_solver 42 x_bad = x_ii (fun a b => a &&& b) := rfl
theorem kX10_solver_43 : List.getD tX10_solver 43 x_bad = x_aload 0 1 := rfl
theorem kX10_solver_44 : List.getD tX10_solver 44 x_bad = x_getR 10 4 := rfl
theorem kX10_solver_47 : List.getD tX10_solver 47 x_bad = x_iload 3 1 := rfl
theorem kX10_solver_48 : List.getD tX10_solver 48 x_bad = x_iald := rfl
theorem kX10_solver_49 : List.getD tX10_solver 49 x_bad = x_iload 2 1 := rfl
theorem kX10_solver_50 : List.getD tX10_solver 50 x_bad = x_ii (fun a b => a >>> (b &&& 31)) := rfl
theorem kX10_solver_51 : List.getD tX10_solver 51 x_bad = x_push (.int (nI 1)) 1 := rfl
theorem kX10_solver_52 : List.getD tX10_solver 52 x_bad = x_ii (fun a b => a &&& b) := rfl
theorem kX10_solver_53 : List.getD tX10_solver 53 x_bad = x_icmp (fun a b => a = b) 63 := rfl
theorem kX10_solver_56 : List.getD tX10_solver 56 x_bad = x_aload 0 1 := rfl
theorem kX10_solver_57 : List.getD tX10_solver 57 x_bad = x_getR 10 4 := rfl
theorem kX10_solver_60 : List.getD tX10_solver 60 x_bad = x_iload 3 1 := rfl
theorem kX10_solver_61 : List.getD tX10_solver 61 x_bad = x_iald := rfl
theorem kX10_solver_62 : List.getD tX10_solver 62 x_bad = x_iret := rfl
theorem kX10_solver_63 : List.getD tX10_solver 63 x_bad = x_iinc 3 (nI 1) := rfl
theorem kX10_solver_66 : List.getD tX10_solver 66 x_bad = x_goto 25 := rfl
theorem kX10_solver_69 : List.getD tX10_solver 69 x_bad = x_push (.int (-9)) 2 := rfl
theorem kX10_solver_71 : List.getD tX10_solver 71 x_bad = x_iret := rfl
def tX10_solves : List PT := [x_iload 1 1, x_aload 0 1, x_getR 10 7, x_bad, x_bad, x_iload 2 1, x_iald, x_ii (fun a b => a >>> (b &&& 31)), x_push (.int (nI 1)) 1, x_ii (fun a b => a &&& b), x_push (.int (nI 1)) 1, x_icmpn (fun a b => a = b) 18, x_bad, x_bad, x_push (.int (nI 1)) 1, x_goto 19, x_bad, x_bad, x_push (.int (nI 0)) 1, x_istore 3 1, x_aload 0 1, x_getR 10 6, x_bad, x_bad, x_iload 2 1, x_iald, x_ifn (fun a => a = 0) 60, x_bad, x_bad, x_iload 3 1, x_iload 1 1, x_aload 0 1, x_getR 10 8, x_bad, x_bad, x_iload 2 1, x_iald, x_ii (fun a b => a >>> (b &&& 31)), x_push (.int (nI 1)) 1, x_ii (fun a b => a &&& b), x_push (.int (nI 1)) 1, x_icmpn (fun a b => a = b) 48, x_bad, x_bad, x_push (.int (nI 1)) 1, x_goto 49, x_bad, x_bad, x_push (.int (nI 0)) 1, x_icmp (fun a b => a = b) 56, x_bad, x_bad, x_push (.int (nI 1)) 1, x_goto 84, x_bad, x_bad, x_push (.int (nI 0)) 1, x_goto 84, x_bad, x_bad, x_iload 3 1, x_ifn (fun a => a = 0) 83, x_bad, x_bad, x_aload 0 1, x_iload 1 1, x_aload 0 1, x_getR 10 8, x_bad, x_bad, x_iload 2 1, x_iald, x_callV2 10 mX10_crossing, x_bad, x_bad, x_push (.int (nI 2)) 1, x_icmpn (fun a b => a = b) 83, x_bad, x_bad, x_push (.int (nI 1)) 1, x_goto 84, x_bad, x_bad, x_push (.int (nI 0)) 1, x_zret]
set_option maxRecDepth 20000 in
theorem okX10_solves : SndT RX10 cX10_solves mX10_solves.2.2.1 mX10_solves.2.2.2.2.1 mX10_solves.2.2.2.2.2 false mX10_solves.2.2.2.1 0 tX10_solves := ⟨s_iload_n (k := 1) (i := 1) (by decide +kernel) rfl, s_aload_n (k := 0) (i := 0) (by decide +kernel) rfl, s_getR (by decide +kernel) fl_RX10_22 rfl, s_bad, s_bad, s_iload_n (k := 2) (i := 2) (by decide +kernel) rfl, s_iald (by decide +kernel), s_ishr (by decide +kernel), s_iconst (n := 1) (by decide +kernel) (by decide +kernel), s_iand (by decide +kernel), s_iconst (n := 1) (by decide +kernel) (by decide +kernel), s_icmp_ne (off := 7) (by decide +kernel) (by decide), s_bad, s_bad, s_iconst (n := 1) (by decide +kernel) (by decide +kernel), s_goto (off := 4) (by decide +kernel) (by decide), s_bad, s_bad, s_iconst (n := 0) (by decide +kernel) (by decide +kernel), s_istore_n (k := 3) (i := 3) (by decide +kernel) rfl (by decide), s_aload_n (k := 0) (i := 0) (by decide +kernel) rfl, s_getR (by decide +kernel) fl_RX10_19 rfl, s_bad, s_bad, s_iload_n (k := 2) (i := 2) (by decide +kernel) rfl, s_iald (by decide +kernel), s_if_ne (off := 34) (by decide +kernel) (by decide), s_bad, s_bad, s_iload_n (k := 3) (i := 3) (by decide +kernel) rfl, s_iload_n (k := 1) (i := 1) (by decide +kernel) rfl, s_aload_n (k := 0) (i := 0) (by decide +kernel) rfl, s_getR (by decide +kernel) fl_RX10_25 rfl, s_bad, s_bad, s_iload_n (k := 2) (i := 2) (by decide +kernel) rfl, s_iald (by decide +kernel), s_ishr (by decide +kernel), s_iconst (n := 1) (by decide +kernel) (by decide +kernel), s_iand (by decide +kernel), s_iconst (n := 1) (by decide +kernel) (by decide +kernel), s_icmp_ne (off := 7) (by decide +kernel) (by decide), s_bad, s_bad, s_iconst (n := 1) (by decide +kernel) (by decide +kernel), s_goto (off := 4) (by decide +kernel) (by decide), s_bad, s_bad, s_iconst (n := 0) (by decide +kernel) (by decide +kernel), s_icmp_eq (off := 7) (by decide +kernel) (by decide), s_bad, s_bad, s_iconst (n := 1) (by decide +kernel) (by decide +kernel), s_goto (off := 31) (by decide +kernel) (by decide), s_bad, s_bad, s_iconst (n := 0) (by decide +kernel) (by decide +kernel), s_goto (off := 27) (by decide +kernel) (by decide), s_bad, s_bad, s_iload_n (k := 3) (i := 3) (by decide +kernel) rfl, s_if_ne (off := 22) (by decide +kernel) (by decide), s_bad, s_bad, s_aload_n (k := 0) (i := 0) (by decide +kernel) rfl, s_iload_n (k := 1) (i := 1) (by decide +kernel) rfl, s_aload_n (k := 0) (i := 0) (by decide +kernel) rfl, s_getR (by decide +kernel) fl_RX10_25 rfl, s_bad, s_bad, s_iload_n (k := 2) (i := 2) (by decide +kernel) rfl, s_iald (by decide +kernel), s_callV2 (by decide +kernel) lv_RX10_86 ⟨by decide, by decide⟩, s_bad, s_bad, s_iconst (n := 2) (by decide +kernel) (by decide +kernel), s_icmp_ne (off := 7) (by decide +kernel) (by decide), s_bad, s_bad, s_iconst (n := 1) (by decide +kernel) (by decide +kernel), s_goto (off := 4) (by decide +kernel) (by decide), s_bad, s_bad, s_iconst (n := 0) (by decide +kernel) (by decide +kernel), s_zret (by decide +kernel) rfl, trivial⟩
theorem kX10_solves_0 : List.getD tX10_solves 0 x_bad = x_iload 1 1 := rfl
theorem kX10_solves_1 : List.getD tX10_solves 1 x_bad = x_aload 0 1 := rfl
theorem kX10_solves_2 : List.getD tX10_solves 2 x_bad = x_getR 10 7 := rfl
theorem kX10_solves_5 : List.getD tX10_solves 5 x_bad = x_iload 2 1 := rfl
theorem kX10_solves_6 : List.getD tX10_solves 6 x_bad = x_iald := rfl
theorem kX10_solves_7 : List.getD tX10_solves 7 x_bad = x_ii (fun a b => a >>> (b &&& 31)) := rfl
theorem kX10_solves_8 : List.getD tX10_solves 8 x_bad = x_push (.int (nI 1)) 1 := rfl
theorem kX10_solves_9 : List.getD tX10_solves 9 x_bad = x_ii (fun a b => a &&& b) := rfl
theorem kX10_solves_10 : List.getD tX10_solves 10 x_bad = x_push (.int (nI 1)) 1 := rfl
theorem kX10_solves_11 : List.getD tX10_solves 11 x_bad = x_icmpn (fun a b => a = b) 18 := rfl
theorem kX10_solves_14 : List.getD tX10_solves 14 x_bad = x_push (.int (nI 1)) 1 := rfl
theorem kX10_solves_15 : List.getD tX10_solves 15 x_bad = x_goto 19 := rfl
theorem kX10_solves_18 : List.getD tX10_solves 18 x_bad = x_push (.int (nI 0)) 1 := rfl
theorem kX10_solves_19 : List.getD tX10_solves 19 x_bad = x_istore 3 1 := rfl
theorem kX10_solves_20 : List.getD tX10_solves 20 x_bad = x_aload 0 1 := rfl
theorem kX10_solves_21 : List.getD tX10_solves 21 x_bad = x_getR 10 6 := rfl
theorem kX10_solves_24 : List.getD tX10_solves 24 x_bad = x_iload 2 1 := rfl
theorem kX10_solves_25 : List.getD tX10_solves 25 x_bad = x_iald := rfl
theorem kX10_solves_26 : List.getD tX10_solves 26 x_bad = x_ifn (fun a => a = 0) 60 := rfl
theorem kX10_solves_29 : List.getD tX10_solves 29 x_bad = x_iload 3 1 := rfl
theorem kX10_solves_30 : List.getD tX10_solves 30 x_bad = x_iload 1 1 := rfl
theorem kX10_solves_31 : List.getD tX10_solves 31 x_bad = x_aload 0 1 := rfl
theorem kX10_solves_32 : List.getD tX10_solves 32 x_bad = x_getR 10 8 := rfl
theorem kX10_solves_35 : List.getD tX10_solves 35 x_bad = x_iload 2 1 := rfl
theorem kX10_solves_36 : List.getD tX10_solves 36 x_bad = x_iald := rfl
theorem kX10_solves_37 : List.getD tX10_solves 37 x_bad = x_ii (fun a b => a >>> (b &&& 31)) := rfl
theorem kX10_solves_38 : List.getD tX10_solves 38 x_bad = x_push (.int (nI 1)) 1 := rfl
theorem kX10_solves_39 : List.getD tX10_solves 39 x_bad = x_ii (fun a b => a &&& b) := rfl
theorem kX10_solves_40 : List.getD tX10_solves 40 x_bad = x_push (.int (nI 1)) 1 := rfl
theorem kX10_solves_41 : List.getD tX10_solves 41 x_bad = x_icmpn (fun a b => a = b) 48 := rfl
theorem kX10_solves_44 : List.getD tX10_solves 44 x_bad = x_push (.int (nI 1)) 1 := rfl
theorem kX10_solves_45 : List.getD tX10_solves 45 x_bad = x_goto 49 := rfl
theorem kX10_solves_48 : List.getD tX10_solves 48 x_bad = x_push (.int (nI 0)) 1 := rfl
theorem kX10_solves_49 : List.getD tX10_solves 49 x_bad = x_icmp (fun a b => a = b) 56 := rfl
theorem kX10_solves_52 : List.getD tX10_solves 52 x_bad = x_push (.int (nI 1)) 1 := rfl
theorem kX10_solves_53 : List.getD tX10_solves 53 x_bad = x_goto 84 := rfl
theorem kX10_solves_56 : List.getD tX10_solves 56 x_bad = x_push (.int (nI 0)) 1 := rfl
theorem kX10_solves_57 : List.getD tX10_solves 57 x_bad = x_goto 84 := rfl
theorem kX10_solves_60 : List.getD tX10_solves 60 x_bad = x_iload 3 1 := rfl
theorem kX10_solves_61 : List.getD tX10_solves 61 x_bad = x_ifn (fun a => a = 0) 83 := rfl
theorem kX10_solves_64 : List.getD tX10_solves 64 x_bad = x_aload 0 1 := rfl
theorem kX10_solves_65 : List.getD tX10_solves 65 x_bad = x_iload 1 1 := rfl
theorem kX10_solves_66 : List.getD tX10_solves 66 x_bad = x_aload 0 1 := rfl
theorem kX10_solves_67 : List.getD tX10_solves 67 x_bad = x_getR 10 8 := rfl
theorem kX10_solves_70 : List.getD tX10_solves 70 x_bad = x_iload 2 1 := rfl
theorem kX10_solves_71 : List.getD tX10_solves 71 x_bad = x_iald := rfl
theorem kX10_solves_72 : List.getD tX10_solves 72 x_bad = x_callV2 10 mX10_crossing := rfl
theorem kX10_solves_75 : List.getD tX10_solves 75 x_bad = x_push (.int (nI 2)) 1 := rfl
theorem kX10_solves_76 : List.getD tX10_solves 76 x_bad = x_icmpn (fun a b => a = b) 83 := rfl
theorem kX10_solves_79 : List.getD tX10_solves 79 x_bad = x_push (.int (nI 1)) 1 := rfl
theorem kX10_solves_80 : List.getD tX10_solves 80 x_bad = x_goto 84 := rfl
theorem kX10_solves_83 : List.getD tX10_solves 83 x_bad = x_push (.int (nI 0)) 1 := rfl
theorem kX10_solves_84 : List.getD tX10_solves 84 x_bad = x_zret := rfl
def tX10_unused : List PT := [x_push (.int (nI 0)) 1, x_istore 1 1, x_iload 1 1, x_push (.int (nI 8)) 2, x_bad, x_icmp (fun a b => b ≤ a) 22, x_bad, x_bad, x_aload 0 1, x_iload 1 1, x_callV1 10 mX10_arcsOf, x_bad, x_bad, x_if (fun a => a ≤ 0) 22, x_bad, x_bad, x_iinc 1 (nI 1), x_bad, x_bad, x_goto 2, x_bad, x_bad, x_iload 1 1, x_iret]
set_option maxRecDepth 20000 in
theorem okX10_unused : SndT RX10 cX10_unused mX10_unused.2.2.1 mX10_unused.2.2.2.2.1 mX10_unused.2.2.2.2.2 false mX10_unused.2.2.2.1 0 tX10_unused := ⟨s_iconst (n := 0) (by decide +kernel) (by decide +kernel), s_istore_n (k := 1) (i := 1) (by decide +kernel) rfl (by decide), s_iload_n (k := 1) (i := 1) (by decide +kernel) rfl, s_bipush (n := 8) (by decide +kernel) (by decide +kernel), s_bad, s_icmp_ge (off := 17) (by decide +kernel) (by decide), s_bad, s_bad, s_aload_n (k := 0) (i := 0) (by decide +kernel) rfl, s_iload_n (k := 1) (i := 1) (by decide +kernel) rfl, s_callV1 (by decide +kernel) lv_RX10_82 ⟨by decide, by decide⟩, s_bad, s_bad, s_if_le (off := 9) (by decide +kernel) (by decide), s_bad, s_bad, s_iinc (n := 1) (by decide +kernel) (by decide +kernel) (by decide), s_bad, s_bad, s_goto (off := (-17)) (by decide +kernel) (by decide), s_bad, s_bad, s_iload_n (k := 1) (i := 1) (by decide +kernel) rfl, s_iret (by decide +kernel) rfl, trivial⟩
theorem kX10_unused_0 : List.getD tX10_unused 0 x_bad = x_push (.int (nI 0)) 1 := rfl
theorem kX10_unused_1 : List.getD tX10_unused 1 x_bad = x_istore 1 1 := rfl
theorem kX10_unused_2 : List.getD tX10_unused 2 x_bad = x_iload 1 1 := rfl
theorem kX10_unused_3 : List.getD tX10_unused 3 x_bad = x_push (.int (nI 8)) 2 := rfl
theorem kX10_unused_5 : List.getD tX10_unused 5 x_bad = x_icmp (fun a b => b ≤ a) 22 := rfl
theorem kX10_unused_8 : List.getD tX10_unused 8 x_bad = x_aload 0 1 := rfl
theorem kX10_unused_9 : List.getD tX10_unused 9 x_bad = x_iload 1 1 := rfl
theorem kX10_unused_10 : List.getD tX10_unused 10 x_bad = x_callV1 10 mX10_arcsOf := rfl
theorem kX10_unused_13 : List.getD tX10_unused 13 x_bad = x_if (fun a => a ≤ 0) 22 := rfl
theorem kX10_unused_16 : List.getD tX10_unused 16 x_bad = x_iinc 1 (nI 1) := rfl
theorem kX10_unused_19 : List.getD tX10_unused 19 x_bad = x_goto 2 := rfl
theorem kX10_unused_22 : List.getD tX10_unused 22 x_bad = x_iload 1 1 := rfl
theorem kX10_unused_23 : List.getD tX10_unused 23 x_bad = x_iret := rfl
def tX10_usedMany : List PT := [x_push (.int (nI 0)) 1, x_istore 1 1, x_push (.int (nI 0)) 1, x_istore 2 1, x_iload 2 1, x_push (.int (nI 8)) 2, x_bad, x_icmp (fun a b => b ≤ a) 32, x_bad, x_bad, x_iload 1 1, x_aload 0 1, x_iload 2 1, x_callV1 10 mX10_arcsOf, x_bad, x_bad, x_if (fun a => a ≤ 0) 23, x_bad, x_bad, x_push (.int (nI 1)) 1, x_goto 24, x_bad, x_bad, x_push (.int (nI 0)) 1, x_ii (fun a b => a + b), x_istore 1 1, x_iinc 2 (nI 1), x_bad, x_bad, x_goto 4, x_bad, x_bad, x_iload 1 1, x_iret]
set_option maxRecDepth 20000 in
theorem okX10_usedMany : SndT RX10 cX10_usedMany mX10_usedMany.2.2.1 mX10_usedMany.2.2.2.2.1 mX10_usedMany.2.2.2.2.2 false mX10_usedMany.2.2.2.1 0 tX10_usedMany := ⟨s_iconst (n := 0) (by decide +kernel) (by decide +kernel), s_istore_n (k := 1) (i := 1) (by decide +kernel) rfl (by decide), s_iconst (n := 0) (by decide +kernel) (by decide +kernel), s_istore_n (k := 2) (i := 2) (by decide +kernel) rfl (by decide), s_iload_n (k := 2) (i := 2) (by decide +kernel) rfl, s_bipush (n := 8) (by decide +kernel) (by decide +kernel), s_bad, s_icmp_ge (off := 25) (by decide +kernel) (by decide), s_bad, s_bad, s_iload_n (k := 1) (i := 1) (by decide +kernel) rfl, s_aload_n (k := 0) (i := 0) (by decide +kernel) rfl, s_iload_n (k := 2) (i := 2) (by decide +kernel) rfl, s_callV1 (by decide +kernel) lv_RX10_82 ⟨by decide, by decide⟩, s_bad, s_bad, s_if_le (off := 7) (by decide +kernel) (by decide), s_bad, s_bad, s_iconst (n := 1) (by decide +kernel) (by decide +kernel), s_goto (off := 4) (by decide +kernel) (by decide), s_bad, s_bad, s_iconst (n := 0) (by decide +kernel) (by decide +kernel), s_iadd (by decide +kernel), s_istore_n (k := 1) (i := 1) (by decide +kernel) rfl (by decide), s_iinc (n := 1) (by decide +kernel) (by decide +kernel) (by decide), s_bad, s_bad, s_goto (off := (-25)) (by decide +kernel) (by decide), s_bad, s_bad, s_iload_n (k := 1) (i := 1) (by decide +kernel) rfl, s_iret (by decide +kernel) rfl, trivial⟩
theorem kX10_usedMany_0 : List.getD tX10_usedMany 0 x_bad = x_push (.int (nI 0)) 1 := rfl
theorem kX10_usedMany_1 : List.getD tX10_usedMany 1 x_bad = x_istore 1 1 := rfl
theorem kX10_usedMany_2 : List.getD tX10_usedMany 2 x_bad = x_push (.int (nI 0)) 1 := rfl
theorem kX10_usedMany_3 : List.getD tX10_usedMany 3 x_bad = x_istore 2 1 := rfl
theorem kX10_usedMany_4 : List.getD tX10_usedMany 4 x_bad = x_iload 2 1 := rfl
theorem kX10_usedMany_5 : List.getD tX10_usedMany 5 x_bad = x_push (.int (nI 8)) 2 := rfl
theorem kX10_usedMany_7 : List.getD tX10_usedMany 7 x_bad = x_icmp (fun a b => b ≤ a) 32 := rfl
theorem kX10_usedMany_10 : List.getD tX10_usedMany 10 x_bad = x_iload 1 1 := rfl
theorem kX10_usedMany_11 : List.getD tX10_usedMany 11 x_bad = x_aload 0 1 := rfl
theorem kX10_usedMany_12 : List.getD tX10_usedMany 12 x_bad = x_iload 2 1 := rfl
theorem kX10_usedMany_13 : List.getD tX10_usedMany 13 x_bad = x_callV1 10 mX10_arcsOf := rfl
theorem kX10_usedMany_16 : List.getD tX10_usedMany 16 x_bad = x_if (fun a => a ≤ 0) 23 := rfl
theorem kX10_usedMany_19 : List.getD tX10_usedMany 19 x_bad = x_push (.int (nI 1)) 1 := rfl
theorem kX10_usedMany_20 : List.getD tX10_usedMany 20 x_bad = x_goto 24 := rfl
theorem kX10_usedMany_23 : List.getD tX10_usedMany 23 x_bad = x_push (.int (nI 0)) 1 := rfl
theorem kX10_usedMany_24 : List.getD tX10_usedMany 24 x_bad = x_ii (fun a b => a + b) := rfl
theorem kX10_usedMany_25 : List.getD tX10_usedMany 25 x_bad = x_istore 1 1 := rfl
theorem kX10_usedMany_26 : List.getD tX10_usedMany 26 x_bad = x_iinc 2 (nI 1) := rfl
theorem kX10_usedMany_29 : List.getD tX10_usedMany 29 x_bad = x_goto 4 := rfl
theorem kX10_usedMany_32 : List.getD tX10_usedMany 32 x_bad = x_iload 1 1 := rfl
theorem kX10_usedMany_33 : List.getD tX10_usedMany 33 x_bad = x_iret := rfl
def tX10_wrongArc : List PT := [x_aload 0 1, x_iload 1 1, x_callV1 10 mX10_isState, x_bad, x_bad, x_if (fun a => a = 0) 23, x_bad, x_bad, x_aload 0 1, x_iload 3 1, x_callV1 10 mX10_isState, x_bad, x_bad, x_if (fun a => a = 0) 23, x_bad, x_bad, x_iload 2 1, x_callS1 mX10_isEvent, x_bad, x_bad, x_ifn (fun a => a = 0) 25, x_bad, x_bad, x_push (.int (-1)) 1, x_iret, x_aload 0 1, x_iload 1 1, x_iload 2 1, x_callV2 10 mX10_leads, x_bad, x_bad, x_push (.int (-9)) 2, x_bad, x_icmp (fun a b => a = b) 41, x_bad, x_bad, x_push (.int (-2)) 2, x_bad, x_goto 58, x_bad, x_bad, x_aload 0 1, x_getR 10 0, x_bad, x_bad, x_push (.int (nI 1)) 1, x_iald, x_push (.int (nI 24)) 2, x_bad, x_icmpn (fun a b => a = b) 57, x_bad, x_bad, x_push (.int (-3)) 2, x_bad, x_goto 58, x_bad, x_bad, x_push (.int (nI 0)) 1, x_iret]
set_option maxRecDepth 20000 in
theorem okX10_wrongArc : SndT RX10 cX10_wrongArc mX10_wrongArc.2.2.1 mX10_wrongArc.2.2.2.2.1 mX10_wrongArc.2.2.2.2.2 false mX10_wrongArc.2.2.2.1 0 tX10_wrongArc := ⟨s_aload_n (k := 0) (i := 0) (by decide +kernel) rfl, s_iload_n (k := 1) (i := 1) (by decide +kernel) rfl, s_callV1 (by decide +kernel) lv_RX10_201 ⟨by decide, by decide⟩, s_bad, s_bad, s_if_eq (off := 18) (by decide +kernel) (by decide), s_bad, s_bad, s_aload_n (k := 0) (i := 0) (by decide +kernel) rfl, s_iload_n (k := 3) (i := 3) (by decide +kernel) rfl, s_callV1 (by decide +kernel) lv_RX10_201 ⟨by decide, by decide⟩, s_bad, s_bad, s_if_eq (off := 10) (by decide +kernel) (by decide), s_bad, s_bad, s_iload_n (k := 2) (i := 2) (by decide +kernel) rfl, s_callS1 (by decide +kernel) ls_RX10_204 ⟨by decide, by decide⟩, s_bad, s_bad, s_if_ne (off := 5) (by decide +kernel) (by decide), s_bad, s_bad, s_iconst (n := (-1)) (by decide +kernel) (by decide +kernel), s_iret (by decide +kernel) rfl, s_aload_n (k := 0) (i := 0) (by decide +kernel) rfl, s_iload_n (k := 1) (i := 1) (by decide +kernel) rfl, s_iload_n (k := 2) (i := 2) (by decide +kernel) rfl, s_callV2 (by decide +kernel) lv_RX10_114 ⟨by decide, by decide⟩, s_bad, s_bad, s_bipush (n := (-9)) (by decide +kernel) (by decide +kernel), s_bad, s_icmp_eq (off := 8) (by decide +kernel) (by decide), s_bad, s_bad, s_bipush (n := (-2)) (by decide +kernel) (by decide +kernel), s_bad, s_goto (off := 20) (by decide +kernel) (by decide), s_bad, s_bad, s_aload_n (k := 0) (i := 0) (by decide +kernel) rfl, s_getR (by decide +kernel) fl_RX10_7 rfl, s_bad, s_bad, s_iconst (n := 1) (by decide +kernel) (by decide +kernel), s_iald (by decide +kernel), s_bipush (n := 24) (by decide +kernel) (by decide +kernel), s_bad, s_icmp_ne (off := 8) (by decide +kernel) (by decide), s_bad, s_bad, s_bipush (n := (-3)) (by decide +kernel) (by decide +kernel), s_bad, s_goto (off := 4) (by decide +kernel) (by decide), s_bad, s_bad, s_iconst (n := 0) (by decide +kernel) (by decide +kernel), s_iret (by decide +kernel) rfl, trivial⟩
theorem kX10_wrongArc_0 : List.getD tX10_wrongArc 0 x_bad = x_aload 0 1 := rfl
theorem kX10_wrongArc_1 : List.getD tX10_wrongArc 1 x_bad = x_iload 1 1 := rfl
theorem kX10_wrongArc_2 : List.getD tX10_wrongArc 2 x_bad = x_callV1 10 mX10_isState := rfl
theorem kX10_wrongArc_5 : List.getD tX10_wrongArc 5 x_bad = x_if (fun a => a = 0) 23 := rfl
theorem kX10_wrongArc_8 : List.getD tX10_wrongArc 8 x_bad = x_aload 0 1 := rfl
theorem kX10_wrongArc_9 : List.getD tX10_wrongArc 9 x_bad = x_iload 3 1 := rfl
theorem kX10_wrongArc_10 : List.getD tX10_wrongArc 10 x_bad = x_callV1 10 mX10_isState := rfl
theorem kX10_wrongArc_13 : List.getD tX10_wrongArc 13 x_bad = x_if (fun a => a = 0) 23 := rfl
theorem kX10_wrongArc_16 : List.getD tX10_wrongArc 16 x_bad = x_iload 2 1 := rfl
theorem kX10_wrongArc_17 : List.getD tX10_wrongArc 17 x_bad = x_callS1 mX10_isEvent := rfl
theorem kX10_wrongArc_20 : List.getD tX10_wrongArc 20 x_bad = x_ifn (fun a => a = 0) 25 := rfl
theorem kX10_wrongArc_23 : List.getD tX10_wrongArc 23 x_bad = x_push (.int (-1)) 1 := rfl
theorem kX10_wrongArc_24 : List.getD tX10_wrongArc 24 x_bad = x_iret := rfl
theorem kX10_wrongArc_25 : List.getD tX10_wrongArc 25 x_bad = x_aload 0 1 := rfl
theorem kX10_wrongArc_26 : List.getD tX10_wrongArc 26 x_bad = x_iload 1 1 := rfl
theorem kX10_wrongArc_27 : List.getD tX10_wrongArc 27 x_bad = x_iload 2 1 := rfl
theorem kX10_wrongArc_28 : List.getD tX10_wrongArc 28 x_bad = x_callV2 10 mX10_leads := rfl
theorem kX10_wrongArc_31 : List.getD tX10_wrongArc 31 x_bad = x_push (.int (-9)) 2 := rfl
theorem kX10_wrongArc_33 : List.getD tX10_wrongArc 33 x_bad = x_icmp (fun a b => a = b) 41 := rfl
theorem kX10_wrongArc_36 : List.getD tX10_wrongArc 36 x_bad = x_push (.int (-2)) 2 := rfl
theorem kX10_wrongArc_38 : List.getD tX10_wrongArc 38 x_bad = x_goto 58 := rfl
theorem kX10_wrongArc_41 : List.getD tX10_wrongArc 41 x_bad = x_aload 0 1 := rfl
theorem kX10_wrongArc_42 : List.getD tX10_wrongArc 42 x_bad = x_getR 10 0 := rfl
theorem kX10_wrongArc_45 : List.getD tX10_wrongArc 45 x_bad = x_push (.int (nI 1)) 1 := rfl
theorem kX10_wrongArc_46 : List.getD tX10_wrongArc 46 x_bad = x_iald := rfl
theorem kX10_wrongArc_47 : List.getD tX10_wrongArc 47 x_bad = x_push (.int (nI 24)) 2 := rfl
theorem kX10_wrongArc_49 : List.getD tX10_wrongArc 49 x_bad = x_icmpn (fun a b => a = b) 57 := rfl
theorem kX10_wrongArc_52 : List.getD tX10_wrongArc 52 x_bad = x_push (.int (-3)) 2 := rfl
theorem kX10_wrongArc_54 : List.getD tX10_wrongArc 54 x_bad = x_goto 58 := rfl
theorem kX10_wrongArc_57 : List.getD tX10_wrongArc 57 x_bad = x_push (.int (nI 0)) 1 := rfl
theorem kX10_wrongArc_58 : List.getD tX10_wrongArc 58 x_bad = x_iret := rfl
def tX10_adds : List PT := [x_aload 0 1, x_getR 10 6, x_bad, x_bad, x_aload 0 1, x_getI 10 9, x_bad, x_bad, x_iload 1 1, x_iast, x_aload 0 1, x_getR 10 7, x_bad, x_bad, x_aload 0 1, x_getI 10 9, x_bad, x_bad, x_iload 2 1, x_iast, x_aload 0 1, x_getR 10 8, x_bad, x_bad, x_aload 0 1, x_getI 10 9, x_bad, x_bad, x_iload 3 1, x_iast, x_aload 0 1, x_getR 10 10, x_bad, x_bad, x_aload 0 1, x_getI 10 9, x_bad, x_bad, x_push (.int (nI 0)) 1, x_zast, x_push (.int (nI 0)) 1, x_istore 4 2, x_bad, x_iload 4 2, x_bad, x_aload 0 1, x_getI 10 5, x_bad, x_bad, x_icmp (fun a b => b ≤ a) 102, x_bad, x_bad, x_aload 0 1, x_getR 10 10, x_bad, x_bad, x_aload 0 1, x_getI 10 9, x_bad, x_bad, x_aload 0 1, x_getR 10 10, x_bad, x_bad, x_aload 0 1, x_getI 10 9, x_bad, x_bad, x_zald, x_ifn (fun a => a = 0) 90, x_bad, x_bad, x_aload 0 1, x_aload 0 1, x_getR 10 4, x_bad, x_bad, x_iload 4 2, x_bad, x_iald, x_aload 0 1, x_getI 10 9, x_bad, x_bad, x_callV2 10 mX10_solves, x_bad, x_bad, x_if (fun a => a = 0) 94, x_bad, x_bad, x_push (.int (nI 1)) 1, x_goto 95, x_bad, x_bad, x_push (.int (nI 0)) 1, x_zast, x_iinc 4 (nI 1), x_bad, x_bad, x_goto 43, x_bad, x_bad, x_aload 0 1, x_dup, x_getI 10 9, x_bad, x_bad, x_push (.int (nI 1)) 1, x_ii (fun a b => a + b), x_putI 10 9, x_bad, x_bad, x_vret]
set_option maxRecDepth 20000 in
theorem okX10_adds : SndT RX10 cX10_adds mX10_adds.2.2.1 mX10_adds.2.2.2.2.1 mX10_adds.2.2.2.2.2 false mX10_adds.2.2.2.1 0 tX10_adds := ⟨s_aload_n (k := 0) (i := 0) (by decide +kernel) rfl, s_getR (by decide +kernel) fl_RX10_19 rfl, s_bad, s_bad, s_aload_n (k := 0) (i := 0) (by decide +kernel) rfl, s_getI (by decide +kernel) fl_RX10_103 rfl, s_bad, s_bad, s_iload_n (k := 1) (i := 1) (by decide +kernel) rfl, s_iast (by decide +kernel), s_aload_n (k := 0) (i := 0) (by decide +kernel) rfl, s_getR (by decide +kernel) fl_RX10_22 rfl, s_bad, s_bad, s_aload_n (k := 0) (i := 0) (by decide +kernel) rfl, s_getI (by decide +kernel) fl_RX10_103 rfl, s_bad, s_bad, s_iload_n (k := 2) (i := 2) (by decide +kernel) rfl, s_iast (by decide +kernel), s_aload_n (k := 0) (i := 0) (by decide +kernel) rfl, s_getR (by decide +kernel) fl_RX10_25 rfl, s_bad, s_bad, s_aload_n (k := 0) (i := 0) (by decide +kernel) rfl, s_getI (by decide +kernel) fl_RX10_103 rfl, s_bad, s_bad, s_iload_n (k := 3) (i := 3) (by decide +kernel) rfl, s_iast (by decide +kernel), s_aload_n (k := 0) (i := 0) (by decide +kernel) rfl, s_getR (by decide +kernel) fl_RX10_28 rfl, s_bad, s_bad, s_aload_n (k := 0) (i := 0) (by decide +kernel) rfl, s_getI (by decide +kernel) fl_RX10_103 rfl, s_bad, s_bad, s_iconst (n := 0) (by decide +kernel) (by decide +kernel), s_zast (by decide +kernel), s_iconst (n := 0) (by decide +kernel) (by decide +kernel), s_istore (by decide +kernel) (by decide), s_bad, s_iload (by decide +kernel), s_bad, s_aload_n (k := 0) (i := 0) (by decide +kernel) rfl, s_getI (by decide +kernel) fl_RX10_92 rfl, s_bad, s_bad, s_icmp_ge (off := 53) (by decide +kernel) (by decide), s_bad, s_bad, s_aload_n (k := 0) (i := 0) (by decide +kernel) rfl, s_getR (by decide +kernel) fl_RX10_28 rfl, s_bad, s_bad, s_aload_n (k := 0) (i := 0) (by decide +kernel) rfl, s_getI (by decide +kernel) fl_RX10_103 rfl, s_bad, s_bad, s_aload_n (k := 0) (i := 0) (by decide +kernel) rfl, s_getR (by decide +kernel) fl_RX10_28 rfl, s_bad, s_bad, s_aload_n (k := 0) (i := 0) (by decide +kernel) rfl, s_getI (by decide +kernel) fl_RX10_103 rfl, s_bad, s_bad, s_zald (by decide +kernel), s_if_ne (off := 21) (by decide +kernel) (by decide), s_bad, s_bad, s_aload_n (k := 0) (i := 0) (by decide +kernel) rfl, s_aload_n (k := 0) (i := 0) (by decide +kernel) rfl, s_getR (by decide +kernel) fl_RX10_16 rfl, s_bad, s_bad, s_iload (by decide +kernel), s_bad, s_iald (by decide +kernel), s_aload_n (k := 0) (i := 0) (by decide +kernel) rfl, s_getI (by decide +kernel) fl_RX10_103 rfl, s_bad, s_bad, s_callV2 (by decide +kernel) lv_RX10_106 ⟨by decide, by decide⟩, s_bad, s_bad, s_if_eq (off := 7) (by decide +kernel) (by decide), s_bad, s_bad, s_iconst (n := 1) (by decide +kernel) (by decide +kernel), s_goto (off := 4) (by decide +kernel) (by decide), s_bad, s_bad, s_iconst (n := 0) (by decide +kernel) (by decide +kernel), s_zast (by decide +kernel), s_iinc (n := 1) (by decide +kernel) (by decide +kernel) (by decide), s_bad, s_bad, s_goto (off := (-56)) (by decide +kernel) (by decide), s_bad, s_bad, s_aload_n (k := 0) (i := 0) (by decide +kernel) rfl, s_dup (by decide +kernel), s_getI (by decide +kernel) fl_RX10_103 rfl, s_bad, s_bad, s_iconst (n := 1) (by decide +kernel) (by decide +kernel), s_iadd (by decide +kernel), s_putI (by decide +kernel) fl_RX10_103 fp_10_9 rfl, s_bad, s_bad, s_vret (by decide +kernel) rfl, trivial⟩
theorem kX10_adds_0 : List.getD tX10_adds 0 x_bad = x_aload 0 1 := rfl
theorem kX10_adds_1 : List.getD tX10_adds 1 x_bad = x_getR 10 6 := rfl
theorem kX10_adds_4 : List.getD tX10_adds 4 x_bad = x_aload 0 1 := rfl
theorem kX10_adds_5 : List.getD tX10_adds 5 x_bad = x_getI 10 9 := rfl
theorem kX10_adds_8 : List.getD tX10_adds 8 x_bad = x_iload 1 1 := rfl
theorem kX10_adds_9 : List.getD tX10_adds 9 x_bad = x_iast := rfl
theorem kX10_adds_10 : List.getD tX10_adds 10 x_bad = x_aload 0 1 := rfl
theorem kX10_adds_11 : List.getD tX10_adds 11 x_bad = x_getR 10 7 := rfl
theorem kX10_adds_14 : List.getD tX10_adds 14 x_bad = x_aload 0 1 := rfl
theorem kX10_adds_15 : List.getD tX10_adds 15 x_bad = x_getI 10 9 := rfl
theorem kX10_adds_18 : List.getD tX10_adds 18 x_bad = x_iload 2 1 := rfl
theorem kX10_adds_19 : List.getD tX10_adds 19 x_bad = x_iast := rfl
theorem kX10_adds_20 : List.getD tX10_adds 20 x_bad = x_aload 0 1 := rfl
theorem kX10_adds_21 : List.getD tX10_adds 21 x_bad = x_getR 10 8 := rfl
theorem kX10_adds_24 : List.getD tX10_adds 24 x_bad = x_aload 0 1 := rfl
theorem kX10_adds_25 : List.getD tX10_adds 25 x_bad = x_getI 10 9 := rfl
theorem kX10_adds_28 : List.getD tX10_adds 28 x_bad = x_iload 3 1 := rfl
theorem kX10_adds_29 : List.getD tX10_adds 29 x_bad = x_iast := rfl
theorem kX10_adds_30 : List.getD tX10_adds 30 x_bad = x_aload 0 1 := rfl
theorem kX10_adds_31 : List.getD tX10_adds 31 x_bad = x_getR 10 10 := rfl
theorem kX10_adds_34 : List.getD tX10_adds 34 x_bad = x_aload 0 1 := rfl
theorem kX10_adds_35 : List.getD tX10_adds 35 x_bad = x_getI 10 9 := rfl
theorem kX10_adds_38 : List.getD tX10_adds 38 x_bad = x_push (.int (nI 0)) 1 := rfl
theorem kX10_adds_39 : List.getD tX10_adds 39 x_bad = x_zast := rfl
theorem kX10_adds_40 : List.getD tX10_adds 40 x_bad = x_push (.int (nI 0)) 1 := rfl
theorem kX10_adds_41 : List.getD tX10_adds 41 x_bad = x_istore 4 2 := rfl
theorem kX10_adds_43 : List.getD tX10_adds 43 x_bad = x_iload 4 2 := rfl
theorem kX10_adds_45 : List.getD tX10_adds 45 x_bad = x_aload 0 1 := rfl
theorem kX10_adds_46 : List.getD tX10_adds 46 x_bad = x_getI 10 5 := rfl
theorem kX10_adds_49 : List.getD tX10_adds 49 x_bad = x_icmp (fun a b => b ≤ a) 102 := rfl
theorem kX10_adds_52 : List.getD tX10_adds 52 x_bad = x_aload 0 1 := rfl
theorem kX10_adds_53 : List.getD tX10_adds 53 x_bad = x_getR 10 10 := rfl
theorem kX10_adds_56 : List.getD tX10_adds 56 x_bad = x_aload 0 1 := rfl
theorem kX10_adds_57 : List.getD tX10_adds 57 x_bad = x_getI 10 9 := rfl
theorem kX10_adds_60 : List.getD tX10_adds 60 x_bad = x_aload 0 1 := rfl
theorem kX10_adds_61 : List.getD tX10_adds 61 x_bad = x_getR 10 10 := rfl
theorem kX10_adds_64 : List.getD tX10_adds 64 x_bad = x_aload 0 1 := rfl
theorem kX10_adds_65 : List.getD tX10_adds 65 x_bad = x_getI 10 9 := rfl
theorem kX10_adds_68 : List.getD tX10_adds 68 x_bad = x_zald := rfl
theorem kX10_adds_69 : List.getD tX10_adds 69 x_bad = x_ifn (fun a => a = 0) 90 := rfl
theorem kX10_adds_72 : List.getD tX10_adds 72 x_bad = x_aload 0 1 := rfl
theorem kX10_adds_73 : List.getD tX10_adds 73 x_bad = x_aload 0 1 := rfl
theorem kX10_adds_74 : List.getD tX10_adds 74 x_bad = x_getR 10 4 := rfl
theorem kX10_adds_77 : List.getD tX10_adds 77 x_bad = x_iload 4 2 := rfl
theorem kX10_adds_79 : List.getD tX10_adds 79 x_bad = x_iald := rfl
theorem kX10_adds_80 : List.getD tX10_adds 80 x_bad = x_aload 0 1 := rfl
theorem kX10_adds_81 : List.getD tX10_adds 81 x_bad = x_getI 10 9 := rfl
theorem kX10_adds_84 : List.getD tX10_adds 84 x_bad = x_callV2 10 mX10_solves := rfl
theorem kX10_adds_87 : List.getD tX10_adds 87 x_bad = x_if (fun a => a = 0) 94 := rfl
theorem kX10_adds_90 : List.getD tX10_adds 90 x_bad = x_push (.int (nI 1)) 1 := rfl
theorem kX10_adds_91 : List.getD tX10_adds 91 x_bad = x_goto 95 := rfl
theorem kX10_adds_94 : List.getD tX10_adds 94 x_bad = x_push (.int (nI 0)) 1 := rfl
theorem kX10_adds_95 : List.getD tX10_adds 95 x_bad = x_zast := rfl
theorem kX10_adds_96 : List.getD tX10_adds 96 x_bad = x_iinc 4 (nI 1) := rfl
theorem kX10_adds_99 : List.getD tX10_adds 99 x_bad = x_goto 43 := rfl
theorem kX10_adds_102 : List.getD tX10_adds 102 x_bad = x_aload 0 1 := rfl
theorem kX10_adds_103 : List.getD tX10_adds 103 x_bad = x_dup := rfl
theorem kX10_adds_104 : List.getD tX10_adds 104 x_bad = x_getI 10 9 := rfl
theorem kX10_adds_107 : List.getD tX10_adds 107 x_bad = x_push (.int (nI 1)) 1 := rfl
theorem kX10_adds_108 : List.getD tX10_adds 108 x_bad = x_ii (fun a b => a + b) := rfl
theorem kX10_adds_109 : List.getD tX10_adds 109 x_bad = x_putI 10 9 := rfl
theorem kX10_adds_112 : List.getD tX10_adds 112 x_bad = x_vret := rfl
def tX10_alone : List PT := [x_push (.int (nI 0)) 1, x_istore 2 1, x_push (.int (nI 0)) 1, x_istore 3 1, x_iload 3 1, x_aload 0 1, x_getI 10 9, x_bad, x_bad, x_icmp (fun a b => b ≤ a) 45, x_bad, x_bad, x_iload 2 1, x_aload 0 1, x_getR 10 13, x_bad, x_bad, x_iload 3 1, x_iald, x_push (.int (nI 1)) 1, x_icmpn (fun a b => a = b) 36, x_bad, x_bad, x_aload 0 1, x_iload 1 1, x_iload 3 1, x_callV2 10 mX10_solves, x_bad, x_bad, x_if (fun a => a = 0) 36, x_bad, x_bad, x_push (.int (nI 1)) 1, x_goto 37, x_bad, x_bad, x_push (.int (nI 0)) 1, x_ii (fun a b => a + b), x_istore 2 1, x_iinc 3 (nI 1), x_bad, x_bad, x_goto 4, x_bad, x_bad, x_iload 2 1, x_iret]
set_option maxRecDepth 20000 in
theorem okX10_alone : SndT RX10 cX10_alone mX10_alone.2.2.1 mX10_alone.2.2.2.2.1 mX10_alone.2.2.2.2.2 false mX10_alone.2.2.2.1 0 tX10_alone := ⟨s_iconst (n := 0) (by decide +kernel) (by decide +kernel), s_istore_n (k := 2) (i := 2) (by decide +kernel) rfl (by decide), s_iconst (n := 0) (by decide +kernel) (by decide +kernel), s_istore_n (k := 3) (i := 3) (by decide +kernel) rfl (by decide), s_iload_n (k := 3) (i := 3) (by decide +kernel) rfl, s_aload_n (k := 0) (i := 0) (by decide +kernel) rfl, s_getI (by decide +kernel) fl_RX10_103 rfl, s_bad, s_bad, s_icmp_ge (off := 36) (by decide +kernel) (by decide), s_bad, s_bad, s_iload_n (k := 2) (i := 2) (by decide +kernel) rfl, s_aload_n (k := 0) (i := 0) (by decide +kernel) rfl, s_getR (by decide +kernel) fl_RX10_35 rfl, s_bad, s_bad, s_iload_n (k := 3) (i := 3) (by decide +kernel) rfl, s_iald (by decide +kernel), s_iconst (n := 1) (by decide +kernel) (by decide +kernel), s_icmp_ne (off := 16) (by decide +kernel) (by decide), s_bad, s_bad, s_aload_n (k := 0) (i := 0) (by decide +kernel) rfl, s_iload_n (k := 1) (i := 1) (by decide +kernel) rfl, s_iload_n (k := 3) (i := 3) (by decide +kernel) rfl, s_callV2 (by decide +kernel) lv_RX10_106 ⟨by decide, by decide⟩, s_bad, s_bad, s_if_eq (off := 7) (by decide +kernel) (by decide), s_bad, s_bad, s_iconst (n := 1) (by decide +kernel) (by decide +kernel), s_goto (off := 4) (by decide +kernel) (by decide), s_bad, s_bad, s_iconst (n := 0) (by decide +kernel) (by decide +kernel), s_iadd (by decide +kernel), s_istore_n (k := 2) (i := 2) (by decide +kernel) rfl (by decide), s_iinc (n := 1) (by decide +kernel) (by decide +kernel) (by decide), s_bad, s_bad, s_goto (off := (-38)) (by decide +kernel) (by decide), s_bad, s_bad, s_iload_n (k := 2) (i := 2) (by decide +kernel) rfl, s_iret (by decide +kernel) rfl, trivial⟩
theorem kX10_alone_0 : List.getD tX10_alone 0 x_bad = x_push (.int (nI 0)) 1 := rfl
theorem kX10_alone_1 : List.getD tX10_alone 1 x_bad = x_istore 2 1 := rfl
theorem kX10_alone_2 : List.getD tX10_alone 2 x_bad = x_push (.int (nI 0)) 1 := rfl
theorem kX10_alone_3 : List.getD tX10_alone 3 x_bad = x_istore 3 1 := rfl
theorem kX10_alone_4 : List.getD tX10_alone 4 x_bad = x_iload 3 1 := rfl
theorem kX10_alone_5 : List.getD tX10_alone 5 x_bad = x_aload 0 1 := rfl
theorem kX10_alone_6 : List.getD tX10_alone 6 x_bad = x_getI 10 9 := rfl
theorem kX10_alone_9 : List.getD tX10_alone 9 x_bad = x_icmp (fun a b => b ≤ a) 45 := rfl
theorem kX10_alone_12 : List.getD tX10_alone 12 x_bad = x_iload 2 1 := rfl
theorem kX10_alone_13 : List.getD tX10_alone 13 x_bad = x_aload 0 1 := rfl
theorem kX10_alone_14 : List.getD tX10_alone 14 x_bad = x_getR 10 13 := rfl
theorem kX10_alone_17 : List.getD tX10_alone 17 x_bad = x_iload 3 1 := rfl
theorem kX10_alone_18 : List.getD tX10_alone 18 x_bad = x_iald := rfl
theorem kX10_alone_19 : List.getD tX10_alone 19 x_bad = x_push (.int (nI 1)) 1 := rfl
theorem kX10_alone_20 : List.getD tX10_alone 20 x_bad = x_icmpn (fun a b => a = b) 36 := rfl
theorem kX10_alone_23 : List.getD tX10_alone 23 x_bad = x_aload 0 1 := rfl
theorem kX10_alone_24 : List.getD tX10_alone 24 x_bad = x_iload 1 1 := rfl
theorem kX10_alone_25 : List.getD tX10_alone 25 x_bad = x_iload 3 1 := rfl
theorem kX10_alone_26 : List.getD tX10_alone 26 x_bad = x_callV2 10 mX10_solves := rfl
theorem kX10_alone_29 : List.getD tX10_alone 29 x_bad = x_if (fun a => a = 0) 36 := rfl
theorem kX10_alone_32 : List.getD tX10_alone 32 x_bad = x_push (.int (nI 1)) 1 := rfl
theorem kX10_alone_33 : List.getD tX10_alone 33 x_bad = x_goto 37 := rfl
theorem kX10_alone_36 : List.getD tX10_alone 36 x_bad = x_push (.int (nI 0)) 1 := rfl
theorem kX10_alone_37 : List.getD tX10_alone 37 x_bad = x_ii (fun a b => a + b) := rfl
theorem kX10_alone_38 : List.getD tX10_alone 38 x_bad = x_istore 2 1 := rfl
theorem kX10_alone_39 : List.getD tX10_alone 39 x_bad = x_iinc 3 (nI 1) := rfl
theorem kX10_alone_42 : List.getD tX10_alone 42 x_bad = x_goto 4 := rfl
theorem kX10_alone_45 : List.getD tX10_alone 45 x_bad = x_iload 2 1 := rfl
theorem kX10_alone_46 : List.getD tX10_alone 46 x_bad = x_iret := rfl
def tX10_count : List PT := [x_iload 1 1, x_tsw [44, 51, 58, 63, 68, 76, 81] 86, x_bad, x_bad, x_bad, x_bad, x_bad, x_bad, x_bad, x_bad, x_bad, x_bad, x_bad, x_bad, x_bad, x_bad, x_bad, x_bad, x_bad, x_bad, x_bad, x_bad, x_bad, x_bad, x_bad, x_bad, x_bad, x_bad, x_bad, x_bad, x_bad, x_bad, x_bad, x_bad, x_bad, x_bad, x_bad, x_bad, x_bad, x_bad, x_bad, x_bad, x_bad, x_bad, x_aload 0 1, x_getR 10 0, x_bad, x_bad, x_push (.int (nI 0)) 1, x_iald, x_iret, x_aload 0 1, x_getR 10 0, x_bad, x_bad, x_push (.int (nI 1)) 1, x_iald, x_iret, x_aload 0 1, x_callV0 10 mX10_usedMany, x_bad, x_bad, x_iret, x_aload 0 1, x_callV0 10 mX10_reachable, x_bad, x_bad, x_iret, x_aload 0 1, x_getR 10 0, x_bad, x_bad, x_push (.int (nI 74)) 2, x_bad, x_iald, x_iret, x_aload 0 1, x_getI 10 25, x_bad, x_bad, x_iret, x_aload 0 1, x_getI 10 1, x_bad, x_bad, x_iret, x_push (.int (-1)) 1, x_iret]
set_option maxRecDepth 20000 in
theorem okX10_count : SndT RX10 cX10_count mX10_count.2.2.1 mX10_count.2.2.2.2.1 mX10_count.2.2.2.2.2 false mX10_count.2.2.2.1 0 tX10_count := ⟨s_iload_n (k := 1) (i := 1) (by decide +kernel) rfl, s_tsw (dflt := 85) (hi := 6) (offs := #[43, 50, 57, 62, 67, 75, 80]) (len := 43) (by decide +kernel) (by decide) (by decide) (by decide) (by decide), s_bad, s_bad, s_bad, s_bad, s_bad, s_bad, s_bad, s_bad, s_bad, s_bad, s_bad, s_bad, s_bad, s_bad, s_bad, s_bad, s_bad, s_bad, s_bad, s_bad, s_bad, s_bad, s_bad, s_bad, s_bad, s_bad, s_bad, s_bad, s_bad, s_bad, s_bad, s_bad, s_bad, s_bad, s_bad, s_bad, s_bad, s_bad, s_bad, s_bad, s_bad, s_bad, s_aload_n (k := 0) (i := 0) (by decide +kernel) rfl, s_getR (by decide +kernel) fl_RX10_7 rfl, s_bad, s_bad, s_iconst (n := 0) (by decide +kernel) (by decide +kernel), s_iald (by decide +kernel), s_iret (by decide +kernel) rfl, s_aload_n (k := 0) (i := 0) (by decide +kernel) rfl, s_getR (by decide +kernel) fl_RX10_7 rfl, s_bad, s_bad, s_iconst (n := 1) (by decide +kernel) (by decide +kernel), s_iald (by decide +kernel), s_iret (by decide +kernel) rfl, s_aload_n (k := 0) (i := 0) (by decide +kernel) rfl, s_callV0 (by decide +kernel) lv_RX10_253 ⟨by decide, by decide⟩, s_bad, s_bad, s_iret (by decide +kernel) rfl, s_aload_n (k := 0) (i := 0) (by decide +kernel) rfl, s_callV0 (by decide +kernel) lv_RX10_256 ⟨by decide, by decide⟩, s_bad, s_bad, s_iret (by decide +kernel) rfl, s_aload_n (k := 0) (i := 0) (by decide +kernel) rfl, s_getR (by decide +kernel) fl_RX10_7 rfl, s_bad, s_bad, s_bipush (n := 74) (by decide +kernel) (by decide +kernel), s_bad, s_iald (by decide +kernel), s_iret (by decide +kernel) rfl, s_aload_n (k := 0) (i := 0) (by decide +kernel) rfl, s_getI (by decide +kernel) fl_RX10_173 rfl, s_bad, s_bad, s_iret (by decide +kernel) rfl, s_aload_n (k := 0) (i := 0) (by decide +kernel) rfl, s_getI (by decide +kernel) fl_RX10_63 rfl, s_bad, s_bad, s_iret (by decide +kernel) rfl, s_iconst (n := (-1)) (by decide +kernel) (by decide +kernel), s_iret (by decide +kernel) rfl, trivial⟩
theorem kX10_count_0 : List.getD tX10_count 0 x_bad = x_iload 1 1 := rfl
theorem kX10_count_1 : List.getD tX10_count 1 x_bad = x_tsw [44, 51, 58, 63, 68, 76, 81] 86 := rfl
theorem kX10_count_44 : List.getD tX10_count 44 x_bad = x_aload 0 1 := rfl
theorem kX10_count_45 : List.getD tX10_count 45 x_bad = x_getR 10 0 := rfl
theorem kX10_count_48 : List.getD tX10_count 48 x_bad = x_push (.int (nI 0)) 1 := rfl
theorem kX10_count_49 : List.getD tX10_count 49 x_bad = x_iald := rfl
theorem kX10_count_50 : List.getD tX10_count 50 x_bad = x_iret := rfl
theorem kX10_count_51 : List.getD tX10_count 51 x_bad = x_aload 0 1 := rfl
theorem kX10_count_52 : List.getD tX10_count 52 x_bad = x_getR 10 0 := rfl
theorem kX10_count_55 : List.getD tX10_count 55 x_bad = x_push (.int (nI 1)) 1 := rfl
theorem kX10_count_56 : List.getD tX10_count 56 x_bad = x_iald := rfl
theorem kX10_count_57 : List.getD tX10_count 57 x_bad = x_iret := rfl
theorem kX10_count_58 : List.getD tX10_count 58 x_bad = x_aload 0 1 := rfl
theorem kX10_count_59 : List.getD tX10_count 59 x_bad = x_callV0 10 mX10_usedMany := rfl
theorem kX10_count_62 : List.getD tX10_count 62 x_bad = x_iret := rfl
theorem kX10_count_63 : List.getD tX10_count 63 x_bad = x_aload 0 1 := rfl
theorem kX10_count_64 : List.getD tX10_count 64 x_bad = x_callV0 10 mX10_reachable := rfl
theorem kX10_count_67 : List.getD tX10_count 67 x_bad = x_iret := rfl
theorem kX10_count_68 : List.getD tX10_count 68 x_bad = x_aload 0 1 := rfl
theorem kX10_count_69 : List.getD tX10_count 69 x_bad = x_getR 10 0 := rfl
theorem kX10_count_72 : List.getD tX10_count 72 x_bad = x_push (.int (nI 74)) 2 := rfl
theorem kX10_count_74 : List.getD tX10_count 74 x_bad = x_iald := rfl
theorem kX10_count_75 : List.getD tX10_count 75 x_bad = x_iret := rfl
theorem kX10_count_76 : List.getD tX10_count 76 x_bad = x_aload 0 1 := rfl
theorem kX10_count_77 : List.getD tX10_count 77 x_bad = x_getI 10 25 := rfl
theorem kX10_count_80 : List.getD tX10_count 80 x_bad = x_iret := rfl
theorem kX10_count_81 : List.getD tX10_count 81 x_bad = x_aload 0 1 := rfl
theorem kX10_count_82 : List.getD tX10_count 82 x_bad = x_getI 10 1 := rfl
theorem kX10_count_85 : List.getD tX10_count 85 x_bad = x_iret := rfl
theorem kX10_count_86 : List.getD tX10_count 86 x_bad = x_push (.int (-1)) 1 := rfl
theorem kX10_count_87 : List.getD tX10_count 87 x_bad = x_iret := rfl
def tX10_counts : List PT := [x_push (.int (nI 0)) 1, x_istore 3 1, x_iload 3 1, x_aload 0 1, x_getI 10 9, x_bad, x_bad, x_icmp (fun a b => b ≤ a) 39, x_bad, x_bad, x_aload 0 1, x_getR 10 13, x_bad, x_bad, x_iload 3 1, x_dup2, x_iald, x_aload 0 1, x_iload 1 1, x_iload 3 1, x_callV2 10 mX10_solves, x_bad, x_bad, x_if (fun a => a = 0) 30, x_bad, x_bad, x_iload 2 1, x_goto 31, x_bad, x_bad, x_push (.int (nI 0)) 1, x_ii (fun a b => a + b), x_iast, x_iinc 3 (nI 1), x_bad, x_bad, x_goto 2, x_bad, x_bad, x_vret]
set_option maxRecDepth 20000 in
theorem okX10_counts : SndT RX10 cX10_counts mX10_counts.2.2.1 mX10_counts.2.2.2.2.1 mX10_counts.2.2.2.2.2 false mX10_counts.2.2.2.1 0 tX10_counts := ⟨s_iconst (n := 0) (by decide +kernel) (by decide +kernel), s_istore_n (k := 3) (i := 3) (by decide +kernel) rfl (by decide), s_iload_n (k := 3) (i := 3) (by decide +kernel) rfl, s_aload_n (k := 0) (i := 0) (by decide +kernel) rfl, s_getI (by decide +kernel) fl_RX10_103 rfl, s_bad, s_bad, s_icmp_ge (off := 32) (by decide +kernel) (by decide), s_bad, s_bad, s_aload_n (k := 0) (i := 0) (by decide +kernel) rfl, s_getR (by decide +kernel) fl_RX10_35 rfl, s_bad, s_bad, s_iload_n (k := 3) (i := 3) (by decide +kernel) rfl, s_dup2 (by decide +kernel), s_iald (by decide +kernel), s_aload_n (k := 0) (i := 0) (by decide +kernel) rfl, s_iload_n (k := 1) (i := 1) (by decide +kernel) rfl, s_iload_n (k := 3) (i := 3) (by decide +kernel) rfl, s_callV2 (by decide +kernel) lv_RX10_106 ⟨by decide, by decide⟩, s_bad, s_bad, s_if_eq (off := 7) (by decide +kernel) (by decide), s_bad, s_bad, s_iload_n (k := 2) (i := 2) (by decide +kernel) rfl, s_goto (off := 4) (by decide +kernel) (by decide), s_bad, s_bad, s_iconst (n := 0) (by decide +kernel) (by decide +kernel), s_iadd (by decide +kernel), s_iast (by decide +kernel), s_iinc (n := 1) (by decide +kernel) (by decide +kernel) (by decide), s_bad, s_bad, s_goto (off := (-34)) (by decide +kernel) (by decide), s_bad, s_bad, s_vret (by decide +kernel) rfl, trivial⟩
theorem kX10_counts_0 : List.getD tX10_counts 0 x_bad = x_push (.int (nI 0)) 1 := rfl
theorem kX10_counts_1 : List.getD tX10_counts 1 x_bad = x_istore 3 1 := rfl
theorem kX10_counts_2 : List.getD tX10_counts 2 x_bad = x_iload 3 1 := rfl
theorem kX10_counts_3 : List.getD tX10_counts 3 x_bad = x_aload 0 1 := rfl
theorem kX10_counts_4 : List.getD tX10_counts 4 x_bad = x_getI 10 9 := rfl
theorem kX10_counts_7 : List.getD tX10_counts 7 x_bad = x_icmp (fun a b => b ≤ a) 39 := rfl
theorem kX10_counts_10 : List.getD tX10_counts 10 x_bad = x_aload 0 1 := rfl
theorem kX10_counts_11 : List.getD tX10_counts 11 x_bad = x_getR 10 13 := rfl
theorem kX10_counts_14 : List.getD tX10_counts 14 x_bad = x_iload 3 1 := rfl
theorem kX10_counts_15 : List.getD tX10_counts 15 x_bad = x_dup2 := rfl
theorem kX10_counts_16 : List.getD tX10_counts 16 x_bad = x_iald := rfl
theorem kX10_counts_17 : List.getD tX10_counts 17 x_bad = x_aload 0 1 := rfl
theorem kX10_counts_18 : List.getD tX10_counts 18 x_bad = x_iload 1 1 := rfl
theorem kX10_counts_19 : List.getD tX10_counts 19 x_bad = x_iload 3 1 := rfl
theorem kX10_counts_20 : List.getD tX10_counts 20 x_bad = x_callV2 10 mX10_solves := rfl
theorem kX10_counts_23 : List.getD tX10_counts 23 x_bad = x_if (fun a => a = 0) 30 := rfl
theorem kX10_counts_26 : List.getD tX10_counts 26 x_bad = x_iload 2 1 := rfl
theorem kX10_counts_27 : List.getD tX10_counts 27 x_bad = x_goto 31 := rfl
theorem kX10_counts_30 : List.getD tX10_counts 30 x_bad = x_push (.int (nI 0)) 1 := rfl
theorem kX10_counts_31 : List.getD tX10_counts 31 x_bad = x_ii (fun a b => a + b) := rfl
theorem kX10_counts_32 : List.getD tX10_counts 32 x_bad = x_iast := rfl
theorem kX10_counts_33 : List.getD tX10_counts 33 x_bad = x_iinc 3 (nI 1) := rfl
theorem kX10_counts_36 : List.getD tX10_counts 36 x_bad = x_goto 2 := rfl
theorem kX10_counts_39 : List.getD tX10_counts 39 x_bad = x_vret := rfl
def tX10_enabled : List PT := [x_push (.int (nI 0)) 1, x_istore 1 1, x_push (.int (nI 0)) 1, x_istore 2 1, x_iload 2 1, x_push (.int (nI 8)) 2, x_bad, x_icmp (fun a b => b ≤ a) 45, x_bad, x_bad, x_iload 1 1, x_aload 0 1, x_iload 2 1, x_aload 0 1, x_push (.int (nI 0)) 1, x_callV1 10 mX10_marked, x_bad, x_bad, x_aload 0 1, x_push (.int (nI 64)) 2, x_bad, x_callV1 10 mX10_marked, x_bad, x_bad, x_callV3 10 mX10_canOccur, x_bad, x_bad, x_if (fun a => a = 0) 36, x_bad, x_bad, x_push (.int (nI 1)) 1, x_iload 2 1, x_ii (fun a b => a <<< (b &&& 31)), x_goto 37, x_bad, x_bad, x_push (.int (nI 0)) 1, x_ii (fun a b => a ||| b), x_istore 1 1, x_iinc 2 (nI 1), x_bad, x_bad, x_goto 4, x_bad, x_bad, x_iload 1 1, x_iret]
set_option maxRecDepth 20000 in
theorem okX10_enabled : SndT RX10 cX10_enabled mX10_enabled.2.2.1 mX10_enabled.2.2.2.2.1 mX10_enabled.2.2.2.2.2 false mX10_enabled.2.2.2.1 0 tX10_enabled := ⟨s_iconst (n := 0) (by decide +kernel) (by decide +kernel), s_istore_n (k := 1) (i := 1) (by decide +kernel) rfl (by decide), s_iconst (n := 0) (by decide +kernel) (by decide +kernel), s_istore_n (k := 2) (i := 2) (by decide +kernel) rfl (by decide), s_iload_n (k := 2) (i := 2) (by decide +kernel) rfl, s_bipush (n := 8) (by decide +kernel) (by decide +kernel), s_bad, s_icmp_ge (off := 38) (by decide +kernel) (by decide), s_bad, s_bad, s_iload_n (k := 1) (i := 1) (by decide +kernel) rfl, s_aload_n (k := 0) (i := 0) (by decide +kernel) rfl, s_iload_n (k := 2) (i := 2) (by decide +kernel) rfl, s_aload_n (k := 0) (i := 0) (by decide +kernel) rfl, s_iconst (n := 0) (by decide +kernel) (by decide +kernel), s_callV1 (by decide +kernel) lv_RX10_243 ⟨by decide, by decide⟩, s_bad, s_bad, s_aload_n (k := 0) (i := 0) (by decide +kernel) rfl, s_bipush (n := 64) (by decide +kernel) (by decide +kernel), s_bad, s_callV1 (by decide +kernel) lv_RX10_243 ⟨by decide, by decide⟩, s_bad, s_bad, s_callV3 (by decide +kernel) lv_RX10_148 ⟨by decide, by decide⟩, s_bad, s_bad, s_if_eq (off := 9) (by decide +kernel) (by decide), s_bad, s_bad, s_iconst (n := 1) (by decide +kernel) (by decide +kernel), s_iload_n (k := 2) (i := 2) (by decide +kernel) rfl, s_ishl (by decide +kernel), s_goto (off := 4) (by decide +kernel) (by decide), s_bad, s_bad, s_iconst (n := 0) (by decide +kernel) (by decide +kernel), s_ior (by decide +kernel), s_istore_n (k := 1) (i := 1) (by decide +kernel) rfl (by decide), s_iinc (n := 1) (by decide +kernel) (by decide +kernel) (by decide), s_bad, s_bad, s_goto (off := (-38)) (by decide +kernel) (by decide), s_bad, s_bad, s_iload_n (k := 1) (i := 1) (by decide +kernel) rfl, s_iret (by decide +kernel) rfl, trivial⟩
theorem kX10_enabled_0 : List.getD tX10_enabled 0 x_bad = x_push (.int (nI 0)) 1 := rfl
theorem kX10_enabled_1 : List.getD tX10_enabled 1 x_bad = x_istore 1 1 := rfl
theorem kX10_enabled_2 : List.getD tX10_enabled 2 x_bad = x_push (.int (nI 0)) 1 := rfl
theorem kX10_enabled_3 : List.getD tX10_enabled 3 x_bad = x_istore 2 1 := rfl
theorem kX10_enabled_4 : List.getD tX10_enabled 4 x_bad = x_iload 2 1 := rfl
theorem kX10_enabled_5 : List.getD tX10_enabled 5 x_bad = x_push (.int (nI 8)) 2 := rfl
theorem kX10_enabled_7 : List.getD tX10_enabled 7 x_bad = x_icmp (fun a b => b ≤ a) 45 := rfl
theorem kX10_enabled_10 : List.getD tX10_enabled 10 x_bad = x_iload 1 1 := rfl
theorem kX10_enabled_11 : List.getD tX10_enabled 11 x_bad = x_aload 0 1 := rfl
theorem kX10_enabled_12 : List.getD tX10_enabled 12 x_bad = x_iload 2 1 := rfl
theorem kX10_enabled_13 : List.getD tX10_enabled 13 x_bad = x_aload 0 1 := rfl
theorem kX10_enabled_14 : List.getD tX10_enabled 14 x_bad = x_push (.int (nI 0)) 1 := rfl
theorem kX10_enabled_15 : List.getD tX10_enabled 15 x_bad = x_callV1 10 mX10_marked := rfl
theorem kX10_enabled_18 : List.getD tX10_enabled 18 x_bad = x_aload 0 1 := rfl
theorem kX10_enabled_19 : List.getD tX10_enabled 19 x_bad = x_push (.int (nI 64)) 2 := rfl
theorem kX10_enabled_21 : List.getD tX10_enabled 21 x_bad = x_callV1 10 mX10_marked := rfl
theorem kX10_enabled_24 : List.getD tX10_enabled 24 x_bad = x_callV3 10 mX10_canOccur := rfl
theorem kX10_enabled_27 : List.getD tX10_enabled 27 x_bad = x_if (fun a => a = 0) 36 := rfl
theorem kX10_enabled_30 : List.getD tX10_enabled 30 x_bad = x_push (.int (nI 1)) 1 := rfl
theorem kX10_enabled_31 : List.getD tX10_enabled 31 x_bad = x_iload 2 1 := rfl
theorem kX10_enabled_32 : List.getD tX10_enabled 32 x_bad = x_ii (fun a b => a <<< (b &&& 31)) := rfl
theorem kX10_enabled_33 : List.getD tX10_enabled 33 x_bad = x_goto 37 := rfl
theorem kX10_enabled_36 : List.getD tX10_enabled 36 x_bad = x_push (.int (nI 0)) 1 := rfl
theorem kX10_enabled_37 : List.getD tX10_enabled 37 x_bad = x_ii (fun a b => a ||| b) := rfl
theorem kX10_enabled_38 : List.getD tX10_enabled 38 x_bad = x_istore 1 1 := rfl
theorem kX10_enabled_39 : List.getD tX10_enabled 39 x_bad = x_iinc 2 (nI 1) := rfl
theorem kX10_enabled_42 : List.getD tX10_enabled 42 x_bad = x_goto 4 := rfl
theorem kX10_enabled_45 : List.getD tX10_enabled 45 x_bad = x_iload 1 1 := rfl
theorem kX10_enabled_46 : List.getD tX10_enabled 46 x_bad = x_iret := rfl
def tX10_explores : List PT := [x_aload 0 1, x_getR 10 16, x_bad, x_bad, x_push (.int (nI 0)) 1, x_push (.long 0) 1, x_last, x_aload 0 1, x_getR 10 17, x_bad, x_bad, x_push (.int (nI 0)) 1, x_push (.long 0) 1, x_last, x_push (.int (nI 0)) 1, x_istore 1 1, x_iload 1 1, x_aload 0 1, x_getI 10 12, x_bad, x_bad, x_icmp (fun a b => b ≤ a) 87, x_bad, x_bad, x_aload 0 1, x_getR 10 11, x_bad, x_bad, x_iload 1 1, x_iald, x_push (.int (nI 1)) 1, x_ii (fun a b => a &&& b), x_i2l, x_lstore 2 1, x_aload 0 1, x_getR 10 16, x_bad, x_bad, x_push (.int (nI 0)) 1, x_dup2, x_lald, x_iload 1 1, x_push (.int (nI 64)) 2, x_bad, x_icmp (fun a b => b ≤ a) 53, x_bad, x_bad, x_lload 2 1, x_iload 1 1, x_li (fun a b => a <<< (b.toInt64 &&& 63)), x_goto 54, x_bad, x_bad, x_push (.long 0) 1, x_ll (fun a b => a ||| b), x_last, x_aload 0 1, x_getR 10 17, x_bad, x_bad, x_push (.int (nI 0)) 1, x_dup2, x_lald, x_iload 1 1, x_push (.int (nI 64)) 2, x_bad, x_icmp (fun a b => b ≤ a) 73, x_bad, x_bad, x_push (.long 0) 1, x_goto 79, x_bad, x_bad, x_lload 2 1, x_iload 1 1, x_push (.int (nI 64)) 2, x_bad, x_ii (fun a b => a - b), x_li (fun a b => a <<< (b.toInt64 &&& 63)), x_ll (fun a b => a ||| b), x_last, x_iinc 1 (nI 1), x_bad, x_bad, x_goto 16, x_bad, x_bad, x_push (.int (nI 0)) 1, x_istore 1 1, x_iload 1 1, x_push (.int (nI 10)) 2, x_bad, x_icmp (fun a b => b ≤ a) 109, x_bad, x_bad, x_aload 0 1, x_getR 10 23, x_bad, x_bad, x_iload 1 1, x_push (.int (-9)) 2, x_bad, x_iast, x_iinc 1 (nI 1), x_bad, x_bad, x_goto 89, x_bad, x_bad, x_aload 0 1, x_push (.int (nI 1)) 1, x_putI 10 18, x_bad, x_bad, x_aload 0 1, x_push (.int (nI 0)) 1, x_putI 10 19, x_bad, x_bad, x_aload 0 1, x_push (.int (nI 0)) 1, x_putI 10 20, x_bad, x_bad, x_aload 0 1, x_push (.int (nI 1)) 1, x_putZ 10 21, x_bad, x_bad, x_aload 0 1, x_getR 10 22, x_bad, x_bad, x_push (.int (nI 0)) 1, x_push (.int (nI 0)) 1, x_iast, x_aload 0 1, x_getR 10 23, x_bad, x_bad, x_push (.int (nI 0)) 1, x_push (.int (nI 0)) 1, x_iast, x_push (.int (nI 0)) 1, x_istore 1 1, x_iload 1 1, x_aload 0 1, x_getI 10 18, x_bad, x_bad, x_icmp (fun a b => b ≤ a) 307, x_bad, x_bad, x_aload 0 1, x_getI 10 18, x_bad, x_bad, x_push (.int (nI 100)) 2, x_bad, x_icmp (fun a b => b < a) 307, x_bad, x_bad, x_push (.int (nI 0)) 1, x_istore 2 1, x_push (.int (nI 0)) 1, x_istore 3 1, x_iload 3 1, x_push (.int (nI 8)) 2, x_bad, x_icmp (fun a b => b ≤ a) 273, x_bad, x_bad, x_aload 0 1, x_getI 10 18, x_bad, x_bad, x_push (.int (nI 100)) 2, x_bad, x_icmp (fun a b => b < a) 273, x_bad, x_bad, x_aload 0 1, x_iload 3 1, x_aload 0 1, x_getR 10 16, x_bad, x_bad, x_iload 1 1, x_lald, x_aload 0 1, x_getR 10 17, x_bad, x_bad, x_iload 1 1, x_lald, x_callV3 10 mX10_canOccur, x_bad, x_bad, x_istore 4 2, x_bad, x_aload 0 1, x_aload 0 1, x_getI 10 21, x_bad, x_bad, x_if (fun a => a = 0) 249, x_bad, x_bad, x_aload 0 1, x_getR 10 22, x_bad, x_bad, x_iload 1 1, x_iald, x_push (.int (-9)) 2, x_bad, x_icmp (fun a b => a = b) 249, x_bad, x_bad, x_iload 4 2, x_bad, x_aload 0 1, x_aload 0 1, x_getR 10 22, x_bad, x_bad, x_iload 1 1, x_iald, x_iload 3 1, x_callV2 10 mX10_leads, x_bad, x_bad, x_push (.int (-9)) 2, x_bad, x_icmp (fun a b => a = b) 241, x_bad, x_bad, x_push (.int (nI 1)) 1, x_goto 242, x_bad, x_bad, x_push (.int (nI 0)) 1, x_icmpn (fun a b => a = b) 249, x_bad, x_bad, x_push (.int (nI 1)) 1, x_goto 250, x_bad, x_bad, x_push (.int (nI 0)) 1, x_putZ 10 21, x_bad, x_bad, x_iload 4 2, x_bad, x_if (fun a => a = 0) 267, x_bad, x_bad, x_aload 0 1, x_iload 1 1, x_iload 3 1, x_callV2 10 mX10_follows, x_bad, x_bad, x_iinc 2 (nI 1), x_bad, x_bad, x_iinc 3 (nI 1), x_bad, x_bad, x_goto 166, x_bad, x_bad, x_aload 0 1, x_dup, x_getI 10 19, x_bad, x_bad, x_iload 2 1, x_ii (fun a b => a + b), x_putI 10 19, x_bad, x_bad, x_aload 0 1, x_dup, x_getI 10 20, x_bad, x_bad, x_iload 2 1, x_ifn (fun a => a = 0) 296, x_bad, x_bad, x_push (.int (nI 1)) 1, x_goto 297, x_bad, x_bad, x_push (.int (nI 0)) 1, x_ii (fun a b => a + b), x_putI 10 20, x_bad, x_bad, x_iinc 1 (nI 1), x_bad, x_bad, x_goto 145, x_bad, x_bad, x_vret]
set_option maxRecDepth 20000 in
theorem okX10_explores : SndT RX10 cX10_explores mX10_explores.2.2.1 mX10_explores.2.2.2.2.1 mX10_explores.2.2.2.2.2 false mX10_explores.2.2.2.1 0 tX10_explores := ⟨s_aload_n (k := 0) (i := 0) (by decide +kernel) rfl, s_getR (by decide +kernel) fl_RX10_45 rfl, s_bad, s_bad, s_iconst (n := 0) (by decide +kernel) (by decide +kernel), s_lconst (n := 0) (by decide +kernel) (by decide +kernel), s_last (by decide +kernel), s_aload_n (k := 0) (i := 0) (by decide +kernel) rfl, s_getR (by decide +kernel) fl_RX10_48 rfl, s_bad, s_bad, s_iconst (n := 0) (by decide +kernel) (by decide +kernel), s_lconst (n := 0) (by decide +kernel) (by decide +kernel), s_last (by decide +kernel), s_iconst (n := 0) (by decide +kernel) (by decide +kernel), s_istore_n (k := 1) (i := 1) (by decide +kernel) rfl (by decide), s_iload_n (k := 1) (i := 1) (by decide +kernel) rfl, s_aload_n (k := 0) (i := 0) (by decide +kernel) rfl, s_getI (by decide +kernel) fl_RX10_117 rfl, s_bad, s_bad, s_icmp_ge (off := 66) (by decide +kernel) (by decide), s_bad, s_bad, s_aload_n (k := 0) (i := 0) (by decide +kernel) rfl, s_getR (by decide +kernel) fl_RX10_32 rfl, s_bad, s_bad, s_iload_n (k := 1) (i := 1) (by decide +kernel) rfl, s_iald (by decide +kernel), s_iconst (n := 1) (by decide +kernel) (by decide +kernel), s_iand (by decide +kernel), s_i2l (by decide +kernel), s_lstore_n (k := 2) (i := 2) (by decide +kernel) rfl (by decide), s_aload_n (k := 0) (i := 0) (by decide +kernel) rfl, s_getR (by decide +kernel) fl_RX10_45 rfl, s_bad, s_bad, s_iconst (n := 0) (by decide +kernel) (by decide +kernel), s_dup2 (by decide +kernel), s_lald (by decide +kernel), s_iload_n (k := 1) (i := 1) (by decide +kernel) rfl, s_bipush (n := 64) (by decide +kernel) (by decide +kernel), s_bad, s_icmp_ge (off := 9) (by decide +kernel) (by decide), s_bad, s_bad, s_lload_n (k := 2) (i := 2) (by decide +kernel) rfl, s_iload_n (k := 1) (i := 1) (by decide +kernel) rfl, s_lshl (by decide +kernel), s_goto (off := 4) (by decide +kernel) (by decide), s_bad, s_bad, s_lconst (n := 0) (by decide +kernel) (by decide +kernel), s_lor (by decide +kernel), s_last (by decide +kernel), s_aload_n (k := 0) (i := 0) (by decide +kernel) rfl, s_getR (by decide +kernel) fl_RX10_48 rfl, s_bad, s_bad, s_iconst (n := 0) (by decide +kernel) (by decide +kernel), s_dup2 (by decide +kernel), s_lald (by decide +kernel), s_iload_n (k := 1) (i := 1) (by decide +kernel) rfl, s_bipush (n := 64) (by decide +kernel) (by decide +kernel), s_bad, s_icmp_ge (off := 7) (by decide +kernel) (by decide), s_bad, s_bad, s_lconst (n := 0) (by decide +kernel) (by decide +kernel), s_goto (off := 9) (by decide +kernel) (by decide), s_bad, s_bad, s_lload_n (k := 2) (i := 2) (by decide +kernel) rfl, s_iload_n (k := 1) (i := 1) (by decide +kernel) rfl, s_bipush (n := 64) (by decide +kernel) (by decide +kernel), s_bad, s_isub (by decide +kernel), s_lshl (by decide +kernel), s_lor (by decide +kernel), s_last (by decide +kernel), s_iinc (n := 1) (by decide +kernel) (by decide +kernel) (by decide), s_bad, s_bad, s_goto (off := (-68)) (by decide +kernel) (by decide), s_bad, s_bad, s_iconst (n := 0) (by decide +kernel) (by decide +kernel), s_istore_n (k := 1) (i := 1) (by decide +kernel) rfl (by decide), s_iload_n (k := 1) (i := 1) (by decide +kernel) rfl, s_bipush (n := 10) (by decide +kernel) (by decide +kernel), s_bad, s_icmp_ge (off := 17) (by decide +kernel) (by decide), s_bad, s_bad, s_aload_n (k := 0) (i := 0) (by decide +kernel) rfl, s_getR (by decide +kernel) fl_RX10_54 rfl, s_bad, s_bad, s_iload_n (k := 1) (i := 1) (by decide +kernel) rfl, s_bipush (n := (-9)) (by decide +kernel) (by decide +kernel), s_bad, s_iast (by decide +kernel), s_iinc (n := 1) (by decide +kernel) (by decide +kernel) (by decide), s_bad, s_bad, s_goto (off := (-17)) (by decide +kernel) (by decide), s_bad, s_bad, s_aload_n (k := 0) (i := 0) (by decide +kernel) rfl, s_iconst (n := 1) (by decide +kernel) (by decide +kernel), s_putI (by decide +kernel) fl_RX10_131 fp_10_18 rfl, s_bad, s_bad, s_aload_n (k := 0) (i := 0) (by decide +kernel) rfl, s_iconst (n := 0) (by decide +kernel) (by decide +kernel), s_putI (by decide +kernel) fl_RX10_142 fp_10_19 rfl, s_bad, s_bad, s_aload_n (k := 0) (i := 0) (by decide +kernel) rfl, s_iconst (n := 0) (by decide +kernel) (by decide +kernel), s_putI (by decide +kernel) fl_RX10_145 fp_10_20 rfl, s_bad, s_bad, s_aload_n (k := 0) (i := 0) (by decide +kernel) rfl, s_iconst (n := 1) (by decide +kernel) (by decide +kernel), s_putZ (by decide +kernel) fl_RX10_138 fp_10_21 rfl, s_bad, s_bad, s_aload_n (k := 0) (i := 0) (by decide +kernel) rfl, s_getR (by decide +kernel) fl_RX10_51 rfl, s_bad, s_bad, s_iconst (n := 0) (by decide +kernel) (by decide +kernel), s_iconst (n := 0) (by decide +kernel) (by decide +kernel), s_iast (by decide +kernel), s_aload_n (k := 0) (i := 0) (by decide +kernel) rfl, s_getR (by decide +kernel) fl_RX10_54 rfl, s_bad, s_bad, s_iconst (n := 0) (by decide +kernel) (by decide +kernel), s_iconst (n := 0) (by decide +kernel) (by decide +kernel), s_iast (by decide +kernel), s_iconst (n := 0) (by decide +kernel) (by decide +kernel), s_istore_n (k := 1) (i := 1) (by decide +kernel) rfl (by decide), s_iload_n (k := 1) (i := 1) (by decide +kernel) rfl, s_aload_n (k := 0) (i := 0) (by decide +kernel) rfl, s_getI (by decide +kernel) fl_RX10_131 rfl, s_bad, s_bad, s_icmp_ge (off := 157) (by decide +kernel) (by decide), s_bad, s_bad, s_aload_n (k := 0) (i := 0) (by decide +kernel) rfl, s_getI (by decide +kernel) fl_RX10_131 rfl, s_bad, s_bad, s_bipush (n := 100) (by decide +kernel) (by decide +kernel), s_bad, s_icmp_gt (off := 148) (by decide +kernel) (by decide), s_bad, s_bad, s_iconst (n := 0) (by decide +kernel) (by decide +kernel), s_istore_n (k := 2) (i := 2) (by decide +kernel) rfl (by decide), s_iconst (n := 0) (by decide +kernel) (by decide +kernel), s_istore_n (k := 3) (i := 3) (by decide +kernel) rfl (by decide), s_iload_n (k := 3) (i := 3) (by decide +kernel) rfl, s_bipush (n := 8) (by decide +kernel) (by decide +kernel), s_bad, s_icmp_ge (off := 104) (by decide +kernel) (by decide), s_bad, s_bad, s_aload_n (k := 0) (i := 0) (by decide +kernel) rfl, s_getI (by decide +kernel) fl_RX10_131 rfl, s_bad, s_bad, s_bipush (n := 100) (by decide +kernel) (by decide +kernel), s_bad, s_icmp_gt (off := 95) (by decide +kernel) (by decide), s_bad, s_bad, s_aload_n (k := 0) (i := 0) (by decide +kernel) rfl, s_iload_n (k := 3) (i := 3) (by decide +kernel) rfl, s_aload_n (k := 0) (i := 0) (by decide +kernel) rfl, s_getR (by decide +kernel) fl_RX10_45 rfl, s_bad, s_bad, s_iload_n (k := 1) (i := 1) (by decide +kernel) rfl, s_lald (by decide +kernel), s_aload_n (k := 0) (i := 0) (by decide +kernel) rfl, s_getR (by decide +kernel) fl_RX10_48 rfl, s_bad, s_bad, s_iload_n (k := 1) (i := 1) (by decide +kernel) rfl, s_lald (by decide +kernel), s_callV3 (by decide +kernel) lv_RX10_148 ⟨by decide, by decide⟩, s_bad, s_bad, s_istore (by decide +kernel) (by decide), s_bad, s_aload_n (k := 0) (i := 0) (by decide +kernel) rfl, s_aload_n (k := 0) (i := 0) (by decide +kernel) rfl, s_getI (by decide +kernel) fl_RX10_138 rfl, s_bad, s_bad, s_if_eq (off := 44) (by decide +kernel) (by decide), s_bad, s_bad, s_aload_n (k := 0) (i := 0) (by decide +kernel) rfl, s_getR (by decide +kernel) fl_RX10_51 rfl, s_bad, s_bad, s_iload_n (k := 1) (i := 1) (by decide +kernel) rfl, s_iald (by decide +kernel), s_bipush (n := (-9)) (by decide +kernel) (by decide +kernel), s_bad, s_icmp_eq (off := 33) (by decide +kernel) (by decide), s_bad, s_bad, s_iload (by decide +kernel), s_bad, s_aload_n (k := 0) (i := 0) (by decide +kernel) rfl, s_aload_n (k := 0) (i := 0) (by decide +kernel) rfl, s_getR (by decide +kernel) fl_RX10_51 rfl, s_bad, s_bad, s_iload_n (k := 1) (i := 1) (by decide +kernel) rfl, s_iald (by decide +kernel), s_iload_n (k := 3) (i := 3) (by decide +kernel) rfl, s_callV2 (by decide +kernel) lv_RX10_114 ⟨by decide, by decide⟩, s_bad, s_bad, s_bipush (n := (-9)) (by decide +kernel) (by decide +kernel), s_bad, s_icmp_eq (off := 7) (by decide +kernel) (by decide), s_bad, s_bad, s_iconst (n := 1) (by decide +kernel) (by decide +kernel), s_goto (off := 4) (by decide +kernel) (by decide), s_bad, s_bad, s_iconst (n := 0) (by decide +kernel) (by decide +kernel), s_icmp_ne (off := 7) (by decide +kernel) (by decide), s_bad, s_bad, s_iconst (n := 1) (by decide +kernel) (by decide +kernel), s_goto (off := 4) (by decide +kernel) (by decide), s_bad, s_bad, s_iconst (n := 0) (by decide +kernel) (by decide +kernel), s_putZ (by decide +kernel) fl_RX10_138 fp_10_21 rfl, s_bad, s_bad, s_iload (by decide +kernel), s_bad, s_if_eq (off := 12) (by decide +kernel) (by decide), s_bad, s_bad, s_aload_n (k := 0) (i := 0) (by decide +kernel) rfl, s_iload_n (k := 1) (i := 1) (by decide +kernel) rfl, s_iload_n (k := 3) (i := 3) (by decide +kernel) rfl, s_callV2 (by decide +kernel) lv_RX10_152 ⟨by decide, by decide⟩, s_bad, s_bad, s_iinc (n := 1) (by decide +kernel) (by decide +kernel) (by decide), s_bad, s_bad, s_iinc (n := 1) (by decide +kernel) (by decide +kernel) (by decide), s_bad, s_bad, s_goto (off := (-104)) (by decide +kernel) (by decide), s_bad, s_bad, s_aload_n (k := 0) (i := 0) (by decide +kernel) rfl, s_dup (by decide +kernel), s_getI (by decide +kernel) fl_RX10_142 rfl, s_bad, s_bad, s_iload_n (k := 2) (i := 2) (by decide +kernel) rfl, s_iadd (by decide +kernel), s_putI (by decide +kernel) fl_RX10_142 fp_10_19 rfl, s_bad, s_bad, s_aload_n (k := 0) (i := 0) (by decide +kernel) rfl, s_dup (by decide +kernel), s_getI (by decide +kernel) fl_RX10_145 rfl, s_bad, s_bad, s_iload_n (k := 2) (i := 2) (by decide +kernel) rfl, s_if_ne (off := 7) (by decide +kernel) (by decide), s_bad, s_bad, s_iconst (n := 1) (by decide +kernel) (by decide +kernel), s_goto (off := 4) (by decide +kernel) (by decide), s_bad, s_bad, s_iconst (n := 0) (by decide +kernel) (by decide +kernel), s_iadd (by decide +kernel), s_putI (by decide +kernel) fl_RX10_145 fp_10_20 rfl, s_bad, s_bad, s_iinc (n := 1) (by decide +kernel) (by decide +kernel) (by decide), s_bad, s_bad, s_goto (off := (-159)) (by decide +kernel) (by decide), s_bad, s_bad, s_vret (by decide +kernel) rfl, trivial⟩
theorem kX10_explores_0 : List.getD tX10_explores 0 x_bad = x_aload 0 1 := rfl
theorem kX10_explores_1 : List.getD tX10_explores 1 x_bad = x_getR 10 16 := rfl
theorem kX10_explores_4 : List.getD tX10_explores 4 x_bad = x_push (.int (nI 0)) 1 := rfl
theorem kX10_explores_5 : List.getD tX10_explores 5 x_bad = x_push (.long 0) 1 := rfl
theorem kX10_explores_6 : List.getD tX10_explores 6 x_bad = x_last := rfl
theorem kX10_explores_7 : List.getD tX10_explores 7 x_bad = x_aload 0 1 := rfl
theorem kX10_explores_8 : List.getD tX10_explores 8 x_bad = x_getR 10 17 := rfl
theorem kX10_explores_11 : List.getD tX10_explores 11 x_bad = x_push (.int (nI 0)) 1 := rfl
theorem kX10_explores_12 : List.getD tX10_explores 12 x_bad = x_push (.long 0) 1 := rfl
theorem kX10_explores_13 : List.getD tX10_explores 13 x_bad = x_last := rfl
theorem kX10_explores_14 : List.getD tX10_explores 14 x_bad = x_push (.int (nI 0)) 1 := rfl
theorem kX10_explores_15 : List.getD tX10_explores 15 x_bad = x_istore 1 1 := rfl
theorem kX10_explores_16 : List.getD tX10_explores 16 x_bad = x_iload 1 1 := rfl
theorem kX10_explores_17 : List.getD tX10_explores 17 x_bad = x_aload 0 1 := rfl
theorem kX10_explores_18 : List.getD tX10_explores 18 x_bad = x_getI 10 12 := rfl
theorem kX10_explores_21 : List.getD tX10_explores 21 x_bad = x_icmp (fun a b => b ≤ a) 87 := rfl
theorem kX10_explores_24 : List.getD tX10_explores 24 x_bad = x_aload 0 1 := rfl
theorem kX10_explores_25 : List.getD tX10_explores 25 x_bad = x_getR 10 11 := rfl
theorem kX10_explores_28 : List.getD tX10_explores 28 x_bad = x_iload 1 1 := rfl
theorem kX10_explores_29 : List.getD tX10_explores 29 x_bad = x_iald := rfl
theorem kX10_explores_30 : List.getD tX10_explores 30 x_bad = x_push (.int (nI 1)) 1 := rfl
theorem kX10_explores_31 : List.getD tX10_explores 31 x_bad = x_ii (fun a b => a &&& b) := rfl
theorem kX10_explores_32 : List.getD tX10_explores 32 x_bad = x_i2l := rfl
theorem kX10_explores_33 : List.getD tX10_explores 33 x_bad = x_lstore 2 1 := rfl
theorem kX10_explores_34 : List.getD tX10_explores 34 x_bad = x_aload 0 1 := rfl
theorem kX10_explores_35 : List.getD tX10_explores 35 x_bad = x_getR 10 16 := rfl
theorem kX10_explores_38 : List.getD tX10_explores 38 x_bad = x_push (.int (nI 0)) 1 := rfl
theorem kX10_explores_39 : List.getD tX10_explores 39 x_bad = x_dup2 := rfl
theorem kX10_explores_40 : List.getD tX10_explores 40 x_bad = x_lald := rfl
theorem kX10_explores_41 : List.getD tX10_explores 41 x_bad = x_iload 1 1 := rfl
theorem kX10_explores_42 : List.getD tX10_explores 42 x_bad = x_push (.int (nI 64)) 2 := rfl
theorem kX10_explores_44 : List.getD tX10_explores 44 x_bad = x_icmp (fun a b => b ≤ a) 53 := rfl
theorem kX10_explores_47 : List.getD tX10_explores 47 x_bad = x_lload 2 1 := rfl
theorem kX10_explores_48 : List.getD tX10_explores 48 x_bad = x_iload 1 1 := rfl
theorem kX10_explores_49 : List.getD tX10_explores 49 x_bad = x_li (fun a b => a <<< (b.toInt64 &&& 63)) := rfl
theorem kX10_explores_50 : List.getD tX10_explores 50 x_bad = x_goto 54 := rfl
theorem kX10_explores_53 : List.getD tX10_explores 53 x_bad = x_push (.long 0) 1 := rfl
theorem kX10_explores_54 : List.getD tX10_explores 54 x_bad = x_ll (fun a b => a ||| b) := rfl
theorem kX10_explores_55 : List.getD tX10_explores 55 x_bad = x_last := rfl
theorem kX10_explores_56 : List.getD tX10_explores 56 x_bad = x_aload 0 1 := rfl
theorem kX10_explores_57 : List.getD tX10_explores 57 x_bad = x_getR 10 17 := rfl
theorem kX10_explores_60 : List.getD tX10_explores 60 x_bad = x_push (.int (nI 0)) 1 := rfl
theorem kX10_explores_61 : List.getD tX10_explores 61 x_bad = x_dup2 := rfl
theorem kX10_explores_62 : List.getD tX10_explores 62 x_bad = x_lald := rfl
theorem kX10_explores_63 : List.getD tX10_explores 63 x_bad = x_iload 1 1 := rfl
theorem kX10_explores_64 : List.getD tX10_explores 64 x_bad = x_push (.int (nI 64)) 2 := rfl
theorem kX10_explores_66 : List.getD tX10_explores 66 x_bad = x_icmp (fun a b => b ≤ a) 73 := rfl
theorem kX10_explores_69 : List.getD tX10_explores 69 x_bad = x_push (.long 0) 1 := rfl
theorem kX10_explores_70 : List.getD tX10_explores 70 x_bad = x_goto 79 := rfl
theorem kX10_explores_73 : List.getD tX10_explores 73 x_bad = x_lload 2 1 := rfl
theorem kX10_explores_74 : List.getD tX10_explores 74 x_bad = x_iload 1 1 := rfl
theorem kX10_explores_75 : List.getD tX10_explores 75 x_bad = x_push (.int (nI 64)) 2 := rfl
theorem kX10_explores_77 : List.getD tX10_explores 77 x_bad = x_ii (fun a b => a - b) := rfl
theorem kX10_explores_78 : List.getD tX10_explores 78 x_bad = x_li (fun a b => a <<< (b.toInt64 &&& 63)) := rfl
theorem kX10_explores_79 : List.getD tX10_explores 79 x_bad = x_ll (fun a b => a ||| b) := rfl
theorem kX10_explores_80 : List.getD tX10_explores 80 x_bad = x_last := rfl
theorem kX10_explores_81 : List.getD tX10_explores 81 x_bad = x_iinc 1 (nI 1) := rfl
theorem kX10_explores_84 : List.getD tX10_explores 84 x_bad = x_goto 16 := rfl
theorem kX10_explores_87 : List.getD tX10_explores 87 x_bad = x_push (.int (nI 0)) 1 := rfl
theorem kX10_explores_88 : List.getD tX10_explores 88 x_bad = x_istore 1 1 := rfl
theorem kX10_explores_89 : List.getD tX10_explores 89 x_bad = x_iload 1 1 := rfl
theorem kX10_explores_90 : List.getD tX10_explores 90 x_bad = x_push (.int (nI 10)) 2 := rfl
theorem kX10_explores_92 : List.getD tX10_explores 92 x_bad = x_icmp (fun a b => b ≤ a) 109 := rfl
theorem kX10_explores_95 : List.getD tX10_explores 95 x_bad = x_aload 0 1 := rfl
theorem kX10_explores_96 : List.getD tX10_explores 96 x_bad = x_getR 10 23 := rfl
theorem kX10_explores_99 : List.getD tX10_explores 99 x_bad = x_iload 1 1 := rfl
theorem kX10_explores_100 : List.getD tX10_explores 100 x_bad = x_push (.int (-9)) 2 := rfl
theorem kX10_explores_102 : List.getD tX10_explores 102 x_bad = x_iast := rfl
theorem kX10_explores_103 : List.getD tX10_explores 103 x_bad = x_iinc 1 (nI 1) := rfl
theorem kX10_explores_106 : List.getD tX10_explores 106 x_bad = x_goto 89 := rfl
theorem kX10_explores_109 : List.getD tX10_explores 109 x_bad = x_aload 0 1 := rfl
theorem kX10_explores_110 : List.getD tX10_explores 110 x_bad = x_push (.int (nI 1)) 1 := rfl
theorem kX10_explores_111 : List.getD tX10_explores 111 x_bad = x_putI 10 18 := rfl
theorem kX10_explores_114 : List.getD tX10_explores 114 x_bad = x_aload 0 1 := rfl
theorem kX10_explores_115 : List.getD tX10_explores 115 x_bad = x_push (.int (nI 0)) 1 := rfl
theorem kX10_explores_116 : List.getD tX10_explores 116 x_bad = x_putI 10 19 := rfl
theorem kX10_explores_119 : List.getD tX10_explores 119 x_bad = x_aload 0 1 := rfl
theorem kX10_explores_120 : List.getD tX10_explores 120 x_bad = x_push (.int (nI 0)) 1 := rfl
theorem kX10_explores_121 : List.getD tX10_explores 121 x_bad = x_putI 10 20 := rfl
theorem kX10_explores_124 : List.getD tX10_explores 124 x_bad = x_aload 0 1 := rfl
theorem kX10_explores_125 : List.getD tX10_explores 125 x_bad = x_push (.int (nI 1)) 1 := rfl
theorem kX10_explores_126 : List.getD tX10_explores 126 x_bad = x_putZ 10 21 := rfl
theorem kX10_explores_129 : List.getD tX10_explores 129 x_bad = x_aload 0 1 := rfl
theorem kX10_explores_130 : List.getD tX10_explores 130 x_bad = x_getR 10 22 := rfl
theorem kX10_explores_133 : List.getD tX10_explores 133 x_bad = x_push (.int (nI 0)) 1 := rfl
theorem kX10_explores_134 : List.getD tX10_explores 134 x_bad = x_push (.int (nI 0)) 1 := rfl
theorem kX10_explores_135 : List.getD tX10_explores 135 x_bad = x_iast := rfl
theorem kX10_explores_136 : List.getD tX10_explores 136 x_bad = x_aload 0 1 := rfl
theorem kX10_explores_137 : List.getD tX10_explores 137 x_bad = x_getR 10 23 := rfl
theorem kX10_explores_140 : List.getD tX10_explores 140 x_bad = x_push (.int (nI 0)) 1 := rfl
theorem kX10_explores_141 : List.getD tX10_explores 141 x_bad = x_push (.int (nI 0)) 1 := rfl
theorem kX10_explores_142 : List.getD tX10_explores 142 x_bad = x_iast := rfl
theorem kX10_explores_143 : List.getD tX10_explores 143 x_bad = x_push (.int (nI 0)) 1 := rfl
theorem kX10_explores_144 : List.getD tX10_explores 144 x_bad = x_istore 1 1 := rfl
theorem kX10_explores_145 : List.getD tX10_explores 145 x_bad = x_iload 1 1 := rfl
theorem kX10_explores_146 : List.getD tX10_explores 146 x_bad = x_aload 0 1 := rfl
theorem kX10_explores_147 : List.getD tX10_explores 147 x_bad = x_getI 10 18 := rfl
theorem kX10_explores_150 : List.getD tX10_explores 150 x_bad = x_icmp (fun a b => b ≤ a) 307 := rfl
theorem kX10_explores_153 : List.getD tX10_explores 153 x_bad = x_aload 0 1 := rfl
theorem kX10_explores_154 : List.getD tX10_explores 154 x_bad = x_getI 10 18 := rfl
theorem kX10_explores_157 : List.getD tX10_explores 157 x_bad = x_push (.int (nI 100)) 2 := rfl
theorem kX10_explores_159 : List.getD tX10_explores 159 x_bad = x_icmp (fun a b => b < a) 307 := rfl
theorem kX10_explores_162 : List.getD tX10_explores 162 x_bad = x_push (.int (nI 0)) 1 := rfl
theorem kX10_explores_163 : List.getD tX10_explores 163 x_bad = x_istore 2 1 := rfl
theorem kX10_explores_164 : List.getD tX10_explores 164 x_bad = x_push (.int (nI 0)) 1 := rfl
theorem kX10_explores_165 : List.getD tX10_explores 165 x_bad = x_istore 3 1 := rfl
theorem kX10_explores_166 : List.getD tX10_explores 166 x_bad = x_iload 3 1 := rfl
theorem kX10_explores_167 : List.getD tX10_explores 167 x_bad = x_push (.int (nI 8)) 2 := rfl
theorem kX10_explores_169 : List.getD tX10_explores 169 x_bad = x_icmp (fun a b => b ≤ a) 273 := rfl
theorem kX10_explores_172 : List.getD tX10_explores 172 x_bad = x_aload 0 1 := rfl
theorem kX10_explores_173 : List.getD tX10_explores 173 x_bad = x_getI 10 18 := rfl
theorem kX10_explores_176 : List.getD tX10_explores 176 x_bad = x_push (.int (nI 100)) 2 := rfl
theorem kX10_explores_178 : List.getD tX10_explores 178 x_bad = x_icmp (fun a b => b < a) 273 := rfl
theorem kX10_explores_181 : List.getD tX10_explores 181 x_bad = x_aload 0 1 := rfl
theorem kX10_explores_182 : List.getD tX10_explores 182 x_bad = x_iload 3 1 := rfl
theorem kX10_explores_183 : List.getD tX10_explores 183 x_bad = x_aload 0 1 := rfl
theorem kX10_explores_184 : List.getD tX10_explores 184 x_bad = x_getR 10 16 := rfl
theorem kX10_explores_187 : List.getD tX10_explores 187 x_bad = x_iload 1 1 := rfl
theorem kX10_explores_188 : List.getD tX10_explores 188 x_bad = x_lald := rfl
theorem kX10_explores_189 : List.getD tX10_explores 189 x_bad = x_aload 0 1 := rfl
theorem kX10_explores_190 : List.getD tX10_explores 190 x_bad = x_getR 10 17 := rfl
theorem kX10_explores_193 : List.getD tX10_explores 193 x_bad = x_iload 1 1 := rfl
theorem kX10_explores_194 : List.getD tX10_explores 194 x_bad = x_lald := rfl
theorem kX10_explores_195 : List.getD tX10_explores 195 x_bad = x_callV3 10 mX10_canOccur := rfl
theorem kX10_explores_198 : List.getD tX10_explores 198 x_bad = x_istore 4 2 := rfl
theorem kX10_explores_200 : List.getD tX10_explores 200 x_bad = x_aload 0 1 := rfl
theorem kX10_explores_201 : List.getD tX10_explores 201 x_bad = x_aload 0 1 := rfl
theorem kX10_explores_202 : List.getD tX10_explores 202 x_bad = x_getI 10 21 := rfl
theorem kX10_explores_205 : List.getD tX10_explores 205 x_bad = x_if (fun a => a = 0) 249 := rfl
theorem kX10_explores_208 : List.getD tX10_explores 208 x_bad = x_aload 0 1 := rfl
theorem kX10_explores_209 : List.getD tX10_explores 209 x_bad = x_getR 10 22 := rfl
theorem kX10_explores_212 : List.getD tX10_explores 212 x_bad = x_iload 1 1 := rfl
theorem kX10_explores_213 : List.getD tX10_explores 213 x_bad = x_iald := rfl
theorem kX10_explores_214 : List.getD tX10_explores 214 x_bad = x_push (.int (-9)) 2 := rfl
theorem kX10_explores_216 : List.getD tX10_explores 216 x_bad = x_icmp (fun a b => a = b) 249 := rfl
theorem kX10_explores_219 : List.getD tX10_explores 219 x_bad = x_iload 4 2 := rfl
theorem kX10_explores_221 : List.getD tX10_explores 221 x_bad = x_aload 0 1 := rfl
theorem kX10_explores_222 : List.getD tX10_explores 222 x_bad = x_aload 0 1 := rfl
theorem kX10_explores_223 : List.getD tX10_explores 223 x_bad = x_getR 10 22 := rfl
theorem kX10_explores_226 : List.getD tX10_explores 226 x_bad = x_iload 1 1 := rfl
theorem kX10_explores_227 : List.getD tX10_explores 227 x_bad = x_iald := rfl
theorem kX10_explores_228 : List.getD tX10_explores 228 x_bad = x_iload 3 1 := rfl
theorem kX10_explores_229 : List.getD tX10_explores 229 x_bad = x_callV2 10 mX10_leads := rfl
theorem kX10_explores_232 : List.getD tX10_explores 232 x_bad = x_push (.int (-9)) 2 := rfl
theorem kX10_explores_234 : List.getD tX10_explores 234 x_bad = x_icmp (fun a b => a = b) 241 := rfl
theorem kX10_explores_237 : List.getD tX10_explores 237 x_bad = x_push (.int (nI 1)) 1 := rfl
theorem kX10_explores_238 : List.getD tX10_explores 238 x_bad = x_goto 242 := rfl
theorem kX10_explores_241 : List.getD tX10_explores 241 x_bad = x_push (.int (nI 0)) 1 := rfl
theorem kX10_explores_242 : List.getD tX10_explores 242 x_bad = x_icmpn (fun a b => a = b) 249 := rfl
theorem kX10_explores_245 : List.getD tX10_explores 245 x_bad = x_push (.int (nI 1)) 1 := rfl
theorem kX10_explores_246 : List.getD tX10_explores 246 x_bad = x_goto 250 := rfl
theorem kX10_explores_249 : List.getD tX10_explores 249 x_bad = x_push (.int (nI 0)) 1 := rfl
theorem kX10_explores_250 : List.getD tX10_explores 250 x_bad = x_putZ 10 21 := rfl
theorem kX10_explores_253 : List.getD tX10_explores 253 x_bad = x_iload 4 2 := rfl
theorem kX10_explores_255 : List.getD tX10_explores 255 x_bad = x_if (fun a => a = 0) 267 := rfl
theorem kX10_explores_258 : List.getD tX10_explores 258 x_bad = x_aload 0 1 := rfl
theorem kX10_explores_259 : List.getD tX10_explores 259 x_bad = x_iload 1 1 := rfl
theorem kX10_explores_260 : List.getD tX10_explores 260 x_bad = x_iload 3 1 := rfl
theorem kX10_explores_261 : List.getD tX10_explores 261 x_bad = x_callV2 10 mX10_follows := rfl
theorem kX10_explores_264 : List.getD tX10_explores 264 x_bad = x_iinc 2 (nI 1) := rfl
theorem kX10_explores_267 : List.getD tX10_explores 267 x_bad = x_iinc 3 (nI 1) := rfl
theorem kX10_explores_270 : List.getD tX10_explores 270 x_bad = x_goto 166 := rfl
theorem kX10_explores_273 : List.getD tX10_explores 273 x_bad = x_aload 0 1 := rfl
theorem kX10_explores_274 : List.getD tX10_explores 274 x_bad = x_dup := rfl
theorem kX10_explores_275 : List.getD tX10_explores 275 x_bad = x_getI 10 19 := rfl
theorem kX10_explores_278 : List.getD tX10_explores 278 x_bad = x_iload 2 1 := rfl
theorem kX10_explores_279 : List.getD tX10_explores 279 x_bad = x_ii (fun a b => a + b) := rfl
theorem kX10_explores_280 : List.getD tX10_explores 280 x_bad = x_putI 10 19 := rfl
theorem kX10_explores_283 : List.getD tX10_explores 283 x_bad = x_aload 0 1 := rfl
theorem kX10_explores_284 : List.getD tX10_explores 284 x_bad = x_dup := rfl
theorem kX10_explores_285 : List.getD tX10_explores 285 x_bad = x_getI 10 20 := rfl
theorem kX10_explores_288 : List.getD tX10_explores 288 x_bad = x_iload 2 1 := rfl
theorem kX10_explores_289 : List.getD tX10_explores 289 x_bad = x_ifn (fun a => a = 0) 296 := rfl
theorem kX10_explores_292 : List.getD tX10_explores 292 x_bad = x_push (.int (nI 1)) 1 := rfl
theorem kX10_explores_293 : List.getD tX10_explores 293 x_bad = x_goto 297 := rfl
theorem kX10_explores_296 : List.getD tX10_explores 296 x_bad = x_push (.int (nI 0)) 1 := rfl
theorem kX10_explores_297 : List.getD tX10_explores 297 x_bad = x_ii (fun a b => a + b) := rfl
theorem kX10_explores_298 : List.getD tX10_explores 298 x_bad = x_putI 10 20 := rfl
theorem kX10_explores_301 : List.getD tX10_explores 301 x_bad = x_iinc 1 (nI 1) := rfl
theorem kX10_explores_304 : List.getD tX10_explores 304 x_bad = x_goto 145 := rfl
theorem kX10_explores_307 : List.getD tX10_explores 307 x_bad = x_vret := rfl
def tX10_findsRegions : List PT := [x_aload 0 1, x_push (.int (nI 0)) 1, x_putI 10 3, x_bad, x_bad, x_aload 0 1, x_push (.int (nI 0)) 1, x_putI 10 5, x_bad, x_bad, x_push (.int (nI 1)) 1, x_istore 1 1, x_iload 1 1, x_aload 0 1, x_callV0 10 mX10_all, x_bad, x_bad, x_icmp (fun a b => b ≤ a) 54, x_bad, x_bad, x_aload 0 1, x_iload 1 1, x_callV1 10 mX10_isRegion, x_bad, x_bad, x_if (fun a => a = 0) 48, x_bad, x_bad, x_aload 0 1, x_getR 10 2, x_bad, x_bad, x_aload 0 1, x_getI 10 3, x_bad, x_bad, x_iload 1 1, x_iast, x_aload 0 1, x_dup, x_getI 10 3, x_bad, x_bad, x_push (.int (nI 1)) 1, x_ii (fun a b => a + b), x_putI 10 3, x_bad, x_bad, x_iinc 1 (nI 1), x_bad, x_bad, x_goto 12, x_bad, x_bad, x_push (.int (nI 0)) 1, x_istore 1 1, x_iload 1 1, x_aload 0 1, x_getI 10 3, x_bad, x_bad, x_icmp (fun a b => b ≤ a) 142, x_bad, x_bad, x_push (.int (nI 1)) 1, x_istore 2 1, x_push (.int (nI 0)) 1, x_istore 3 1, x_iload 3 1, x_iload 1 1, x_icmp (fun a b => b ≤ a) 107, x_bad, x_bad, x_iload 2 1, x_if (fun a => a = 0) 107, x_bad, x_bad, x_aload 0 1, x_getR 10 2, x_bad, x_bad, x_iload 3 1, x_iald, x_aload 0 1, x_getR 10 2, x_bad, x_bad, x_iload 1 1, x_iald, x_push (.int (-1)) 1, x_ii (fun a b => a ^^^ b), x_ii (fun a b => a &&& b), x_if (fun a => a = 0) 99, x_bad, x_bad, x_push (.int (nI 1)) 1, x_goto 100, x_bad, x_bad, x_push (.int (nI 0)) 1, x_istore 2 1, x_iinc 3 (nI 1), x_bad, x_bad, x_goto 68, x_bad, x_bad, x_iload 2 1, x_if (fun a => a = 0) 136, x_bad, x_bad, x_aload 0 1, x_getR 10 4, x_bad, x_bad, x_aload 0 1, x_getI 10 5, x_bad, x_bad, x_aload 0 1, x_getR 10 2, x_bad, x_bad, x_iload 1 1, x_iald, x_iast, x_aload 0 1, x_dup, x_getI 10 5, x_bad, x_bad, x_push (.int (nI 1)) 1, x_ii (fun a b => a + b), x_putI 10 5, x_bad, x_bad, x_iinc 1 (nI 1), x_bad, x_bad, x_goto 56, x_bad, x_bad, x_vret]
set_option maxRecDepth 20000 in
theorem okX10_findsRegions : SndT RX10 cX10_findsRegions mX10_findsRegions.2.2.1 mX10_findsRegions.2.2.2.2.1 mX10_findsRegions.2.2.2.2.2 false mX10_findsRegions.2.2.2.1 0 tX10_findsRegions := ⟨s_aload_n (k := 0) (i := 0) (by decide +kernel) rfl, s_iconst (n := 0) (by decide +kernel) (by decide +kernel), s_putI (by decide +kernel) fl_RX10_89 fp_10_3 rfl, s_bad, s_bad, s_aload_n (k := 0) (i := 0) (by decide +kernel) rfl, s_iconst (n := 0) (by decide +kernel) (by decide +kernel), s_putI (by decide +kernel) fl_RX10_92 fp_10_5 rfl, s_bad, s_bad, s_iconst (n := 1) (by decide +kernel) (by decide +kernel), s_istore_n (k := 1) (i := 1) (by decide +kernel) rfl (by decide), s_iload_n (k := 1) (i := 1) (by decide +kernel) rfl, s_aload_n (k := 0) (i := 0) (by decide +kernel) rfl, s_callV0 (by decide +kernel) lv_RX10_95 ⟨by decide, by decide⟩, s_bad, s_bad, s_icmp_ge (off := 37) (by decide +kernel) (by decide), s_bad, s_bad, s_aload_n (k := 0) (i := 0) (by decide +kernel) rfl, s_iload_n (k := 1) (i := 1) (by decide +kernel) rfl, s_callV1 (by decide +kernel) lv_RX10_99 ⟨by decide, by decide⟩, s_bad, s_bad, s_if_eq (off := 23) (by decide +kernel) (by decide), s_bad, s_bad, s_aload_n (k := 0) (i := 0) (by decide +kernel) rfl, s_getR (by decide +kernel) fl_RX10_13 rfl, s_bad, s_bad, s_aload_n (k := 0) (i := 0) (by decide +kernel) rfl, s_getI (by decide +kernel) fl_RX10_89 rfl, s_bad, s_bad, s_iload_n (k := 1) (i := 1) (by decide +kernel) rfl, s_iast (by decide +kernel), s_aload_n (k := 0) (i := 0) (by decide +kernel) rfl, s_dup (by decide +kernel), s_getI (by decide +kernel) fl_RX10_89 rfl, s_bad, s_bad, s_iconst (n := 1) (by decide +kernel) (by decide +kernel), s_iadd (by decide +kernel), s_putI (by decide +kernel) fl_RX10_89 fp_10_3 rfl, s_bad, s_bad, s_iinc (n := 1) (by decide +kernel) (by decide +kernel) (by decide), s_bad, s_bad, s_goto (off := (-39)) (by decide +kernel) (by decide), s_bad, s_bad, s_iconst (n := 0) (by decide +kernel) (by decide +kernel), s_istore_n (k := 1) (i := 1) (by decide +kernel) rfl (by decide), s_iload_n (k := 1) (i := 1) (by decide +kernel) rfl, s_aload_n (k := 0) (i := 0) (by decide +kernel) rfl, s_getI (by decide +kernel) fl_RX10_89 rfl, s_bad, s_bad, s_icmp_ge (off := 81) (by decide +kernel) (by decide), s_bad, s_bad, s_iconst (n := 1) (by decide +kernel) (by decide +kernel), s_istore_n (k := 2) (i := 2) (by decide +kernel) rfl (by decide), s_iconst (n := 0) (by decide +kernel) (by decide +kernel), s_istore_n (k := 3) (i := 3) (by decide +kernel) rfl (by decide), s_iload_n (k := 3) (i := 3) (by decide +kernel) rfl, s_iload_n (k := 1) (i := 1) (by decide +kernel) rfl, s_icmp_ge (off := 37) (by decide +kernel) (by decide), s_bad, s_bad, s_iload_n (k := 2) (i := 2) (by decide +kernel) rfl, s_if_eq (off := 33) (by decide +kernel) (by decide), s_bad, s_bad, s_aload_n (k := 0) (i := 0) (by decide +kernel) rfl, s_getR (by decide +kernel) fl_RX10_13 rfl, s_bad, s_bad, s_iload_n (k := 3) (i := 3) (by decide +kernel) rfl, s_iald (by decide +kernel), s_aload_n (k := 0) (i := 0) (by decide +kernel) rfl, s_getR (by decide +kernel) fl_RX10_13 rfl, s_bad, s_bad, s_iload_n (k := 1) (i := 1) (by decide +kernel) rfl, s_iald (by decide +kernel), s_iconst (n := (-1)) (by decide +kernel) (by decide +kernel), s_ixor (by decide +kernel), s_iand (by decide +kernel), s_if_eq (off := 7) (by decide +kernel) (by decide), s_bad, s_bad, s_iconst (n := 1) (by decide +kernel) (by decide +kernel), s_goto (off := 4) (by decide +kernel) (by decide), s_bad, s_bad, s_iconst (n := 0) (by decide +kernel) (by decide +kernel), s_istore_n (k := 2) (i := 2) (by decide +kernel) rfl (by decide), s_iinc (n := 1) (by decide +kernel) (by decide +kernel) (by decide), s_bad, s_bad, s_goto (off := (-36)) (by decide +kernel) (by decide), s_bad, s_bad, s_iload_n (k := 2) (i := 2) (by decide +kernel) rfl, s_if_eq (off := 28) (by decide +kernel) (by decide), s_bad, s_bad, s_aload_n (k := 0) (i := 0) (by decide +kernel) rfl, s_getR (by decide +kernel) fl_RX10_16 rfl, s_bad, s_bad, s_aload_n (k := 0) (i := 0) (by decide +kernel) rfl, s_getI (by decide +kernel) fl_RX10_92 rfl, s_bad, s_bad, s_aload_n (k := 0) (i := 0) (by decide +kernel) rfl, s_getR (by decide +kernel) fl_RX10_13 rfl, s_bad, s_bad, s_iload_n (k := 1) (i := 1) (by decide +kernel) rfl, s_iald (by decide +kernel), s_iast (by decide +kernel), s_aload_n (k := 0) (i := 0) (by decide +kernel) rfl, s_dup (by decide +kernel), s_getI (by decide +kernel) fl_RX10_92 rfl, s_bad, s_bad, s_iconst (n := 1) (by decide +kernel) (by decide +kernel), s_iadd (by decide +kernel), s_putI (by decide +kernel) fl_RX10_92 fp_10_5 rfl, s_bad, s_bad, s_iinc (n := 1) (by decide +kernel) (by decide +kernel) (by decide), s_bad, s_bad, s_goto (off := (-83)) (by decide +kernel) (by decide), s_bad, s_bad, s_vret (by decide +kernel) rfl, trivial⟩
theorem kX10_findsRegions_0 : List.getD tX10_findsRegions 0 x_bad = x_aload 0 1 := rfl
theorem kX10_findsRegions_1 : List.getD tX10_findsRegions 1 x_bad = x_push (.int (nI 0)) 1 := rfl
theorem kX10_findsRegions_2 : List.getD tX10_findsRegions 2 x_bad = x_putI 10 3 := rfl
theorem kX10_findsRegions_5 : List.getD tX10_findsRegions 5 x_bad = x_aload 0 1 := rfl
theorem kX10_findsRegions_6 : List.getD tX10_findsRegions 6 x_bad = x_push (.int (nI 0)) 1 := rfl
theorem kX10_findsRegions_7 : List.getD tX10_findsRegions 7 x_bad = x_putI 10 5 := rfl
theorem kX10_findsRegions_10 : List.getD tX10_findsRegions 10 x_bad = x_push (.int (nI 1)) 1 := rfl
theorem kX10_findsRegions_11 : List.getD tX10_findsRegions 11 x_bad = x_istore 1 1 := rfl
theorem kX10_findsRegions_12 : List.getD tX10_findsRegions 12 x_bad = x_iload 1 1 := rfl
theorem kX10_findsRegions_13 : List.getD tX10_findsRegions 13 x_bad = x_aload 0 1 := rfl
theorem kX10_findsRegions_14 : List.getD tX10_findsRegions 14 x_bad = x_callV0 10 mX10_all := rfl
theorem kX10_findsRegions_17 : List.getD tX10_findsRegions 17 x_bad = x_icmp (fun a b => b ≤ a) 54 := rfl
theorem kX10_findsRegions_20 : List.getD tX10_findsRegions 20 x_bad = x_aload 0 1 := rfl
theorem kX10_findsRegions_21 : List.getD tX10_findsRegions 21 x_bad = x_iload 1 1 := rfl
theorem kX10_findsRegions_22 : List.getD tX10_findsRegions 22 x_bad = x_callV1 10 mX10_isRegion := rfl
theorem kX10_findsRegions_25 : List.getD tX10_findsRegions 25 x_bad = x_if (fun a => a = 0) 48 := rfl
theorem kX10_findsRegions_28 : List.getD tX10_findsRegions 28 x_bad = x_aload 0 1 := rfl
theorem kX10_findsRegions_29 : List.getD tX10_findsRegions 29 x_bad = x_getR 10 2 := rfl
theorem kX10_findsRegions_32 : List.getD tX10_findsRegions 32 x_bad = x_aload 0 1 := rfl
theorem kX10_findsRegions_33 : List.getD tX10_findsRegions 33 x_bad = x_getI 10 3 := rfl
theorem kX10_findsRegions_36 : List.getD tX10_findsRegions 36 x_bad = x_iload 1 1 := rfl
theorem kX10_findsRegions_37 : List.getD tX10_findsRegions 37 x_bad = x_iast := rfl
theorem kX10_findsRegions_38 : List.getD tX10_findsRegions 38 x_bad = x_aload 0 1 := rfl
theorem kX10_findsRegions_39 : List.getD tX10_findsRegions 39 x_bad = x_dup := rfl
theorem kX10_findsRegions_40 : List.getD tX10_findsRegions 40 x_bad = x_getI 10 3 := rfl
theorem kX10_findsRegions_43 : List.getD tX10_findsRegions 43 x_bad = x_push (.int (nI 1)) 1 := rfl
theorem kX10_findsRegions_44 : List.getD tX10_findsRegions 44 x_bad = x_ii (fun a b => a + b) := rfl
theorem kX10_findsRegions_45 : List.getD tX10_findsRegions 45 x_bad = x_putI 10 3 := rfl
theorem kX10_findsRegions_48 : List.getD tX10_findsRegions 48 x_bad = x_iinc 1 (nI 1) := rfl
theorem kX10_findsRegions_51 : List.getD tX10_findsRegions 51 x_bad = x_goto 12 := rfl
theorem kX10_findsRegions_54 : List.getD tX10_findsRegions 54 x_bad = x_push (.int (nI 0)) 1 := rfl
theorem kX10_findsRegions_55 : List.getD tX10_findsRegions 55 x_bad = x_istore 1 1 := rfl
theorem kX10_findsRegions_56 : List.getD tX10_findsRegions 56 x_bad = x_iload 1 1 := rfl
theorem kX10_findsRegions_57 : List.getD tX10_findsRegions 57 x_bad = x_aload 0 1 := rfl
theorem kX10_findsRegions_58 : List.getD tX10_findsRegions 58 x_bad = x_getI 10 3 := rfl
theorem kX10_findsRegions_61 : List.getD tX10_findsRegions 61 x_bad = x_icmp (fun a b => b ≤ a) 142 := rfl
theorem kX10_findsRegions_64 : List.getD tX10_findsRegions 64 x_bad = x_push (.int (nI 1)) 1 := rfl
theorem kX10_findsRegions_65 : List.getD tX10_findsRegions 65 x_bad = x_istore 2 1 := rfl
theorem kX10_findsRegions_66 : List.getD tX10_findsRegions 66 x_bad = x_push (.int (nI 0)) 1 := rfl
theorem kX10_findsRegions_67 : List.getD tX10_findsRegions 67 x_bad = x_istore 3 1 := rfl
theorem kX10_findsRegions_68 : List.getD tX10_findsRegions 68 x_bad = x_iload 3 1 := rfl
theorem kX10_findsRegions_69 : List.getD tX10_findsRegions 69 x_bad = x_iload 1 1 := rfl
theorem kX10_findsRegions_70 : List.getD tX10_findsRegions 70 x_bad = x_icmp (fun a b => b ≤ a) 107 := rfl
theorem kX10_findsRegions_73 : List.getD tX10_findsRegions 73 x_bad = x_iload 2 1 := rfl
theorem kX10_findsRegions_74 : List.getD tX10_findsRegions 74 x_bad = x_if (fun a => a = 0) 107 := rfl
theorem kX10_findsRegions_77 : List.getD tX10_findsRegions 77 x_bad = x_aload 0 1 := rfl
theorem kX10_findsRegions_78 : List.getD tX10_findsRegions 78 x_bad = x_getR 10 2 := rfl
theorem kX10_findsRegions_81 : List.getD tX10_findsRegions 81 x_bad = x_iload 3 1 := rfl
theorem kX10_findsRegions_82 : List.getD tX10_findsRegions 82 x_bad = x_iald := rfl
theorem kX10_findsRegions_83 : List.getD tX10_findsRegions 83 x_bad = x_aload 0 1 := rfl
theorem kX10_findsRegions_84 : List.getD tX10_findsRegions 84 x_bad = x_getR 10 2 := rfl
theorem kX10_findsRegions_87 : List.getD tX10_findsRegions 87 x_bad = x_iload 1 1 := rfl
theorem kX10_findsRegions_88 : List.getD tX10_findsRegions 88 x_bad = x_iald := rfl
theorem kX10_findsRegions_89 : List.getD tX10_findsRegions 89 x_bad = x_push (.int (-1)) 1 := rfl
theorem kX10_findsRegions_90 : List.getD tX10_findsRegions 90 x_bad = x_ii (fun a b => a ^^^ b) := rfl
theorem kX10_findsRegions_91 : List.getD tX10_findsRegions 91 x_bad = x_ii (fun a b => a &&& b) := rfl
theorem kX10_findsRegions_92 : List.getD tX10_findsRegions 92 x_bad = x_if (fun a => a = 0) 99 := rfl
theorem kX10_findsRegions_95 : List.getD tX10_findsRegions 95 x_bad = x_push (.int (nI 1)) 1 := rfl
theorem kX10_findsRegions_96 : List.getD tX10_findsRegions 96 x_bad = x_goto 100 := rfl
theorem kX10_findsRegions_99 : List.getD tX10_findsRegions 99 x_bad = x_push (.int (nI 0)) 1 := rfl
theorem kX10_findsRegions_100 : List.getD tX10_findsRegions 100 x_bad = x_istore 2 1 := rfl
theorem kX10_findsRegions_101 : List.getD tX10_findsRegions 101 x_bad = x_iinc 3 (nI 1) := rfl
theorem kX10_findsRegions_104 : List.getD tX10_findsRegions 104 x_bad = x_goto 68 := rfl
theorem kX10_findsRegions_107 : List.getD tX10_findsRegions 107 x_bad = x_iload 2 1 := rfl
theorem kX10_findsRegions_108 : List.getD tX10_findsRegions 108 x_bad = x_if (fun a => a = 0) 136 := rfl
theorem kX10_findsRegions_111 : List.getD tX10_findsRegions 111 x_bad = x_aload 0 1 := rfl
theorem kX10_findsRegions_112 : List.getD tX10_findsRegions 112 x_bad = x_getR 10 4 := rfl
theorem kX10_findsRegions_115 : List.getD tX10_findsRegions 115 x_bad = x_aload 0 1 := rfl
theorem kX10_findsRegions_116 : List.getD tX10_findsRegions 116 x_bad = x_getI 10 5 := rfl
theorem kX10_findsRegions_119 : List.getD tX10_findsRegions 119 x_bad = x_aload 0 1 := rfl
theorem kX10_findsRegions_120 : List.getD tX10_findsRegions 120 x_bad = x_getR 10 2 := rfl
theorem kX10_findsRegions_123 : List.getD tX10_findsRegions 123 x_bad = x_iload 1 1 := rfl
theorem kX10_findsRegions_124 : List.getD tX10_findsRegions 124 x_bad = x_iald := rfl
theorem kX10_findsRegions_125 : List.getD tX10_findsRegions 125 x_bad = x_iast := rfl
theorem kX10_findsRegions_126 : List.getD tX10_findsRegions 126 x_bad = x_aload 0 1 := rfl
theorem kX10_findsRegions_127 : List.getD tX10_findsRegions 127 x_bad = x_dup := rfl
theorem kX10_findsRegions_128 : List.getD tX10_findsRegions 128 x_bad = x_getI 10 5 := rfl
theorem kX10_findsRegions_131 : List.getD tX10_findsRegions 131 x_bad = x_push (.int (nI 1)) 1 := rfl
theorem kX10_findsRegions_132 : List.getD tX10_findsRegions 132 x_bad = x_ii (fun a b => a + b) := rfl
theorem kX10_findsRegions_133 : List.getD tX10_findsRegions 133 x_bad = x_putI 10 5 := rfl
theorem kX10_findsRegions_136 : List.getD tX10_findsRegions 136 x_bad = x_iinc 1 (nI 1) := rfl
theorem kX10_findsRegions_139 : List.getD tX10_findsRegions 139 x_bad = x_goto 56 := rfl
theorem kX10_findsRegions_142 : List.getD tX10_findsRegions 142 x_bad = x_vret := rfl
def tX10_fire : List PT := [x_iload 1 1, x_callS1 mX10_isEvent, x_bad, x_bad, x_ifn (fun a => a = 0) 9, x_bad, x_bad, x_push (.int (-1)) 1, x_iret, x_aload 0 1, x_iload 1 1, x_aload 0 1, x_push (.int (nI 0)) 1, x_callV1 10 mX10_marked, x_bad, x_bad, x_aload 0 1, x_push (.int (nI 64)) 2, x_bad, x_callV1 10 mX10_marked, x_bad, x_bad, x_callV3 10 mX10_canOccur, x_bad, x_bad, x_ifn (fun a => a = 0) 31, x_bad, x_bad, x_push (.int (-2)) 2, x_bad, x_iret, x_aload 0 1, x_callV0 10 mX10_records, x_bad, x_bad, x_aload 0 1, x_getR 10 0, x_bad, x_bad, x_push (.int (nI 74)) 2, x_bad, x_dup2, x_iald, x_push (.int (nI 1)) 1, x_ii (fun a b => a + b), x_iast, x_push (.int (nI 0)) 1, x_istore 2 1, x_push (.int (nI 0)) 1, x_istore 3 1, x_iload 3 1, x_aload 0 1, x_getI 10 12, x_bad, x_bad, x_icmp (fun a b => b ≤ a) 127, x_bad, x_bad, x_aload 0 1, x_aload 0 1, x_getR 10 11, x_bad, x_bad, x_iload 3 1, x_iald, x_iload 1 1, x_callV2 10 mX10_crossing, x_bad, x_bad, x_istore 4 2, x_bad, x_aload 0 1, x_getR 10 0, x_bad, x_bad, x_push (.int (nI 75)) 2, x_bad, x_iload 3 1, x_ii (fun a b => a + b), x_iload 4 2, x_bad, x_push (.int (nI 1)) 1, x_icmpn (fun a b => a = b) 89, x_bad, x_bad, x_push (.int (nI 1)) 1, x_goto 108, x_bad, x_bad, x_iload 4 2, x_bad, x_push (.int (nI 2)) 1, x_icmpn (fun a b => a = b) 99, x_bad, x_bad, x_push (.int (nI 0)) 1, x_goto 108, x_bad, x_bad, x_aload 0 1, x_getR 10 0, x_bad, x_bad, x_push (.int (nI 75)) 2, x_bad, x_iload 3 1, x_ii (fun a b => a + b), x_iald, x_iast, x_iload 2 1, x_aload 0 1, x_getR 10 0, x_bad, x_bad, x_push (.int (nI 75)) 2, x_bad, x_iload 3 1, x_ii (fun a b => a + b), x_iald, x_ii (fun a b => a + b), x_istore 2 1, x_iinc 3 (nI 1), x_bad, x_bad, x_goto 50, x_bad, x_bad, x_iload 2 1, x_iret]
set_option maxRecDepth 20000 in
theorem okX10_fire : SndT RX10 cX10_fire mX10_fire.2.2.1 mX10_fire.2.2.2.2.1 mX10_fire.2.2.2.2.2 false mX10_fire.2.2.2.1 0 tX10_fire := ⟨s_iload_n (k := 1) (i := 1) (by decide +kernel) rfl, s_callS1 (by decide +kernel) ls_RX10_204 ⟨by decide, by decide⟩, s_bad, s_bad, s_if_ne (off := 5) (by decide +kernel) (by decide), s_bad, s_bad, s_iconst (n := (-1)) (by decide +kernel) (by decide +kernel), s_iret (by decide +kernel) rfl, s_aload_n (k := 0) (i := 0) (by decide +kernel) rfl, s_iload_n (k := 1) (i := 1) (by decide +kernel) rfl, s_aload_n (k := 0) (i := 0) (by decide +kernel) rfl, s_iconst (n := 0) (by decide +kernel) (by decide +kernel), s_callV1 (by decide +kernel) lv_RX10_243 ⟨by decide, by decide⟩, s_bad, s_bad, s_aload_n (k := 0) (i := 0) (by decide +kernel) rfl, s_bipush (n := 64) (by decide +kernel) (by decide +kernel), s_bad, s_callV1 (by decide +kernel) lv_RX10_243 ⟨by decide, by decide⟩, s_bad, s_bad, s_callV3 (by decide +kernel) lv_RX10_148 ⟨by decide, by decide⟩, s_bad, s_bad, s_if_ne (off := 6) (by decide +kernel) (by decide), s_bad, s_bad, s_bipush (n := (-2)) (by decide +kernel) (by decide +kernel), s_bad, s_iret (by decide +kernel) rfl, s_aload_n (k := 0) (i := 0) (by decide +kernel) rfl, s_callV0 (by decide +kernel) lv_RX10_198 ⟨by decide, by decide⟩, s_bad, s_bad, s_aload_n (k := 0) (i := 0) (by decide +kernel) rfl, s_getR (by decide +kernel) fl_RX10_7 rfl, s_bad, s_bad, s_bipush (n := 74) (by decide +kernel) (by decide +kernel), s_bad, s_dup2 (by decide +kernel), s_iald (by decide +kernel), s_iconst (n := 1) (by decide +kernel) (by decide +kernel), s_iadd (by decide +kernel), s_iast (by decide +kernel), s_iconst (n := 0) (by decide +kernel) (by decide +kernel), s_istore_n (k := 2) (i := 2) (by decide +kernel) rfl (by decide), s_iconst (n := 0) (by decide +kernel) (by decide +kernel), s_istore_n (k := 3) (i := 3) (by decide +kernel) rfl (by decide), s_iload_n (k := 3) (i := 3) (by decide +kernel) rfl, s_aload_n (k := 0) (i := 0) (by decide +kernel) rfl, s_getI (by decide +kernel) fl_RX10_117 rfl, s_bad, s_bad, s_icmp_ge (off := 72) (by decide +kernel) (by decide), s_bad, s_bad, s_aload_n (k := 0) (i := 0) (by decide +kernel) rfl, s_aload_n (k := 0) (i := 0) (by decide +kernel) rfl, s_getR (by decide +kernel) fl_RX10_32 rfl, s_bad, s_bad, s_iload_n (k := 3) (i := 3) (by decide +kernel) rfl, s_iald (by decide +kernel), s_iload_n (k := 1) (i := 1) (by decide +kernel) rfl, s_callV2 (by decide +kernel) lv_RX10_86 ⟨by decide, by decide⟩, s_bad, s_bad, s_istore (by decide +kernel) (by decide), s_bad, s_aload_n (k := 0) (i := 0) (by decide +kernel) rfl, s_getR (by decide +kernel) fl_RX10_7 rfl, s_bad, s_bad, s_bipush (n := 75) (by decide +kernel) (by decide +kernel), s_bad, s_iload_n (k := 3) (i := 3) (by decide +kernel) rfl, s_iadd (by decide +kernel), s_iload (by decide +kernel), s_bad, s_iconst (n := 1) (by decide +kernel) (by decide +kernel), s_icmp_ne (off := 7) (by decide +kernel) (by decide), s_bad, s_bad, s_iconst (n := 1) (by decide +kernel) (by decide +kernel), s_goto (off := 22) (by decide +kernel) (by decide), s_bad, s_bad, s_iload (by decide +kernel), s_bad, s_iconst (n := 2) (by decide +kernel) (by decide +kernel), s_icmp_ne (off := 7) (by decide +kernel) (by decide), s_bad, s_bad, s_iconst (n := 0) (by decide +kernel) (by decide +kernel), s_goto (off := 12) (by decide +kernel) (by decide), s_bad, s_bad, s_aload_n (k := 0) (i := 0) (by decide +kernel) rfl, s_getR (by decide +kernel) fl_RX10_7 rfl, s_bad, s_bad, s_bipush (n := 75) (by decide +kernel) (by decide +kernel), s_bad, s_iload_n (k := 3) (i := 3) (by decide +kernel) rfl, s_iadd (by decide +kernel), s_iald (by decide +kernel), s_iast (by decide +kernel), s_iload_n (k := 2) (i := 2) (by decide +kernel) rfl, s_aload_n (k := 0) (i := 0) (by decide +kernel) rfl, s_getR (by decide +kernel) fl_RX10_7 rfl, s_bad, s_bad, s_bipush (n := 75) (by decide +kernel) (by decide +kernel), s_bad, s_iload_n (k := 3) (i := 3) (by decide +kernel) rfl, s_iadd (by decide +kernel), s_iald (by decide +kernel), s_iadd (by decide +kernel), s_istore_n (k := 2) (i := 2) (by decide +kernel) rfl (by decide), s_iinc (n := 1) (by decide +kernel) (by decide +kernel) (by decide), s_bad, s_bad, s_goto (off := (-74)) (by decide +kernel) (by decide), s_bad, s_bad, s_iload_n (k := 2) (i := 2) (by decide +kernel) rfl, s_iret (by decide +kernel) rfl, trivial⟩
theorem kX10_fire_0 : List.getD tX10_fire 0 x_bad = x_iload 1 1 := rfl
theorem kX10_fire_1 : List.getD tX10_fire 1 x_bad = x_callS1 mX10_isEvent := rfl
theorem kX10_fire_4 : List.getD tX10_fire 4 x_bad = x_ifn (fun a => a = 0) 9 := rfl
theorem kX10_fire_7 : List.getD tX10_fire 7 x_bad = x_push (.int (-1)) 1 := rfl
theorem kX10_fire_8 : List.getD tX10_fire 8 x_bad = x_iret := rfl
theorem kX10_fire_9 : List.getD tX10_fire 9 x_bad = x_aload 0 1 := rfl
theorem kX10_fire_10 : List.getD tX10_fire 10 x_bad = x_iload 1 1 := rfl
theorem kX10_fire_11 : List.getD tX10_fire 11 x_bad = x_aload 0 1 := rfl
theorem kX10_fire_12 : List.getD tX10_fire 12 x_bad = x_push (.int (nI 0)) 1 := rfl
theorem kX10_fire_13 : List.getD tX10_fire 13 x_bad = x_callV1 10 mX10_marked := rfl
theorem kX10_fire_16 : List.getD tX10_fire 16 x_bad = x_aload 0 1 := rfl
theorem kX10_fire_17 : List.getD tX10_fire 17 x_bad = x_push (.int (nI 64)) 2 := rfl
theorem kX10_fire_19 : List.getD tX10_fire 19 x_bad = x_callV1 10 mX10_marked := rfl
theorem kX10_fire_22 : List.getD tX10_fire 22 x_bad = x_callV3 10 mX10_canOccur := rfl
theorem kX10_fire_25 : List.getD tX10_fire 25 x_bad = x_ifn (fun a => a = 0) 31 := rfl
theorem kX10_fire_28 : List.getD tX10_fire 28 x_bad = x_push (.int (-2)) 2 := rfl
theorem kX10_fire_30 : List.getD tX10_fire 30 x_bad = x_iret := rfl
theorem kX10_fire_31 : List.getD tX10_fire 31 x_bad = x_aload 0 1 := rfl
theorem kX10_fire_32 : List.getD tX10_fire 32 x_bad = x_callV0 10 mX10_records := rfl
theorem kX10_fire_35 : List.getD tX10_fire 35 x_bad = x_aload 0 1 := rfl
theorem kX10_fire_36 : List.getD tX10_fire 36 x_bad = x_getR 10 0 := rfl
theorem kX10_fire_39 : List.getD tX10_fire 39 x_bad = x_push (.int (nI 74)) 2 := rfl
theorem kX10_fire_41 : List.getD tX10_fire 41 x_bad = x_dup2 := rfl
theorem kX10_fire_42 : List.getD tX10_fire 42 x_bad = x_iald := rfl
theorem kX10_fire_43 : List.getD tX10_fire 43 x_bad = x_push (.int (nI 1)) 1 := rfl
theorem kX10_fire_44 : List.getD tX10_fire 44 x_bad = x_ii (fun a b => a + b) := rfl
theorem kX10_fire_45 : List.getD tX10_fire 45 x_bad = x_iast := rfl
theorem kX10_fire_46 : List.getD tX10_fire 46 x_bad = x_push (.int (nI 0)) 1 := rfl
theorem kX10_fire_47 : List.getD tX10_fire 47 x_bad = x_istore 2 1 := rfl
theorem kX10_fire_48 : List.getD tX10_fire 48 x_bad = x_push (.int (nI 0)) 1 := rfl
theorem kX10_fire_49 : List.getD tX10_fire 49 x_bad = x_istore 3 1 := rfl
theorem kX10_fire_50 : List.getD tX10_fire 50 x_bad = x_iload 3 1 := rfl
theorem kX10_fire_51 : List.getD tX10_fire 51 x_bad = x_aload 0 1 := rfl
theorem kX10_fire_52 : List.getD tX10_fire 52 x_bad = x_getI 10 12 := rfl
theorem kX10_fire_55 : List.getD tX10_fire 55 x_bad = x_icmp (fun a b => b ≤ a) 127 := rfl
theorem kX10_fire_58 : List.getD tX10_fire 58 x_bad = x_aload 0 1 := rfl
theorem kX10_fire_59 : List.getD tX10_fire 59 x_bad = x_aload 0 1 := rfl
theorem kX10_fire_60 : List.getD tX10_fire 60 x_bad = x_getR 10 11 := rfl
theorem kX10_fire_63 : List.getD tX10_fire 63 x_bad = x_iload 3 1 := rfl
theorem kX10_fire_64 : List.getD tX10_fire 64 x_bad = x_iald := rfl
theorem kX10_fire_65 : List.getD tX10_fire 65 x_bad = x_iload 1 1 := rfl
theorem kX10_fire_66 : List.getD tX10_fire 66 x_bad = x_callV2 10 mX10_crossing := rfl
theorem kX10_fire_69 : List.getD tX10_fire 69 x_bad = x_istore 4 2 := rfl
theorem kX10_fire_71 : List.getD tX10_fire 71 x_bad = x_aload 0 1 := rfl
theorem kX10_fire_72 : List.getD tX10_fire 72 x_bad = x_getR 10 0 := rfl
theorem kX10_fire_75 : List.getD tX10_fire 75 x_bad = x_push (.int (nI 75)) 2 := rfl
theorem kX10_fire_77 : List.getD tX10_fire 77 x_bad = x_iload 3 1 := rfl
theorem kX10_fire_78 : List.getD tX10_fire 78 x_bad = x_ii (fun a b => a + b) := rfl
theorem kX10_fire_79 : List.getD tX10_fire 79 x_bad = x_iload 4 2 := rfl
theorem kX10_fire_81 : List.getD tX10_fire 81 x_bad = x_push (.int (nI 1)) 1 := rfl
theorem kX10_fire_82 : List.getD tX10_fire 82 x_bad = x_icmpn (fun a b => a = b) 89 := rfl
theorem kX10_fire_85 : List.getD tX10_fire 85 x_bad = x_push (.int (nI 1)) 1 := rfl
theorem kX10_fire_86 : List.getD tX10_fire 86 x_bad = x_goto 108 := rfl
theorem kX10_fire_89 : List.getD tX10_fire 89 x_bad = x_iload 4 2 := rfl
theorem kX10_fire_91 : List.getD tX10_fire 91 x_bad = x_push (.int (nI 2)) 1 := rfl
theorem kX10_fire_92 : List.getD tX10_fire 92 x_bad = x_icmpn (fun a b => a = b) 99 := rfl
theorem kX10_fire_95 : List.getD tX10_fire 95 x_bad = x_push (.int (nI 0)) 1 := rfl
theorem kX10_fire_96 : List.getD tX10_fire 96 x_bad = x_goto 108 := rfl
theorem kX10_fire_99 : List.getD tX10_fire 99 x_bad = x_aload 0 1 := rfl
theorem kX10_fire_100 : List.getD tX10_fire 100 x_bad = x_getR 10 0 := rfl
theorem kX10_fire_103 : List.getD tX10_fire 103 x_bad = x_push (.int (nI 75)) 2 := rfl
theorem kX10_fire_105 : List.getD tX10_fire 105 x_bad = x_iload 3 1 := rfl
theorem kX10_fire_106 : List.getD tX10_fire 106 x_bad = x_ii (fun a b => a + b) := rfl
theorem kX10_fire_107 : List.getD tX10_fire 107 x_bad = x_iald := rfl
theorem kX10_fire_108 : List.getD tX10_fire 108 x_bad = x_iast := rfl
theorem kX10_fire_109 : List.getD tX10_fire 109 x_bad = x_iload 2 1 := rfl
theorem kX10_fire_110 : List.getD tX10_fire 110 x_bad = x_aload 0 1 := rfl
theorem kX10_fire_111 : List.getD tX10_fire 111 x_bad = x_getR 10 0 := rfl
theorem kX10_fire_114 : List.getD tX10_fire 114 x_bad = x_push (.int (nI 75)) 2 := rfl
theorem kX10_fire_116 : List.getD tX10_fire 116 x_bad = x_iload 3 1 := rfl
theorem kX10_fire_117 : List.getD tX10_fire 117 x_bad = x_ii (fun a b => a + b) := rfl
theorem kX10_fire_118 : List.getD tX10_fire 118 x_bad = x_iald := rfl
theorem kX10_fire_119 : List.getD tX10_fire 119 x_bad = x_ii (fun a b => a + b) := rfl
theorem kX10_fire_120 : List.getD tX10_fire 120 x_bad = x_istore 2 1 := rfl
theorem kX10_fire_121 : List.getD tX10_fire 121 x_bad = x_iinc 3 (nI 1) := rfl
theorem kX10_fire_124 : List.getD tX10_fire 124 x_bad = x_goto 50 := rfl
theorem kX10_fire_127 : List.getD tX10_fire 127 x_bad = x_iload 2 1 := rfl
theorem kX10_fire_128 : List.getD tX10_fire 128 x_bad = x_iret := rfl
def tX10_gain : List PT := [x_push (.int (nI 0)) 1, x_istore 2 1, x_push (.int (nI 0)) 1, x_istore 3 1, x_iload 3 1, x_aload 0 1, x_getI 10 9, x_bad, x_bad, x_icmp (fun a b => b ≤ a) 44, x_bad, x_bad, x_iload 2 1, x_aload 0 1, x_getR 10 13, x_bad, x_bad, x_iload 3 1, x_iald, x_ifn (fun a => a = 0) 35, x_bad, x_bad, x_aload 0 1, x_iload 1 1, x_iload 3 1, x_callV2 10 mX10_solves, x_bad, x_bad, x_if (fun a => a = 0) 35, x_bad, x_bad, x_push (.int (nI 1)) 1, x_goto 36, x_bad, x_bad, x_push (.int (nI 0)) 1, x_ii (fun a b => a + b), x_istore 2 1, x_iinc 3 (nI 1), x_bad, x_bad, x_goto 4, x_bad, x_bad, x_iload 2 1, x_iret]
set_option maxRecDepth 20000 in
theorem okX10_gain : SndT RX10 cX10_gain mX10_gain.2.2.1 mX10_gain.2.2.2.2.1 mX10_gain.2.2.2.2.2 false mX10_gain.2.2.2.1 0 tX10_gain := ⟨s_iconst (n := 0) (by decide +kernel) (by decide +kernel), s_istore_n (k := 2) (i := 2) (by decide +kernel) rfl (by decide), s_iconst (n := 0) (by decide +kernel) (by decide +kernel), s_istore_n (k := 3) (i := 3) (by decide +kernel) rfl (by decide), s_iload_n (k := 3) (i := 3) (by decide +kernel) rfl, s_aload_n (k := 0) (i := 0) (by decide +kernel) rfl, s_getI (by decide +kernel) fl_RX10_103 rfl, s_bad, s_bad, s_icmp_ge (off := 35) (by decide +kernel) (by decide), s_bad, s_bad, s_iload_n (k := 2) (i := 2) (by decide +kernel) rfl, s_aload_n (k := 0) (i := 0) (by decide +kernel) rfl, s_getR (by decide +kernel) fl_RX10_35 rfl, s_bad, s_bad, s_iload_n (k := 3) (i := 3) (by decide +kernel) rfl, s_iald (by decide +kernel), s_if_ne (off := 16) (by decide +kernel) (by decide), s_bad, s_bad, s_aload_n (k := 0) (i := 0) (by decide +kernel) rfl, s_iload_n (k := 1) (i := 1) (by decide +kernel) rfl, s_iload_n (k := 3) (i := 3) (by decide +kernel) rfl, s_callV2 (by decide +kernel) lv_RX10_106 ⟨by decide, by decide⟩, s_bad, s_bad, s_if_eq (off := 7) (by decide +kernel) (by decide), s_bad, s_bad, s_iconst (n := 1) (by decide +kernel) (by decide +kernel), s_goto (off := 4) (by decide +kernel) (by decide), s_bad, s_bad, s_iconst (n := 0) (by decide +kernel) (by decide +kernel), s_iadd (by decide +kernel), s_istore_n (k := 2) (i := 2) (by decide +kernel) rfl (by decide), s_iinc (n := 1) (by decide +kernel) (by decide +kernel) (by decide), s_bad, s_bad, s_goto (off := (-37)) (by decide +kernel) (by decide), s_bad, s_bad, s_iload_n (k := 2) (i := 2) (by decide +kernel) rfl, s_iret (by decide +kernel) rfl, trivial⟩
theorem kX10_gain_0 : List.getD tX10_gain 0 x_bad = x_push (.int (nI 0)) 1 := rfl
theorem kX10_gain_1 : List.getD tX10_gain 1 x_bad = x_istore 2 1 := rfl
theorem kX10_gain_2 : List.getD tX10_gain 2 x_bad = x_push (.int (nI 0)) 1 := rfl
theorem kX10_gain_3 : List.getD tX10_gain 3 x_bad = x_istore 3 1 := rfl
theorem kX10_gain_4 : List.getD tX10_gain 4 x_bad = x_iload 3 1 := rfl
theorem kX10_gain_5 : List.getD tX10_gain 5 x_bad = x_aload 0 1 := rfl
theorem kX10_gain_6 : List.getD tX10_gain 6 x_bad = x_getI 10 9 := rfl
theorem kX10_gain_9 : List.getD tX10_gain 9 x_bad = x_icmp (fun a b => b ≤ a) 44 := rfl
theorem kX10_gain_12 : List.getD tX10_gain 12 x_bad = x_iload 2 1 := rfl
theorem kX10_gain_13 : List.getD tX10_gain 13 x_bad = x_aload 0 1 := rfl
theorem kX10_gain_14 : List.getD tX10_gain 14 x_bad = x_getR 10 13 := rfl
theorem kX10_gain_17 : List.getD tX10_gain 17 x_bad = x_iload 3 1 := rfl
theorem kX10_gain_18 : List.getD tX10_gain 18 x_bad = x_iald := rfl
theorem kX10_gain_19 : List.getD tX10_gain 19 x_bad = x_ifn (fun a => a = 0) 35 := rfl
theorem kX10_gain_22 : List.getD tX10_gain 22 x_bad = x_aload 0 1 := rfl
theorem kX10_gain_23 : List.getD tX10_gain 23 x_bad = x_iload 1 1 := rfl
theorem kX10_gain_24 : List.getD tX10_gain 24 x_bad = x_iload 3 1 := rfl
theorem kX10_gain_25 : List.getD tX10_gain 25 x_bad = x_callV2 10 mX10_solves := rfl
theorem kX10_gain_28 : List.getD tX10_gain 28 x_bad = x_if (fun a => a = 0) 35 := rfl
theorem kX10_gain_31 : List.getD tX10_gain 31 x_bad = x_push (.int (nI 1)) 1 := rfl
theorem kX10_gain_32 : List.getD tX10_gain 32 x_bad = x_goto 36 := rfl
theorem kX10_gain_35 : List.getD tX10_gain 35 x_bad = x_push (.int (nI 0)) 1 := rfl
theorem kX10_gain_36 : List.getD tX10_gain 36 x_bad = x_ii (fun a b => a + b) := rfl
theorem kX10_gain_37 : List.getD tX10_gain 37 x_bad = x_istore 2 1 := rfl
theorem kX10_gain_38 : List.getD tX10_gain 38 x_bad = x_iinc 3 (nI 1) := rfl
theorem kX10_gain_41 : List.getD tX10_gain 41 x_bad = x_goto 4 := rfl
theorem kX10_gain_44 : List.getD tX10_gain 44 x_bad = x_iload 2 1 := rfl
theorem kX10_gain_45 : List.getD tX10_gain 45 x_bad = x_iret := rfl
def tX10_isNeeded : List PT := [x_push (.int (nI 0)) 1, x_istore 2 1, x_push (.int (nI 0)) 1, x_istore 3 1, x_iload 3 1, x_aload 0 1, x_getI 10 9, x_bad, x_bad, x_icmp (fun a b => b ≤ a) 47, x_bad, x_bad, x_iload 2 1, x_ifn (fun a => a = 0) 35, x_bad, x_bad, x_aload 0 1, x_getR 10 13, x_bad, x_bad, x_iload 3 1, x_iald, x_push (.int (nI 1)) 1, x_icmpn (fun a b => a = b) 39, x_bad, x_bad, x_aload 0 1, x_iload 1 1, x_iload 3 1, x_callV2 10 mX10_solves, x_bad, x_bad, x_if (fun a => a = 0) 39, x_bad, x_bad, x_push (.int (nI 1)) 1, x_goto 40, x_bad, x_bad, x_push (.int (nI 0)) 1, x_istore 2 1, x_iinc 3 (nI 1), x_bad, x_bad, x_goto 4, x_bad, x_bad, x_iload 2 1, x_zret]
set_option maxRecDepth 20000 in
theorem okX10_isNeeded : SndT RX10 cX10_isNeeded mX10_isNeeded.2.2.1 mX10_isNeeded.2.2.2.2.1 mX10_isNeeded.2.2.2.2.2 false mX10_isNeeded.2.2.2.1 0 tX10_isNeeded := ⟨s_iconst (n := 0) (by decide +kernel) (by decide +kernel), s_istore_n (k := 2) (i := 2) (by decide +kernel) rfl (by decide), s_iconst (n := 0) (by decide +kernel) (by decide +kernel), s_istore_n (k := 3) (i := 3) (by decide +kernel) rfl (by decide), s_iload_n (k := 3) (i := 3) (by decide +kernel) rfl, s_aload_n (k := 0) (i := 0) (by decide +kernel) rfl, s_getI (by decide +kernel) fl_RX10_103 rfl, s_bad, s_bad, s_icmp_ge (off := 38) (by decide +kernel) (by decide), s_bad, s_bad, s_iload_n (k := 2) (i := 2) (by decide +kernel) rfl, s_if_ne (off := 22) (by decide +kernel) (by decide), s_bad, s_bad, s_aload_n (k := 0) (i := 0) (by decide +kernel) rfl, s_getR (by decide +kernel) fl_RX10_35 rfl, s_bad, s_bad, s_iload_n (k := 3) (i := 3) (by decide +kernel) rfl, s_iald (by decide +kernel), s_iconst (n := 1) (by decide +kernel) (by decide +kernel), s_icmp_ne (off := 16) (by decide +kernel) (by decide), s_bad, s_bad, s_aload_n (k := 0) (i := 0) (by decide +kernel) rfl, s_iload_n (k := 1) (i := 1) (by decide +kernel) rfl, s_iload_n (k := 3) (i := 3) (by decide +kernel) rfl, s_callV2 (by decide +kernel) lv_RX10_106 ⟨by decide, by decide⟩, s_bad, s_bad, s_if_eq (off := 7) (by decide +kernel) (by decide), s_bad, s_bad, s_iconst (n := 1) (by decide +kernel) (by decide +kernel), s_goto (off := 4) (by decide +kernel) (by decide), s_bad, s_bad, s_iconst (n := 0) (by decide +kernel) (by decide +kernel), s_istore_n (k := 2) (i := 2) (by decide +kernel) rfl (by decide), s_iinc (n := 1) (by decide +kernel) (by decide +kernel) (by decide), s_bad, s_bad, s_goto (off := (-40)) (by decide +kernel) (by decide), s_bad, s_bad, s_iload_n (k := 2) (i := 2) (by decide +kernel) rfl, s_zret (by decide +kernel) rfl, trivial⟩
theorem kX10_isNeeded_0 : List.getD tX10_isNeeded 0 x_bad = x_push (.int (nI 0)) 1 := rfl
theorem kX10_isNeeded_1 : List.getD tX10_isNeeded 1 x_bad = x_istore 2 1 := rfl
theorem kX10_isNeeded_2 : List.getD tX10_isNeeded 2 x_bad = x_push (.int (nI 0)) 1 := rfl
theorem kX10_isNeeded_3 : List.getD tX10_isNeeded 3 x_bad = x_istore 3 1 := rfl
theorem kX10_isNeeded_4 : List.getD tX10_isNeeded 4 x_bad = x_iload 3 1 := rfl
theorem kX10_isNeeded_5 : List.getD tX10_isNeeded 5 x_bad = x_aload 0 1 := rfl
theorem kX10_isNeeded_6 : List.getD tX10_isNeeded 6 x_bad = x_getI 10 9 := rfl
theorem kX10_isNeeded_9 : List.getD tX10_isNeeded 9 x_bad = x_icmp (fun a b => b ≤ a) 47 := rfl
theorem kX10_isNeeded_12 : List.getD tX10_isNeeded 12 x_bad = x_iload 2 1 := rfl
theorem kX10_isNeeded_13 : List.getD tX10_isNeeded 13 x_bad = x_ifn (fun a => a = 0) 35 := rfl
theorem kX10_isNeeded_16 : List.getD tX10_isNeeded 16 x_bad = x_aload 0 1 := rfl
theorem kX10_isNeeded_17 : List.getD tX10_isNeeded 17 x_bad = x_getR 10 13 := rfl
theorem kX10_isNeeded_20 : List.getD tX10_isNeeded 20 x_bad = x_iload 3 1 := rfl
theorem kX10_isNeeded_21 : List.getD tX10_isNeeded 21 x_bad = x_iald := rfl
theorem kX10_isNeeded_22 : List.getD tX10_isNeeded 22 x_bad = x_push (.int (nI 1)) 1 := rfl
theorem kX10_isNeeded_23 : List.getD tX10_isNeeded 23 x_bad = x_icmpn (fun a b => a = b) 39 := rfl
theorem kX10_isNeeded_26 : List.getD tX10_isNeeded 26 x_bad = x_aload 0 1 := rfl
theorem kX10_isNeeded_27 : List.getD tX10_isNeeded 27 x_bad = x_iload 1 1 := rfl
theorem kX10_isNeeded_28 : List.getD tX10_isNeeded 28 x_bad = x_iload 3 1 := rfl
theorem kX10_isNeeded_29 : List.getD tX10_isNeeded 29 x_bad = x_callV2 10 mX10_solves := rfl
theorem kX10_isNeeded_32 : List.getD tX10_isNeeded 32 x_bad = x_if (fun a => a = 0) 39 := rfl
theorem kX10_isNeeded_35 : List.getD tX10_isNeeded 35 x_bad = x_push (.int (nI 1)) 1 := rfl
theorem kX10_isNeeded_36 : List.getD tX10_isNeeded 36 x_bad = x_goto 40 := rfl
theorem kX10_isNeeded_39 : List.getD tX10_isNeeded 39 x_bad = x_push (.int (nI 0)) 1 := rfl
theorem kX10_isNeeded_40 : List.getD tX10_isNeeded 40 x_bad = x_istore 2 1 := rfl
theorem kX10_isNeeded_41 : List.getD tX10_isNeeded 41 x_bad = x_iinc 3 (nI 1) := rfl
theorem kX10_isNeeded_44 : List.getD tX10_isNeeded 44 x_bad = x_goto 4 := rfl
theorem kX10_isNeeded_47 : List.getD tX10_isNeeded 47 x_bad = x_iload 2 1 := rfl
theorem kX10_isNeeded_48 : List.getD tX10_isNeeded 48 x_bad = x_zret := rfl
def tX10_splits : List PT := [x_aload 0 1, x_callV0 10 mX10_unused, x_bad, x_bad, x_istore 2 1, x_push (.int (-9)) 2, x_bad, x_istore 3 1, x_push (.int (nI 0)) 1, x_istore 4 2, x_bad, x_iload 4 2, x_bad, x_aload 0 1, x_getR 10 0, x_bad, x_bad, x_push (.int (nI 1)) 1, x_iald, x_icmp (fun a b => b ≤ a) 68, x_bad, x_bad, x_aload 0 1, x_iload 4 2, x_bad, x_push (.int (nI 1)) 1, x_callV2 10 mX10_of, x_bad, x_bad, x_iload 1 1, x_icmpn (fun a b => a = b) 60, x_bad, x_bad, x_iload 3 1, x_push (.int (-9)) 2, x_bad, x_icmp (fun a b => a = b) 55, x_bad, x_bad, x_aload 0 1, x_iload 4 2, x_bad, x_push (.int (nI 0)) 1, x_callV2 10 mX10_of, x_bad, x_bad, x_aload 0 1, x_iload 3 1, x_push (.int (nI 0)) 1, x_callV2 10 mX10_of, x_bad, x_bad, x_icmp (fun a b => a ≤ b) 60, x_bad, x_bad, x_iload 4 2, x_bad, x_goto 61, x_bad, x_bad, x_iload 3 1, x_istore 3 1, x_iinc 4 (nI 1), x_bad, x_bad, x_goto 11, x_bad, x_bad, x_aload 0 1, x_getR 10 0, x_bad, x_bad, x_push (.int (nI 2)) 1, x_push (.int (nI 3)) 1, x_iload 3 1, x_ii (fun a b => a * b), x_ii (fun a b => a + b), x_push (.int (nI 1)) 1, x_ii (fun a b => a + b), x_iload 2 1, x_iast, x_iload 2 1, x_iret]
set_option maxRecDepth 20000 in
theorem okX10_splits : SndT RX10 cX10_splits mX10_splits.2.2.1 mX10_splits.2.2.2.2.1 mX10_splits.2.2.2.2.2 false mX10_splits.2.2.2.1 0 tX10_splits := ⟨s_aload_n (k := 0) (i := 0) (by decide +kernel) rfl, s_callV0 (by decide +kernel) lv_RX10_214 ⟨by decide, by decide⟩, s_bad, s_bad, s_istore_n (k := 2) (i := 2) (by decide +kernel) rfl (by decide), s_bipush (n := (-9)) (by decide +kernel) (by decide +kernel), s_bad, s_istore_n (k := 3) (i := 3) (by decide +kernel) rfl (by decide), s_iconst (n := 0) (by decide +kernel) (by decide +kernel), s_istore (by decide +kernel) (by decide), s_bad, s_iload (by decide +kernel), s_bad, s_aload_n (k := 0) (i := 0) (by decide +kernel) rfl, s_getR (by decide +kernel) fl_RX10_7 rfl, s_bad, s_bad, s_iconst (n := 1) (by decide +kernel) (by decide +kernel), s_iald (by decide +kernel), s_icmp_ge (off := 49) (by decide +kernel) (by decide), s_bad, s_bad, s_aload_n (k := 0) (i := 0) (by decide +kernel) rfl, s_iload (by decide +kernel), s_bad, s_iconst (n := 1) (by decide +kernel) (by decide +kernel), s_callV2 (by decide +kernel) lv_RX10_78 ⟨by decide, by decide⟩, s_bad, s_bad, s_iload_n (k := 1) (i := 1) (by decide +kernel) rfl, s_icmp_ne (off := 30) (by decide +kernel) (by decide), s_bad, s_bad, s_iload_n (k := 3) (i := 3) (by decide +kernel) rfl, s_bipush (n := (-9)) (by decide +kernel) (by decide +kernel), s_bad, s_icmp_eq (off := 19) (by decide +kernel) (by decide), s_bad, s_bad, s_aload_n (k := 0) (i := 0) (by decide +kernel) rfl, s_iload (by decide +kernel), s_bad, s_iconst (n := 0) (by decide +kernel) (by decide +kernel), s_callV2 (by decide +kernel) lv_RX10_78 ⟨by decide, by decide⟩, s_bad, s_bad, s_aload_n (k := 0) (i := 0) (by decide +kernel) rfl, s_iload_n (k := 3) (i := 3) (by decide +kernel) rfl, s_iconst (n := 0) (by decide +kernel) (by decide +kernel), s_callV2 (by decide +kernel) lv_RX10_78 ⟨by decide, by decide⟩, s_bad, s_bad, s_icmp_le (off := 8) (by decide +kernel) (by decide), s_bad, s_bad, s_iload (by decide +kernel), s_bad, s_goto (off := 4) (by decide +kernel) (by decide), s_bad, s_bad, s_iload_n (k := 3) (i := 3) (by decide +kernel) rfl, s_istore_n (k := 3) (i := 3) (by decide +kernel) rfl (by decide), s_iinc (n := 1) (by decide +kernel) (by decide +kernel) (by decide), s_bad, s_bad, s_goto (off := (-54)) (by decide +kernel) (by decide), s_bad, s_bad, s_aload_n (k := 0) (i := 0) (by decide +kernel) rfl, s_getR (by decide +kernel) fl_RX10_7 rfl, s_bad, s_bad, s_iconst (n := 2) (by decide +kernel) (by decide +kernel), s_iconst (n := 3) (by decide +kernel) (by decide +kernel), s_iload_n (k := 3) (i := 3) (by decide +kernel) rfl, s_imul (by decide +kernel), s_iadd (by decide +kernel), s_iconst (n := 1) (by decide +kernel) (by decide +kernel), s_iadd (by decide +kernel), s_iload_n (k := 2) (i := 2) (by decide +kernel) rfl, s_iast (by decide +kernel), s_iload_n (k := 2) (i := 2) (by decide +kernel) rfl, s_iret (by decide +kernel) rfl, trivial⟩
theorem kX10_splits_0 : List.getD tX10_splits 0 x_bad = x_aload 0 1 := rfl
theorem kX10_splits_1 : List.getD tX10_splits 1 x_bad = x_callV0 10 mX10_unused := rfl
theorem kX10_splits_4 : List.getD tX10_splits 4 x_bad = x_istore 2 1 := rfl
theorem kX10_splits_5 : List.getD tX10_splits 5 x_bad = x_push (.int (-9)) 2 := rfl
theorem kX10_splits_7 : List.getD tX10_splits 7 x_bad = x_istore 3 1 := rfl
theorem kX10_splits_8 : List.getD tX10_splits 8 x_bad = x_push (.int (nI 0)) 1 := rfl
theorem kX10_splits_9 : List.getD tX10_splits 9 x_bad = x_istore 4 2 := rfl
theorem kX10_splits_11 : List.getD tX10_splits 11 x_bad = x_iload 4 2 := rfl
theorem kX10_splits_13 : List.getD tX10_splits 13 x_bad = x_aload 0 1 := rfl
theorem kX10_splits_14 : List.getD tX10_splits 14 x_bad = x_getR 10 0 := rfl
theorem kX10_splits_17 : List.getD tX10_splits 17 x_bad = x_push (.int (nI 1)) 1 := rfl
theorem kX10_splits_18 : List.getD tX10_splits 18 x_bad = x_iald := rfl
theorem kX10_splits_19 : List.getD tX10_splits 19 x_bad = x_icmp (fun a b => b ≤ a) 68 := rfl
theorem kX10_splits_22 : List.getD tX10_splits 22 x_bad = x_aload 0 1 := rfl
theorem kX10_splits_23 : List.getD tX10_splits 23 x_bad = x_iload 4 2 := rfl
theorem kX10_splits_25 : List.getD tX10_splits 25 x_bad = x_push (.int (nI 1)) 1 := rfl
theorem kX10_splits_26 : List.getD tX10_splits 26 x_bad = x_callV2 10 mX10_of := rfl
theorem kX10_splits_29 : List.getD tX10_splits 29 x_bad = x_iload 1 1 := rfl
theorem kX10_splits_30 : List.getD tX10_splits 30 x_bad = x_icmpn (fun a b => a = b) 60 := rfl
theorem kX10_splits_33 : List.getD tX10_splits 33 x_bad = x_iload 3 1 := rfl
theorem kX10_splits_34 : List.getD tX10_splits 34 x_bad = x_push (.int (-9)) 2 := rfl
theorem kX10_splits_36 : List.getD tX10_splits 36 x_bad = x_icmp (fun a b => a = b) 55 := rfl
theorem kX10_splits_39 : List.getD tX10_splits 39 x_bad = x_aload 0 1 := rfl
theorem kX10_splits_40 : List.getD tX10_splits 40 x_bad = x_iload 4 2 := rfl
theorem kX10_splits_42 : List.getD tX10_splits 42 x_bad = x_push (.int (nI 0)) 1 := rfl
theorem kX10_splits_43 : List.getD tX10_splits 43 x_bad = x_callV2 10 mX10_of := rfl
theorem kX10_splits_46 : List.getD tX10_splits 46 x_bad = x_aload 0 1 := rfl
theorem kX10_splits_47 : List.getD tX10_splits 47 x_bad = x_iload 3 1 := rfl
theorem kX10_splits_48 : List.getD tX10_splits 48 x_bad = x_push (.int (nI 0)) 1 := rfl
theorem kX10_splits_49 : List.getD tX10_splits 49 x_bad = x_callV2 10 mX10_of := rfl
theorem kX10_splits_52 : List.getD tX10_splits 52 x_bad = x_icmp (fun a b => a ≤ b) 60 := rfl
theorem kX10_splits_55 : List.getD tX10_splits 55 x_bad = x_iload 4 2 := rfl
theorem kX10_splits_57 : List.getD tX10_splits 57 x_bad = x_goto 61 := rfl
theorem kX10_splits_60 : List.getD tX10_splits 60 x_bad = x_iload 3 1 := rfl
theorem kX10_splits_61 : List.getD tX10_splits 61 x_bad = x_istore 3 1 := rfl
theorem kX10_splits_62 : List.getD tX10_splits 62 x_bad = x_iinc 4 (nI 1) := rfl
theorem kX10_splits_65 : List.getD tX10_splits 65 x_bad = x_goto 11 := rfl
theorem kX10_splits_68 : List.getD tX10_splits 68 x_bad = x_aload 0 1 := rfl
theorem kX10_splits_69 : List.getD tX10_splits 69 x_bad = x_getR 10 0 := rfl
theorem kX10_splits_72 : List.getD tX10_splits 72 x_bad = x_push (.int (nI 2)) 1 := rfl
theorem kX10_splits_73 : List.getD tX10_splits 73 x_bad = x_push (.int (nI 3)) 1 := rfl
theorem kX10_splits_74 : List.getD tX10_splits 74 x_bad = x_iload 3 1 := rfl
theorem kX10_splits_75 : List.getD tX10_splits 75 x_bad = x_ii (fun a b => a * b) := rfl
theorem kX10_splits_76 : List.getD tX10_splits 76 x_bad = x_ii (fun a b => a + b) := rfl
theorem kX10_splits_77 : List.getD tX10_splits 77 x_bad = x_push (.int (nI 1)) 1 := rfl
theorem kX10_splits_78 : List.getD tX10_splits 78 x_bad = x_ii (fun a b => a + b) := rfl
theorem kX10_splits_79 : List.getD tX10_splits 79 x_bad = x_iload 2 1 := rfl
theorem kX10_splits_80 : List.getD tX10_splits 80 x_bad = x_iast := rfl
theorem kX10_splits_81 : List.getD tX10_splits 81 x_bad = x_iload 2 1 := rfl
theorem kX10_splits_82 : List.getD tX10_splits 82 x_bad = x_iret := rfl
def tX10_wrongSplit : List PT := [x_iload 1 1, x_callS1 mX10_isEvent, x_bad, x_bad, x_ifn (fun a => a = 0) 9, x_bad, x_bad, x_push (.int (-1)) 1, x_iret, x_aload 0 1, x_iload 1 1, x_callV1 10 mX10_arcsOf, x_bad, x_bad, x_push (.int (nI 2)) 1, x_icmp (fun a b => b ≤ a) 23, x_bad, x_bad, x_push (.int (-2)) 2, x_bad, x_goto 38, x_bad, x_bad, x_aload 0 1, x_callV0 10 mX10_unused, x_bad, x_bad, x_push (.int (nI 8)) 2, x_bad, x_icmpn (fun a b => a = b) 37, x_bad, x_bad, x_push (.int (-3)) 2, x_bad, x_goto 38, x_bad, x_bad, x_push (.int (nI 0)) 1, x_iret]
set_option maxRecDepth 20000 in
theorem okX10_wrongSplit : SndT RX10 cX10_wrongSplit mX10_wrongSplit.2.2.1 mX10_wrongSplit.2.2.2.2.1 mX10_wrongSplit.2.2.2.2.2 false mX10_wrongSplit.2.2.2.1 0 tX10_wrongSplit := ⟨s_iload_n (k := 1) (i := 1) (by decide +kernel) rfl, s_callS1 (by decide +kernel) ls_RX10_204 ⟨by decide, by decide⟩, s_bad, s_bad, s_if_ne (off := 5) (by decide +kernel) (by decide), s_bad, s_bad, s_iconst (n := (-1)) (by decide +kernel) (by decide +kernel), s_iret (by decide +kernel) rfl, s_aload_n (k := 0) (i := 0) (by decide +kernel) rfl, s_iload_n (k := 1) (i := 1) (by decide +kernel) rfl, s_callV1 (by decide +kernel) lv_RX10_82 ⟨by decide, by decide⟩, s_bad, s_bad, s_iconst (n := 2) (by decide +kernel) (by decide +kernel), s_icmp_ge (off := 8) (by decide +kernel) (by decide), s_bad, s_bad, s_bipush (n := (-2)) (by decide +kernel) (by decide +kernel), s_bad, s_goto (off := 18) (by decide +kernel) (by decide), s_bad, s_bad, s_aload_n (k := 0) (i := 0) (by decide +kernel) rfl, s_callV0 (by decide +kernel) lv_RX10_214 ⟨by decide, by decide⟩, s_bad, s_bad, s_bipush (n := 8) (by decide +kernel) (by decide +kernel), s_bad, s_icmp_ne (off := 8) (by decide +kernel) (by decide), s_bad, s_bad, s_bipush (n := (-3)) (by decide +kernel) (by decide +kernel), s_bad, s_goto (off := 4) (by decide +kernel) (by decide), s_bad, s_bad, s_iconst (n := 0) (by decide +kernel) (by decide +kernel), s_iret (by decide +kernel) rfl, trivial⟩
theorem kX10_wrongSplit_0 : List.getD tX10_wrongSplit 0 x_bad = x_iload 1 1 := rfl
theorem kX10_wrongSplit_1 : List.getD tX10_wrongSplit 1 x_bad = x_callS1 mX10_isEvent := rfl
theorem kX10_wrongSplit_4 : List.getD tX10_wrongSplit 4 x_bad = x_ifn (fun a => a = 0) 9 := rfl
theorem kX10_wrongSplit_7 : List.getD tX10_wrongSplit 7 x_bad = x_push (.int (-1)) 1 := rfl
theorem kX10_wrongSplit_8 : List.getD tX10_wrongSplit 8 x_bad = x_iret := rfl
theorem kX10_wrongSplit_9 : List.getD tX10_wrongSplit 9 x_bad = x_aload 0 1 := rfl
theorem kX10_wrongSplit_10 : List.getD tX10_wrongSplit 10 x_bad = x_iload 1 1 := rfl
theorem kX10_wrongSplit_11 : List.getD tX10_wrongSplit 11 x_bad = x_callV1 10 mX10_arcsOf := rfl
theorem kX10_wrongSplit_14 : List.getD tX10_wrongSplit 14 x_bad = x_push (.int (nI 2)) 1 := rfl
theorem kX10_wrongSplit_15 : List.getD tX10_wrongSplit 15 x_bad = x_icmp (fun a b => b ≤ a) 23 := rfl
theorem kX10_wrongSplit_18 : List.getD tX10_wrongSplit 18 x_bad = x_push (.int (-2)) 2 := rfl
theorem kX10_wrongSplit_20 : List.getD tX10_wrongSplit 20 x_bad = x_goto 38 := rfl
theorem kX10_wrongSplit_23 : List.getD tX10_wrongSplit 23 x_bad = x_aload 0 1 := rfl
theorem kX10_wrongSplit_24 : List.getD tX10_wrongSplit 24 x_bad = x_callV0 10 mX10_unused := rfl
theorem kX10_wrongSplit_27 : List.getD tX10_wrongSplit 27 x_bad = x_push (.int (nI 8)) 2 := rfl
theorem kX10_wrongSplit_29 : List.getD tX10_wrongSplit 29 x_bad = x_icmpn (fun a b => a = b) 37 := rfl
theorem kX10_wrongSplit_32 : List.getD tX10_wrongSplit 32 x_bad = x_push (.int (-3)) 2 := rfl
theorem kX10_wrongSplit_34 : List.getD tX10_wrongSplit 34 x_bad = x_goto 38 := rfl
theorem kX10_wrongSplit_37 : List.getD tX10_wrongSplit 37 x_bad = x_push (.int (nI 0)) 1 := rfl
theorem kX10_wrongSplit_38 : List.getD tX10_wrongSplit 38 x_bad = x_iret := rfl
def tX10_findsPlaces : List PT := [x_aload 0 1, x_push (.int (nI 0)) 1, x_putI 10 12, x_bad, x_bad, x_push (.int (nI 0)) 1, x_istore 1 1, x_iload 1 1, x_aload 0 1, x_getI 10 9, x_bad, x_bad, x_icmp (fun a b => b ≤ a) 28, x_bad, x_bad, x_aload 0 1, x_getR 10 13, x_bad, x_bad, x_iload 1 1, x_push (.int (nI 0)) 1, x_iast, x_iinc 1 (nI 1), x_bad, x_bad, x_goto 7, x_bad, x_bad, x_push (.int (nI 1)) 1, x_istore 1 1, x_iload 1 1, x_if (fun a => a = 0) 143, x_bad, x_bad, x_push (.int (nI 0)) 1, x_istore 2 1, x_push (.int (nI 0)) 1, x_istore 3 1, x_push (.int (nI 0)) 1, x_istore 4 2, x_bad, x_iload 4 2, x_bad, x_aload 0 1, x_getI 10 5, x_bad, x_bad, x_icmp (fun a b => b ≤ a) 100, x_bad, x_bad, x_aload 0 1, x_aload 0 1, x_getR 10 4, x_bad, x_bad, x_iload 4 2, x_bad, x_iald, x_callV1 10 mX10_gain, x_bad, x_bad, x_istore 5 2, x_bad, x_iload 5 2, x_bad, x_iload 3 1, x_icmp (fun a b => a ≤ b) 79, x_bad, x_bad, x_aload 0 1, x_getR 10 4, x_bad, x_bad, x_iload 4 2, x_bad, x_iald, x_goto 80, x_bad, x_bad, x_iload 2 1, x_istore 2 1, x_iload 5 2, x_bad, x_iload 3 1, x_icmp (fun a b => a ≤ b) 92, x_bad, x_bad, x_iload 5 2, x_bad, x_goto 93, x_bad, x_bad, x_iload 3 1, x_istore 3 1, x_iinc 4 (nI 1), x_bad, x_bad, x_goto 41, x_bad, x_bad, x_iload 3 1, x_if (fun a => a ≤ 0) 108, x_bad, x_bad, x_push (.int (nI 1)) 1, x_goto 109, x_bad, x_bad, x_push (.int (nI 0)) 1, x_istore 1 1, x_iload 1 1, x_if (fun a => a = 0) 140, x_bad, x_bad, x_aload 0 1, x_getR 10 11, x_bad, x_bad, x_aload 0 1, x_getI 10 12, x_bad, x_bad, x_iload 2 1, x_iast, x_aload 0 1, x_dup, x_getI 10 12, x_bad, x_bad, x_push (.int (nI 1)) 1, x_ii (fun a b => a + b), x_putI 10 12, x_bad, x_bad, x_aload 0 1, x_iload 2 1, x_push (.int (nI 1)) 1, x_callV2 10 mX10_counts, x_bad, x_bad, x_goto 30, x_bad, x_bad, x_push (.int (nI 0)) 1, x_istore 2 1, x_push (.int (nI 0)) 1, x_istore 3 1, x_iload 3 1, x_aload 0 1, x_getI 10 12, x_bad, x_bad, x_icmp (fun a b => b ≤ a) 203, x_bad, x_bad, x_aload 0 1, x_aload 0 1, x_getR 10 11, x_bad, x_bad, x_iload 3 1, x_iald, x_callV1 10 mX10_isNeeded, x_bad, x_bad, x_if (fun a => a = 0) 186, x_bad, x_bad, x_aload 0 1, x_getR 10 11, x_bad, x_bad, x_iload 2 1, x_aload 0 1, x_getR 10 11, x_bad, x_bad, x_iload 3 1, x_iald, x_iast, x_iinc 2 (nI 1), x_bad, x_bad, x_goto 197, x_bad, x_bad, x_aload 0 1, x_aload 0 1, x_getR 10 11, x_bad, x_bad, x_iload 3 1, x_iald, x_push (.int (-1)) 1, x_callV2 10 mX10_counts, x_bad, x_bad, x_iinc 3 (nI 1), x_bad, x_bad, x_goto 147, x_bad, x_bad, x_aload 0 1, x_iload 2 1, x_putI 10 12, x_bad, x_bad, x_vret]
set_option maxRecDepth 20000 in
theorem okX10_findsPlaces : SndT RX10 cX10_findsPlaces mX10_findsPlaces.2.2.1 mX10_findsPlaces.2.2.2.2.1 mX10_findsPlaces.2.2.2.2.2 false mX10_findsPlaces.2.2.2.1 0 tX10_findsPlaces := ⟨s_aload_n (k := 0) (i := 0) (by decide +kernel) rfl, s_iconst (n := 0) (by decide +kernel) (by decide +kernel), s_putI (by decide +kernel) fl_RX10_117 fp_10_12 rfl, s_bad, s_bad, s_iconst (n := 0) (by decide +kernel) (by decide +kernel), s_istore_n (k := 1) (i := 1) (by decide +kernel) rfl (by decide), s_iload_n (k := 1) (i := 1) (by decide +kernel) rfl, s_aload_n (k := 0) (i := 0) (by decide +kernel) rfl, s_getI (by decide +kernel) fl_RX10_103 rfl, s_bad, s_bad, s_icmp_ge (off := 16) (by decide +kernel) (by decide), s_bad, s_bad, s_aload_n (k := 0) (i := 0) (by decide +kernel) rfl, s_getR (by decide +kernel) fl_RX10_35 rfl, s_bad, s_bad, s_iload_n (k := 1) (i := 1) (by decide +kernel) rfl, s_iconst (n := 0) (by decide +kernel) (by decide +kernel), s_iast (by decide +kernel), s_iinc (n := 1) (by decide +kernel) (by decide +kernel) (by decide), s_bad, s_bad, s_goto (off := (-18)) (by decide +kernel) (by decide), s_bad, s_bad, s_iconst (n := 1) (by decide +kernel) (by decide +kernel), s_istore_n (k := 1) (i := 1) (by decide +kernel) rfl (by decide), s_iload_n (k := 1) (i := 1) (by decide +kernel) rfl, s_if_eq (off := 112) (by decide +kernel) (by decide), s_bad, s_bad, s_iconst (n := 0) (by decide +kernel) (by decide +kernel), s_istore_n (k := 2) (i := 2) (by decide +kernel) rfl (by decide), s_iconst (n := 0) (by decide +kernel) (by decide +kernel), s_istore_n (k := 3) (i := 3) (by decide +kernel) rfl (by decide), s_iconst (n := 0) (by decide +kernel) (by decide +kernel), s_istore (by decide +kernel) (by decide), s_bad, s_iload (by decide +kernel), s_bad, s_aload_n (k := 0) (i := 0) (by decide +kernel) rfl, s_getI (by decide +kernel) fl_RX10_92 rfl, s_bad, s_bad, s_icmp_ge (off := 53) (by decide +kernel) (by decide), s_bad, s_bad, s_aload_n (k := 0) (i := 0) (by decide +kernel) rfl, s_aload_n (k := 0) (i := 0) (by decide +kernel) rfl, s_getR (by decide +kernel) fl_RX10_16 rfl, s_bad, s_bad, s_iload (by decide +kernel), s_bad, s_iald (by decide +kernel), s_callV1 (by decide +kernel) lv_RX10_120 ⟨by decide, by decide⟩, s_bad, s_bad, s_istore (by decide +kernel) (by decide), s_bad, s_iload (by decide +kernel), s_bad, s_iload_n (k := 3) (i := 3) (by decide +kernel) rfl, s_icmp_le (off := 13) (by decide +kernel) (by decide), s_bad, s_bad, s_aload_n (k := 0) (i := 0) (by decide +kernel) rfl, s_getR (by decide +kernel) fl_RX10_16 rfl, s_bad, s_bad, s_iload (by decide +kernel), s_bad, s_iald (by decide +kernel), s_goto (off := 4) (by decide +kernel) (by decide), s_bad, s_bad, s_iload_n (k := 2) (i := 2) (by decide +kernel) rfl, s_istore_n (k := 2) (i := 2) (by decide +kernel) rfl (by decide), s_iload (by decide +kernel), s_bad, s_iload_n (k := 3) (i := 3) (by decide +kernel) rfl, s_icmp_le (off := 8) (by decide +kernel) (by decide), s_bad, s_bad, s_iload (by decide +kernel), s_bad, s_goto (off := 4) (by decide +kernel) (by decide), s_bad, s_bad, s_iload_n (k := 3) (i := 3) (by decide +kernel) rfl, s_istore_n (k := 3) (i := 3) (by decide +kernel) rfl (by decide), s_iinc (n := 1) (by decide +kernel) (by decide +kernel) (by decide), s_bad, s_bad, s_goto (off := (-56)) (by decide +kernel) (by decide), s_bad, s_bad, s_iload_n (k := 3) (i := 3) (by decide +kernel) rfl, s_if_le (off := 7) (by decide +kernel) (by decide), s_bad, s_bad, s_iconst (n := 1) (by decide +kernel) (by decide +kernel), s_goto (off := 4) (by decide +kernel) (by decide), s_bad, s_bad, s_iconst (n := 0) (by decide +kernel) (by decide +kernel), s_istore_n (k := 1) (i := 1) (by decide +kernel) rfl (by decide), s_iload_n (k := 1) (i := 1) (by decide +kernel) rfl, s_if_eq (off := 29) (by decide +kernel) (by decide), s_bad, s_bad, s_aload_n (k := 0) (i := 0) (by decide +kernel) rfl, s_getR (by decide +kernel) fl_RX10_32 rfl, s_bad, s_bad, s_aload_n (k := 0) (i := 0) (by decide +kernel) rfl, s_getI (by decide +kernel) fl_RX10_117 rfl, s_bad, s_bad, s_iload_n (k := 2) (i := 2) (by decide +kernel) rfl, s_iast (by decide +kernel), s_aload_n (k := 0) (i := 0) (by decide +kernel) rfl, s_dup (by decide +kernel), s_getI (by decide +kernel) fl_RX10_117 rfl, s_bad, s_bad, s_iconst (n := 1) (by decide +kernel) (by decide +kernel), s_iadd (by decide +kernel), s_putI (by decide +kernel) fl_RX10_117 fp_10_12 rfl, s_bad, s_bad, s_aload_n (k := 0) (i := 0) (by decide +kernel) rfl, s_iload_n (k := 2) (i := 2) (by decide +kernel) rfl, s_iconst (n := 1) (by decide +kernel) (by decide +kernel), s_callV2 (by decide +kernel) lv_RX10_123 ⟨by decide, by decide⟩, s_bad, s_bad, s_goto (off := (-110)) (by decide +kernel) (by decide), s_bad, s_bad, s_iconst (n := 0) (by decide +kernel) (by decide +kernel), s_istore_n (k := 2) (i := 2) (by decide +kernel) rfl (by decide), s_iconst (n := 0) (by decide +kernel) (by decide +kernel), s_istore_n (k := 3) (i := 3) (by decide +kernel) rfl (by decide), s_iload_n (k := 3) (i := 3) (by decide +kernel) rfl, s_aload_n (k := 0) (i := 0) (by decide +kernel) rfl, s_getI (by decide +kernel) fl_RX10_117 rfl, s_bad, s_bad, s_icmp_ge (off := 51) (by decide +kernel) (by decide), s_bad, s_bad, s_aload_n (k := 0) (i := 0) (by decide +kernel) rfl, s_aload_n (k := 0) (i := 0) (by decide +kernel) rfl, s_getR (by decide +kernel) fl_RX10_32 rfl, s_bad, s_bad, s_iload_n (k := 3) (i := 3) (by decide +kernel) rfl, s_iald (by decide +kernel), s_callV1 (by decide +kernel) lv_RX10_126 ⟨by decide, by decide⟩, s_bad, s_bad, s_if_eq (off := 21) (by decide +kernel) (by decide), s_bad, s_bad, s_aload_n (k := 0) (i := 0) (by decide +kernel) rfl, s_getR (by decide +kernel) fl_RX10_32 rfl, s_bad, s_bad, s_iload_n (k := 2) (i := 2) (by decide +kernel) rfl, s_aload_n (k := 0) (i := 0) (by decide +kernel) rfl, s_getR (by decide +kernel) fl_RX10_32 rfl, s_bad, s_bad, s_iload_n (k := 3) (i := 3) (by decide +kernel) rfl, s_iald (by decide +kernel), s_iast (by decide +kernel), s_iinc (n := 1) (by decide +kernel) (by decide +kernel) (by decide), s_bad, s_bad, s_goto (off := 14) (by decide +kernel) (by decide), s_bad, s_bad, s_aload_n (k := 0) (i := 0) (by decide +kernel) rfl, s_aload_n (k := 0) (i := 0) (by decide +kernel) rfl, s_getR (by decide +kernel) fl_RX10_32 rfl, s_bad, s_bad, s_iload_n (k := 3) (i := 3) (by decide +kernel) rfl, s_iald (by decide +kernel), s_iconst (n := (-1)) (by decide +kernel) (by decide +kernel), s_callV2 (by decide +kernel) lv_RX10_123 ⟨by decide, by decide⟩, s_bad, s_bad, s_iinc (n := 1) (by decide +kernel) (by decide +kernel) (by decide), s_bad, s_bad, s_goto (off := (-53)) (by decide +kernel) (by decide), s_bad, s_bad, s_aload_n (k := 0) (i := 0) (by decide +kernel) rfl, s_iload_n (k := 2) (i := 2) (by decide +kernel) rfl, s_putI (by decide +kernel) fl_RX10_117 fp_10_12 rfl, s_bad, s_bad, s_vret (by decide +kernel) rfl, trivial⟩
theorem kX10_findsPlaces_0 : List.getD tX10_findsPlaces 0 x_bad = x_aload 0 1 := rfl
theorem kX10_findsPlaces_1 : List.getD tX10_findsPlaces 1 x_bad = x_push (.int (nI 0)) 1 := rfl
theorem kX10_findsPlaces_2 : List.getD tX10_findsPlaces 2 x_bad = x_putI 10 12 := rfl
theorem kX10_findsPlaces_5 : List.getD tX10_findsPlaces 5 x_bad = x_push (.int (nI 0)) 1 := rfl
theorem kX10_findsPlaces_6 : List.getD tX10_findsPlaces 6 x_bad = x_istore 1 1 := rfl
theorem kX10_findsPlaces_7 : List.getD tX10_findsPlaces 7 x_bad = x_iload 1 1 := rfl
theorem kX10_findsPlaces_8 : List.getD tX10_findsPlaces 8 x_bad = x_aload 0 1 := rfl
theorem kX10_findsPlaces_9 : List.getD tX10_findsPlaces 9 x_bad = x_getI 10 9 := rfl
theorem kX10_findsPlaces_12 : List.getD tX10_findsPlaces 12 x_bad = x_icmp (fun a b => b ≤ a) 28 := rfl
theorem kX10_findsPlaces_15 : List.getD tX10_findsPlaces 15 x_bad = x_aload 0 1 := rfl
theorem kX10_findsPlaces_16 : List.getD tX10_findsPlaces 16 x_bad = x_getR 10 13 := rfl
theorem kX10_findsPlaces_19 : List.getD tX10_findsPlaces 19 x_bad = x_iload 1 1 := rfl
theorem kX10_findsPlaces_20 : List.getD tX10_findsPlaces 20 x_bad = x_push (.int (nI 0)) 1 := rfl
theorem kX10_findsPlaces_21 : List.getD tX10_findsPlaces 21 x_bad = x_iast := rfl
theorem kX10_findsPlaces_22 : List.getD tX10_findsPlaces 22 x_bad = x_iinc 1 (nI 1) := rfl
theorem kX10_findsPlaces_25 : List.getD tX10_findsPlaces 25 x_bad = x_goto 7 := rfl
theorem kX10_findsPlaces_28 : List.getD tX10_findsPlaces 28 x_bad = x_push (.int (nI 1)) 1 := rfl
theorem kX10_findsPlaces_29 : List.getD tX10_findsPlaces 29 x_bad = x_istore 1 1 := rfl
theorem kX10_findsPlaces_30 : List.getD tX10_findsPlaces 30 x_bad = x_iload 1 1 := rfl
theorem kX10_findsPlaces_31 : List.getD tX10_findsPlaces 31 x_bad = x_if (fun a => a = 0) 143 := rfl
theorem kX10_findsPlaces_34 : List.getD tX10_findsPlaces 34 x_bad = x_push (.int (nI 0)) 1 := rfl
theorem kX10_findsPlaces_35 : List.getD tX10_findsPlaces 35 x_bad = x_istore 2 1 := rfl
theorem kX10_findsPlaces_36 : List.getD tX10_findsPlaces 36 x_bad = x_push (.int (nI 0)) 1 := rfl
theorem kX10_findsPlaces_37 : List.getD tX10_findsPlaces 37 x_bad = x_istore 3 1 := rfl
theorem kX10_findsPlaces_38 : List.getD tX10_findsPlaces 38 x_bad = x_push (.int (nI 0)) 1 := rfl
theorem kX10_findsPlaces_39 : List.getD tX10_findsPlaces 39 x_bad = x_istore 4 2 := rfl
theorem kX10_findsPlaces_41 : List.getD tX10_findsPlaces 41 x_bad = x_iload 4 2 := rfl
theorem kX10_findsPlaces_43 : List.getD tX10_findsPlaces 43 x_bad = x_aload 0 1 := rfl
theorem kX10_findsPlaces_44 : List.getD tX10_findsPlaces 44 x_bad = x_getI 10 5 := rfl
theorem kX10_findsPlaces_47 : List.getD tX10_findsPlaces 47 x_bad = x_icmp (fun a b => b ≤ a) 100 := rfl
theorem kX10_findsPlaces_50 : List.getD tX10_findsPlaces 50 x_bad = x_aload 0 1 := rfl
theorem kX10_findsPlaces_51 : List.getD tX10_findsPlaces 51 x_bad = x_aload 0 1 := rfl
theorem kX10_findsPlaces_52 : List.getD tX10_findsPlaces 52 x_bad = x_getR 10 4 := rfl
theorem kX10_findsPlaces_55 : List.getD tX10_findsPlaces 55 x_bad = x_iload 4 2 := rfl
theorem kX10_findsPlaces_57 : List.getD tX10_findsPlaces 57 x_bad = x_iald := rfl
theorem kX10_findsPlaces_58 : List.getD tX10_findsPlaces 58 x_bad = x_callV1 10 mX10_gain := rfl
theorem kX10_findsPlaces_61 : List.getD tX10_findsPlaces 61 x_bad = x_istore 5 2 := rfl
theorem kX10_findsPlaces_63 : List.getD tX10_findsPlaces 63 x_bad = x_iload 5 2 := rfl
theorem kX10_findsPlaces_65 : List.getD tX10_findsPlaces 65 x_bad = x_iload 3 1 := rfl
theorem kX10_findsPlaces_66 : List.getD tX10_findsPlaces 66 x_bad = x_icmp (fun a b => a ≤ b) 79 := rfl
theorem kX10_findsPlaces_69 : List.getD tX10_findsPlaces 69 x_bad = x_aload 0 1 := rfl
theorem kX10_findsPlaces_70 : List.getD tX10_findsPlaces 70 x_bad = x_getR 10 4 := rfl
theorem kX10_findsPlaces_73 : List.getD tX10_findsPlaces 73 x_bad = x_iload 4 2 := rfl
theorem kX10_findsPlaces_75 : List.getD tX10_findsPlaces 75 x_bad = x_iald := rfl
theorem kX10_findsPlaces_76 : List.getD tX10_findsPlaces 76 x_bad = x_goto 80 := rfl
theorem kX10_findsPlaces_79 : List.getD tX10_findsPlaces 79 x_bad = x_iload 2 1 := rfl
theorem kX10_findsPlaces_80 : List.getD tX10_findsPlaces 80 x_bad = x_istore 2 1 := rfl
theorem kX10_findsPlaces_81 : List.getD tX10_findsPlaces 81 x_bad = x_iload 5 2 := rfl
theorem kX10_findsPlaces_83 : List.getD tX10_findsPlaces 83 x_bad = x_iload 3 1 := rfl
theorem kX10_findsPlaces_84 : List.getD tX10_findsPlaces 84 x_bad = x_icmp (fun a b => a ≤ b) 92 := rfl
theorem kX10_findsPlaces_87 : List.getD tX10_findsPlaces 87 x_bad = x_iload 5 2 := rfl
theorem kX10_findsPlaces_89 : List.getD tX10_findsPlaces 89 x_bad = x_goto 93 := rfl
theorem kX10_findsPlaces_92 : List.getD tX10_findsPlaces 92 x_bad = x_iload 3 1 := rfl
theorem kX10_findsPlaces_93 : List.getD tX10_findsPlaces 93 x_bad = x_istore 3 1 := rfl
theorem kX10_findsPlaces_94 : List.getD tX10_findsPlaces 94 x_bad = x_iinc 4 (nI 1) := rfl
theorem kX10_findsPlaces_97 : List.getD tX10_findsPlaces 97 x_bad = x_goto 41 := rfl
theorem kX10_findsPlaces_100 : List.getD tX10_findsPlaces 100 x_bad = x_iload 3 1 := rfl
theorem kX10_findsPlaces_101 : List.getD tX10_findsPlaces 101 x_bad = x_if (fun a => a ≤ 0) 108 := rfl
theorem kX10_findsPlaces_104 : List.getD tX10_findsPlaces 104 x_bad = x_push (.int (nI 1)) 1 := rfl
theorem kX10_findsPlaces_105 : List.getD tX10_findsPlaces 105 x_bad = x_goto 109 := rfl
theorem kX10_findsPlaces_108 : List.getD tX10_findsPlaces 108 x_bad = x_push (.int (nI 0)) 1 := rfl
theorem kX10_findsPlaces_109 : List.getD tX10_findsPlaces 109 x_bad = x_istore 1 1 := rfl
theorem kX10_findsPlaces_110 : List.getD tX10_findsPlaces 110 x_bad = x_iload 1 1 := rfl
theorem kX10_findsPlaces_111 : List.getD tX10_findsPlaces 111 x_bad = x_if (fun a => a = 0) 140 := rfl
theorem kX10_findsPlaces_114 : List.getD tX10_findsPlaces 114 x_bad = x_aload 0 1 := rfl
theorem kX10_findsPlaces_115 : List.getD tX10_findsPlaces 115 x_bad = x_getR 10 11 := rfl
theorem kX10_findsPlaces_118 : List.getD tX10_findsPlaces 118 x_bad = x_aload 0 1 := rfl
theorem kX10_findsPlaces_119 : List.getD tX10_findsPlaces 119 x_bad = x_getI 10 12 := rfl
theorem kX10_findsPlaces_122 : List.getD tX10_findsPlaces 122 x_bad = x_iload 2 1 := rfl
theorem kX10_findsPlaces_123 : List.getD tX10_findsPlaces 123 x_bad = x_iast := rfl
theorem kX10_findsPlaces_124 : List.getD tX10_findsPlaces 124 x_bad = x_aload 0 1 := rfl
theorem kX10_findsPlaces_125 : List.getD tX10_findsPlaces 125 x_bad = x_dup := rfl
theorem kX10_findsPlaces_126 : List.getD tX10_findsPlaces 126 x_bad = x_getI 10 12 := rfl
theorem kX10_findsPlaces_129 : List.getD tX10_findsPlaces 129 x_bad = x_push (.int (nI 1)) 1 := rfl
theorem kX10_findsPlaces_130 : List.getD tX10_findsPlaces 130 x_bad = x_ii (fun a b => a + b) := rfl
theorem kX10_findsPlaces_131 : List.getD tX10_findsPlaces 131 x_bad = x_putI 10 12 := rfl
theorem kX10_findsPlaces_134 : List.getD tX10_findsPlaces 134 x_bad = x_aload 0 1 := rfl
theorem kX10_findsPlaces_135 : List.getD tX10_findsPlaces 135 x_bad = x_iload 2 1 := rfl
theorem kX10_findsPlaces_136 : List.getD tX10_findsPlaces 136 x_bad = x_push (.int (nI 1)) 1 := rfl
theorem kX10_findsPlaces_137 : List.getD tX10_findsPlaces 137 x_bad = x_callV2 10 mX10_counts := rfl
theorem kX10_findsPlaces_140 : List.getD tX10_findsPlaces 140 x_bad = x_goto 30 := rfl
theorem kX10_findsPlaces_143 : List.getD tX10_findsPlaces 143 x_bad = x_push (.int (nI 0)) 1 := rfl
theorem kX10_findsPlaces_144 : List.getD tX10_findsPlaces 144 x_bad = x_istore 2 1 := rfl
theorem kX10_findsPlaces_145 : List.getD tX10_findsPlaces 145 x_bad = x_push (.int (nI 0)) 1 := rfl
theorem kX10_findsPlaces_146 : List.getD tX10_findsPlaces 146 x_bad = x_istore 3 1 := rfl
theorem kX10_findsPlaces_147 : List.getD tX10_findsPlaces 147 x_bad = x_iload 3 1 := rfl
theorem kX10_findsPlaces_148 : List.getD tX10_findsPlaces 148 x_bad = x_aload 0 1 := rfl
theorem kX10_findsPlaces_149 : List.getD tX10_findsPlaces 149 x_bad = x_getI 10 12 := rfl
theorem kX10_findsPlaces_152 : List.getD tX10_findsPlaces 152 x_bad = x_icmp (fun a b => b ≤ a) 203 := rfl
theorem kX10_findsPlaces_155 : List.getD tX10_findsPlaces 155 x_bad = x_aload 0 1 := rfl
theorem kX10_findsPlaces_156 : List.getD tX10_findsPlaces 156 x_bad = x_aload 0 1 := rfl
theorem kX10_findsPlaces_157 : List.getD tX10_findsPlaces 157 x_bad = x_getR 10 11 := rfl
theorem kX10_findsPlaces_160 : List.getD tX10_findsPlaces 160 x_bad = x_iload 3 1 := rfl
theorem kX10_findsPlaces_161 : List.getD tX10_findsPlaces 161 x_bad = x_iald := rfl
theorem kX10_findsPlaces_162 : List.getD tX10_findsPlaces 162 x_bad = x_callV1 10 mX10_isNeeded := rfl
theorem kX10_findsPlaces_165 : List.getD tX10_findsPlaces 165 x_bad = x_if (fun a => a = 0) 186 := rfl
theorem kX10_findsPlaces_168 : List.getD tX10_findsPlaces 168 x_bad = x_aload 0 1 := rfl
theorem kX10_findsPlaces_169 : List.getD tX10_findsPlaces 169 x_bad = x_getR 10 11 := rfl
theorem kX10_findsPlaces_172 : List.getD tX10_findsPlaces 172 x_bad = x_iload 2 1 := rfl
theorem kX10_findsPlaces_173 : List.getD tX10_findsPlaces 173 x_bad = x_aload 0 1 := rfl
theorem kX10_findsPlaces_174 : List.getD tX10_findsPlaces 174 x_bad = x_getR 10 11 := rfl
theorem kX10_findsPlaces_177 : List.getD tX10_findsPlaces 177 x_bad = x_iload 3 1 := rfl
theorem kX10_findsPlaces_178 : List.getD tX10_findsPlaces 178 x_bad = x_iald := rfl
theorem kX10_findsPlaces_179 : List.getD tX10_findsPlaces 179 x_bad = x_iast := rfl
theorem kX10_findsPlaces_180 : List.getD tX10_findsPlaces 180 x_bad = x_iinc 2 (nI 1) := rfl
theorem kX10_findsPlaces_183 : List.getD tX10_findsPlaces 183 x_bad = x_goto 197 := rfl
theorem kX10_findsPlaces_186 : List.getD tX10_findsPlaces 186 x_bad = x_aload 0 1 := rfl
theorem kX10_findsPlaces_187 : List.getD tX10_findsPlaces 187 x_bad = x_aload 0 1 := rfl
theorem kX10_findsPlaces_188 : List.getD tX10_findsPlaces 188 x_bad = x_getR 10 11 := rfl
theorem kX10_findsPlaces_191 : List.getD tX10_findsPlaces 191 x_bad = x_iload 3 1 := rfl
theorem kX10_findsPlaces_192 : List.getD tX10_findsPlaces 192 x_bad = x_iald := rfl
theorem kX10_findsPlaces_193 : List.getD tX10_findsPlaces 193 x_bad = x_push (.int (-1)) 1 := rfl
theorem kX10_findsPlaces_194 : List.getD tX10_findsPlaces 194 x_bad = x_callV2 10 mX10_counts := rfl
theorem kX10_findsPlaces_197 : List.getD tX10_findsPlaces 197 x_bad = x_iinc 3 (nI 1) := rfl
theorem kX10_findsPlaces_200 : List.getD tX10_findsPlaces 200 x_bad = x_goto 147 := rfl
theorem kX10_findsPlaces_203 : List.getD tX10_findsPlaces 203 x_bad = x_aload 0 1 := rfl
theorem kX10_findsPlaces_204 : List.getD tX10_findsPlaces 204 x_bad = x_iload 2 1 := rfl
theorem kX10_findsPlaces_205 : List.getD tX10_findsPlaces 205 x_bad = x_putI 10 12 := rfl
theorem kX10_findsPlaces_208 : List.getD tX10_findsPlaces 208 x_bad = x_vret := rfl
def tX10_findsSeparations : List PT := [x_aload 0 1, x_push (.int (nI 0)) 1, x_putI 10 9, x_bad, x_bad, x_push (.int (nI 0)) 1, x_istore 1 1, x_iload 1 1, x_aload 0 1, x_getR 10 0, x_bad, x_bad, x_push (.int (nI 0)) 1, x_iald, x_icmp (fun a b => b ≤ a) 50, x_bad, x_bad, x_iload 1 1, x_push (.int (nI 1)) 1, x_ii (fun a b => a + b), x_istore 2 1, x_iload 2 1, x_aload 0 1, x_getR 10 0, x_bad, x_bad, x_push (.int (nI 0)) 1, x_iald, x_icmp (fun a b => b ≤ a) 44, x_bad, x_bad, x_aload 0 1, x_push (.int (nI 0)) 1, x_iload 1 1, x_iload 2 1, x_callV3 10 mX10_adds, x_bad, x_bad, x_iinc 2 (nI 1), x_bad, x_bad, x_goto 21, x_bad, x_bad, x_iinc 1 (nI 1), x_bad, x_bad, x_goto 7, x_bad, x_bad, x_push (.int (nI 0)) 1, x_istore 1 1, x_iload 1 1, x_aload 0 1, x_getR 10 0, x_bad, x_bad, x_push (.int (nI 0)) 1, x_iald, x_icmp (fun a b => b ≤ a) 108, x_bad, x_bad, x_push (.int (nI 0)) 1, x_istore 2 1, x_iload 2 1, x_push (.int (nI 8)) 2, x_bad, x_icmp (fun a b => b ≤ a) 102, x_bad, x_bad, x_aload 0 1, x_iload 2 1, x_callV1 10 mX10_arcsOf, x_bad, x_bad, x_if (fun a => a ≤ 0) 96, x_bad, x_bad, x_aload 0 1, x_iload 1 1, x_iload 2 1, x_callV2 10 mX10_leads, x_bad, x_bad, x_push (.int (-9)) 2, x_bad, x_icmpn (fun a b => a = b) 96, x_bad, x_bad, x_aload 0 1, x_push (.int (nI 1)) 1, x_iload 1 1, x_iload 2 1, x_callV3 10 mX10_adds, x_bad, x_bad, x_iinc 2 (nI 1), x_bad, x_bad, x_goto 64, x_bad, x_bad, x_iinc 1 (nI 1), x_bad, x_bad, x_goto 52, x_bad, x_bad, x_vret]
set_option maxRecDepth 20000 in
theorem okX10_findsSeparations : SndT RX10 cX10_findsSeparations mX10_findsSeparations.2.2.1 mX10_findsSeparations.2.2.2.2.1 mX10_findsSeparations.2.2.2.2.2 false mX10_findsSeparations.2.2.2.1 0 tX10_findsSeparations := ⟨s_aload_n (k := 0) (i := 0) (by decide +kernel) rfl, s_iconst (n := 0) (by decide +kernel) (by decide +kernel), s_putI (by decide +kernel) fl_RX10_103 fp_10_9 rfl, s_bad, s_bad, s_iconst (n := 0) (by decide +kernel) (by decide +kernel), s_istore_n (k := 1) (i := 1) (by decide +kernel) rfl (by decide), s_iload_n (k := 1) (i := 1) (by decide +kernel) rfl, s_aload_n (k := 0) (i := 0) (by decide +kernel) rfl, s_getR (by decide +kernel) fl_RX10_7 rfl, s_bad, s_bad, s_iconst (n := 0) (by decide +kernel) (by decide +kernel), s_iald (by decide +kernel), s_icmp_ge (off := 36) (by decide +kernel) (by decide), s_bad, s_bad, s_iload_n (k := 1) (i := 1) (by decide +kernel) rfl, s_iconst (n := 1) (by decide +kernel) (by decide +kernel), s_iadd (by decide +kernel), s_istore_n (k := 2) (i := 2) (by decide +kernel) rfl (by decide), s_iload_n (k := 2) (i := 2) (by decide +kernel) rfl, s_aload_n (k := 0) (i := 0) (by decide +kernel) rfl, s_getR (by decide +kernel) fl_RX10_7 rfl, s_bad, s_bad, s_iconst (n := 0) (by decide +kernel) (by decide +kernel), s_iald (by decide +kernel), s_icmp_ge (off := 16) (by decide +kernel) (by decide), s_bad, s_bad, s_aload_n (k := 0) (i := 0) (by decide +kernel) rfl, s_iconst (n := 0) (by decide +kernel) (by decide +kernel), s_iload_n (k := 1) (i := 1) (by decide +kernel) rfl, s_iload_n (k := 2) (i := 2) (by decide +kernel) rfl, s_callV3 (by decide +kernel) lv_RX10_110 ⟨by decide, by decide⟩, s_bad, s_bad, s_iinc (n := 1) (by decide +kernel) (by decide +kernel) (by decide), s_bad, s_bad, s_goto (off := (-20)) (by decide +kernel) (by decide), s_bad, s_bad, s_iinc (n := 1) (by decide +kernel) (by decide +kernel) (by decide), s_bad, s_bad, s_goto (off := (-40)) (by decide +kernel) (by decide), s_bad, s_bad, s_iconst (n := 0) (by decide +kernel) (by decide +kernel), s_istore_n (k := 1) (i := 1) (by decide +kernel) rfl (by decide), s_iload_n (k := 1) (i := 1) (by decide +kernel) rfl, s_aload_n (k := 0) (i := 0) (by decide +kernel) rfl, s_getR (by decide +kernel) fl_RX10_7 rfl, s_bad, s_bad, s_iconst (n := 0) (by decide +kernel) (by decide +kernel), s_iald (by decide +kernel), s_icmp_ge (off := 49) (by decide +kernel) (by decide), s_bad, s_bad, s_iconst (n := 0) (by decide +kernel) (by decide +kernel), s_istore_n (k := 2) (i := 2) (by decide +kernel) rfl (by decide), s_iload_n (k := 2) (i := 2) (by decide +kernel) rfl, s_bipush (n := 8) (by decide +kernel) (by decide +kernel), s_bad, s_icmp_ge (off := 35) (by decide +kernel) (by decide), s_bad, s_bad, s_aload_n (k := 0) (i := 0) (by decide +kernel) rfl, s_iload_n (k := 2) (i := 2) (by decide +kernel) rfl, s_callV1 (by decide +kernel) lv_RX10_82 ⟨by decide, by decide⟩, s_bad, s_bad, s_if_le (off := 21) (by decide +kernel) (by decide), s_bad, s_bad, s_aload_n (k := 0) (i := 0) (by decide +kernel) rfl, s_iload_n (k := 1) (i := 1) (by decide +kernel) rfl, s_iload_n (k := 2) (i := 2) (by decide +kernel) rfl, s_callV2 (by decide +kernel) lv_RX10_114 ⟨by decide, by decide⟩, s_bad, s_bad, s_bipush (n := (-9)) (by decide +kernel) (by decide +kernel), s_bad, s_icmp_ne (off := 10) (by decide +kernel) (by decide), s_bad, s_bad, s_aload_n (k := 0) (i := 0) (by decide +kernel) rfl, s_iconst (n := 1) (by decide +kernel) (by decide +kernel), s_iload_n (k := 1) (i := 1) (by decide +kernel) rfl, s_iload_n (k := 2) (i := 2) (by decide +kernel) rfl, s_callV3 (by decide +kernel) lv_RX10_110 ⟨by decide, by decide⟩, s_bad, s_bad, s_iinc (n := 1) (by decide +kernel) (by decide +kernel) (by decide), s_bad, s_bad, s_goto (off := (-35)) (by decide +kernel) (by decide), s_bad, s_bad, s_iinc (n := 1) (by decide +kernel) (by decide +kernel) (by decide), s_bad, s_bad, s_goto (off := (-53)) (by decide +kernel) (by decide), s_bad, s_bad, s_vret (by decide +kernel) rfl, trivial⟩
theorem kX10_findsSeparations_0 : List.getD tX10_findsSeparations 0 x_bad = x_aload 0 1 := rfl
theorem kX10_findsSeparations_1 : List.getD tX10_findsSeparations 1 x_bad = x_push (.int (nI 0)) 1 := rfl
theorem kX10_findsSeparations_2 : List.getD tX10_findsSeparations 2 x_bad = x_putI 10 9 := rfl
theorem kX10_findsSeparations_5 : List.getD tX10_findsSeparations 5 x_bad = x_push (.int (nI 0)) 1 := rfl
theorem kX10_findsSeparations_6 : List.getD tX10_findsSeparations 6 x_bad = x_istore 1 1 := rfl
theorem kX10_findsSeparations_7 : List.getD tX10_findsSeparations 7 x_bad = x_iload 1 1 := rfl
theorem kX10_findsSeparations_8 : List.getD tX10_findsSeparations 8 x_bad = x_aload 0 1 := rfl
theorem kX10_findsSeparations_9 : List.getD tX10_findsSeparations 9 x_bad = x_getR 10 0 := rfl
theorem kX10_findsSeparations_12 : List.getD tX10_findsSeparations 12 x_bad = x_push (.int (nI 0)) 1 := rfl
theorem kX10_findsSeparations_13 : List.getD tX10_findsSeparations 13 x_bad = x_iald := rfl
theorem kX10_findsSeparations_14 : List.getD tX10_findsSeparations 14 x_bad = x_icmp (fun a b => b ≤ a) 50 := rfl
theorem kX10_findsSeparations_17 : List.getD tX10_findsSeparations 17 x_bad = x_iload 1 1 := rfl
theorem kX10_findsSeparations_18 : List.getD tX10_findsSeparations 18 x_bad = x_push (.int (nI 1)) 1 := rfl
theorem kX10_findsSeparations_19 : List.getD tX10_findsSeparations 19 x_bad = x_ii (fun a b => a + b) := rfl
theorem kX10_findsSeparations_20 : List.getD tX10_findsSeparations 20 x_bad = x_istore 2 1 := rfl
theorem kX10_findsSeparations_21 : List.getD tX10_findsSeparations 21 x_bad = x_iload 2 1 := rfl
theorem kX10_findsSeparations_22 : List.getD tX10_findsSeparations 22 x_bad = x_aload 0 1 := rfl
theorem kX10_findsSeparations_23 : List.getD tX10_findsSeparations 23 x_bad = x_getR 10 0 := rfl
theorem kX10_findsSeparations_26 : List.getD tX10_findsSeparations 26 x_bad = x_push (.int (nI 0)) 1 := rfl
theorem kX10_findsSeparations_27 : List.getD tX10_findsSeparations 27 x_bad = x_iald := rfl
theorem kX10_findsSeparations_28 : List.getD tX10_findsSeparations 28 x_bad = x_icmp (fun a b => b ≤ a) 44 := rfl
theorem kX10_findsSeparations_31 : List.getD tX10_findsSeparations 31 x_bad = x_aload 0 1 := rfl
theorem kX10_findsSeparations_32 : List.getD tX10_findsSeparations 32 x_bad = x_push (.int (nI 0)) 1 := rfl
theorem kX10_findsSeparations_33 : List.getD tX10_findsSeparations 33 x_bad = x_iload 1 1 := rfl
theorem kX10_findsSeparations_34 : List.getD tX10_findsSeparations 34 x_bad = x_iload 2 1 := rfl
theorem kX10_findsSeparations_35 : List.getD tX10_findsSeparations 35 x_bad = x_callV3 10 mX10_adds := rfl
theorem kX10_findsSeparations_38 : List.getD tX10_findsSeparations 38 x_bad = x_iinc 2 (nI 1) := rfl
theorem kX10_findsSeparations_41 : List.getD tX10_findsSeparations 41 x_bad = x_goto 21 := rfl
theorem kX10_findsSeparations_44 : List.getD tX10_findsSeparations 44 x_bad = x_iinc 1 (nI 1) := rfl
theorem kX10_findsSeparations_47 : List.getD tX10_findsSeparations 47 x_bad = x_goto 7 := rfl
theorem kX10_findsSeparations_50 : List.getD tX10_findsSeparations 50 x_bad = x_push (.int (nI 0)) 1 := rfl
theorem kX10_findsSeparations_51 : List.getD tX10_findsSeparations 51 x_bad = x_istore 1 1 := rfl
theorem kX10_findsSeparations_52 : List.getD tX10_findsSeparations 52 x_bad = x_iload 1 1 := rfl
theorem kX10_findsSeparations_53 : List.getD tX10_findsSeparations 53 x_bad = x_aload 0 1 := rfl
theorem kX10_findsSeparations_54 : List.getD tX10_findsSeparations 54 x_bad = x_getR 10 0 := rfl
theorem kX10_findsSeparations_57 : List.getD tX10_findsSeparations 57 x_bad = x_push (.int (nI 0)) 1 := rfl
theorem kX10_findsSeparations_58 : List.getD tX10_findsSeparations 58 x_bad = x_iald := rfl
theorem kX10_findsSeparations_59 : List.getD tX10_findsSeparations 59 x_bad = x_icmp (fun a b => b ≤ a) 108 := rfl
theorem kX10_findsSeparations_62 : List.getD tX10_findsSeparations 62 x_bad = x_push (.int (nI 0)) 1 := rfl
theorem kX10_findsSeparations_63 : List.getD tX10_findsSeparations 63 x_bad = x_istore 2 1 := rfl
theorem kX10_findsSeparations_64 : List.getD tX10_findsSeparations 64 x_bad = x_iload 2 1 := rfl
theorem kX10_findsSeparations_65 : List.getD tX10_findsSeparations 65 x_bad = x_push (.int (nI 8)) 2 := rfl
theorem kX10_findsSeparations_67 : List.getD tX10_findsSeparations 67 x_bad = x_icmp (fun a b => b ≤ a) 102 := rfl
theorem kX10_findsSeparations_70 : List.getD tX10_findsSeparations 70 x_bad = x_aload 0 1 := rfl
theorem kX10_findsSeparations_71 : List.getD tX10_findsSeparations 71 x_bad = x_iload 2 1 := rfl
theorem kX10_findsSeparations_72 : List.getD tX10_findsSeparations 72 x_bad = x_callV1 10 mX10_arcsOf := rfl
theorem kX10_findsSeparations_75 : List.getD tX10_findsSeparations 75 x_bad = x_if (fun a => a ≤ 0) 96 := rfl
theorem kX10_findsSeparations_78 : List.getD tX10_findsSeparations 78 x_bad = x_aload 0 1 := rfl
theorem kX10_findsSeparations_79 : List.getD tX10_findsSeparations 79 x_bad = x_iload 1 1 := rfl
theorem kX10_findsSeparations_80 : List.getD tX10_findsSeparations 80 x_bad = x_iload 2 1 := rfl
theorem kX10_findsSeparations_81 : List.getD tX10_findsSeparations 81 x_bad = x_callV2 10 mX10_leads := rfl
theorem kX10_findsSeparations_84 : List.getD tX10_findsSeparations 84 x_bad = x_push (.int (-9)) 2 := rfl
theorem kX10_findsSeparations_86 : List.getD tX10_findsSeparations 86 x_bad = x_icmpn (fun a b => a = b) 96 := rfl
theorem kX10_findsSeparations_89 : List.getD tX10_findsSeparations 89 x_bad = x_aload 0 1 := rfl
theorem kX10_findsSeparations_90 : List.getD tX10_findsSeparations 90 x_bad = x_push (.int (nI 1)) 1 := rfl
theorem kX10_findsSeparations_91 : List.getD tX10_findsSeparations 91 x_bad = x_iload 1 1 := rfl
theorem kX10_findsSeparations_92 : List.getD tX10_findsSeparations 92 x_bad = x_iload 2 1 := rfl
theorem kX10_findsSeparations_93 : List.getD tX10_findsSeparations 93 x_bad = x_callV3 10 mX10_adds := rfl
theorem kX10_findsSeparations_96 : List.getD tX10_findsSeparations 96 x_bad = x_iinc 2 (nI 1) := rfl
theorem kX10_findsSeparations_99 : List.getD tX10_findsSeparations 99 x_bad = x_goto 64 := rfl
theorem kX10_findsSeparations_102 : List.getD tX10_findsSeparations 102 x_bad = x_iinc 1 (nI 1) := rfl
theorem kX10_findsSeparations_105 : List.getD tX10_findsSeparations 105 x_bad = x_goto 52 := rfl
theorem kX10_findsSeparations_108 : List.getD tX10_findsSeparations 108 x_bad = x_vret := rfl
def tX10_place : List PT := [x_iload 1 1, x_push (.int (nI 0)) 1, x_aload 0 1, x_getI 10 12, x_bad, x_bad, x_push (.int (nI 1)) 1, x_ii (fun a b => a - b), x_callS3 mX10_in, x_bad, x_bad, x_ifn (fun a => a = 0) 16, x_bad, x_bad, x_push (.int (-1)) 1, x_iret, x_iload 2 1, x_tsw [52, 59, 71, 83, 93] 104, x_bad, x_bad, x_bad, x_bad, x_bad, x_bad, x_bad, x_bad, x_bad, x_bad, x_bad, x_bad, x_bad, x_bad, x_bad, x_bad, x_bad, x_bad, x_bad, x_bad, x_bad, x_bad, x_bad, x_bad, x_bad, x_bad, x_bad, x_bad, x_bad, x_bad, x_bad, x_bad, x_bad, x_bad, x_aload 0 1, x_getR 10 11, x_bad, x_bad, x_iload 1 1, x_iald, x_iret, x_aload 0 1, x_aload 0 1, x_getR 10 11, x_bad, x_bad, x_iload 1 1, x_iald, x_push (.int (nI 2)) 1, x_callV2 10 mX10_eventsOf, x_bad, x_bad, x_iret, x_aload 0 1, x_aload 0 1, x_getR 10 11, x_bad, x_bad, x_iload 1 1, x_iald, x_push (.int (nI 1)) 1, x_callV2 10 mX10_eventsOf, x_bad, x_bad, x_iret, x_aload 0 1, x_getR 10 0, x_bad, x_bad, x_push (.int (nI 75)) 2, x_bad, x_iload 1 1, x_ii (fun a b => a + b), x_iald, x_iret, x_aload 0 1, x_aload 0 1, x_getR 10 11, x_bad, x_bad, x_iload 1 1, x_iald, x_callV1 10 mX10_alone, x_bad, x_bad, x_iret, x_push (.int (-1)) 1, x_iret]
set_option maxRecDepth 20000 in
theorem okX10_place : SndT RX10 cX10_place mX10_place.2.2.1 mX10_place.2.2.2.2.1 mX10_place.2.2.2.2.2 false mX10_place.2.2.2.1 0 tX10_place := ⟨s_iload_n (k := 1) (i := 1) (by decide +kernel) rfl, s_iconst (n := 0) (by decide +kernel) (by decide +kernel), s_aload_n (k := 0) (i := 0) (by decide +kernel) rfl, s_getI (by decide +kernel) fl_RX10_117 rfl, s_bad, s_bad, s_iconst (n := 1) (by decide +kernel) (by decide +kernel), s_isub (by decide +kernel), s_callS3 (by decide +kernel) ls_RX10_74 ⟨by decide, by decide⟩, s_bad, s_bad, s_if_ne (off := 5) (by decide +kernel) (by decide), s_bad, s_bad, s_iconst (n := (-1)) (by decide +kernel) (by decide +kernel), s_iret (by decide +kernel) rfl, s_iload_n (k := 2) (i := 2) (by decide +kernel) rfl, s_tsw (dflt := 87) (hi := 4) (offs := #[35, 42, 54, 66, 76]) (len := 35) (by decide +kernel) (by decide) (by decide) (by decide) (by decide), s_bad, s_bad, s_bad, s_bad, s_bad, s_bad, s_bad, s_bad, s_bad, s_bad, s_bad, s_bad, s_bad, s_bad, s_bad, s_bad, s_bad, s_bad, s_bad, s_bad, s_bad, s_bad, s_bad, s_bad, s_bad, s_bad, s_bad, s_bad, s_bad, s_bad, s_bad, s_bad, s_bad, s_bad, s_aload_n (k := 0) (i := 0) (by decide +kernel) rfl, s_getR (by decide +kernel) fl_RX10_32 rfl, s_bad, s_bad, s_iload_n (k := 1) (i := 1) (by decide +kernel) rfl, s_iald (by decide +kernel), s_iret (by decide +kernel) rfl, s_aload_n (k := 0) (i := 0) (by decide +kernel) rfl, s_aload_n (k := 0) (i := 0) (by decide +kernel) rfl, s_getR (by decide +kernel) fl_RX10_32 rfl, s_bad, s_bad, s_iload_n (k := 1) (i := 1) (by decide +kernel) rfl, s_iald (by decide +kernel), s_iconst (n := 2) (by decide +kernel) (by decide +kernel), s_callV2 (by decide +kernel) lv_RX10_233 ⟨by decide, by decide⟩, s_bad, s_bad, s_iret (by decide +kernel) rfl, s_aload_n (k := 0) (i := 0) (by decide +kernel) rfl, s_aload_n (k := 0) (i := 0) (by decide +kernel) rfl, s_getR (by decide +kernel) fl_RX10_32 rfl, s_bad, s_bad, s_iload_n (k := 1) (i := 1) (by decide +kernel) rfl, s_iald (by decide +kernel), s_iconst (n := 1) (by decide +kernel) (by decide +kernel), s_callV2 (by decide +kernel) lv_RX10_233 ⟨by decide, by decide⟩, s_bad, s_bad, s_iret (by decide +kernel) rfl, s_aload_n (k := 0) (i := 0) (by decide +kernel) rfl, s_getR (by decide +kernel) fl_RX10_7 rfl, s_bad, s_bad, s_bipush (n := 75) (by decide +kernel) (by decide +kernel), s_bad, s_iload_n (k := 1) (i := 1) (by decide +kernel) rfl, s_iadd (by decide +kernel), s_iald (by decide +kernel), s_iret (by decide +kernel) rfl, s_aload_n (k := 0) (i := 0) (by decide +kernel) rfl, s_aload_n (k := 0) (i := 0) (by decide +kernel) rfl, s_getR (by decide +kernel) fl_RX10_32 rfl, s_bad, s_bad, s_iload_n (k := 1) (i := 1) (by decide +kernel) rfl, s_iald (by decide +kernel), s_callV1 (by decide +kernel) lv_RX10_236 ⟨by decide, by decide⟩, s_bad, s_bad, s_iret (by decide +kernel) rfl, s_iconst (n := (-1)) (by decide +kernel) (by decide +kernel), s_iret (by decide +kernel) rfl, trivial⟩
theorem kX10_place_0 : List.getD tX10_place 0 x_bad = x_iload 1 1 := rfl
theorem kX10_place_1 : List.getD tX10_place 1 x_bad = x_push (.int (nI 0)) 1 := rfl
theorem kX10_place_2 : List.getD tX10_place 2 x_bad = x_aload 0 1 := rfl
theorem kX10_place_3 : List.getD tX10_place 3 x_bad = x_getI 10 12 := rfl
theorem kX10_place_6 : List.getD tX10_place 6 x_bad = x_push (.int (nI 1)) 1 := rfl
theorem kX10_place_7 : List.getD tX10_place 7 x_bad = x_ii (fun a b => a - b) := rfl
theorem kX10_place_8 : List.getD tX10_place 8 x_bad = x_callS3 mX10_in := rfl
theorem kX10_place_11 : List.getD tX10_place 11 x_bad = x_ifn (fun a => a = 0) 16 := rfl
theorem kX10_place_14 : List.getD tX10_place 14 x_bad = x_push (.int (-1)) 1 := rfl
theorem kX10_place_15 : List.getD tX10_place 15 x_bad = x_iret := rfl
theorem kX10_place_16 : List.getD tX10_place 16 x_bad = x_iload 2 1 := rfl
theorem kX10_place_17 : List.getD tX10_place 17 x_bad = x_tsw [52, 59, 71, 83, 93] 104 := rfl
theorem kX10_place_52 : List.getD tX10_place 52 x_bad = x_aload 0 1 := rfl
theorem kX10_place_53 : List.getD tX10_place 53 x_bad = x_getR 10 11 := rfl
theorem kX10_place_56 : List.getD tX10_place 56 x_bad = x_iload 1 1 := rfl
theorem kX10_place_57 : List.getD tX10_place 57 x_bad = x_iald := rfl
theorem kX10_place_58 : List.getD tX10_place 58 x_bad = x_iret := rfl
theorem kX10_place_59 : List.getD tX10_place 59 x_bad = x_aload 0 1 := rfl
theorem kX10_place_60 : List.getD tX10_place 60 x_bad = x_aload 0 1 := rfl
theorem kX10_place_61 : List.getD tX10_place 61 x_bad = x_getR 10 11 := rfl
theorem kX10_place_64 : List.getD tX10_place 64 x_bad = x_iload 1 1 := rfl
theorem kX10_place_65 : List.getD tX10_place 65 x_bad = x_iald := rfl
theorem kX10_place_66 : List.getD tX10_place 66 x_bad = x_push (.int (nI 2)) 1 := rfl
theorem kX10_place_67 : List.getD tX10_place 67 x_bad = x_callV2 10 mX10_eventsOf := rfl
theorem kX10_place_70 : List.getD tX10_place 70 x_bad = x_iret := rfl
theorem kX10_place_71 : List.getD tX10_place 71 x_bad = x_aload 0 1 := rfl
theorem kX10_place_72 : List.getD tX10_place 72 x_bad = x_aload 0 1 := rfl
theorem kX10_place_73 : List.getD tX10_place 73 x_bad = x_getR 10 11 := rfl
theorem kX10_place_76 : List.getD tX10_place 76 x_bad = x_iload 1 1 := rfl
theorem kX10_place_77 : List.getD tX10_place 77 x_bad = x_iald := rfl
theorem kX10_place_78 : List.getD tX10_place 78 x_bad = x_push (.int (nI 1)) 1 := rfl
theorem kX10_place_79 : List.getD tX10_place 79 x_bad = x_callV2 10 mX10_eventsOf := rfl
theorem kX10_place_82 : List.getD tX10_place 82 x_bad = x_iret := rfl
theorem kX10_place_83 : List.getD tX10_place 83 x_bad = x_aload 0 1 := rfl
theorem kX10_place_84 : List.getD tX10_place 84 x_bad = x_getR 10 0 := rfl
theorem kX10_place_87 : List.getD tX10_place 87 x_bad = x_push (.int (nI 75)) 2 := rfl
theorem kX10_place_89 : List.getD tX10_place 89 x_bad = x_iload 1 1 := rfl
theorem kX10_place_90 : List.getD tX10_place 90 x_bad = x_ii (fun a b => a + b) := rfl
theorem kX10_place_91 : List.getD tX10_place 91 x_bad = x_iald := rfl
theorem kX10_place_92 : List.getD tX10_place 92 x_bad = x_iret := rfl
theorem kX10_place_93 : List.getD tX10_place 93 x_bad = x_aload 0 1 := rfl
theorem kX10_place_94 : List.getD tX10_place 94 x_bad = x_aload 0 1 := rfl
theorem kX10_place_95 : List.getD tX10_place 95 x_bad = x_getR 10 11 := rfl
theorem kX10_place_98 : List.getD tX10_place 98 x_bad = x_iload 1 1 := rfl
theorem kX10_place_99 : List.getD tX10_place 99 x_bad = x_iald := rfl
theorem kX10_place_100 : List.getD tX10_place 100 x_bad = x_callV1 10 mX10_alone := rfl
theorem kX10_place_103 : List.getD tX10_place 103 x_bad = x_iret := rfl
theorem kX10_place_104 : List.getD tX10_place 104 x_bad = x_push (.int (-1)) 1 := rfl
theorem kX10_place_105 : List.getD tX10_place 105 x_bad = x_iret := rfl
def tX10_worth : List PT := [x_push (.int (nI 0)) 1, x_istore 1 1, x_iload 1 1, x_aload 0 1, x_getI 10 9, x_bad, x_bad, x_icmp (fun a b => b ≤ a) 55, x_bad, x_bad, x_aload 0 1, x_getR 10 6, x_bad, x_bad, x_iload 1 1, x_iald, x_push (.int (nI 1)) 1, x_icmpn (fun a b => a = b) 49, x_bad, x_bad, x_aload 0 1, x_getR 10 10, x_bad, x_bad, x_iload 1 1, x_zald, x_ifn (fun a => a = 0) 49, x_bad, x_bad, x_aload 0 1, x_aload 0 1, x_getR 10 8, x_bad, x_bad, x_iload 1 1, x_iald, x_callV1 10 mX10_wrongSplit, x_bad, x_bad, x_ifn (fun a => a = 0) 49, x_bad, x_bad, x_aload 0 1, x_getR 10 8, x_bad, x_bad, x_iload 1 1, x_iald, x_iret, x_iinc 1 (nI 1), x_bad, x_bad, x_goto 2, x_bad, x_bad, x_push (.int (-9)) 2, x_bad, x_iret]
set_option maxRecDepth 20000 in
theorem okX10_worth : SndT RX10 cX10_worth mX10_worth.2.2.1 mX10_worth.2.2.2.2.1 mX10_worth.2.2.2.2.2 false mX10_worth.2.2.2.1 0 tX10_worth := ⟨s_iconst (n := 0) (by decide +kernel) (by decide +kernel), s_istore_n (k := 1) (i := 1) (by decide +kernel) rfl (by decide), s_iload_n (k := 1) (i := 1) (by decide +kernel) rfl, s_aload_n (k := 0) (i := 0) (by decide +kernel) rfl, s_getI (by decide +kernel) fl_RX10_103 rfl, s_bad, s_bad, s_icmp_ge (off := 48) (by decide +kernel) (by decide), s_bad, s_bad, s_aload_n (k := 0) (i := 0) (by decide +kernel) rfl, s_getR (by decide +kernel) fl_RX10_19 rfl, s_bad, s_bad, s_iload_n (k := 1) (i := 1) (by decide +kernel) rfl, s_iald (by decide +kernel), s_iconst (n := 1) (by decide +kernel) (by decide +kernel), s_icmp_ne (off := 32) (by decide +kernel) (by decide), s_bad, s_bad, s_aload_n (k := 0) (i := 0) (by decide +kernel) rfl, s_getR (by decide +kernel) fl_RX10_28 rfl, s_bad, s_bad, s_iload_n (k := 1) (i := 1) (by decide +kernel) rfl, s_zald (by decide +kernel), s_if_ne (off := 23) (by decide +kernel) (by decide), s_bad, s_bad, s_aload_n (k := 0) (i := 0) (by decide +kernel) rfl, s_aload_n (k := 0) (i := 0) (by decide +kernel) rfl, s_getR (by decide +kernel) fl_RX10_25 rfl, s_bad, s_bad, s_iload_n (k := 1) (i := 1) (by decide +kernel) rfl, s_iald (by decide +kernel), s_callV1 (by decide +kernel) lv_RX10_217 ⟨by decide, by decide⟩, s_bad, s_bad, s_if_ne (off := 10) (by decide +kernel) (by decide), s_bad, s_bad, s_aload_n (k := 0) (i := 0) (by decide +kernel) rfl, s_getR (by decide +kernel) fl_RX10_25 rfl, s_bad, s_bad, s_iload_n (k := 1) (i := 1) (by decide +kernel) rfl, s_iald (by decide +kernel), s_iret (by decide +kernel) rfl, s_iinc (n := 1) (by decide +kernel) (by decide +kernel) (by decide), s_bad, s_bad, s_goto (off := (-50)) (by decide +kernel) (by decide), s_bad, s_bad, s_bipush (n := (-9)) (by decide +kernel) (by decide +kernel), s_bad, s_iret (by decide +kernel) rfl, trivial⟩
theorem kX10_worth_0 : List.getD tX10_worth 0 x_bad = x_push (.int (nI 0)) 1 := rfl
theorem kX10_worth_1 : List.getD tX10_worth 1 x_bad = x_istore 1 1 := rfl
theorem kX10_worth_2 : List.getD tX10_worth 2 x_bad = x_iload 1 1 := rfl
theorem kX10_worth_3 : List.getD tX10_worth 3 x_bad = x_aload 0 1 := rfl
theorem kX10_worth_4 : List.getD tX10_worth 4 x_bad = x_getI 10 9 := rfl
theorem kX10_worth_7 : List.getD tX10_worth 7 x_bad = x_icmp (fun a b => b ≤ a) 55 := rfl
theorem kX10_worth_10 : List.getD tX10_worth 10 x_bad = x_aload 0 1 := rfl
theorem kX10_worth_11 : List.getD tX10_worth 11 x_bad = x_getR 10 6 := rfl
theorem kX10_worth_14 : List.getD tX10_worth 14 x_bad = x_iload 1 1 := rfl
theorem kX10_worth_15 : List.getD tX10_worth 15 x_bad = x_iald := rfl
theorem kX10_worth_16 : List.getD tX10_worth 16 x_bad = x_push (.int (nI 1)) 1 := rfl
theorem kX10_worth_17 : List.getD tX10_worth 17 x_bad = x_icmpn (fun a b => a = b) 49 := rfl
theorem kX10_worth_20 : List.getD tX10_worth 20 x_bad = x_aload 0 1 := rfl
theorem kX10_worth_21 : List.getD tX10_worth 21 x_bad = x_getR 10 10 := rfl
theorem kX10_worth_24 : List.getD tX10_worth 24 x_bad = x_iload 1 1 := rfl
theorem kX10_worth_25 : List.getD tX10_worth 25 x_bad = x_zald := rfl
theorem kX10_worth_26 : List.getD tX10_worth 26 x_bad = x_ifn (fun a => a = 0) 49 := rfl
theorem kX10_worth_29 : List.getD tX10_worth 29 x_bad = x_aload 0 1 := rfl
theorem kX10_worth_30 : List.getD tX10_worth 30 x_bad = x_aload 0 1 := rfl
theorem kX10_worth_31 : List.getD tX10_worth 31 x_bad = x_getR 10 8 := rfl
theorem kX10_worth_34 : List.getD tX10_worth 34 x_bad = x_iload 1 1 := rfl
theorem kX10_worth_35 : List.getD tX10_worth 35 x_bad = x_iald := rfl
theorem kX10_worth_36 : List.getD tX10_worth 36 x_bad = x_callV1 10 mX10_wrongSplit := rfl
theorem kX10_worth_39 : List.getD tX10_worth 39 x_bad = x_ifn (fun a => a = 0) 49 := rfl
theorem kX10_worth_42 : List.getD tX10_worth 42 x_bad = x_aload 0 1 := rfl
theorem kX10_worth_43 : List.getD tX10_worth 43 x_bad = x_getR 10 8 := rfl
theorem kX10_worth_46 : List.getD tX10_worth 46 x_bad = x_iload 1 1 := rfl
theorem kX10_worth_47 : List.getD tX10_worth 47 x_bad = x_iald := rfl
theorem kX10_worth_48 : List.getD tX10_worth 48 x_bad = x_iret := rfl
theorem kX10_worth_49 : List.getD tX10_worth 49 x_bad = x_iinc 1 (nI 1) := rfl
theorem kX10_worth_52 : List.getD tX10_worth 52 x_bad = x_goto 2 := rfl
theorem kX10_worth_55 : List.getD tX10_worth 55 x_bad = x_push (.int (-9)) 2 := rfl
theorem kX10_worth_57 : List.getD tX10_worth 57 x_bad = x_iret := rfl
def tX10_digest : List PT := [x_aload 0 1, x_push (.long 17341) 3, x_bad, x_bad, x_putL 10 28, x_bad, x_bad, x_push (.int (nI 0)) 1, x_istore 1 1, x_iload 1 1, x_push (.int (nI 7)) 2, x_bad, x_icmp (fun a b => b ≤ a) 30, x_bad, x_bad, x_aload 0 1, x_aload 0 1, x_iload 1 1, x_callV1 10 mX10_count, x_bad, x_bad, x_callV1 10 mX10_mixes, x_bad, x_bad, x_iinc 1 (nI 1), x_bad, x_bad, x_goto 9, x_bad, x_bad, x_push (.int (nI 0)) 1, x_istore 1 1, x_iload 1 1, x_aload 0 1, x_getR 10 0, x_bad, x_bad, x_push (.int (nI 1)) 1, x_iald, x_icmp (fun a b => b ≤ a) 71, x_bad, x_bad, x_push (.int (nI 0)) 1, x_istore 2 1, x_iload 2 1, x_push (.int (nI 3)) 1, x_icmp (fun a b => b ≤ a) 65, x_bad, x_bad, x_aload 0 1, x_aload 0 1, x_iload 1 1, x_iload 2 1, x_callV2 10 mX10_of, x_bad, x_bad, x_callV1 10 mX10_mixes, x_bad, x_bad, x_iinc 2 (nI 1), x_bad, x_bad, x_goto 44, x_bad, x_bad, x_iinc 1 (nI 1), x_bad, x_bad, x_goto 32, x_bad, x_bad, x_aload 0 1, x_aload 0 1, x_getI 10 3, x_bad, x_bad, x_callV1 10 mX10_mixes, x_bad, x_bad, x_aload 0 1, x_aload 0 1, x_getI 10 5, x_bad, x_bad, x_callV1 10 mX10_mixes, x_bad, x_bad, x_push (.int (nI 0)) 1, x_istore 1 1, x_iload 1 1, x_aload 0 1, x_getI 10 5, x_bad, x_bad, x_icmp (fun a b => b ≤ a) 113, x_bad, x_bad, x_aload 0 1, x_aload 0 1, x_getR 10 4, x_bad, x_bad, x_iload 1 1, x_iald, x_callV1 10 mX10_mixes, x_bad, x_bad, x_iinc 1 (nI 1), x_bad, x_bad, x_goto 89, x_bad, x_bad, x_push (.int (nI 0)) 1, x_istore 1 1, x_iload 1 1, x_push (.int (nI 2)) 1, x_icmp (fun a b => b ≤ a) 146, x_bad, x_bad, x_aload 0 1, x_aload 0 1, x_iload 1 1, x_push (.int (nI 1)) 1, x_callV2 10 mX10_separations, x_bad, x_bad, x_callV1 10 mX10_mixes, x_bad, x_bad, x_aload 0 1, x_aload 0 1, x_iload 1 1, x_push (.int (nI 0)) 1, x_callV2 10 mX10_separations, x_bad, x_bad, x_callV1 10 mX10_mixes, x_bad, x_bad, x_iinc 1 (nI 1), x_bad, x_bad, x_goto 115, x_bad, x_bad, x_push (.int (nI 0)) 1, x_istore 1 1, x_iload 1 1, x_aload 0 1, x_callV0 10 mX10_unsolvedMany, x_bad, x_bad, x_icmp (fun a b => b ≤ a) 171, x_bad, x_bad, x_aload 0 1, x_aload 0 1, x_iload 1 1, x_callV1 10 mX10_unsolved, x_bad, x_bad, x_callV1 10 mX10_mixes, x_bad, x_bad, x_iinc 1 (nI 1), x_bad, x_bad, x_goto 148, x_bad, x_bad, x_aload 0 1, x_aload 0 1, x_getI 10 12, x_bad, x_bad, x_callV1 10 mX10_mixes, x_bad, x_bad, x_push (.int (nI 0)) 1, x_istore 1 1, x_iload 1 1, x_aload 0 1, x_getI 10 12, x_bad, x_bad, x_icmp (fun a b => b ≤ a) 218, x_bad, x_bad, x_push (.int (nI 0)) 1, x_istore 2 1, x_iload 2 1, x_push (.int (nI 5)) 1, x_icmp (fun a b => b ≤ a) 212, x_bad, x_bad, x_aload 0 1, x_aload 0 1, x_iload 1 1, x_iload 2 1, x_callV2 10 mX10_place, x_bad, x_bad, x_callV1 10 mX10_mixes, x_bad, x_bad, x_iinc 2 (nI 1), x_bad, x_bad, x_goto 191, x_bad, x_bad, x_iinc 1 (nI 1), x_bad, x_bad, x_goto 181, x_bad, x_bad, x_push (.int (nI 0)) 1, x_istore 1 1, x_iload 1 1, x_push (.int (nI 3)) 1, x_icmp (fun a b => b ≤ a) 240, x_bad, x_bad, x_aload 0 1, x_aload 0 1, x_iload 1 1, x_callV1 10 mX10_netGraph, x_bad, x_bad, x_callV1 10 mX10_mixes, x_bad, x_bad, x_iinc 1 (nI 1), x_bad, x_bad, x_goto 220, x_bad, x_bad, x_aload 0 1, x_aload 0 1, x_callV0 10 mX10_fits, x_bad, x_bad, x_callV1 10 mX10_mixes, x_bad, x_bad, x_aload 0 1, x_aload 0 1, x_callV0 10 mX10_enabled, x_bad, x_bad, x_callV1 10 mX10_mixes, x_bad, x_bad, x_aload 0 1, x_getL 10 28, x_bad, x_bad, x_lret]
set_option maxRecDepth 20000 in
theorem okX10_digest : SndT RX10 cX10_digest mX10_digest.2.2.1 mX10_digest.2.2.2.2.1 mX10_digest.2.2.2.2.2 false mX10_digest.2.2.2.1 0 tX10_digest := ⟨s_aload_n (k := 0) (i := 0) (by decide +kernel) rfl, s_ldc2 (by decide +kernel) tb_1259, s_bad, s_bad, s_putL (by decide +kernel) fl_RX10_261 fp_10_28 rfl, s_bad, s_bad, s_iconst (n := 0) (by decide +kernel) (by decide +kernel), s_istore_n (k := 1) (i := 1) (by decide +kernel) rfl (by decide), s_iload_n (k := 1) (i := 1) (by decide +kernel) rfl, s_bipush (n := 7) (by decide +kernel) (by decide +kernel), s_bad, s_icmp_ge (off := 18) (by decide +kernel) (by decide), s_bad, s_bad, s_aload_n (k := 0) (i := 0) (by decide +kernel) rfl, s_aload_n (k := 0) (i := 0) (by decide +kernel) rfl, s_iload_n (k := 1) (i := 1) (by decide +kernel) rfl, s_callV1 (by decide +kernel) lv_RX10_267 ⟨by decide, by decide⟩, s_bad, s_bad, s_callV1 (by decide +kernel) lv_RX10_270 ⟨by decide, by decide⟩, s_bad, s_bad, s_iinc (n := 1) (by decide +kernel) (by decide +kernel) (by decide), s_bad, s_bad, s_goto (off := (-18)) (by decide +kernel) (by decide), s_bad, s_bad, s_iconst (n := 0) (by decide +kernel) (by decide +kernel), s_istore_n (k := 1) (i := 1) (by decide +kernel) rfl (by decide), s_iload_n (k := 1) (i := 1) (by decide +kernel) rfl, s_aload_n (k := 0) (i := 0) (by decide +kernel) rfl, s_getR (by decide +kernel) fl_RX10_7 rfl, s_bad, s_bad, s_iconst (n := 1) (by decide +kernel) (by decide +kernel), s_iald (by decide +kernel), s_icmp_ge (off := 32) (by decide +kernel) (by decide), s_bad, s_bad, s_iconst (n := 0) (by decide +kernel) (by decide +kernel), s_istore_n (k := 2) (i := 2) (by decide +kernel) rfl (by decide), s_iload_n (k := 2) (i := 2) (by decide +kernel) rfl, s_iconst (n := 3) (by decide +kernel) (by decide +kernel), s_icmp_ge (off := 19) (by decide +kernel) (by decide), s_bad, s_bad, s_aload_n (k := 0) (i := 0) (by decide +kernel) rfl, s_aload_n (k := 0) (i := 0) (by decide +kernel) rfl, s_iload_n (k := 1) (i := 1) (by decide +kernel) rfl, s_iload_n (k := 2) (i := 2) (by decide +kernel) rfl, s_callV2 (by decide +kernel) lv_RX10_78 ⟨by decide, by decide⟩, s_bad, s_bad, s_callV1 (by decide +kernel) lv_RX10_270 ⟨by decide, by decide⟩, s_bad, s_bad, s_iinc (n := 1) (by decide +kernel) (by decide +kernel) (by decide), s_bad, s_bad, s_goto (off := (-18)) (by decide +kernel) (by decide), s_bad, s_bad, s_iinc (n := 1) (by decide +kernel) (by decide +kernel) (by decide), s_bad, s_bad, s_goto (off := (-36)) (by decide +kernel) (by decide), s_bad, s_bad, s_aload_n (k := 0) (i := 0) (by decide +kernel) rfl, s_aload_n (k := 0) (i := 0) (by decide +kernel) rfl, s_getI (by decide +kernel) fl_RX10_89 rfl, s_bad, s_bad, s_callV1 (by decide +kernel) lv_RX10_270 ⟨by decide, by decide⟩, s_bad, s_bad, s_aload_n (k := 0) (i := 0) (by decide +kernel) rfl, s_aload_n (k := 0) (i := 0) (by decide +kernel) rfl, s_getI (by decide +kernel) fl_RX10_92 rfl, s_bad, s_bad, s_callV1 (by decide +kernel) lv_RX10_270 ⟨by decide, by decide⟩, s_bad, s_bad, s_iconst (n := 0) (by decide +kernel) (by decide +kernel), s_istore_n (k := 1) (i := 1) (by decide +kernel) rfl (by decide), s_iload_n (k := 1) (i := 1) (by decide +kernel) rfl, s_aload_n (k := 0) (i := 0) (by decide +kernel) rfl, s_getI (by decide +kernel) fl_RX10_92 rfl, s_bad, s_bad, s_icmp_ge (off := 19) (by decide +kernel) (by decide), s_bad, s_bad, s_aload_n (k := 0) (i := 0) (by decide +kernel) rfl, s_aload_n (k := 0) (i := 0) (by decide +kernel) rfl, s_getR (by decide +kernel) fl_RX10_16 rfl, s_bad, s_bad, s_iload_n (k := 1) (i := 1) (by decide +kernel) rfl, s_iald (by decide +kernel), s_callV1 (by decide +kernel) lv_RX10_270 ⟨by decide, by decide⟩, s_bad, s_bad, s_iinc (n := 1) (by decide +kernel) (by decide +kernel) (by decide), s_bad, s_bad, s_goto (off := (-21)) (by decide +kernel) (by decide), s_bad, s_bad, s_iconst (n := 0) (by decide +kernel) (by decide +kernel), s_istore_n (k := 1) (i := 1) (by decide +kernel) rfl (by decide), s_iload_n (k := 1) (i := 1) (by decide +kernel) rfl, s_iconst (n := 2) (by decide +kernel) (by decide +kernel), s_icmp_ge (off := 29) (by decide +kernel) (by decide), s_bad, s_bad, s_aload_n (k := 0) (i := 0) (by decide +kernel) rfl, s_aload_n (k := 0) (i := 0) (by decide +kernel) rfl, s_iload_n (k := 1) (i := 1) (by decide +kernel) rfl, s_iconst (n := 1) (by decide +kernel) (by decide +kernel), s_callV2 (by decide +kernel) lv_RX10_273 ⟨by decide, by decide⟩, s_bad, s_bad, s_callV1 (by decide +kernel) lv_RX10_270 ⟨by decide, by decide⟩, s_bad, s_bad, s_aload_n (k := 0) (i := 0) (by decide +kernel) rfl, s_aload_n (k := 0) (i := 0) (by decide +kernel) rfl, s_iload_n (k := 1) (i := 1) (by decide +kernel) rfl, s_iconst (n := 0) (by decide +kernel) (by decide +kernel), s_callV2 (by decide +kernel) lv_RX10_273 ⟨by decide, by decide⟩, s_bad, s_bad, s_callV1 (by decide +kernel) lv_RX10_270 ⟨by decide, by decide⟩, s_bad, s_bad, s_iinc (n := 1) (by decide +kernel) (by decide +kernel) (by decide), s_bad, s_bad, s_goto (off := (-28)) (by decide +kernel) (by decide), s_bad, s_bad, s_iconst (n := 0) (by decide +kernel) (by decide +kernel), s_istore_n (k := 1) (i := 1) (by decide +kernel) rfl (by decide), s_iload_n (k := 1) (i := 1) (by decide +kernel) rfl, s_aload_n (k := 0) (i := 0) (by decide +kernel) rfl, s_callV0 (by decide +kernel) lv_RX10_247 ⟨by decide, by decide⟩, s_bad, s_bad, s_icmp_ge (off := 18) (by decide +kernel) (by decide), s_bad, s_bad, s_aload_n (k := 0) (i := 0) (by decide +kernel) rfl, s_aload_n (k := 0) (i := 0) (by decide +kernel) rfl, s_iload_n (k := 1) (i := 1) (by decide +kernel) rfl, s_callV1 (by decide +kernel) lv_RX10_277 ⟨by decide, by decide⟩, s_bad, s_bad, s_callV1 (by decide +kernel) lv_RX10_270 ⟨by decide, by decide⟩, s_bad, s_bad, s_iinc (n := 1) (by decide +kernel) (by decide +kernel) (by decide), s_bad, s_bad, s_goto (off := (-20)) (by decide +kernel) (by decide), s_bad, s_bad, s_aload_n (k := 0) (i := 0) (by decide +kernel) rfl, s_aload_n (k := 0) (i := 0) (by decide +kernel) rfl, s_getI (by decide +kernel) fl_RX10_117 rfl, s_bad, s_bad, s_callV1 (by decide +kernel) lv_RX10_270 ⟨by decide, by decide⟩, s_bad, s_bad, s_iconst (n := 0) (by decide +kernel) (by decide +kernel), s_istore_n (k := 1) (i := 1) (by decide +kernel) rfl (by decide), s_iload_n (k := 1) (i := 1) (by decide +kernel) rfl, s_aload_n (k := 0) (i := 0) (by decide +kernel) rfl, s_getI (by decide +kernel) fl_RX10_117 rfl, s_bad, s_bad, s_icmp_ge (off := 32) (by decide +kernel) (by decide), s_bad, s_bad, s_iconst (n := 0) (by decide +kernel) (by decide +kernel), s_istore_n (k := 2) (i := 2) (by decide +kernel) rfl (by decide), s_iload_n (k := 2) (i := 2) (by decide +kernel) rfl, s_iconst (n := 5) (by decide +kernel) (by decide +kernel), s_icmp_ge (off := 19) (by decide +kernel) (by decide), s_bad, s_bad, s_aload_n (k := 0) (i := 0) (by decide +kernel) rfl, s_aload_n (k := 0) (i := 0) (by decide +kernel) rfl, s_iload_n (k := 1) (i := 1) (by decide +kernel) rfl, s_iload_n (k := 2) (i := 2) (by decide +kernel) rfl, s_callV2 (by decide +kernel) lv_RX10_280 ⟨by decide, by decide⟩, s_bad, s_bad, s_callV1 (by decide +kernel) lv_RX10_270 ⟨by decide, by decide⟩, s_bad, s_bad, s_iinc (n := 1) (by decide +kernel) (by decide +kernel) (by decide), s_bad, s_bad, s_goto (off := (-18)) (by decide +kernel) (by decide), s_bad, s_bad, s_iinc (n := 1) (by decide +kernel) (by decide +kernel) (by decide), s_bad, s_bad, s_goto (off := (-34)) (by decide +kernel) (by decide), s_bad, s_bad, s_iconst (n := 0) (by decide +kernel) (by decide +kernel), s_istore_n (k := 1) (i := 1) (by decide +kernel) rfl (by decide), s_iload_n (k := 1) (i := 1) (by decide +kernel) rfl, s_iconst (n := 3) (by decide +kernel) (by decide +kernel), s_icmp_ge (off := 18) (by decide +kernel) (by decide), s_bad, s_bad, s_aload_n (k := 0) (i := 0) (by decide +kernel) rfl, s_aload_n (k := 0) (i := 0) (by decide +kernel) rfl, s_iload_n (k := 1) (i := 1) (by decide +kernel) rfl, s_callV1 (by decide +kernel) lv_RX10_283 ⟨by decide, by decide⟩, s_bad, s_bad, s_callV1 (by decide +kernel) lv_RX10_270 ⟨by decide, by decide⟩, s_bad, s_bad, s_iinc (n := 1) (by decide +kernel) (by decide +kernel) (by decide), s_bad, s_bad, s_goto (off := (-17)) (by decide +kernel) (by decide), s_bad, s_bad, s_aload_n (k := 0) (i := 0) (by decide +kernel) rfl, s_aload_n (k := 0) (i := 0) (by decide +kernel) rfl, s_callV0 (by decide +kernel) lv_RX10_286 ⟨by decide, by decide⟩, s_bad, s_bad, s_callV1 (by decide +kernel) lv_RX10_270 ⟨by decide, by decide⟩, s_bad, s_bad, s_aload_n (k := 0) (i := 0) (by decide +kernel) rfl, s_aload_n (k := 0) (i := 0) (by decide +kernel) rfl, s_callV0 (by decide +kernel) lv_RX10_289 ⟨by decide, by decide⟩, s_bad, s_bad, s_callV1 (by decide +kernel) lv_RX10_270 ⟨by decide, by decide⟩, s_bad, s_bad, s_aload_n (k := 0) (i := 0) (by decide +kernel) rfl, s_getL (by decide +kernel) fl_RX10_261 rfl, s_bad, s_bad, s_lret (by decide +kernel) rfl, trivial⟩
theorem kX10_digest_0 : List.getD tX10_digest 0 x_bad = x_aload 0 1 := rfl
theorem kX10_digest_1 : List.getD tX10_digest 1 x_bad = x_push (.long 17341) 3 := rfl
theorem kX10_digest_4 : List.getD tX10_digest 4 x_bad = x_putL 10 28 := rfl
theorem kX10_digest_7 : List.getD tX10_digest 7 x_bad = x_push (.int (nI 0)) 1 := rfl
theorem kX10_digest_8 : List.getD tX10_digest 8 x_bad = x_istore 1 1 := rfl
theorem kX10_digest_9 : List.getD tX10_digest 9 x_bad = x_iload 1 1 := rfl
theorem kX10_digest_10 : List.getD tX10_digest 10 x_bad = x_push (.int (nI 7)) 2 := rfl
theorem kX10_digest_12 : List.getD tX10_digest 12 x_bad = x_icmp (fun a b => b ≤ a) 30 := rfl
theorem kX10_digest_15 : List.getD tX10_digest 15 x_bad = x_aload 0 1 := rfl
theorem kX10_digest_16 : List.getD tX10_digest 16 x_bad = x_aload 0 1 := rfl
theorem kX10_digest_17 : List.getD tX10_digest 17 x_bad = x_iload 1 1 := rfl
theorem kX10_digest_18 : List.getD tX10_digest 18 x_bad = x_callV1 10 mX10_count := rfl
theorem kX10_digest_21 : List.getD tX10_digest 21 x_bad = x_callV1 10 mX10_mixes := rfl
theorem kX10_digest_24 : List.getD tX10_digest 24 x_bad = x_iinc 1 (nI 1) := rfl
theorem kX10_digest_27 : List.getD tX10_digest 27 x_bad = x_goto 9 := rfl
theorem kX10_digest_30 : List.getD tX10_digest 30 x_bad = x_push (.int (nI 0)) 1 := rfl
theorem kX10_digest_31 : List.getD tX10_digest 31 x_bad = x_istore 1 1 := rfl
theorem kX10_digest_32 : List.getD tX10_digest 32 x_bad = x_iload 1 1 := rfl
theorem kX10_digest_33 : List.getD tX10_digest 33 x_bad = x_aload 0 1 := rfl
theorem kX10_digest_34 : List.getD tX10_digest 34 x_bad = x_getR 10 0 := rfl
theorem kX10_digest_37 : List.getD tX10_digest 37 x_bad = x_push (.int (nI 1)) 1 := rfl
theorem kX10_digest_38 : List.getD tX10_digest 38 x_bad = x_iald := rfl
theorem kX10_digest_39 : List.getD tX10_digest 39 x_bad = x_icmp (fun a b => b ≤ a) 71 := rfl
theorem kX10_digest_42 : List.getD tX10_digest 42 x_bad = x_push (.int (nI 0)) 1 := rfl
theorem kX10_digest_43 : List.getD tX10_digest 43 x_bad = x_istore 2 1 := rfl
theorem kX10_digest_44 : List.getD tX10_digest 44 x_bad = x_iload 2 1 := rfl
theorem kX10_digest_45 : List.getD tX10_digest 45 x_bad = x_push (.int (nI 3)) 1 := rfl
theorem kX10_digest_46 : List.getD tX10_digest 46 x_bad = x_icmp (fun a b => b ≤ a) 65 := rfl
theorem kX10_digest_49 : List.getD tX10_digest 49 x_bad = x_aload 0 1 := rfl
theorem kX10_digest_50 : List.getD tX10_digest 50 x_bad = x_aload 0 1 := rfl
theorem kX10_digest_51 : List.getD tX10_digest 51 x_bad = x_iload 1 1 := rfl
theorem kX10_digest_52 : List.getD tX10_digest 52 x_bad = x_iload 2 1 := rfl
theorem kX10_digest_53 : List.getD tX10_digest 53 x_bad = x_callV2 10 mX10_of := rfl
theorem kX10_digest_56 : List.getD tX10_digest 56 x_bad = x_callV1 10 mX10_mixes := rfl
theorem kX10_digest_59 : List.getD tX10_digest 59 x_bad = x_iinc 2 (nI 1) := rfl
theorem kX10_digest_62 : List.getD tX10_digest 62 x_bad = x_goto 44 := rfl
theorem kX10_digest_65 : List.getD tX10_digest 65 x_bad = x_iinc 1 (nI 1) := rfl
theorem kX10_digest_68 : List.getD tX10_digest 68 x_bad = x_goto 32 := rfl
theorem kX10_digest_71 : List.getD tX10_digest 71 x_bad = x_aload 0 1 := rfl
theorem kX10_digest_72 : List.getD tX10_digest 72 x_bad = x_aload 0 1 := rfl
theorem kX10_digest_73 : List.getD tX10_digest 73 x_bad = x_getI 10 3 := rfl
theorem kX10_digest_76 : List.getD tX10_digest 76 x_bad = x_callV1 10 mX10_mixes := rfl
theorem kX10_digest_79 : List.getD tX10_digest 79 x_bad = x_aload 0 1 := rfl
theorem kX10_digest_80 : List.getD tX10_digest 80 x_bad = x_aload 0 1 := rfl
theorem kX10_digest_81 : List.getD tX10_digest 81 x_bad = x_getI 10 5 := rfl
theorem kX10_digest_84 : List.getD tX10_digest 84 x_bad = x_callV1 10 mX10_mixes := rfl
theorem kX10_digest_87 : List.getD tX10_digest 87 x_bad = x_push (.int (nI 0)) 1 := rfl
theorem kX10_digest_88 : List.getD tX10_digest 88 x_bad = x_istore 1 1 := rfl
theorem kX10_digest_89 : List.getD tX10_digest 89 x_bad = x_iload 1 1 := rfl
theorem kX10_digest_90 : List.getD tX10_digest 90 x_bad = x_aload 0 1 := rfl
theorem kX10_digest_91 : List.getD tX10_digest 91 x_bad = x_getI 10 5 := rfl
theorem kX10_digest_94 : List.getD tX10_digest 94 x_bad = x_icmp (fun a b => b ≤ a) 113 := rfl
theorem kX10_digest_97 : List.getD tX10_digest 97 x_bad = x_aload 0 1 := rfl
theorem kX10_digest_98 : List.getD tX10_digest 98 x_bad = x_aload 0 1 := rfl
theorem kX10_digest_99 : List.getD tX10_digest 99 x_bad = x_getR 10 4 := rfl
theorem kX10_digest_102 : List.getD tX10_digest 102 x_bad = x_iload 1 1 := rfl
theorem kX10_digest_103 : List.getD tX10_digest 103 x_bad = x_iald := rfl
theorem kX10_digest_104 : List.getD tX10_digest 104 x_bad = x_callV1 10 mX10_mixes := rfl
theorem kX10_digest_107 : List.getD tX10_digest 107 x_bad = x_iinc 1 (nI 1) := rfl
theorem kX10_digest_110 : List.getD tX10_digest 110 x_bad = x_goto 89 := rfl
theorem kX10_digest_113 : List.getD tX10_digest 113 x_bad = x_push (.int (nI 0)) 1 := rfl
theorem kX10_digest_114 : List.getD tX10_digest 114 x_bad = x_istore 1 1 := rfl
theorem kX10_digest_115 : List.getD tX10_digest 115 x_bad = x_iload 1 1 := rfl
theorem kX10_digest_116 : List.getD tX10_digest 116 x_bad = x_push (.int (nI 2)) 1 := rfl
theorem kX10_digest_117 : List.getD tX10_digest 117 x_bad = x_icmp (fun a b => b ≤ a) 146 := rfl
theorem kX10_digest_120 : List.getD tX10_digest 120 x_bad = x_aload 0 1 := rfl
theorem kX10_digest_121 : List.getD tX10_digest 121 x_bad = x_aload 0 1 := rfl
theorem kX10_digest_122 : List.getD tX10_digest 122 x_bad = x_iload 1 1 := rfl
theorem kX10_digest_123 : List.getD tX10_digest 123 x_bad = x_push (.int (nI 1)) 1 := rfl
theorem kX10_digest_124 : List.getD tX10_digest 124 x_bad = x_callV2 10 mX10_separations := rfl
theorem kX10_digest_127 : List.getD tX10_digest 127 x_bad = x_callV1 10 mX10_mixes := rfl
theorem kX10_digest_130 : List.getD tX10_digest 130 x_bad = x_aload 0 1 := rfl
theorem kX10_digest_131 : List.getD tX10_digest 131 x_bad = x_aload 0 1 := rfl
theorem kX10_digest_132 : List.getD tX10_digest 132 x_bad = x_iload 1 1 := rfl
theorem kX10_digest_133 : List.getD tX10_digest 133 x_bad = x_push (.int (nI 0)) 1 := rfl
theorem kX10_digest_134 : List.getD tX10_digest 134 x_bad = x_callV2 10 mX10_separations := rfl
theorem kX10_digest_137 : List.getD tX10_digest 137 x_bad = x_callV1 10 mX10_mixes := rfl
theorem kX10_digest_140 : List.getD tX10_digest 140 x_bad = x_iinc 1 (nI 1) := rfl
theorem kX10_digest_143 : List.getD tX10_digest 143 x_bad = x_goto 115 := rfl
theorem kX10_digest_146 : List.getD tX10_digest 146 x_bad = x_push (.int (nI 0)) 1 := rfl
theorem kX10_digest_147 : List.getD tX10_digest 147 x_bad = x_istore 1 1 := rfl
theorem kX10_digest_148 : List.getD tX10_digest 148 x_bad = x_iload 1 1 := rfl
theorem kX10_digest_149 : List.getD tX10_digest 149 x_bad = x_aload 0 1 := rfl
theorem kX10_digest_150 : List.getD tX10_digest 150 x_bad = x_callV0 10 mX10_unsolvedMany := rfl
theorem kX10_digest_153 : List.getD tX10_digest 153 x_bad = x_icmp (fun a b => b ≤ a) 171 := rfl
theorem kX10_digest_156 : List.getD tX10_digest 156 x_bad = x_aload 0 1 := rfl
theorem kX10_digest_157 : List.getD tX10_digest 157 x_bad = x_aload 0 1 := rfl
theorem kX10_digest_158 : List.getD tX10_digest 158 x_bad = x_iload 1 1 := rfl
theorem kX10_digest_159 : List.getD tX10_digest 159 x_bad = x_callV1 10 mX10_unsolved := rfl
theorem kX10_digest_162 : List.getD tX10_digest 162 x_bad = x_callV1 10 mX10_mixes := rfl
theorem kX10_digest_165 : List.getD tX10_digest 165 x_bad = x_iinc 1 (nI 1) := rfl
theorem kX10_digest_168 : List.getD tX10_digest 168 x_bad = x_goto 148 := rfl
theorem kX10_digest_171 : List.getD tX10_digest 171 x_bad = x_aload 0 1 := rfl
theorem kX10_digest_172 : List.getD tX10_digest 172 x_bad = x_aload 0 1 := rfl
theorem kX10_digest_173 : List.getD tX10_digest 173 x_bad = x_getI 10 12 := rfl
theorem kX10_digest_176 : List.getD tX10_digest 176 x_bad = x_callV1 10 mX10_mixes := rfl
theorem kX10_digest_179 : List.getD tX10_digest 179 x_bad = x_push (.int (nI 0)) 1 := rfl
theorem kX10_digest_180 : List.getD tX10_digest 180 x_bad = x_istore 1 1 := rfl
theorem kX10_digest_181 : List.getD tX10_digest 181 x_bad = x_iload 1 1 := rfl
theorem kX10_digest_182 : List.getD tX10_digest 182 x_bad = x_aload 0 1 := rfl
theorem kX10_digest_183 : List.getD tX10_digest 183 x_bad = x_getI 10 12 := rfl
theorem kX10_digest_186 : List.getD tX10_digest 186 x_bad = x_icmp (fun a b => b ≤ a) 218 := rfl
theorem kX10_digest_189 : List.getD tX10_digest 189 x_bad = x_push (.int (nI 0)) 1 := rfl
theorem kX10_digest_190 : List.getD tX10_digest 190 x_bad = x_istore 2 1 := rfl
theorem kX10_digest_191 : List.getD tX10_digest 191 x_bad = x_iload 2 1 := rfl
theorem kX10_digest_192 : List.getD tX10_digest 192 x_bad = x_push (.int (nI 5)) 1 := rfl
theorem kX10_digest_193 : List.getD tX10_digest 193 x_bad = x_icmp (fun a b => b ≤ a) 212 := rfl
theorem kX10_digest_196 : List.getD tX10_digest 196 x_bad = x_aload 0 1 := rfl
theorem kX10_digest_197 : List.getD tX10_digest 197 x_bad = x_aload 0 1 := rfl
theorem kX10_digest_198 : List.getD tX10_digest 198 x_bad = x_iload 1 1 := rfl
theorem kX10_digest_199 : List.getD tX10_digest 199 x_bad = x_iload 2 1 := rfl
theorem kX10_digest_200 : List.getD tX10_digest 200 x_bad = x_callV2 10 mX10_place := rfl
theorem kX10_digest_203 : List.getD tX10_digest 203 x_bad = x_callV1 10 mX10_mixes := rfl
theorem kX10_digest_206 : List.getD tX10_digest 206 x_bad = x_iinc 2 (nI 1) := rfl
theorem kX10_digest_209 : List.getD tX10_digest 209 x_bad = x_goto 191 := rfl
theorem kX10_digest_212 : List.getD tX10_digest 212 x_bad = x_iinc 1 (nI 1) := rfl
theorem kX10_digest_215 : List.getD tX10_digest 215 x_bad = x_goto 181 := rfl
theorem kX10_digest_218 : List.getD tX10_digest 218 x_bad = x_push (.int (nI 0)) 1 := rfl
theorem kX10_digest_219 : List.getD tX10_digest 219 x_bad = x_istore 1 1 := rfl
theorem kX10_digest_220 : List.getD tX10_digest 220 x_bad = x_iload 1 1 := rfl
theorem kX10_digest_221 : List.getD tX10_digest 221 x_bad = x_push (.int (nI 3)) 1 := rfl
theorem kX10_digest_222 : List.getD tX10_digest 222 x_bad = x_icmp (fun a b => b ≤ a) 240 := rfl
theorem kX10_digest_225 : List.getD tX10_digest 225 x_bad = x_aload 0 1 := rfl
theorem kX10_digest_226 : List.getD tX10_digest 226 x_bad = x_aload 0 1 := rfl
theorem kX10_digest_227 : List.getD tX10_digest 227 x_bad = x_iload 1 1 := rfl
theorem kX10_digest_228 : List.getD tX10_digest 228 x_bad = x_callV1 10 mX10_netGraph := rfl
theorem kX10_digest_231 : List.getD tX10_digest 231 x_bad = x_callV1 10 mX10_mixes := rfl
theorem kX10_digest_234 : List.getD tX10_digest 234 x_bad = x_iinc 1 (nI 1) := rfl
theorem kX10_digest_237 : List.getD tX10_digest 237 x_bad = x_goto 220 := rfl
theorem kX10_digest_240 : List.getD tX10_digest 240 x_bad = x_aload 0 1 := rfl
theorem kX10_digest_241 : List.getD tX10_digest 241 x_bad = x_aload 0 1 := rfl
theorem kX10_digest_242 : List.getD tX10_digest 242 x_bad = x_callV0 10 mX10_fits := rfl
theorem kX10_digest_245 : List.getD tX10_digest 245 x_bad = x_callV1 10 mX10_mixes := rfl
theorem kX10_digest_248 : List.getD tX10_digest 248 x_bad = x_aload 0 1 := rfl
theorem kX10_digest_249 : List.getD tX10_digest 249 x_bad = x_aload 0 1 := rfl
theorem kX10_digest_250 : List.getD tX10_digest 250 x_bad = x_callV0 10 mX10_enabled := rfl
theorem kX10_digest_253 : List.getD tX10_digest 253 x_bad = x_callV1 10 mX10_mixes := rfl
theorem kX10_digest_256 : List.getD tX10_digest 256 x_bad = x_aload 0 1 := rfl
theorem kX10_digest_257 : List.getD tX10_digest 257 x_bad = x_getL 10 28 := rfl
theorem kX10_digest_260 : List.getD tX10_digest 260 x_bad = x_lret := rfl
def tX10_lays : List PT := [x_aload 0 1, x_callV0 10 mX10_findsRegions, x_bad, x_bad, x_aload 0 1, x_callV0 10 mX10_findsSeparations, x_bad, x_bad, x_aload 0 1, x_callV0 10 mX10_findsPlaces, x_bad, x_bad, x_aload 0 1, x_callV0 10 mX10_findsFlows, x_bad, x_bad, x_aload 0 1, x_callV0 10 mX10_explores, x_bad, x_bad, x_vret]
set_option maxRecDepth 20000 in
theorem okX10_lays : SndT RX10 cX10_lays mX10_lays.2.2.1 mX10_lays.2.2.2.2.1 mX10_lays.2.2.2.2.2 false mX10_lays.2.2.2.1 0 tX10_lays := ⟨s_aload_n (k := 0) (i := 0) (by decide +kernel) rfl, s_callV0 (by decide +kernel) lv_RX10_155 ⟨by decide, by decide⟩, s_bad, s_bad, s_aload_n (k := 0) (i := 0) (by decide +kernel) rfl, s_callV0 (by decide +kernel) lv_RX10_158 ⟨by decide, by decide⟩, s_bad, s_bad, s_aload_n (k := 0) (i := 0) (by decide +kernel) rfl, s_callV0 (by decide +kernel) lv_RX10_161 ⟨by decide, by decide⟩, s_bad, s_bad, s_aload_n (k := 0) (i := 0) (by decide +kernel) rfl, s_callV0 (by decide +kernel) lv_RX10_164 ⟨by decide, by decide⟩, s_bad, s_bad, s_aload_n (k := 0) (i := 0) (by decide +kernel) rfl, s_callV0 (by decide +kernel) lv_RX10_167 ⟨by decide, by decide⟩, s_bad, s_bad, s_vret (by decide +kernel) rfl, trivial⟩
theorem kX10_lays_0 : List.getD tX10_lays 0 x_bad = x_aload 0 1 := rfl
theorem kX10_lays_1 : List.getD tX10_lays 1 x_bad = x_callV0 10 mX10_findsRegions := rfl
theorem kX10_lays_4 : List.getD tX10_lays 4 x_bad = x_aload 0 1 := rfl
theorem kX10_lays_5 : List.getD tX10_lays 5 x_bad = x_callV0 10 mX10_findsSeparations := rfl
theorem kX10_lays_8 : List.getD tX10_lays 8 x_bad = x_aload 0 1 := rfl
theorem kX10_lays_9 : List.getD tX10_lays 9 x_bad = x_callV0 10 mX10_findsPlaces := rfl
theorem kX10_lays_12 : List.getD tX10_lays 12 x_bad = x_aload 0 1 := rfl
theorem kX10_lays_13 : List.getD tX10_lays 13 x_bad = x_callV0 10 mX10_findsFlows := rfl
theorem kX10_lays_16 : List.getD tX10_lays 16 x_bad = x_aload 0 1 := rfl
theorem kX10_lays_17 : List.getD tX10_lays 17 x_bad = x_callV0 10 mX10_explores := rfl
theorem kX10_lays_20 : List.getD tX10_lays 20 x_bad = x_vret := rfl
def tX10_asks : List PT := [x_aload 0 1, x_callV0 10 mX10_findsRegions, x_bad, x_bad, x_aload 0 1, x_callV0 10 mX10_findsSeparations, x_bad, x_bad, x_aload 0 1, x_callV0 10 mX10_unsolvedMany, x_bad, x_bad, x_istore 1 1, x_aload 0 1, x_push (.int (nI 9)) 2, x_bad, x_push (.int (nI 0)) 1, x_callV2 10 mX10_copies, x_bad, x_bad, x_aload 0 1, x_callV0 10 mX10_lays, x_bad, x_bad, x_iload 1 1, x_iret]
set_option maxRecDepth 20000 in
theorem okX10_asks : SndT RX10 cX10_asks mX10_asks.2.2.1 mX10_asks.2.2.2.2.1 mX10_asks.2.2.2.2.2 false mX10_asks.2.2.2.1 0 tX10_asks := ⟨s_aload_n (k := 0) (i := 0) (by decide +kernel) rfl, s_callV0 (by decide +kernel) lv_RX10_155 ⟨by decide, by decide⟩, s_bad, s_bad, s_aload_n (k := 0) (i := 0) (by decide +kernel) rfl, s_callV0 (by decide +kernel) lv_RX10_158 ⟨by decide, by decide⟩, s_bad, s_bad, s_aload_n (k := 0) (i := 0) (by decide +kernel) rfl, s_callV0 (by decide +kernel) lv_RX10_247 ⟨by decide, by decide⟩, s_bad, s_bad, s_istore_n (k := 1) (i := 1) (by decide +kernel) rfl (by decide), s_aload_n (k := 0) (i := 0) (by decide +kernel) rfl, s_bipush (n := 9) (by decide +kernel) (by decide +kernel), s_bad, s_iconst (n := 0) (by decide +kernel) (by decide +kernel), s_callV2 (by decide +kernel) lv_RX10_67 ⟨by decide, by decide⟩, s_bad, s_bad, s_aload_n (k := 0) (i := 0) (by decide +kernel) rfl, s_callV0 (by decide +kernel) lv_RX10_71 ⟨by decide, by decide⟩, s_bad, s_bad, s_iload_n (k := 1) (i := 1) (by decide +kernel) rfl, s_iret (by decide +kernel) rfl, trivial⟩
theorem kX10_asks_0 : List.getD tX10_asks 0 x_bad = x_aload 0 1 := rfl
theorem kX10_asks_1 : List.getD tX10_asks 1 x_bad = x_callV0 10 mX10_findsRegions := rfl
theorem kX10_asks_4 : List.getD tX10_asks 4 x_bad = x_aload 0 1 := rfl
theorem kX10_asks_5 : List.getD tX10_asks 5 x_bad = x_callV0 10 mX10_findsSeparations := rfl
theorem kX10_asks_8 : List.getD tX10_asks 8 x_bad = x_aload 0 1 := rfl
theorem kX10_asks_9 : List.getD tX10_asks 9 x_bad = x_callV0 10 mX10_unsolvedMany := rfl
theorem kX10_asks_12 : List.getD tX10_asks 12 x_bad = x_istore 1 1 := rfl
theorem kX10_asks_13 : List.getD tX10_asks 13 x_bad = x_aload 0 1 := rfl
theorem kX10_asks_14 : List.getD tX10_asks 14 x_bad = x_push (.int (nI 9)) 2 := rfl
theorem kX10_asks_16 : List.getD tX10_asks 16 x_bad = x_push (.int (nI 0)) 1 := rfl
theorem kX10_asks_17 : List.getD tX10_asks 17 x_bad = x_callV2 10 mX10_copies := rfl
theorem kX10_asks_20 : List.getD tX10_asks 20 x_bad = x_aload 0 1 := rfl
theorem kX10_asks_21 : List.getD tX10_asks 21 x_bad = x_callV0 10 mX10_lays := rfl
theorem kX10_asks_24 : List.getD tX10_asks 24 x_bad = x_iload 1 1 := rfl
theorem kX10_asks_25 : List.getD tX10_asks 25 x_bad = x_iret := rfl
def tX10_changes : List PT := [x_aload 0 1, x_callV0 10 mX10_lays, x_bad, x_bad, x_aload 0 1, x_callV0 10 mX10_begins, x_bad, x_bad, x_vret]
set_option maxRecDepth 20000 in
theorem okX10_changes : SndT RX10 cX10_changes mX10_changes.2.2.1 mX10_changes.2.2.2.2.1 mX10_changes.2.2.2.2.2 false mX10_changes.2.2.2.1 0 tX10_changes := ⟨s_aload_n (k := 0) (i := 0) (by decide +kernel) rfl, s_callV0 (by decide +kernel) lv_RX10_71 ⟨by decide, by decide⟩, s_bad, s_bad, s_aload_n (k := 0) (i := 0) (by decide +kernel) rfl, s_callV0 (by decide +kernel) lv_RX10_170 ⟨by decide, by decide⟩, s_bad, s_bad, s_vret (by decide +kernel) rfl, trivial⟩
theorem kX10_changes_0 : List.getD tX10_changes 0 x_bad = x_aload 0 1 := rfl
theorem kX10_changes_1 : List.getD tX10_changes 1 x_bad = x_callV0 10 mX10_lays := rfl
theorem kX10_changes_4 : List.getD tX10_changes 4 x_bad = x_aload 0 1 := rfl
theorem kX10_changes_5 : List.getD tX10_changes 5 x_bad = x_callV0 10 mX10_begins := rfl
theorem kX10_changes_8 : List.getD tX10_changes 8 x_bad = x_vret := rfl
def tX10_undo : List PT := [x_aload 0 1, x_getI 10 1, x_bad, x_bad, x_ifn (fun a => a = 0) 10, x_bad, x_bad, x_push (.int (-2)) 2, x_bad, x_iret, x_aload 0 1, x_aload 0 1, x_getI 10 1, x_bad, x_bad, x_push (.int (nI 0)) 1, x_callV2 10 mX10_copies, x_bad, x_bad, x_aload 0 1, x_dup, x_getI 10 1, x_bad, x_bad, x_push (.int (nI 1)) 1, x_ii (fun a b => a - b), x_putI 10 1, x_bad, x_bad, x_aload 0 1, x_callV0 10 mX10_lays, x_bad, x_bad, x_aload 0 1, x_getI 10 1, x_bad, x_bad, x_iret]
set_option maxRecDepth 20000 in
theorem okX10_undo : SndT RX10 cX10_undo mX10_undo.2.2.1 mX10_undo.2.2.2.2.1 mX10_undo.2.2.2.2.2 false mX10_undo.2.2.2.1 0 tX10_undo := ⟨s_aload_n (k := 0) (i := 0) (by decide +kernel) rfl, s_getI (by decide +kernel) fl_RX10_63 rfl, s_bad, s_bad, s_if_ne (off := 6) (by decide +kernel) (by decide), s_bad, s_bad, s_bipush (n := (-2)) (by decide +kernel) (by decide +kernel), s_bad, s_iret (by decide +kernel) rfl, s_aload_n (k := 0) (i := 0) (by decide +kernel) rfl, s_aload_n (k := 0) (i := 0) (by decide +kernel) rfl, s_getI (by decide +kernel) fl_RX10_63 rfl, s_bad, s_bad, s_iconst (n := 0) (by decide +kernel) (by decide +kernel), s_callV2 (by decide +kernel) lv_RX10_67 ⟨by decide, by decide⟩, s_bad, s_bad, s_aload_n (k := 0) (i := 0) (by decide +kernel) rfl, s_dup (by decide +kernel), s_getI (by decide +kernel) fl_RX10_63 rfl, s_bad, s_bad, s_iconst (n := 1) (by decide +kernel) (by decide +kernel), s_isub (by decide +kernel), s_putI (by decide +kernel) fl_RX10_63 fp_10_1 rfl, s_bad, s_bad, s_aload_n (k := 0) (i := 0) (by decide +kernel) rfl, s_callV0 (by decide +kernel) lv_RX10_71 ⟨by decide, by decide⟩, s_bad, s_bad, s_aload_n (k := 0) (i := 0) (by decide +kernel) rfl, s_getI (by decide +kernel) fl_RX10_63 rfl, s_bad, s_bad, s_iret (by decide +kernel) rfl, trivial⟩
theorem kX10_undo_0 : List.getD tX10_undo 0 x_bad = x_aload 0 1 := rfl
theorem kX10_undo_1 : List.getD tX10_undo 1 x_bad = x_getI 10 1 := rfl
theorem kX10_undo_4 : List.getD tX10_undo 4 x_bad = x_ifn (fun a => a = 0) 10 := rfl
theorem kX10_undo_7 : List.getD tX10_undo 7 x_bad = x_push (.int (-2)) 2 := rfl
theorem kX10_undo_9 : List.getD tX10_undo 9 x_bad = x_iret := rfl
theorem kX10_undo_10 : List.getD tX10_undo 10 x_bad = x_aload 0 1 := rfl
theorem kX10_undo_11 : List.getD tX10_undo 11 x_bad = x_aload 0 1 := rfl
theorem kX10_undo_12 : List.getD tX10_undo 12 x_bad = x_getI 10 1 := rfl
theorem kX10_undo_15 : List.getD tX10_undo 15 x_bad = x_push (.int (nI 0)) 1 := rfl
theorem kX10_undo_16 : List.getD tX10_undo 16 x_bad = x_callV2 10 mX10_copies := rfl
theorem kX10_undo_19 : List.getD tX10_undo 19 x_bad = x_aload 0 1 := rfl
theorem kX10_undo_20 : List.getD tX10_undo 20 x_bad = x_dup := rfl
theorem kX10_undo_21 : List.getD tX10_undo 21 x_bad = x_getI 10 1 := rfl
theorem kX10_undo_24 : List.getD tX10_undo 24 x_bad = x_push (.int (nI 1)) 1 := rfl
theorem kX10_undo_25 : List.getD tX10_undo 25 x_bad = x_ii (fun a b => a - b) := rfl
theorem kX10_undo_26 : List.getD tX10_undo 26 x_bad = x_putI 10 1 := rfl
theorem kX10_undo_29 : List.getD tX10_undo 29 x_bad = x_aload 0 1 := rfl
theorem kX10_undo_30 : List.getD tX10_undo 30 x_bad = x_callV0 10 mX10_lays := rfl
theorem kX10_undo_33 : List.getD tX10_undo 33 x_bad = x_aload 0 1 := rfl
theorem kX10_undo_34 : List.getD tX10_undo 34 x_bad = x_getI 10 1 := rfl
theorem kX10_undo_37 : List.getD tX10_undo 37 x_bad = x_iret := rfl
def tX10_addArc : List PT := [x_aload 0 1, x_iload 1 1, x_iload 2 1, x_iload 3 1, x_callV3 10 mX10_wrongArc, x_bad, x_bad, x_istore 4 2, x_bad, x_iload 4 2, x_bad, x_if (fun a => a = 0) 17, x_bad, x_bad, x_iload 4 2, x_bad, x_iret, x_aload 0 1, x_callV0 10 mX10_records, x_bad, x_bad, x_aload 0 1, x_iload 1 1, x_iload 2 1, x_iload 3 1, x_callV3 10 mX10_puts, x_bad, x_bad, x_aload 0 1, x_callV0 10 mX10_changes, x_bad, x_bad, x_aload 0 1, x_getR 10 0, x_bad, x_bad, x_push (.int (nI 1)) 1, x_iald, x_push (.int (nI 1)) 1, x_ii (fun a b => a - b), x_iret]
set_option maxRecDepth 20000 in
theorem okX10_addArc : SndT RX10 cX10_addArc mX10_addArc.2.2.1 mX10_addArc.2.2.2.2.1 mX10_addArc.2.2.2.2.2 false mX10_addArc.2.2.2.1 0 tX10_addArc := ⟨s_aload_n (k := 0) (i := 0) (by decide +kernel) rfl, s_iload_n (k := 1) (i := 1) (by decide +kernel) rfl, s_iload_n (k := 2) (i := 2) (by decide +kernel) rfl, s_iload_n (k := 3) (i := 3) (by decide +kernel) rfl, s_callV3 (by decide +kernel) lv_RX10_207 ⟨by decide, by decide⟩, s_bad, s_bad, s_istore (by decide +kernel) (by decide), s_bad, s_iload (by decide +kernel), s_bad, s_if_eq (off := 6) (by decide +kernel) (by decide), s_bad, s_bad, s_iload (by decide +kernel), s_bad, s_iret (by decide +kernel) rfl, s_aload_n (k := 0) (i := 0) (by decide +kernel) rfl, s_callV0 (by decide +kernel) lv_RX10_198 ⟨by decide, by decide⟩, s_bad, s_bad, s_aload_n (k := 0) (i := 0) (by decide +kernel) rfl, s_iload_n (k := 1) (i := 1) (by decide +kernel) rfl, s_iload_n (k := 2) (i := 2) (by decide +kernel) rfl, s_iload_n (k := 3) (i := 3) (by decide +kernel) rfl, s_callV3 (by decide +kernel) lv_RX10_188 ⟨by decide, by decide⟩, s_bad, s_bad, s_aload_n (k := 0) (i := 0) (by decide +kernel) rfl, s_callV0 (by decide +kernel) lv_RX10_60 ⟨by decide, by decide⟩, s_bad, s_bad, s_aload_n (k := 0) (i := 0) (by decide +kernel) rfl, s_getR (by decide +kernel) fl_RX10_7 rfl, s_bad, s_bad, s_iconst (n := 1) (by decide +kernel) (by decide +kernel), s_iald (by decide +kernel), s_iconst (n := 1) (by decide +kernel) (by decide +kernel), s_isub (by decide +kernel), s_iret (by decide +kernel) rfl, trivial⟩
theorem kX10_addArc_0 : List.getD tX10_addArc 0 x_bad = x_aload 0 1 := rfl
theorem kX10_addArc_1 : List.getD tX10_addArc 1 x_bad = x_iload 1 1 := rfl
theorem kX10_addArc_2 : List.getD tX10_addArc 2 x_bad = x_iload 2 1 := rfl
theorem kX10_addArc_3 : List.getD tX10_addArc 3 x_bad = x_iload 3 1 := rfl
theorem kX10_addArc_4 : List.getD tX10_addArc 4 x_bad = x_callV3 10 mX10_wrongArc := rfl
theorem kX10_addArc_7 : List.getD tX10_addArc 7 x_bad = x_istore 4 2 := rfl
theorem kX10_addArc_9 : List.getD tX10_addArc 9 x_bad = x_iload 4 2 := rfl
theorem kX10_addArc_11 : List.getD tX10_addArc 11 x_bad = x_if (fun a => a = 0) 17 := rfl
theorem kX10_addArc_14 : List.getD tX10_addArc 14 x_bad = x_iload 4 2 := rfl
theorem kX10_addArc_16 : List.getD tX10_addArc 16 x_bad = x_iret := rfl
theorem kX10_addArc_17 : List.getD tX10_addArc 17 x_bad = x_aload 0 1 := rfl
theorem kX10_addArc_18 : List.getD tX10_addArc 18 x_bad = x_callV0 10 mX10_records := rfl
theorem kX10_addArc_21 : List.getD tX10_addArc 21 x_bad = x_aload 0 1 := rfl
theorem kX10_addArc_22 : List.getD tX10_addArc 22 x_bad = x_iload 1 1 := rfl
theorem kX10_addArc_23 : List.getD tX10_addArc 23 x_bad = x_iload 2 1 := rfl
theorem kX10_addArc_24 : List.getD tX10_addArc 24 x_bad = x_iload 3 1 := rfl
theorem kX10_addArc_25 : List.getD tX10_addArc 25 x_bad = x_callV3 10 mX10_puts := rfl
theorem kX10_addArc_28 : List.getD tX10_addArc 28 x_bad = x_aload 0 1 := rfl
theorem kX10_addArc_29 : List.getD tX10_addArc 29 x_bad = x_callV0 10 mX10_changes := rfl
theorem kX10_addArc_32 : List.getD tX10_addArc 32 x_bad = x_aload 0 1 := rfl
theorem kX10_addArc_33 : List.getD tX10_addArc 33 x_bad = x_getR 10 0 := rfl
theorem kX10_addArc_36 : List.getD tX10_addArc 36 x_bad = x_push (.int (nI 1)) 1 := rfl
theorem kX10_addArc_37 : List.getD tX10_addArc 37 x_bad = x_iald := rfl
theorem kX10_addArc_38 : List.getD tX10_addArc 38 x_bad = x_push (.int (nI 1)) 1 := rfl
theorem kX10_addArc_39 : List.getD tX10_addArc 39 x_bad = x_ii (fun a b => a - b) := rfl
theorem kX10_addArc_40 : List.getD tX10_addArc 40 x_bad = x_iret := rfl
def tX10_dropArc : List PT := [x_aload 0 1, x_iload 1 1, x_callV1 10 mX10_isArc, x_bad, x_bad, x_ifn (fun a => a = 0) 10, x_bad, x_bad, x_push (.int (-1)) 1, x_iret, x_aload 0 1, x_callV0 10 mX10_records, x_bad, x_bad, x_push (.int (nI 2)) 1, x_push (.int (nI 3)) 1, x_iload 1 1, x_ii (fun a b => a * b), x_ii (fun a b => a + b), x_istore 2 1, x_iload 2 1, x_push (.int (nI 3)) 1, x_ii (fun a b => a + b), x_push (.int (nI 2)) 1, x_push (.int (nI 3)) 1, x_aload 0 1, x_getR 10 0, x_bad, x_bad, x_push (.int (nI 1)) 1, x_iald, x_ii (fun a b => a * b), x_ii (fun a b => a + b), x_icmp (fun a b => b ≤ a) 56, x_bad, x_bad, x_aload 0 1, x_getR 10 0, x_bad, x_bad, x_iload 2 1, x_aload 0 1, x_getR 10 0, x_bad, x_bad, x_iload 2 1, x_push (.int (nI 3)) 1, x_ii (fun a b => a + b), x_iald, x_iast, x_iinc 2 (nI 1), x_bad, x_bad, x_goto 20, x_bad, x_bad, x_aload 0 1, x_getR 10 0, x_bad, x_bad, x_push (.int (nI 1)) 1, x_dup2, x_iald, x_push (.int (nI 1)) 1, x_ii (fun a b => a - b), x_iast, x_aload 0 1, x_callV0 10 mX10_changes, x_bad, x_bad, x_aload 0 1, x_getR 10 0, x_bad, x_bad, x_push (.int (nI 1)) 1, x_iald, x_iret]
set_option maxRecDepth 20000 in
theorem okX10_dropArc : SndT RX10 cX10_dropArc mX10_dropArc.2.2.1 mX10_dropArc.2.2.2.2.1 mX10_dropArc.2.2.2.2.2 false mX10_dropArc.2.2.2.1 0 tX10_dropArc := ⟨s_aload_n (k := 0) (i := 0) (by decide +kernel) rfl, s_iload_n (k := 1) (i := 1) (by decide +kernel) rfl, s_callV1 (by decide +kernel) lv_RX10_211 ⟨by decide, by decide⟩, s_bad, s_bad, s_if_ne (off := 5) (by decide +kernel) (by decide), s_bad, s_bad, s_iconst (n := (-1)) (by decide +kernel) (by decide +kernel), s_iret (by decide +kernel) rfl, s_aload_n (k := 0) (i := 0) (by decide +kernel) rfl, s_callV0 (by decide +kernel) lv_RX10_198 ⟨by decide, by decide⟩, s_bad, s_bad, s_iconst (n := 2) (by decide +kernel) (by decide +kernel), s_iconst (n := 3) (by decide +kernel) (by decide +kernel), s_iload_n (k := 1) (i := 1) (by decide +kernel) rfl, s_imul (by decide +kernel), s_iadd (by decide +kernel), s_istore_n (k := 2) (i := 2) (by decide +kernel) rfl (by decide), s_iload_n (k := 2) (i := 2) (by decide +kernel) rfl, s_iconst (n := 3) (by decide +kernel) (by decide +kernel), s_iadd (by decide +kernel), s_iconst (n := 2) (by decide +kernel) (by decide +kernel), s_iconst (n := 3) (by decide +kernel) (by decide +kernel), s_aload_n (k := 0) (i := 0) (by decide +kernel) rfl, s_getR (by decide +kernel) fl_RX10_7 rfl, s_bad, s_bad, s_iconst (n := 1) (by decide +kernel) (by decide +kernel), s_iald (by decide +kernel), s_imul (by decide +kernel), s_iadd (by decide +kernel), s_icmp_ge (off := 23) (by decide +kernel) (by decide), s_bad, s_bad, s_aload_n (k := 0) (i := 0) (by decide +kernel) rfl, s_getR (by decide +kernel) fl_RX10_7 rfl, s_bad, s_bad, s_iload_n (k := 2) (i := 2) (by decide +kernel) rfl, s_aload_n (k := 0) (i := 0) (by decide +kernel) rfl, s_getR (by decide +kernel) fl_RX10_7 rfl, s_bad, s_bad, s_iload_n (k := 2) (i := 2) (by decide +kernel) rfl, s_iconst (n := 3) (by decide +kernel) (by decide +kernel), s_iadd (by decide +kernel), s_iald (by decide +kernel), s_iast (by decide +kernel), s_iinc (n := 1) (by decide +kernel) (by decide +kernel) (by decide), s_bad, s_bad, s_goto (off := (-33)) (by decide +kernel) (by decide), s_bad, s_bad, s_aload_n (k := 0) (i := 0) (by decide +kernel) rfl, s_getR (by decide +kernel) fl_RX10_7 rfl, s_bad, s_bad, s_iconst (n := 1) (by decide +kernel) (by decide +kernel), s_dup2 (by decide +kernel), s_iald (by decide +kernel), s_iconst (n := 1) (by decide +kernel) (by decide +kernel), s_isub (by decide +kernel), s_iast (by decide +kernel), s_aload_n (k := 0) (i := 0) (by decide +kernel) rfl, s_callV0 (by decide +kernel) lv_RX10_60 ⟨by decide, by decide⟩, s_bad, s_bad, s_aload_n (k := 0) (i := 0) (by decide +kernel) rfl, s_getR (by decide +kernel) fl_RX10_7 rfl, s_bad, s_bad, s_iconst (n := 1) (by decide +kernel) (by decide +kernel), s_iald (by decide +kernel), s_iret (by decide +kernel) rfl, trivial⟩
theorem kX10_dropArc_0 : List.getD tX10_dropArc 0 x_bad = x_aload 0 1 := rfl
theorem kX10_dropArc_1 : List.getD tX10_dropArc 1 x_bad = x_iload 1 1 := rfl
theorem kX10_dropArc_2 : List.getD tX10_dropArc 2 x_bad = x_callV1 10 mX10_isArc := rfl
theorem kX10_dropArc_5 : List.getD tX10_dropArc 5 x_bad = x_ifn (fun a => a = 0) 10 := rfl
theorem kX10_dropArc_8 : List.getD tX10_dropArc 8 x_bad = x_push (.int (-1)) 1 := rfl
theorem kX10_dropArc_9 : List.getD tX10_dropArc 9 x_bad = x_iret := rfl
theorem kX10_dropArc_10 : List.getD tX10_dropArc 10 x_bad = x_aload 0 1 := rfl
theorem kX10_dropArc_11 : List.getD tX10_dropArc 11 x_bad = x_callV0 10 mX10_records := rfl
theorem kX10_dropArc_14 : List.getD tX10_dropArc 14 x_bad = x_push (.int (nI 2)) 1 := rfl
theorem kX10_dropArc_15 : List.getD tX10_dropArc 15 x_bad = x_push (.int (nI 3)) 1 := rfl
theorem kX10_dropArc_16 : List.getD tX10_dropArc 16 x_bad = x_iload 1 1 := rfl
theorem kX10_dropArc_17 : List.getD tX10_dropArc 17 x_bad = x_ii (fun a b => a * b) := rfl
theorem kX10_dropArc_18 : List.getD tX10_dropArc 18 x_bad = x_ii (fun a b => a + b) := rfl
theorem kX10_dropArc_19 : List.getD tX10_dropArc 19 x_bad = x_istore 2 1 := rfl
theorem kX10_dropArc_20 : List.getD tX10_dropArc 20 x_bad = x_iload 2 1 := rfl
theorem kX10_dropArc_21 : List.getD tX10_dropArc 21 x_bad = x_push (.int (nI 3)) 1 := rfl
theorem kX10_dropArc_22 : List.getD tX10_dropArc 22 x_bad = x_ii (fun a b => a + b) := rfl
theorem kX10_dropArc_23 : List.getD tX10_dropArc 23 x_bad = x_push (.int (nI 2)) 1 := rfl
theorem kX10_dropArc_24 : List.getD tX10_dropArc 24 x_bad = x_push (.int (nI 3)) 1 := rfl
theorem kX10_dropArc_25 : List.getD tX10_dropArc 25 x_bad = x_aload 0 1 := rfl
theorem kX10_dropArc_26 : List.getD tX10_dropArc 26 x_bad = x_getR 10 0 := rfl
theorem kX10_dropArc_29 : List.getD tX10_dropArc 29 x_bad = x_push (.int (nI 1)) 1 := rfl
theorem kX10_dropArc_30 : List.getD tX10_dropArc 30 x_bad = x_iald := rfl
theorem kX10_dropArc_31 : List.getD tX10_dropArc 31 x_bad = x_ii (fun a b => a * b) := rfl
theorem kX10_dropArc_32 : List.getD tX10_dropArc 32 x_bad = x_ii (fun a b => a + b) := rfl
theorem kX10_dropArc_33 : List.getD tX10_dropArc 33 x_bad = x_icmp (fun a b => b ≤ a) 56 := rfl
theorem kX10_dropArc_36 : List.getD tX10_dropArc 36 x_bad = x_aload 0 1 := rfl
theorem kX10_dropArc_37 : List.getD tX10_dropArc 37 x_bad = x_getR 10 0 := rfl
theorem kX10_dropArc_40 : List.getD tX10_dropArc 40 x_bad = x_iload 2 1 := rfl
theorem kX10_dropArc_41 : List.getD tX10_dropArc 41 x_bad = x_aload 0 1 := rfl
theorem kX10_dropArc_42 : List.getD tX10_dropArc 42 x_bad = x_getR 10 0 := rfl
theorem kX10_dropArc_45 : List.getD tX10_dropArc 45 x_bad = x_iload 2 1 := rfl
theorem kX10_dropArc_46 : List.getD tX10_dropArc 46 x_bad = x_push (.int (nI 3)) 1 := rfl
theorem kX10_dropArc_47 : List.getD tX10_dropArc 47 x_bad = x_ii (fun a b => a + b) := rfl
theorem kX10_dropArc_48 : List.getD tX10_dropArc 48 x_bad = x_iald := rfl
theorem kX10_dropArc_49 : List.getD tX10_dropArc 49 x_bad = x_iast := rfl
theorem kX10_dropArc_50 : List.getD tX10_dropArc 50 x_bad = x_iinc 2 (nI 1) := rfl
theorem kX10_dropArc_53 : List.getD tX10_dropArc 53 x_bad = x_goto 20 := rfl
theorem kX10_dropArc_56 : List.getD tX10_dropArc 56 x_bad = x_aload 0 1 := rfl
theorem kX10_dropArc_57 : List.getD tX10_dropArc 57 x_bad = x_getR 10 0 := rfl
theorem kX10_dropArc_60 : List.getD tX10_dropArc 60 x_bad = x_push (.int (nI 1)) 1 := rfl
theorem kX10_dropArc_61 : List.getD tX10_dropArc 61 x_bad = x_dup2 := rfl
theorem kX10_dropArc_62 : List.getD tX10_dropArc 62 x_bad = x_iald := rfl
theorem kX10_dropArc_63 : List.getD tX10_dropArc 63 x_bad = x_push (.int (nI 1)) 1 := rfl
theorem kX10_dropArc_64 : List.getD tX10_dropArc 64 x_bad = x_ii (fun a b => a - b) := rfl
theorem kX10_dropArc_65 : List.getD tX10_dropArc 65 x_bad = x_iast := rfl
theorem kX10_dropArc_66 : List.getD tX10_dropArc 66 x_bad = x_aload 0 1 := rfl
theorem kX10_dropArc_67 : List.getD tX10_dropArc 67 x_bad = x_callV0 10 mX10_changes := rfl
theorem kX10_dropArc_70 : List.getD tX10_dropArc 70 x_bad = x_aload 0 1 := rfl
theorem kX10_dropArc_71 : List.getD tX10_dropArc 71 x_bad = x_getR 10 0 := rfl
theorem kX10_dropArc_74 : List.getD tX10_dropArc 74 x_bad = x_push (.int (nI 1)) 1 := rfl
theorem kX10_dropArc_75 : List.getD tX10_dropArc 75 x_bad = x_iald := rfl
theorem kX10_dropArc_76 : List.getD tX10_dropArc 76 x_bad = x_iret := rfl
def tX10_ifArc : List PT := [x_aload 0 1, x_iload 1 1, x_iload 2 1, x_iload 3 1, x_callV3 10 mX10_wrongArc, x_bad, x_bad, x_istore 4 2, x_bad, x_iload 4 2, x_bad, x_if (fun a => a = 0) 17, x_bad, x_bad, x_iload 4 2, x_bad, x_iret, x_aload 0 1, x_push (.int (nI 0)) 1, x_push (.int (nI 9)) 2, x_bad, x_callV2 10 mX10_copies, x_bad, x_bad, x_aload 0 1, x_iload 1 1, x_iload 2 1, x_iload 3 1, x_callV3 10 mX10_puts, x_bad, x_bad, x_aload 0 1, x_callV0 10 mX10_asks, x_bad, x_bad, x_iret]
set_option maxRecDepth 20000 in
theorem okX10_ifArc : SndT RX10 cX10_ifArc mX10_ifArc.2.2.1 mX10_ifArc.2.2.2.2.1 mX10_ifArc.2.2.2.2.2 false mX10_ifArc.2.2.2.1 0 tX10_ifArc := ⟨s_aload_n (k := 0) (i := 0) (by decide +kernel) rfl, s_iload_n (k := 1) (i := 1) (by decide +kernel) rfl, s_iload_n (k := 2) (i := 2) (by decide +kernel) rfl, s_iload_n (k := 3) (i := 3) (by decide +kernel) rfl, s_callV3 (by decide +kernel) lv_RX10_207 ⟨by decide, by decide⟩, s_bad, s_bad, s_istore (by decide +kernel) (by decide), s_bad, s_iload (by decide +kernel), s_bad, s_if_eq (off := 6) (by decide +kernel) (by decide), s_bad, s_bad, s_iload (by decide +kernel), s_bad, s_iret (by decide +kernel) rfl, s_aload_n (k := 0) (i := 0) (by decide +kernel) rfl, s_iconst (n := 0) (by decide +kernel) (by decide +kernel), s_bipush (n := 9) (by decide +kernel) (by decide +kernel), s_bad, s_callV2 (by decide +kernel) lv_RX10_67 ⟨by decide, by decide⟩, s_bad, s_bad, s_aload_n (k := 0) (i := 0) (by decide +kernel) rfl, s_iload_n (k := 1) (i := 1) (by decide +kernel) rfl, s_iload_n (k := 2) (i := 2) (by decide +kernel) rfl, s_iload_n (k := 3) (i := 3) (by decide +kernel) rfl, s_callV3 (by decide +kernel) lv_RX10_188 ⟨by decide, by decide⟩, s_bad, s_bad, s_aload_n (k := 0) (i := 0) (by decide +kernel) rfl, s_callV0 (by decide +kernel) lv_RX10_250 ⟨by decide, by decide⟩, s_bad, s_bad, s_iret (by decide +kernel) rfl, trivial⟩
theorem kX10_ifArc_0 : List.getD tX10_ifArc 0 x_bad = x_aload 0 1 := rfl
theorem kX10_ifArc_1 : List.getD tX10_ifArc 1 x_bad = x_iload 1 1 := rfl
theorem kX10_ifArc_2 : List.getD tX10_ifArc 2 x_bad = x_iload 2 1 := rfl
theorem kX10_ifArc_3 : List.getD tX10_ifArc 3 x_bad = x_iload 3 1 := rfl
theorem kX10_ifArc_4 : List.getD tX10_ifArc 4 x_bad = x_callV3 10 mX10_wrongArc := rfl
theorem kX10_ifArc_7 : List.getD tX10_ifArc 7 x_bad = x_istore 4 2 := rfl
theorem kX10_ifArc_9 : List.getD tX10_ifArc 9 x_bad = x_iload 4 2 := rfl
theorem kX10_ifArc_11 : List.getD tX10_ifArc 11 x_bad = x_if (fun a => a = 0) 17 := rfl
theorem kX10_ifArc_14 : List.getD tX10_ifArc 14 x_bad = x_iload 4 2 := rfl
theorem kX10_ifArc_16 : List.getD tX10_ifArc 16 x_bad = x_iret := rfl
theorem kX10_ifArc_17 : List.getD tX10_ifArc 17 x_bad = x_aload 0 1 := rfl
theorem kX10_ifArc_18 : List.getD tX10_ifArc 18 x_bad = x_push (.int (nI 0)) 1 := rfl
theorem kX10_ifArc_19 : List.getD tX10_ifArc 19 x_bad = x_push (.int (nI 9)) 2 := rfl
theorem kX10_ifArc_21 : List.getD tX10_ifArc 21 x_bad = x_callV2 10 mX10_copies := rfl
theorem kX10_ifArc_24 : List.getD tX10_ifArc 24 x_bad = x_aload 0 1 := rfl
theorem kX10_ifArc_25 : List.getD tX10_ifArc 25 x_bad = x_iload 1 1 := rfl
theorem kX10_ifArc_26 : List.getD tX10_ifArc 26 x_bad = x_iload 2 1 := rfl
theorem kX10_ifArc_27 : List.getD tX10_ifArc 27 x_bad = x_iload 3 1 := rfl
theorem kX10_ifArc_28 : List.getD tX10_ifArc 28 x_bad = x_callV3 10 mX10_puts := rfl
theorem kX10_ifArc_31 : List.getD tX10_ifArc 31 x_bad = x_aload 0 1 := rfl
theorem kX10_ifArc_32 : List.getD tX10_ifArc 32 x_bad = x_callV0 10 mX10_asks := rfl
theorem kX10_ifArc_35 : List.getD tX10_ifArc 35 x_bad = x_iret := rfl
def tX10_ifSplit : List PT := [x_aload 0 1, x_iload 1 1, x_callV1 10 mX10_wrongSplit, x_bad, x_bad, x_istore 2 1, x_iload 2 1, x_if (fun a => a = 0) 12, x_bad, x_bad, x_iload 2 1, x_iret, x_aload 0 1, x_push (.int (nI 0)) 1, x_push (.int (nI 9)) 2, x_bad, x_callV2 10 mX10_copies, x_bad, x_bad, x_aload 0 1, x_iload 1 1, x_callV1 10 mX10_splits, x_bad, x_bad, x_pop, x_aload 0 1, x_callV0 10 mX10_asks, x_bad, x_bad, x_iret]
set_option maxRecDepth 20000 in
theorem okX10_ifSplit : SndT RX10 cX10_ifSplit mX10_ifSplit.2.2.1 mX10_ifSplit.2.2.2.2.1 mX10_ifSplit.2.2.2.2.2 false mX10_ifSplit.2.2.2.1 0 tX10_ifSplit := ⟨s_aload_n (k := 0) (i := 0) (by decide +kernel) rfl, s_iload_n (k := 1) (i := 1) (by decide +kernel) rfl, s_callV1 (by decide +kernel) lv_RX10_217 ⟨by decide, by decide⟩, s_bad, s_bad, s_istore_n (k := 2) (i := 2) (by decide +kernel) rfl (by decide), s_iload_n (k := 2) (i := 2) (by decide +kernel) rfl, s_if_eq (off := 5) (by decide +kernel) (by decide), s_bad, s_bad, s_iload_n (k := 2) (i := 2) (by decide +kernel) rfl, s_iret (by decide +kernel) rfl, s_aload_n (k := 0) (i := 0) (by decide +kernel) rfl, s_iconst (n := 0) (by decide +kernel) (by decide +kernel), s_bipush (n := 9) (by decide +kernel) (by decide +kernel), s_bad, s_callV2 (by decide +kernel) lv_RX10_67 ⟨by decide, by decide⟩, s_bad, s_bad, s_aload_n (k := 0) (i := 0) (by decide +kernel) rfl, s_iload_n (k := 1) (i := 1) (by decide +kernel) rfl, s_callV1 (by decide +kernel) lv_RX10_220 ⟨by decide, by decide⟩, s_bad, s_bad, s_pop (by decide +kernel), s_aload_n (k := 0) (i := 0) (by decide +kernel) rfl, s_callV0 (by decide +kernel) lv_RX10_250 ⟨by decide, by decide⟩, s_bad, s_bad, s_iret (by decide +kernel) rfl, trivial⟩
theorem kX10_ifSplit_0 : List.getD tX10_ifSplit 0 x_bad = x_aload 0 1 := rfl
theorem kX10_ifSplit_1 : List.getD tX10_ifSplit 1 x_bad = x_iload 1 1 := rfl
theorem kX10_ifSplit_2 : List.getD tX10_ifSplit 2 x_bad = x_callV1 10 mX10_wrongSplit := rfl
theorem kX10_ifSplit_5 : List.getD tX10_ifSplit 5 x_bad = x_istore 2 1 := rfl
theorem kX10_ifSplit_6 : List.getD tX10_ifSplit 6 x_bad = x_iload 2 1 := rfl
theorem kX10_ifSplit_7 : List.getD tX10_ifSplit 7 x_bad = x_if (fun a => a = 0) 12 := rfl
theorem kX10_ifSplit_10 : List.getD tX10_ifSplit 10 x_bad = x_iload 2 1 := rfl
theorem kX10_ifSplit_11 : List.getD tX10_ifSplit 11 x_bad = x_iret := rfl
theorem kX10_ifSplit_12 : List.getD tX10_ifSplit 12 x_bad = x_aload 0 1 := rfl
theorem kX10_ifSplit_13 : List.getD tX10_ifSplit 13 x_bad = x_push (.int (nI 0)) 1 := rfl
theorem kX10_ifSplit_14 : List.getD tX10_ifSplit 14 x_bad = x_push (.int (nI 9)) 2 := rfl
theorem kX10_ifSplit_16 : List.getD tX10_ifSplit 16 x_bad = x_callV2 10 mX10_copies := rfl
theorem kX10_ifSplit_19 : List.getD tX10_ifSplit 19 x_bad = x_aload 0 1 := rfl
theorem kX10_ifSplit_20 : List.getD tX10_ifSplit 20 x_bad = x_iload 1 1 := rfl
theorem kX10_ifSplit_21 : List.getD tX10_ifSplit 21 x_bad = x_callV1 10 mX10_splits := rfl
theorem kX10_ifSplit_24 : List.getD tX10_ifSplit 24 x_bad = x_pop := rfl
theorem kX10_ifSplit_25 : List.getD tX10_ifSplit 25 x_bad = x_aload 0 1 := rfl
theorem kX10_ifSplit_26 : List.getD tX10_ifSplit 26 x_bad = x_callV0 10 mX10_asks := rfl
theorem kX10_ifSplit_29 : List.getD tX10_ifSplit 29 x_bad = x_iret := rfl
def tX10_init : List PT := [x_aload 0 1, x_objinit, x_bad, x_bad, x_aload 0 1, x_push (.int (nI 2030)) 3, x_bad, x_bad, x_newa 20, x_bad, x_putR 10 0, x_bad, x_bad, x_aload 0 1, x_push (.int (nI 1022)) 3, x_bad, x_bad, x_newa 20, x_bad, x_putR 10 2, x_bad, x_bad, x_aload 0 1, x_push (.int (nI 256)) 3, x_bad, x_bad, x_newa 20, x_bad, x_putR 10 4, x_bad, x_bad, x_aload 0 1, x_push (.int (nI 128)) 3, x_bad, x_bad, x_newa 20, x_bad, x_putR 10 6, x_bad, x_bad, x_aload 0 1, x_push (.int (nI 128)) 3, x_bad, x_bad, x_newa 20, x_bad, x_putR 10 7, x_bad, x_bad, x_aload 0 1, x_push (.int (nI 128)) 3, x_bad, x_bad, x_newa 20, x_bad, x_putR 10 8, x_bad, x_bad, x_aload 0 1, x_push (.int (nI 128)) 3, x_bad, x_bad, x_newa 22, x_bad, x_putR 10 10, x_bad, x_bad, x_aload 0 1, x_push (.int (nI 128)) 3, x_bad, x_bad, x_newa 20, x_bad, x_putR 10 11, x_bad, x_bad, x_aload 0 1, x_push (.int (nI 128)) 3, x_bad, x_bad, x_newa 20, x_bad, x_putR 10 13, x_bad, x_bad, x_aload 0 1, x_push (.int (nI 16)) 2, x_bad, x_newa 21, x_bad, x_putR 10 14, x_bad, x_bad, x_aload 0 1, x_push (.int (nI 16)) 2, x_bad, x_newa 21, x_bad, x_putR 10 15, x_bad, x_bad, x_aload 0 1, x_push (.int (nI 101)) 2, x_bad, x_newa 21, x_bad, x_putR 10 16, x_bad, x_bad, x_aload 0 1, x_push (.int (nI 101)) 2, x_bad, x_newa 21, x_bad, x_putR 10 17, x_bad, x_bad, x_aload 0 1, x_push (.int (nI 101)) 2, x_bad, x_newa 20, x_bad, x_putR 10 22, x_bad, x_bad, x_aload 0 1, x_push (.int (nI 10)) 2, x_bad, x_newa 20, x_bad, x_putR 10 23, x_bad, x_bad, x_aload 0 1, x_push (.int (nI 80)) 2, x_bad, x_newa 20, x_bad, x_putR 10 24, x_bad, x_bad, x_aload 0 1, x_getR 10 0, x_bad, x_bad, x_push (.int (nI 0)) 1, x_push (.int (nI 1)) 1, x_iast, x_aload 0 1, x_callV0 10 mX10_changes, x_bad, x_bad, x_vret]
set_option maxRecDepth 20000 in
theorem okX10_init : SndT RX10 cX10_init mX10_init.2.2.1 mX10_init.2.2.2.2.1 mX10_init.2.2.2.2.2 true mX10_init.2.2.2.1 0 tX10_init := ⟨s_aload_n (k := 0) (i := 0) (by decide +kernel) rfl, s_objinit (by decide +kernel) tb_857 tb_90 tb_91 (by decide) (by decide), s_bad, s_bad, s_aload_n (k := 0) (i := 0) (by decide +kernel) rfl, s_sipush (n := 2030) (by decide +kernel) (by decide +kernel), s_bad, s_bad, s_newa_i (by decide +kernel) tb_110, s_bad, s_putR rfl (by decide +kernel) fl_RX10_7 fp_10_0 rfl (fun _ => ⟨rfl, rfl⟩) ⟨_, rfl, rfl⟩ (fun r hr => by cases hr; exact tb_947), s_bad, s_bad, s_aload_n (k := 0) (i := 0) (by decide +kernel) rfl, s_sipush (n := 1022) (by decide +kernel) (by decide +kernel), s_bad, s_bad, s_newa_i (by decide +kernel) tb_110, s_bad, s_putR rfl (by decide +kernel) fl_RX10_13 fp_10_2 rfl (fun _ => ⟨rfl, rfl⟩) ⟨_, rfl, rfl⟩ (fun r hr => by cases hr; exact tb_949), s_bad, s_bad, s_aload_n (k := 0) (i := 0) (by decide +kernel) rfl, s_sipush (n := 256) (by decide +kernel) (by decide +kernel), s_bad, s_bad, s_newa_i (by decide +kernel) tb_110, s_bad, s_putR rfl (by decide +kernel) fl_RX10_16 fp_10_4 rfl (fun _ => ⟨rfl, rfl⟩) ⟨_, rfl, rfl⟩ (fun r hr => by cases hr; exact tb_951), s_bad, s_bad, s_aload_n (k := 0) (i := 0) (by decide +kernel) rfl, s_sipush (n := 128) (by decide +kernel) (by decide +kernel), s_bad, s_bad, s_newa_i (by decide +kernel) tb_110, s_bad, s_putR rfl (by decide +kernel) fl_RX10_19 fp_10_6 rfl (fun _ => ⟨rfl, rfl⟩) ⟨_, rfl, rfl⟩ (fun r hr => by cases hr; exact tb_953), s_bad, s_bad, s_aload_n (k := 0) (i := 0) (by decide +kernel) rfl, s_sipush (n := 128) (by decide +kernel) (by decide +kernel), s_bad, s_bad, s_newa_i (by decide +kernel) tb_110, s_bad, s_putR rfl (by decide +kernel) fl_RX10_22 fp_10_7 rfl (fun _ => ⟨rfl, rfl⟩) ⟨_, rfl, rfl⟩ (fun r hr => by cases hr; exact tb_954), s_bad, s_bad, s_aload_n (k := 0) (i := 0) (by decide +kernel) rfl, s_sipush (n := 128) (by decide +kernel) (by decide +kernel), s_bad, s_bad, s_newa_i (by decide +kernel) tb_110, s_bad, s_putR rfl (by decide +kernel) fl_RX10_25 fp_10_8 rfl (fun _ => ⟨rfl, rfl⟩) ⟨_, rfl, rfl⟩ (fun r hr => by cases hr; exact tb_955), s_bad, s_bad, s_aload_n (k := 0) (i := 0) (by decide +kernel) rfl, s_sipush (n := 128) (by decide +kernel) (by decide +kernel), s_bad, s_bad, s_newa_z (by decide +kernel) tb_1035, s_bad, s_putR rfl (by decide +kernel) fl_RX10_28 fp_10_10 rfl (fun _ => ⟨rfl, rfl⟩) ⟨_, rfl, rfl⟩ (fun r hr => by cases hr; exact tb_957), s_bad, s_bad, s_aload_n (k := 0) (i := 0) (by decide +kernel) rfl, s_sipush (n := 128) (by decide +kernel) (by decide +kernel), s_bad, s_bad, s_newa_i (by decide +kernel) tb_110, s_bad, s_putR rfl (by decide +kernel) fl_RX10_32 fp_10_11 rfl (fun _ => ⟨rfl, rfl⟩) ⟨_, rfl, rfl⟩ (fun r hr => by cases hr; exact tb_958), s_bad, s_bad, s_aload_n (k := 0) (i := 0) (by decide +kernel) rfl, s_sipush (n := 128) (by decide +kernel) (by decide +kernel), s_bad, s_bad, s_newa_i (by decide +kernel) tb_110, s_bad, s_putR rfl (by decide +kernel) fl_RX10_35 fp_10_13 rfl (fun _ => ⟨rfl, rfl⟩) ⟨_, rfl, rfl⟩ (fun r hr => by cases hr; exact tb_960), s_bad, s_bad, s_aload_n (k := 0) (i := 0) (by decide +kernel) rfl, s_bipush (n := 16) (by decide +kernel) (by decide +kernel), s_bad, s_newa_l (by decide +kernel) tb_1036, s_bad, s_putR rfl (by decide +kernel) fl_RX10_38 fp_10_14 rfl (fun _ => ⟨rfl, rfl⟩) ⟨_, rfl, rfl⟩ (fun r hr => by cases hr; exact tb_961), s_bad, s_bad, s_aload_n (k := 0) (i := 0) (by decide +kernel) rfl, s_bipush (n := 16) (by decide +kernel) (by decide +kernel), s_bad, s_newa_l (by decide +kernel) tb_1036, s_bad, s_putR rfl (by decide +kernel) fl_RX10_42 fp_10_15 rfl (fun _ => ⟨rfl, rfl⟩) ⟨_, rfl, rfl⟩ (fun r hr => by cases hr; exact tb_962), s_bad, s_bad, s_aload_n (k := 0) (i := 0) (by decide +kernel) rfl, s_bipush (n := 101) (by decide +kernel) (by decide +kernel), s_bad, s_newa_l (by decide +kernel) tb_1036, s_bad, s_putR rfl (by decide +kernel) fl_RX10_45 fp_10_16 rfl (fun _ => ⟨rfl, rfl⟩) ⟨_, rfl, rfl⟩ (fun r hr => by cases hr; exact tb_963), s_bad, s_bad, s_aload_n (k := 0) (i := 0) (by decide +kernel) rfl, s_bipush (n := 101) (by decide +kernel) (by decide +kernel), s_bad, s_newa_l (by decide +kernel) tb_1036, s_bad, s_putR rfl (by decide +kernel) fl_RX10_48 fp_10_17 rfl (fun _ => ⟨rfl, rfl⟩) ⟨_, rfl, rfl⟩ (fun r hr => by cases hr; exact tb_964), s_bad, s_bad, s_aload_n (k := 0) (i := 0) (by decide +kernel) rfl, s_bipush (n := 101) (by decide +kernel) (by decide +kernel), s_bad, s_newa_i (by decide +kernel) tb_110, s_bad, s_putR rfl (by decide +kernel) fl_RX10_51 fp_10_22 rfl (fun _ => ⟨rfl, rfl⟩) ⟨_, rfl, rfl⟩ (fun r hr => by cases hr; exact tb_969), s_bad, s_bad, s_aload_n (k := 0) (i := 0) (by decide +kernel) rfl, s_bipush (n := 10) (by decide +kernel) (by decide +kernel), s_bad, s_newa_i (by decide +kernel) tb_110, s_bad, s_putR rfl (by decide +kernel) fl_RX10_54 fp_10_23 rfl (fun _ => ⟨rfl, rfl⟩) ⟨_, rfl, rfl⟩ (fun r hr => by cases hr; exact tb_970), s_bad, s_bad, s_aload_n (k := 0) (i := 0) (by decide +kernel) rfl, s_bipush (n := 80) (by decide +kernel) (by decide +kernel), s_bad, s_newa_i (by decide +kernel) tb_110, s_bad, s_putR rfl (by decide +kernel) fl_RX10_57 fp_10_24 rfl (fun _ => ⟨rfl, rfl⟩) ⟨_, rfl, rfl⟩ (fun r hr => by cases hr; exact tb_971), s_bad, s_bad, s_aload_n (k := 0) (i := 0) (by decide +kernel) rfl, s_getR (by decide +kernel) fl_RX10_7 rfl, s_bad, s_bad, s_iconst (n := 0) (by decide +kernel) (by decide +kernel), s_iconst (n := 1) (by decide +kernel) (by decide +kernel), s_iast (by decide +kernel), s_aload_n (k := 0) (i := 0) (by decide +kernel) rfl, s_callV0 (by decide +kernel) lv_RX10_60 ⟨by decide, by decide⟩, s_bad, s_bad, s_vret (by decide +kernel) rfl, trivial⟩
theorem kX10_init_0 : List.getD tX10_init 0 x_bad = x_aload 0 1 := rfl
theorem kX10_init_1 : List.getD tX10_init 1 x_bad = x_objinit := rfl
theorem kX10_init_4 : List.getD tX10_init 4 x_bad = x_aload 0 1 := rfl
theorem kX10_init_5 : List.getD tX10_init 5 x_bad = x_push (.int (nI 2030)) 3 := rfl
theorem kX10_init_8 : List.getD tX10_init 8 x_bad = x_newa 20 := rfl
theorem kX10_init_10 : List.getD tX10_init 10 x_bad = x_putR 10 0 := rfl
theorem kX10_init_13 : List.getD tX10_init 13 x_bad = x_aload 0 1 := rfl
theorem kX10_init_14 : List.getD tX10_init 14 x_bad = x_push (.int (nI 1022)) 3 := rfl
theorem kX10_init_17 : List.getD tX10_init 17 x_bad = x_newa 20 := rfl
theorem kX10_init_19 : List.getD tX10_init 19 x_bad = x_putR 10 2 := rfl
theorem kX10_init_22 : List.getD tX10_init 22 x_bad = x_aload 0 1 := rfl
theorem kX10_init_23 : List.getD tX10_init 23 x_bad = x_push (.int (nI 256)) 3 := rfl
theorem kX10_init_26 : List.getD tX10_init 26 x_bad = x_newa 20 := rfl
theorem kX10_init_28 : List.getD tX10_init 28 x_bad = x_putR 10 4 := rfl
theorem kX10_init_31 : List.getD tX10_init 31 x_bad = x_aload 0 1 := rfl
theorem kX10_init_32 : List.getD tX10_init 32 x_bad = x_push (.int (nI 128)) 3 := rfl
theorem kX10_init_35 : List.getD tX10_init 35 x_bad = x_newa 20 := rfl
theorem kX10_init_37 : List.getD tX10_init 37 x_bad = x_putR 10 6 := rfl
theorem kX10_init_40 : List.getD tX10_init 40 x_bad = x_aload 0 1 := rfl
theorem kX10_init_41 : List.getD tX10_init 41 x_bad = x_push (.int (nI 128)) 3 := rfl
theorem kX10_init_44 : List.getD tX10_init 44 x_bad = x_newa 20 := rfl
theorem kX10_init_46 : List.getD tX10_init 46 x_bad = x_putR 10 7 := rfl
theorem kX10_init_49 : List.getD tX10_init 49 x_bad = x_aload 0 1 := rfl
theorem kX10_init_50 : List.getD tX10_init 50 x_bad = x_push (.int (nI 128)) 3 := rfl
theorem kX10_init_53 : List.getD tX10_init 53 x_bad = x_newa 20 := rfl
theorem kX10_init_55 : List.getD tX10_init 55 x_bad = x_putR 10 8 := rfl
theorem kX10_init_58 : List.getD tX10_init 58 x_bad = x_aload 0 1 := rfl
theorem kX10_init_59 : List.getD tX10_init 59 x_bad = x_push (.int (nI 128)) 3 := rfl
theorem kX10_init_62 : List.getD tX10_init 62 x_bad = x_newa 22 := rfl
theorem kX10_init_64 : List.getD tX10_init 64 x_bad = x_putR 10 10 := rfl
theorem kX10_init_67 : List.getD tX10_init 67 x_bad = x_aload 0 1 := rfl
theorem kX10_init_68 : List.getD tX10_init 68 x_bad = x_push (.int (nI 128)) 3 := rfl
theorem kX10_init_71 : List.getD tX10_init 71 x_bad = x_newa 20 := rfl
theorem kX10_init_73 : List.getD tX10_init 73 x_bad = x_putR 10 11 := rfl
theorem kX10_init_76 : List.getD tX10_init 76 x_bad = x_aload 0 1 := rfl
theorem kX10_init_77 : List.getD tX10_init 77 x_bad = x_push (.int (nI 128)) 3 := rfl
theorem kX10_init_80 : List.getD tX10_init 80 x_bad = x_newa 20 := rfl
theorem kX10_init_82 : List.getD tX10_init 82 x_bad = x_putR 10 13 := rfl
theorem kX10_init_85 : List.getD tX10_init 85 x_bad = x_aload 0 1 := rfl
theorem kX10_init_86 : List.getD tX10_init 86 x_bad = x_push (.int (nI 16)) 2 := rfl
theorem kX10_init_88 : List.getD tX10_init 88 x_bad = x_newa 21 := rfl
theorem kX10_init_90 : List.getD tX10_init 90 x_bad = x_putR 10 14 := rfl
theorem kX10_init_93 : List.getD tX10_init 93 x_bad = x_aload 0 1 := rfl
theorem kX10_init_94 : List.getD tX10_init 94 x_bad = x_push (.int (nI 16)) 2 := rfl
theorem kX10_init_96 : List.getD tX10_init 96 x_bad = x_newa 21 := rfl
theorem kX10_init_98 : List.getD tX10_init 98 x_bad = x_putR 10 15 := rfl
theorem kX10_init_101 : List.getD tX10_init 101 x_bad = x_aload 0 1 := rfl
theorem kX10_init_102 : List.getD tX10_init 102 x_bad = x_push (.int (nI 101)) 2 := rfl
theorem kX10_init_104 : List.getD tX10_init 104 x_bad = x_newa 21 := rfl
theorem kX10_init_106 : List.getD tX10_init 106 x_bad = x_putR 10 16 := rfl
theorem kX10_init_109 : List.getD tX10_init 109 x_bad = x_aload 0 1 := rfl
theorem kX10_init_110 : List.getD tX10_init 110 x_bad = x_push (.int (nI 101)) 2 := rfl
theorem kX10_init_112 : List.getD tX10_init 112 x_bad = x_newa 21 := rfl
theorem kX10_init_114 : List.getD tX10_init 114 x_bad = x_putR 10 17 := rfl
theorem kX10_init_117 : List.getD tX10_init 117 x_bad = x_aload 0 1 := rfl
theorem kX10_init_118 : List.getD tX10_init 118 x_bad = x_push (.int (nI 101)) 2 := rfl
theorem kX10_init_120 : List.getD tX10_init 120 x_bad = x_newa 20 := rfl
theorem kX10_init_122 : List.getD tX10_init 122 x_bad = x_putR 10 22 := rfl
theorem kX10_init_125 : List.getD tX10_init 125 x_bad = x_aload 0 1 := rfl
theorem kX10_init_126 : List.getD tX10_init 126 x_bad = x_push (.int (nI 10)) 2 := rfl
theorem kX10_init_128 : List.getD tX10_init 128 x_bad = x_newa 20 := rfl
theorem kX10_init_130 : List.getD tX10_init 130 x_bad = x_putR 10 23 := rfl
theorem kX10_init_133 : List.getD tX10_init 133 x_bad = x_aload 0 1 := rfl
theorem kX10_init_134 : List.getD tX10_init 134 x_bad = x_push (.int (nI 80)) 2 := rfl
theorem kX10_init_136 : List.getD tX10_init 136 x_bad = x_newa 20 := rfl
theorem kX10_init_138 : List.getD tX10_init 138 x_bad = x_putR 10 24 := rfl
theorem kX10_init_141 : List.getD tX10_init 141 x_bad = x_aload 0 1 := rfl
theorem kX10_init_142 : List.getD tX10_init 142 x_bad = x_getR 10 0 := rfl
theorem kX10_init_145 : List.getD tX10_init 145 x_bad = x_push (.int (nI 0)) 1 := rfl
theorem kX10_init_146 : List.getD tX10_init 146 x_bad = x_push (.int (nI 1)) 1 := rfl
theorem kX10_init_147 : List.getD tX10_init 147 x_bad = x_iast := rfl
theorem kX10_init_148 : List.getD tX10_init 148 x_bad = x_aload 0 1 := rfl
theorem kX10_init_149 : List.getD tX10_init 149 x_bad = x_callV0 10 mX10_changes := rfl
theorem kX10_init_152 : List.getD tX10_init 152 x_bad = x_vret := rfl
def tX10_load : List PT := [x_aload 0 1, x_push (.int (nI 0)) 1, x_push (.int (nI 9)) 2, x_bad, x_callV2 10 mX10_copies, x_bad, x_bad, x_aload 0 1, x_push (.int (nI 0)) 1, x_putI 10 26, x_bad, x_bad, x_aload 0 1, x_getR 10 0, x_bad, x_bad, x_push (.int (nI 1)) 1, x_push (.int (nI 0)) 1, x_iast, x_push (.int (nI 0)) 1, x_istore 1 1, x_iload 1 1, x_aload 0 1, x_getI 10 25, x_bad, x_bad, x_icmp (fun a b => b ≤ a) 64, x_bad, x_bad, x_aload 0 1, x_getI 10 26, x_bad, x_bad, x_ifn (fun a => a = 0) 64, x_bad, x_bad, x_aload 0 1, x_getR 10 24, x_bad, x_bad, x_iload 1 1, x_iald, x_push (.int (nI 32)) 2, x_bad, x_icmpn (fun a b => a = b) 53, x_bad, x_bad, x_iinc 1 (nI 1), x_bad, x_bad, x_goto 21, x_bad, x_bad, x_aload 0 1, x_iload 1 1, x_callV1 10 mX10_readsItem, x_bad, x_bad, x_iinc 1 (nI 3), x_bad, x_bad, x_goto 21, x_bad, x_bad, x_aload 0 1, x_getR 10 0, x_bad, x_bad, x_push (.int (nI 1)) 1, x_iald, x_istore 2 1, x_aload 0 1, x_getI 10 26, x_bad, x_bad, x_if (fun a => a = 0) 93, x_bad, x_bad, x_aload 0 1, x_push (.int (nI 9)) 2, x_bad, x_push (.int (nI 0)) 1, x_callV2 10 mX10_copies, x_bad, x_bad, x_push (.int (-10)) 2, x_bad, x_aload 0 1, x_getI 10 27, x_bad, x_bad, x_ii (fun a b => a - b), x_iret, x_aload 0 1, x_getR 10 0, x_bad, x_bad, x_push (.int (nI 0)) 1, x_aload 0 1, x_callV0 10 mX10_greatest, x_bad, x_bad, x_push (.int (nI 1)) 1, x_ii (fun a b => a + b), x_iast, x_push (.int (nI 0)) 1, x_istore 3 1, x_iload 3 1, x_push (.int (nI 203)) 3, x_bad, x_bad, x_icmp (fun a b => b ≤ a) 156, x_bad, x_bad, x_aload 0 1, x_getR 10 0, x_bad, x_bad, x_iload 3 1, x_iald, x_istore 4 2, x_bad, x_aload 0 1, x_getR 10 0, x_bad, x_bad, x_iload 3 1, x_aload 0 1, x_getR 10 0, x_bad, x_bad, x_push (.int (nI 1827)) 3, x_bad, x_bad, x_iload 3 1, x_ii (fun a b => a + b), x_iald, x_iast, x_aload 0 1, x_getR 10 0, x_bad, x_bad, x_push (.int (nI 1827)) 3, x_bad, x_bad, x_iload 3 1, x_ii (fun a b => a + b), x_iload 4 2, x_bad, x_iast, x_iinc 3 (nI 1), x_bad, x_bad, x_goto 107, x_bad, x_bad, x_aload 0 1, x_callV0 10 mX10_records, x_bad, x_bad, x_aload 0 1, x_push (.int (nI 9)) 2, x_bad, x_push (.int (nI 0)) 1, x_callV2 10 mX10_copies, x_bad, x_bad, x_aload 0 1, x_callV0 10 mX10_changes, x_bad, x_bad, x_iload 2 1, x_iret]
set_option maxRecDepth 20000 in
theorem okX10_load : SndT RX10 cX10_load mX10_load.2.2.1 mX10_load.2.2.2.2.1 mX10_load.2.2.2.2.2 false mX10_load.2.2.2.1 0 tX10_load := ⟨s_aload_n (k := 0) (i := 0) (by decide +kernel) rfl, s_iconst (n := 0) (by decide +kernel) (by decide +kernel), s_bipush (n := 9) (by decide +kernel) (by decide +kernel), s_bad, s_callV2 (by decide +kernel) lv_RX10_67 ⟨by decide, by decide⟩, s_bad, s_bad, s_aload_n (k := 0) (i := 0) (by decide +kernel) rfl, s_iconst (n := 0) (by decide +kernel) (by decide +kernel), s_putI (by decide +kernel) fl_RX10_176 fp_10_26 rfl, s_bad, s_bad, s_aload_n (k := 0) (i := 0) (by decide +kernel) rfl, s_getR (by decide +kernel) fl_RX10_7 rfl, s_bad, s_bad, s_iconst (n := 1) (by decide +kernel) (by decide +kernel), s_iconst (n := 0) (by decide +kernel) (by decide +kernel), s_iast (by decide +kernel), s_iconst (n := 0) (by decide +kernel) (by decide +kernel), s_istore_n (k := 1) (i := 1) (by decide +kernel) rfl (by decide), s_iload_n (k := 1) (i := 1) (by decide +kernel) rfl, s_aload_n (k := 0) (i := 0) (by decide +kernel) rfl, s_getI (by decide +kernel) fl_RX10_173 rfl, s_bad, s_bad, s_icmp_ge (off := 38) (by decide +kernel) (by decide), s_bad, s_bad, s_aload_n (k := 0) (i := 0) (by decide +kernel) rfl, s_getI (by decide +kernel) fl_RX10_176 rfl, s_bad, s_bad, s_if_ne (off := 31) (by decide +kernel) (by decide), s_bad, s_bad, s_aload_n (k := 0) (i := 0) (by decide +kernel) rfl, s_getR (by decide +kernel) fl_RX10_57 rfl, s_bad, s_bad, s_iload_n (k := 1) (i := 1) (by decide +kernel) rfl, s_iald (by decide +kernel), s_bipush (n := 32) (by decide +kernel) (by decide +kernel), s_bad, s_icmp_ne (off := 9) (by decide +kernel) (by decide), s_bad, s_bad, s_iinc (n := 1) (by decide +kernel) (by decide +kernel) (by decide), s_bad, s_bad, s_goto (off := (-29)) (by decide +kernel) (by decide), s_bad, s_bad, s_aload_n (k := 0) (i := 0) (by decide +kernel) rfl, s_iload_n (k := 1) (i := 1) (by decide +kernel) rfl, s_callV1 (by decide +kernel) lv_RX10_191 ⟨by decide, by decide⟩, s_bad, s_bad, s_iinc (n := 3) (by decide +kernel) (by decide +kernel) (by decide), s_bad, s_bad, s_goto (off := (-40)) (by decide +kernel) (by decide), s_bad, s_bad, s_aload_n (k := 0) (i := 0) (by decide +kernel) rfl, s_getR (by decide +kernel) fl_RX10_7 rfl, s_bad, s_bad, s_iconst (n := 1) (by decide +kernel) (by decide +kernel), s_iald (by decide +kernel), s_istore_n (k := 2) (i := 2) (by decide +kernel) rfl (by decide), s_aload_n (k := 0) (i := 0) (by decide +kernel) rfl, s_getI (by decide +kernel) fl_RX10_176 rfl, s_bad, s_bad, s_if_eq (off := 18) (by decide +kernel) (by decide), s_bad, s_bad, s_aload_n (k := 0) (i := 0) (by decide +kernel) rfl, s_bipush (n := 9) (by decide +kernel) (by decide +kernel), s_bad, s_iconst (n := 0) (by decide +kernel) (by decide +kernel), s_callV2 (by decide +kernel) lv_RX10_67 ⟨by decide, by decide⟩, s_bad, s_bad, s_bipush (n := (-10)) (by decide +kernel) (by decide +kernel), s_bad, s_aload_n (k := 0) (i := 0) (by decide +kernel) rfl, s_getI (by decide +kernel) fl_RX10_179 rfl, s_bad, s_bad, s_isub (by decide +kernel), s_iret (by decide +kernel) rfl, s_aload_n (k := 0) (i := 0) (by decide +kernel) rfl, s_getR (by decide +kernel) fl_RX10_7 rfl, s_bad, s_bad, s_iconst (n := 0) (by decide +kernel) (by decide +kernel), s_aload_n (k := 0) (i := 0) (by decide +kernel) rfl, s_callV0 (by decide +kernel) lv_RX10_195 ⟨by decide, by decide⟩, s_bad, s_bad, s_iconst (n := 1) (by decide +kernel) (by decide +kernel), s_iadd (by decide +kernel), s_iast (by decide +kernel), s_iconst (n := 0) (by decide +kernel) (by decide +kernel), s_istore_n (k := 3) (i := 3) (by decide +kernel) rfl (by decide), s_iload_n (k := 3) (i := 3) (by decide +kernel) rfl, s_sipush (n := 203) (by decide +kernel) (by decide +kernel), s_bad, s_bad, s_icmp_ge (off := 45) (by decide +kernel) (by decide), s_bad, s_bad, s_aload_n (k := 0) (i := 0) (by decide +kernel) rfl, s_getR (by decide +kernel) fl_RX10_7 rfl, s_bad, s_bad, s_iload_n (k := 3) (i := 3) (by decide +kernel) rfl, s_iald (by decide +kernel), s_istore (by decide +kernel) (by decide), s_bad, s_aload_n (k := 0) (i := 0) (by decide +kernel) rfl, s_getR (by decide +kernel) fl_RX10_7 rfl, s_bad, s_bad, s_iload_n (k := 3) (i := 3) (by decide +kernel) rfl, s_aload_n (k := 0) (i := 0) (by decide +kernel) rfl, s_getR (by decide +kernel) fl_RX10_7 rfl, s_bad, s_bad, s_sipush (n := 1827) (by decide +kernel) (by decide +kernel), s_bad, s_bad, s_iload_n (k := 3) (i := 3) (by decide +kernel) rfl, s_iadd (by decide +kernel), s_iald (by decide +kernel), s_iast (by decide +kernel), s_aload_n (k := 0) (i := 0) (by decide +kernel) rfl, s_getR (by decide +kernel) fl_RX10_7 rfl, s_bad, s_bad, s_sipush (n := 1827) (by decide +kernel) (by decide +kernel), s_bad, s_bad, s_iload_n (k := 3) (i := 3) (by decide +kernel) rfl, s_iadd (by decide +kernel), s_iload (by decide +kernel), s_bad, s_iast (by decide +kernel), s_iinc (n := 1) (by decide +kernel) (by decide +kernel) (by decide), s_bad, s_bad, s_goto (off := (-46)) (by decide +kernel) (by decide), s_bad, s_bad, s_aload_n (k := 0) (i := 0) (by decide +kernel) rfl, s_callV0 (by decide +kernel) lv_RX10_198 ⟨by decide, by decide⟩, s_bad, s_bad, s_aload_n (k := 0) (i := 0) (by decide +kernel) rfl, s_bipush (n := 9) (by decide +kernel) (by decide +kernel), s_bad, s_iconst (n := 0) (by decide +kernel) (by decide +kernel), s_callV2 (by decide +kernel) lv_RX10_67 ⟨by decide, by decide⟩, s_bad, s_bad, s_aload_n (k := 0) (i := 0) (by decide +kernel) rfl, s_callV0 (by decide +kernel) lv_RX10_60 ⟨by decide, by decide⟩, s_bad, s_bad, s_iload_n (k := 2) (i := 2) (by decide +kernel) rfl, s_iret (by decide +kernel) rfl, trivial⟩
theorem kX10_load_0 : List.getD tX10_load 0 x_bad = x_aload 0 1 := rfl
theorem kX10_load_1 : List.getD tX10_load 1 x_bad = x_push (.int (nI 0)) 1 := rfl
theorem kX10_load_2 : List.getD tX10_load 2 x_bad = x_push (.int (nI 9)) 2 := rfl
theorem kX10_load_4 : List.getD tX10_load 4 x_bad = x_callV2 10 mX10_copies := rfl
theorem kX10_load_7 : List.getD tX10_load 7 x_bad = x_aload 0 1 := rfl
theorem kX10_load_8 : List.getD tX10_load 8 x_bad = x_push (.int (nI 0)) 1 := rfl
theorem kX10_load_9 : List.getD tX10_load 9 x_bad = x_putI 10 26 := rfl
theorem kX10_load_12 : List.getD tX10_load 12 x_bad = x_aload 0 1 := rfl
theorem kX10_load_13 : List.getD tX10_load 13 x_bad = x_getR 10 0 := rfl
theorem kX10_load_16 : List.getD tX10_load 16 x_bad = x_push (.int (nI 1)) 1 := rfl
theorem kX10_load_17 : List.getD tX10_load 17 x_bad = x_push (.int (nI 0)) 1 := rfl
theorem kX10_load_18 : List.getD tX10_load 18 x_bad = x_iast := rfl
theorem kX10_load_19 : List.getD tX10_load 19 x_bad = x_push (.int (nI 0)) 1 := rfl
theorem kX10_load_20 : List.getD tX10_load 20 x_bad = x_istore 1 1 := rfl
theorem kX10_load_21 : List.getD tX10_load 21 x_bad = x_iload 1 1 := rfl
theorem kX10_load_22 : List.getD tX10_load 22 x_bad = x_aload 0 1 := rfl
theorem kX10_load_23 : List.getD tX10_load 23 x_bad = x_getI 10 25 := rfl
theorem kX10_load_26 : List.getD tX10_load 26 x_bad = x_icmp (fun a b => b ≤ a) 64 := rfl
theorem kX10_load_29 : List.getD tX10_load 29 x_bad = x_aload 0 1 := rfl
theorem kX10_load_30 : List.getD tX10_load 30 x_bad = x_getI 10 26 := rfl
theorem kX10_load_33 : List.getD tX10_load 33 x_bad = x_ifn (fun a => a = 0) 64 := rfl
theorem kX10_load_36 : List.getD tX10_load 36 x_bad = x_aload 0 1 := rfl
theorem kX10_load_37 : List.getD tX10_load 37 x_bad = x_getR 10 24 := rfl
theorem kX10_load_40 : List.getD tX10_load 40 x_bad = x_iload 1 1 := rfl
theorem kX10_load_41 : List.getD tX10_load 41 x_bad = x_iald := rfl
theorem kX10_load_42 : List.getD tX10_load 42 x_bad = x_push (.int (nI 32)) 2 := rfl
theorem kX10_load_44 : List.getD tX10_load 44 x_bad = x_icmpn (fun a b => a = b) 53 := rfl
theorem kX10_load_47 : List.getD tX10_load 47 x_bad = x_iinc 1 (nI 1) := rfl
theorem kX10_load_50 : List.getD tX10_load 50 x_bad = x_goto 21 := rfl
theorem kX10_load_53 : List.getD tX10_load 53 x_bad = x_aload 0 1 := rfl
theorem kX10_load_54 : List.getD tX10_load 54 x_bad = x_iload 1 1 := rfl
theorem kX10_load_55 : List.getD tX10_load 55 x_bad = x_callV1 10 mX10_readsItem := rfl
theorem kX10_load_58 : List.getD tX10_load 58 x_bad = x_iinc 1 (nI 3) := rfl
theorem kX10_load_61 : List.getD tX10_load 61 x_bad = x_goto 21 := rfl
theorem kX10_load_64 : List.getD tX10_load 64 x_bad = x_aload 0 1 := rfl
theorem kX10_load_65 : List.getD tX10_load 65 x_bad = x_getR 10 0 := rfl
theorem kX10_load_68 : List.getD tX10_load 68 x_bad = x_push (.int (nI 1)) 1 := rfl
theorem kX10_load_69 : List.getD tX10_load 69 x_bad = x_iald := rfl
theorem kX10_load_70 : List.getD tX10_load 70 x_bad = x_istore 2 1 := rfl
theorem kX10_load_71 : List.getD tX10_load 71 x_bad = x_aload 0 1 := rfl
theorem kX10_load_72 : List.getD tX10_load 72 x_bad = x_getI 10 26 := rfl
theorem kX10_load_75 : List.getD tX10_load 75 x_bad = x_if (fun a => a = 0) 93 := rfl
theorem kX10_load_78 : List.getD tX10_load 78 x_bad = x_aload 0 1 := rfl
theorem kX10_load_79 : List.getD tX10_load 79 x_bad = x_push (.int (nI 9)) 2 := rfl
theorem kX10_load_81 : List.getD tX10_load 81 x_bad = x_push (.int (nI 0)) 1 := rfl
theorem kX10_load_82 : List.getD tX10_load 82 x_bad = x_callV2 10 mX10_copies := rfl
theorem kX10_load_85 : List.getD tX10_load 85 x_bad = x_push (.int (-10)) 2 := rfl
theorem kX10_load_87 : List.getD tX10_load 87 x_bad = x_aload 0 1 := rfl
theorem kX10_load_88 : List.getD tX10_load 88 x_bad = x_getI 10 27 := rfl
theorem kX10_load_91 : List.getD tX10_load 91 x_bad = x_ii (fun a b => a - b) := rfl
theorem kX10_load_92 : List.getD tX10_load 92 x_bad = x_iret := rfl
theorem kX10_load_93 : List.getD tX10_load 93 x_bad = x_aload 0 1 := rfl
theorem kX10_load_94 : List.getD tX10_load 94 x_bad = x_getR 10 0 := rfl
theorem kX10_load_97 : List.getD tX10_load 97 x_bad = x_push (.int (nI 0)) 1 := rfl
theorem kX10_load_98 : List.getD tX10_load 98 x_bad = x_aload 0 1 := rfl
theorem kX10_load_99 : List.getD tX10_load 99 x_bad = x_callV0 10 mX10_greatest := rfl
theorem kX10_load_102 : List.getD tX10_load 102 x_bad = x_push (.int (nI 1)) 1 := rfl
theorem kX10_load_103 : List.getD tX10_load 103 x_bad = x_ii (fun a b => a + b) := rfl
theorem kX10_load_104 : List.getD tX10_load 104 x_bad = x_iast := rfl
theorem kX10_load_105 : List.getD tX10_load 105 x_bad = x_push (.int (nI 0)) 1 := rfl
theorem kX10_load_106 : List.getD tX10_load 106 x_bad = x_istore 3 1 := rfl
theorem kX10_load_107 : List.getD tX10_load 107 x_bad = x_iload 3 1 := rfl
theorem kX10_load_108 : List.getD tX10_load 108 x_bad = x_push (.int (nI 203)) 3 := rfl
theorem kX10_load_111 : List.getD tX10_load 111 x_bad = x_icmp (fun a b => b ≤ a) 156 := rfl
theorem kX10_load_114 : List.getD tX10_load 114 x_bad = x_aload 0 1 := rfl
theorem kX10_load_115 : List.getD tX10_load 115 x_bad = x_getR 10 0 := rfl
theorem kX10_load_118 : List.getD tX10_load 118 x_bad = x_iload 3 1 := rfl
theorem kX10_load_119 : List.getD tX10_load 119 x_bad = x_iald := rfl
theorem kX10_load_120 : List.getD tX10_load 120 x_bad = x_istore 4 2 := rfl
theorem kX10_load_122 : List.getD tX10_load 122 x_bad = x_aload 0 1 := rfl
theorem kX10_load_123 : List.getD tX10_load 123 x_bad = x_getR 10 0 := rfl
theorem kX10_load_126 : List.getD tX10_load 126 x_bad = x_iload 3 1 := rfl
theorem kX10_load_127 : List.getD tX10_load 127 x_bad = x_aload 0 1 := rfl
theorem kX10_load_128 : List.getD tX10_load 128 x_bad = x_getR 10 0 := rfl
theorem kX10_load_131 : List.getD tX10_load 131 x_bad = x_push (.int (nI 1827)) 3 := rfl
theorem kX10_load_134 : List.getD tX10_load 134 x_bad = x_iload 3 1 := rfl
theorem kX10_load_135 : List.getD tX10_load 135 x_bad = x_ii (fun a b => a + b) := rfl
theorem kX10_load_136 : List.getD tX10_load 136 x_bad = x_iald := rfl
theorem kX10_load_137 : List.getD tX10_load 137 x_bad = x_iast := rfl
theorem kX10_load_138 : List.getD tX10_load 138 x_bad = x_aload 0 1 := rfl
theorem kX10_load_139 : List.getD tX10_load 139 x_bad = x_getR 10 0 := rfl
theorem kX10_load_142 : List.getD tX10_load 142 x_bad = x_push (.int (nI 1827)) 3 := rfl
theorem kX10_load_145 : List.getD tX10_load 145 x_bad = x_iload 3 1 := rfl
theorem kX10_load_146 : List.getD tX10_load 146 x_bad = x_ii (fun a b => a + b) := rfl
theorem kX10_load_147 : List.getD tX10_load 147 x_bad = x_iload 4 2 := rfl
theorem kX10_load_149 : List.getD tX10_load 149 x_bad = x_iast := rfl
theorem kX10_load_150 : List.getD tX10_load 150 x_bad = x_iinc 3 (nI 1) := rfl
theorem kX10_load_153 : List.getD tX10_load 153 x_bad = x_goto 107 := rfl
theorem kX10_load_156 : List.getD tX10_load 156 x_bad = x_aload 0 1 := rfl
theorem kX10_load_157 : List.getD tX10_load 157 x_bad = x_callV0 10 mX10_records := rfl
theorem kX10_load_160 : List.getD tX10_load 160 x_bad = x_aload 0 1 := rfl
theorem kX10_load_161 : List.getD tX10_load 161 x_bad = x_push (.int (nI 9)) 2 := rfl
theorem kX10_load_163 : List.getD tX10_load 163 x_bad = x_push (.int (nI 0)) 1 := rfl
theorem kX10_load_164 : List.getD tX10_load 164 x_bad = x_callV2 10 mX10_copies := rfl
theorem kX10_load_167 : List.getD tX10_load 167 x_bad = x_aload 0 1 := rfl
theorem kX10_load_168 : List.getD tX10_load 168 x_bad = x_callV0 10 mX10_changes := rfl
theorem kX10_load_171 : List.getD tX10_load 171 x_bad = x_iload 2 1 := rfl
theorem kX10_load_172 : List.getD tX10_load 172 x_bad = x_iret := rfl
def tX10_repair : List PT := [x_aload 0 1, x_callV0 10 mX10_records, x_bad, x_bad, x_push (.int (nI 0)) 1, x_istore 1 1, x_aload 0 1, x_callV0 10 mX10_worth, x_bad, x_bad, x_istore 2 1, x_iload 2 1, x_push (.int (-9)) 2, x_bad, x_icmp (fun a b => a = b) 38, x_bad, x_bad, x_aload 0 1, x_iload 2 1, x_callV1 10 mX10_splits, x_bad, x_bad, x_pop, x_iinc 1 (nI 1), x_bad, x_bad, x_aload 0 1, x_callV0 10 mX10_lays, x_bad, x_bad, x_aload 0 1, x_callV0 10 mX10_worth, x_bad, x_bad, x_istore 2 1, x_goto 11, x_bad, x_bad, x_aload 0 1, x_callV0 10 mX10_changes, x_bad, x_bad, x_iload 1 1, x_iret]
set_option maxRecDepth 20000 in
theorem okX10_repair : SndT RX10 cX10_repair mX10_repair.2.2.1 mX10_repair.2.2.2.2.1 mX10_repair.2.2.2.2.2 false mX10_repair.2.2.2.1 0 tX10_repair := ⟨s_aload_n (k := 0) (i := 0) (by decide +kernel) rfl, s_callV0 (by decide +kernel) lv_RX10_198 ⟨by decide, by decide⟩, s_bad, s_bad, s_iconst (n := 0) (by decide +kernel) (by decide +kernel), s_istore_n (k := 1) (i := 1) (by decide +kernel) rfl (by decide), s_aload_n (k := 0) (i := 0) (by decide +kernel) rfl, s_callV0 (by decide +kernel) lv_RX10_223 ⟨by decide, by decide⟩, s_bad, s_bad, s_istore_n (k := 2) (i := 2) (by decide +kernel) rfl (by decide), s_iload_n (k := 2) (i := 2) (by decide +kernel) rfl, s_bipush (n := (-9)) (by decide +kernel) (by decide +kernel), s_bad, s_icmp_eq (off := 24) (by decide +kernel) (by decide), s_bad, s_bad, s_aload_n (k := 0) (i := 0) (by decide +kernel) rfl, s_iload_n (k := 2) (i := 2) (by decide +kernel) rfl, s_callV1 (by decide +kernel) lv_RX10_220 ⟨by decide, by decide⟩, s_bad, s_bad, s_pop (by decide +kernel), s_iinc (n := 1) (by decide +kernel) (by decide +kernel) (by decide), s_bad, s_bad, s_aload_n (k := 0) (i := 0) (by decide +kernel) rfl, s_callV0 (by decide +kernel) lv_RX10_71 ⟨by decide, by decide⟩, s_bad, s_bad, s_aload_n (k := 0) (i := 0) (by decide +kernel) rfl, s_callV0 (by decide +kernel) lv_RX10_223 ⟨by decide, by decide⟩, s_bad, s_bad, s_istore_n (k := 2) (i := 2) (by decide +kernel) rfl (by decide), s_goto (off := (-24)) (by decide +kernel) (by decide), s_bad, s_bad, s_aload_n (k := 0) (i := 0) (by decide +kernel) rfl, s_callV0 (by decide +kernel) lv_RX10_60 ⟨by decide, by decide⟩, s_bad, s_bad, s_iload_n (k := 1) (i := 1) (by decide +kernel) rfl, s_iret (by decide +kernel) rfl, trivial⟩
theorem kX10_repair_0 : List.getD tX10_repair 0 x_bad = x_aload 0 1 := rfl
theorem kX10_repair_1 : List.getD tX10_repair 1 x_bad = x_callV0 10 mX10_records := rfl
theorem kX10_repair_4 : List.getD tX10_repair 4 x_bad = x_push (.int (nI 0)) 1 := rfl
theorem kX10_repair_5 : List.getD tX10_repair 5 x_bad = x_istore 1 1 := rfl
theorem kX10_repair_6 : List.getD tX10_repair 6 x_bad = x_aload 0 1 := rfl
theorem kX10_repair_7 : List.getD tX10_repair 7 x_bad = x_callV0 10 mX10_worth := rfl
theorem kX10_repair_10 : List.getD tX10_repair 10 x_bad = x_istore 2 1 := rfl
theorem kX10_repair_11 : List.getD tX10_repair 11 x_bad = x_iload 2 1 := rfl
theorem kX10_repair_12 : List.getD tX10_repair 12 x_bad = x_push (.int (-9)) 2 := rfl
theorem kX10_repair_14 : List.getD tX10_repair 14 x_bad = x_icmp (fun a b => a = b) 38 := rfl
theorem kX10_repair_17 : List.getD tX10_repair 17 x_bad = x_aload 0 1 := rfl
theorem kX10_repair_18 : List.getD tX10_repair 18 x_bad = x_iload 2 1 := rfl
theorem kX10_repair_19 : List.getD tX10_repair 19 x_bad = x_callV1 10 mX10_splits := rfl
theorem kX10_repair_22 : List.getD tX10_repair 22 x_bad = x_pop := rfl
theorem kX10_repair_23 : List.getD tX10_repair 23 x_bad = x_iinc 1 (nI 1) := rfl
theorem kX10_repair_26 : List.getD tX10_repair 26 x_bad = x_aload 0 1 := rfl
theorem kX10_repair_27 : List.getD tX10_repair 27 x_bad = x_callV0 10 mX10_lays := rfl
theorem kX10_repair_30 : List.getD tX10_repair 30 x_bad = x_aload 0 1 := rfl
theorem kX10_repair_31 : List.getD tX10_repair 31 x_bad = x_callV0 10 mX10_worth := rfl
theorem kX10_repair_34 : List.getD tX10_repair 34 x_bad = x_istore 2 1 := rfl
theorem kX10_repair_35 : List.getD tX10_repair 35 x_bad = x_goto 11 := rfl
theorem kX10_repair_38 : List.getD tX10_repair 38 x_bad = x_aload 0 1 := rfl
theorem kX10_repair_39 : List.getD tX10_repair 39 x_bad = x_callV0 10 mX10_changes := rfl
theorem kX10_repair_42 : List.getD tX10_repair 42 x_bad = x_iload 1 1 := rfl
theorem kX10_repair_43 : List.getD tX10_repair 43 x_bad = x_iret := rfl
def tX10_setStates : List PT := [x_iload 1 1, x_push (.int (nI 1)) 1, x_push (.int (nI 10)) 2, x_bad, x_callS3 mX10_in, x_bad, x_bad, x_ifn (fun a => a = 0) 12, x_bad, x_bad, x_push (.int (-1)) 1, x_iret, x_aload 0 1, x_getR 10 0, x_bad, x_bad, x_push (.int (nI 1)) 1, x_iald, x_if (fun a => a ≤ 0) 32, x_bad, x_bad, x_aload 0 1, x_callV0 10 mX10_greatest, x_bad, x_bad, x_iload 1 1, x_icmp (fun a b => a < b) 32, x_bad, x_bad, x_push (.int (-2)) 2, x_bad, x_iret, x_aload 0 1, x_callV0 10 mX10_records, x_bad, x_bad, x_aload 0 1, x_getR 10 0, x_bad, x_bad, x_push (.int (nI 0)) 1, x_iald, x_istore 2 1, x_aload 0 1, x_getR 10 0, x_bad, x_bad, x_push (.int (nI 0)) 1, x_iload 1 1, x_iast, x_aload 0 1, x_callV0 10 mX10_changes, x_bad, x_bad, x_iload 2 1, x_iret]
set_option maxRecDepth 20000 in
theorem okX10_setStates : SndT RX10 cX10_setStates mX10_setStates.2.2.1 mX10_setStates.2.2.2.2.1 mX10_setStates.2.2.2.2.2 false mX10_setStates.2.2.2.1 0 tX10_setStates := ⟨s_iload_n (k := 1) (i := 1) (by decide +kernel) rfl, s_iconst (n := 1) (by decide +kernel) (by decide +kernel), s_bipush (n := 10) (by decide +kernel) (by decide +kernel), s_bad, s_callS3 (by decide +kernel) ls_RX10_74 ⟨by decide, by decide⟩, s_bad, s_bad, s_if_ne (off := 5) (by decide +kernel) (by decide), s_bad, s_bad, s_iconst (n := (-1)) (by decide +kernel) (by decide +kernel), s_iret (by decide +kernel) rfl, s_aload_n (k := 0) (i := 0) (by decide +kernel) rfl, s_getR (by decide +kernel) fl_RX10_7 rfl, s_bad, s_bad, s_iconst (n := 1) (by decide +kernel) (by decide +kernel), s_iald (by decide +kernel), s_if_le (off := 14) (by decide +kernel) (by decide), s_bad, s_bad, s_aload_n (k := 0) (i := 0) (by decide +kernel) rfl, s_callV0 (by decide +kernel) lv_RX10_195 ⟨by decide, by decide⟩, s_bad, s_bad, s_iload_n (k := 1) (i := 1) (by decide +kernel) rfl, s_icmp_lt (off := 6) (by decide +kernel) (by decide), s_bad, s_bad, s_bipush (n := (-2)) (by decide +kernel) (by decide +kernel), s_bad, s_iret (by decide +kernel) rfl, s_aload_n (k := 0) (i := 0) (by decide +kernel) rfl, s_callV0 (by decide +kernel) lv_RX10_198 ⟨by decide, by decide⟩, s_bad, s_bad, s_aload_n (k := 0) (i := 0) (by decide +kernel) rfl, s_getR (by decide +kernel) fl_RX10_7 rfl, s_bad, s_bad, s_iconst (n := 0) (by decide +kernel) (by decide +kernel), s_iald (by decide +kernel), s_istore_n (k := 2) (i := 2) (by decide +kernel) rfl (by decide), s_aload_n (k := 0) (i := 0) (by decide +kernel) rfl, s_getR (by decide +kernel) fl_RX10_7 rfl, s_bad, s_bad, s_iconst (n := 0) (by decide +kernel) (by decide +kernel), s_iload_n (k := 1) (i := 1) (by decide +kernel) rfl, s_iast (by decide +kernel), s_aload_n (k := 0) (i := 0) (by decide +kernel) rfl, s_callV0 (by decide +kernel) lv_RX10_60 ⟨by decide, by decide⟩, s_bad, s_bad, s_iload_n (k := 2) (i := 2) (by decide +kernel) rfl, s_iret (by decide +kernel) rfl, trivial⟩
theorem kX10_setStates_0 : List.getD tX10_setStates 0 x_bad = x_iload 1 1 := rfl
theorem kX10_setStates_1 : List.getD tX10_setStates 1 x_bad = x_push (.int (nI 1)) 1 := rfl
theorem kX10_setStates_2 : List.getD tX10_setStates 2 x_bad = x_push (.int (nI 10)) 2 := rfl
theorem kX10_setStates_4 : List.getD tX10_setStates 4 x_bad = x_callS3 mX10_in := rfl
theorem kX10_setStates_7 : List.getD tX10_setStates 7 x_bad = x_ifn (fun a => a = 0) 12 := rfl
theorem kX10_setStates_10 : List.getD tX10_setStates 10 x_bad = x_push (.int (-1)) 1 := rfl
theorem kX10_setStates_11 : List.getD tX10_setStates 11 x_bad = x_iret := rfl
theorem kX10_setStates_12 : List.getD tX10_setStates 12 x_bad = x_aload 0 1 := rfl
theorem kX10_setStates_13 : List.getD tX10_setStates 13 x_bad = x_getR 10 0 := rfl
theorem kX10_setStates_16 : List.getD tX10_setStates 16 x_bad = x_push (.int (nI 1)) 1 := rfl
theorem kX10_setStates_17 : List.getD tX10_setStates 17 x_bad = x_iald := rfl
theorem kX10_setStates_18 : List.getD tX10_setStates 18 x_bad = x_if (fun a => a ≤ 0) 32 := rfl
theorem kX10_setStates_21 : List.getD tX10_setStates 21 x_bad = x_aload 0 1 := rfl
theorem kX10_setStates_22 : List.getD tX10_setStates 22 x_bad = x_callV0 10 mX10_greatest := rfl
theorem kX10_setStates_25 : List.getD tX10_setStates 25 x_bad = x_iload 1 1 := rfl
theorem kX10_setStates_26 : List.getD tX10_setStates 26 x_bad = x_icmp (fun a b => a < b) 32 := rfl
theorem kX10_setStates_29 : List.getD tX10_setStates 29 x_bad = x_push (.int (-2)) 2 := rfl
theorem kX10_setStates_31 : List.getD tX10_setStates 31 x_bad = x_iret := rfl
theorem kX10_setStates_32 : List.getD tX10_setStates 32 x_bad = x_aload 0 1 := rfl
theorem kX10_setStates_33 : List.getD tX10_setStates 33 x_bad = x_callV0 10 mX10_records := rfl
theorem kX10_setStates_36 : List.getD tX10_setStates 36 x_bad = x_aload 0 1 := rfl
theorem kX10_setStates_37 : List.getD tX10_setStates 37 x_bad = x_getR 10 0 := rfl
theorem kX10_setStates_40 : List.getD tX10_setStates 40 x_bad = x_push (.int (nI 0)) 1 := rfl
theorem kX10_setStates_41 : List.getD tX10_setStates 41 x_bad = x_iald := rfl
theorem kX10_setStates_42 : List.getD tX10_setStates 42 x_bad = x_istore 2 1 := rfl
theorem kX10_setStates_43 : List.getD tX10_setStates 43 x_bad = x_aload 0 1 := rfl
theorem kX10_setStates_44 : List.getD tX10_setStates 44 x_bad = x_getR 10 0 := rfl
theorem kX10_setStates_47 : List.getD tX10_setStates 47 x_bad = x_push (.int (nI 0)) 1 := rfl
theorem kX10_setStates_48 : List.getD tX10_setStates 48 x_bad = x_iload 1 1 := rfl
theorem kX10_setStates_49 : List.getD tX10_setStates 49 x_bad = x_iast := rfl
theorem kX10_setStates_50 : List.getD tX10_setStates 50 x_bad = x_aload 0 1 := rfl
theorem kX10_setStates_51 : List.getD tX10_setStates 51 x_bad = x_callV0 10 mX10_changes := rfl
theorem kX10_setStates_54 : List.getD tX10_setStates 54 x_bad = x_iload 2 1 := rfl
theorem kX10_setStates_55 : List.getD tX10_setStates 55 x_bad = x_iret := rfl
def tX10_split : List PT := [x_aload 0 1, x_iload 1 1, x_callV1 10 mX10_wrongSplit, x_bad, x_bad, x_istore 2 1, x_iload 2 1, x_if (fun a => a = 0) 12, x_bad, x_bad, x_iload 2 1, x_iret, x_aload 0 1, x_callV0 10 mX10_records, x_bad, x_bad, x_aload 0 1, x_iload 1 1, x_callV1 10 mX10_splits, x_bad, x_bad, x_istore 3 1, x_aload 0 1, x_callV0 10 mX10_changes, x_bad, x_bad, x_iload 3 1, x_iret]
set_option maxRecDepth 20000 in
theorem okX10_split : SndT RX10 cX10_split mX10_split.2.2.1 mX10_split.2.2.2.2.1 mX10_split.2.2.2.2.2 false mX10_split.2.2.2.1 0 tX10_split := ⟨s_aload_n (k := 0) (i := 0) (by decide +kernel) rfl, s_iload_n (k := 1) (i := 1) (by decide +kernel) rfl, s_callV1 (by decide +kernel) lv_RX10_217 ⟨by decide, by decide⟩, s_bad, s_bad, s_istore_n (k := 2) (i := 2) (by decide +kernel) rfl (by decide), s_iload_n (k := 2) (i := 2) (by decide +kernel) rfl, s_if_eq (off := 5) (by decide +kernel) (by decide), s_bad, s_bad, s_iload_n (k := 2) (i := 2) (by decide +kernel) rfl, s_iret (by decide +kernel) rfl, s_aload_n (k := 0) (i := 0) (by decide +kernel) rfl, s_callV0 (by decide +kernel) lv_RX10_198 ⟨by decide, by decide⟩, s_bad, s_bad, s_aload_n (k := 0) (i := 0) (by decide +kernel) rfl, s_iload_n (k := 1) (i := 1) (by decide +kernel) rfl, s_callV1 (by decide +kernel) lv_RX10_220 ⟨by decide, by decide⟩, s_bad, s_bad, s_istore_n (k := 3) (i := 3) (by decide +kernel) rfl (by decide), s_aload_n (k := 0) (i := 0) (by decide +kernel) rfl, s_callV0 (by decide +kernel) lv_RX10_60 ⟨by decide, by decide⟩, s_bad, s_bad, s_iload_n (k := 3) (i := 3) (by decide +kernel) rfl, s_iret (by decide +kernel) rfl, trivial⟩
theorem kX10_split_0 : List.getD tX10_split 0 x_bad = x_aload 0 1 := rfl
theorem kX10_split_1 : List.getD tX10_split 1 x_bad = x_iload 1 1 := rfl
theorem kX10_split_2 : List.getD tX10_split 2 x_bad = x_callV1 10 mX10_wrongSplit := rfl
theorem kX10_split_5 : List.getD tX10_split 5 x_bad = x_istore 2 1 := rfl
theorem kX10_split_6 : List.getD tX10_split 6 x_bad = x_iload 2 1 := rfl
theorem kX10_split_7 : List.getD tX10_split 7 x_bad = x_if (fun a => a = 0) 12 := rfl
theorem kX10_split_10 : List.getD tX10_split 10 x_bad = x_iload 2 1 := rfl
theorem kX10_split_11 : List.getD tX10_split 11 x_bad = x_iret := rfl
theorem kX10_split_12 : List.getD tX10_split 12 x_bad = x_aload 0 1 := rfl
theorem kX10_split_13 : List.getD tX10_split 13 x_bad = x_callV0 10 mX10_records := rfl
theorem kX10_split_16 : List.getD tX10_split 16 x_bad = x_aload 0 1 := rfl
theorem kX10_split_17 : List.getD tX10_split 17 x_bad = x_iload 1 1 := rfl
theorem kX10_split_18 : List.getD tX10_split 18 x_bad = x_callV1 10 mX10_splits := rfl
theorem kX10_split_21 : List.getD tX10_split 21 x_bad = x_istore 3 1 := rfl
theorem kX10_split_22 : List.getD tX10_split 22 x_bad = x_aload 0 1 := rfl
theorem kX10_split_23 : List.getD tX10_split 23 x_bad = x_callV0 10 mX10_changes := rfl
theorem kX10_split_26 : List.getD tX10_split 26 x_bad = x_iload 3 1 := rfl
theorem kX10_split_27 : List.getD tX10_split 27 x_bad = x_iret := rfl
