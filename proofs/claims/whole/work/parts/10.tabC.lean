def tX9_clearText : List PT := [x_aload 0 1, x_getR 9 0, x_bad, x_bad, x_getI 8 1, x_bad, x_bad, x_istore 1 1, x_aload 0 1, x_getR 9 0, x_bad, x_bad, x_push (.int (nI 0)) 1, x_putI 8 1, x_bad, x_bad, x_iload 1 1, x_iret]
set_option maxRecDepth 20000 in
theorem okX9_clearText : SndT RX9 cX9_clearText mX9_clearText.2.2.1 mX9_clearText.2.2.2.2.1 mX9_clearText.2.2.2.2.2 false mX9_clearText.2.2.2.1 0 tX9_clearText := ⟨s_aload_n (k := 0) (i := 0) (by decide +kernel) rfl, s_getR (by decide +kernel) fl_RX9_10 rfl, s_bad, s_bad, s_getI (by decide +kernel) fl_RX9_75 rfl, s_bad, s_bad, s_istore_n (k := 1) (i := 1) (by decide +kernel) rfl (by decide), s_aload_n (k := 0) (i := 0) (by decide +kernel) rfl, s_getR (by decide +kernel) fl_RX9_10 rfl, s_bad, s_bad, s_iconst (n := 0) (by decide +kernel) (by decide +kernel), s_putI (by decide +kernel) fl_RX9_75 fp_8_1 rfl, s_bad, s_bad, s_iload_n (k := 1) (i := 1) (by decide +kernel) rfl, s_iret (by decide +kernel) rfl, trivial⟩
theorem kX9_clearText_0 : List.getD tX9_clearText 0 x_bad = x_aload 0 1 := rfl
theorem kX9_clearText_1 : List.getD tX9_clearText 1 x_bad = x_getR 9 0 := rfl
theorem kX9_clearText_4 : List.getD tX9_clearText 4 x_bad = x_getI 8 1 := rfl
theorem kX9_clearText_7 : List.getD tX9_clearText 7 x_bad = x_istore 1 1 := rfl
theorem kX9_clearText_8 : List.getD tX9_clearText 8 x_bad = x_aload 0 1 := rfl
theorem kX9_clearText_9 : List.getD tX9_clearText 9 x_bad = x_getR 9 0 := rfl
theorem kX9_clearText_12 : List.getD tX9_clearText 12 x_bad = x_push (.int (nI 0)) 1 := rfl
theorem kX9_clearText_13 : List.getD tX9_clearText 13 x_bad = x_putI 8 1 := rfl
theorem kX9_clearText_16 : List.getD tX9_clearText 16 x_bad = x_iload 1 1 := rfl
theorem kX9_clearText_17 : List.getD tX9_clearText 17 x_bad = x_iret := rfl
def tX9_faultKind : List PT := [x_aload 0 1, x_getR 9 0, x_bad, x_bad, x_getI 8 2, x_bad, x_bad, x_iret]
set_option maxRecDepth 20000 in
theorem okX9_faultKind : SndT RX9 cX9_faultKind mX9_faultKind.2.2.1 mX9_faultKind.2.2.2.2.1 mX9_faultKind.2.2.2.2.2 false mX9_faultKind.2.2.2.1 0 tX9_faultKind := ⟨s_aload_n (k := 0) (i := 0) (by decide +kernel) rfl, s_getR (by decide +kernel) fl_RX9_10 rfl, s_bad, s_bad, s_getI (by decide +kernel) fl_RX9_93 rfl, s_bad, s_bad, s_iret (by decide +kernel) rfl, trivial⟩
theorem kX9_faultKind_0 : List.getD tX9_faultKind 0 x_bad = x_aload 0 1 := rfl
theorem kX9_faultKind_1 : List.getD tX9_faultKind 1 x_bad = x_getR 9 0 := rfl
theorem kX9_faultKind_4 : List.getD tX9_faultKind 4 x_bad = x_getI 8 2 := rfl
theorem kX9_faultKind_7 : List.getD tX9_faultKind 7 x_bad = x_iret := rfl
def tX9_isArc : List PT := [x_iload 1 1, x_if (fun a => a < 0) 19, x_bad, x_bad, x_iload 1 1, x_aload 0 1, x_getR 9 1, x_bad, x_bad, x_getI 3 1, x_bad, x_bad, x_icmp (fun a b => b ≤ a) 19, x_bad, x_bad, x_push (.int (nI 1)) 1, x_goto 20, x_bad, x_bad, x_push (.int (nI 0)) 1, x_zret]
set_option maxRecDepth 20000 in
theorem okX9_isArc : SndT RX9 cX9_isArc mX9_isArc.2.2.1 mX9_isArc.2.2.2.2.1 mX9_isArc.2.2.2.2.2 false mX9_isArc.2.2.2.1 0 tX9_isArc := ⟨s_iload_n (k := 1) (i := 1) (by decide +kernel) rfl, s_if_lt (off := 18) (by decide +kernel) (by decide), s_bad, s_bad, s_iload_n (k := 1) (i := 1) (by decide +kernel) rfl, s_aload_n (k := 0) (i := 0) (by decide +kernel) rfl, s_getR (by decide +kernel) fl_RX9_19 rfl, s_bad, s_bad, s_getI (by decide +kernel) fl_RX9_107 rfl, s_bad, s_bad, s_icmp_ge (off := 7) (by decide +kernel) (by decide), s_bad, s_bad, s_iconst (n := 1) (by decide +kernel) (by decide +kernel), s_goto (off := 4) (by decide +kernel) (by decide), s_bad, s_bad, s_iconst (n := 0) (by decide +kernel) (by decide +kernel), s_zret (by decide +kernel) rfl, trivial⟩
theorem kX9_isArc_0 : List.getD tX9_isArc 0 x_bad = x_iload 1 1 := rfl
theorem kX9_isArc_1 : List.getD tX9_isArc 1 x_bad = x_if (fun a => a < 0) 19 := rfl
theorem kX9_isArc_4 : List.getD tX9_isArc 4 x_bad = x_iload 1 1 := rfl
theorem kX9_isArc_5 : List.getD tX9_isArc 5 x_bad = x_aload 0 1 := rfl
theorem kX9_isArc_6 : List.getD tX9_isArc 6 x_bad = x_getR 9 1 := rfl
theorem kX9_isArc_9 : List.getD tX9_isArc 9 x_bad = x_getI 3 1 := rfl
theorem kX9_isArc_12 : List.getD tX9_isArc 12 x_bad = x_icmp (fun a b => b ≤ a) 19 := rfl
theorem kX9_isArc_15 : List.getD tX9_isArc 15 x_bad = x_push (.int (nI 1)) 1 := rfl
theorem kX9_isArc_16 : List.getD tX9_isArc 16 x_bad = x_goto 20 := rfl
theorem kX9_isArc_19 : List.getD tX9_isArc 19 x_bad = x_push (.int (nI 0)) 1 := rfl
theorem kX9_isArc_20 : List.getD tX9_isArc 20 x_bad = x_zret := rfl
def tX9_isEvent : List PT := [x_iload 0 1, x_if (fun a => a < 0) 14, x_bad, x_bad, x_iload 0 1, x_push (.int (nI 8)) 2, x_bad, x_icmp (fun a b => b ≤ a) 14, x_bad, x_bad, x_push (.int (nI 1)) 1, x_goto 15, x_bad, x_bad, x_push (.int (nI 0)) 1, x_zret]
set_option maxRecDepth 20000 in
theorem okX9_isEvent : SndT RX9 cX9_isEvent mX9_isEvent.2.2.1 mX9_isEvent.2.2.2.2.1 mX9_isEvent.2.2.2.2.2 false mX9_isEvent.2.2.2.1 0 tX9_isEvent := ⟨s_iload_n (k := 0) (i := 0) (by decide +kernel) rfl, s_if_lt (off := 13) (by decide +kernel) (by decide), s_bad, s_bad, s_iload_n (k := 0) (i := 0) (by decide +kernel) rfl, s_bipush (n := 8) (by decide +kernel) (by decide +kernel), s_bad, s_icmp_ge (off := 7) (by decide +kernel) (by decide), s_bad, s_bad, s_iconst (n := 1) (by decide +kernel) (by decide +kernel), s_goto (off := 4) (by decide +kernel) (by decide), s_bad, s_bad, s_iconst (n := 0) (by decide +kernel) (by decide +kernel), s_zret (by decide +kernel) rfl, trivial⟩
theorem kX9_isEvent_0 : List.getD tX9_isEvent 0 x_bad = x_iload 0 1 := rfl
theorem kX9_isEvent_1 : List.getD tX9_isEvent 1 x_bad = x_if (fun a => a < 0) 14 := rfl
theorem kX9_isEvent_4 : List.getD tX9_isEvent 4 x_bad = x_iload 0 1 := rfl
theorem kX9_isEvent_5 : List.getD tX9_isEvent 5 x_bad = x_push (.int (nI 8)) 2 := rfl
theorem kX9_isEvent_7 : List.getD tX9_isEvent 7 x_bad = x_icmp (fun a b => b ≤ a) 14 := rfl
theorem kX9_isEvent_10 : List.getD tX9_isEvent 10 x_bad = x_push (.int (nI 1)) 1 := rfl
theorem kX9_isEvent_11 : List.getD tX9_isEvent 11 x_bad = x_goto 15 := rfl
theorem kX9_isEvent_14 : List.getD tX9_isEvent 14 x_bad = x_push (.int (nI 0)) 1 := rfl
theorem kX9_isEvent_15 : List.getD tX9_isEvent 15 x_bad = x_zret := rfl
def tX9_isState : List PT := [x_iload 1 1, x_if (fun a => a < 0) 19, x_bad, x_bad, x_iload 1 1, x_aload 0 1, x_getR 9 1, x_bad, x_bad, x_getI 3 0, x_bad, x_bad, x_icmp (fun a b => b ≤ a) 19, x_bad, x_bad, x_push (.int (nI 1)) 1, x_goto 20, x_bad, x_bad, x_push (.int (nI 0)) 1, x_zret]
set_option maxRecDepth 20000 in
theorem okX9_isState : SndT RX9 cX9_isState mX9_isState.2.2.1 mX9_isState.2.2.2.2.1 mX9_isState.2.2.2.2.2 false mX9_isState.2.2.2.1 0 tX9_isState := ⟨s_iload_n (k := 1) (i := 1) (by decide +kernel) rfl, s_if_lt (off := 18) (by decide +kernel) (by decide), s_bad, s_bad, s_iload_n (k := 1) (i := 1) (by decide +kernel) rfl, s_aload_n (k := 0) (i := 0) (by decide +kernel) rfl, s_getR (by decide +kernel) fl_RX9_19 rfl, s_bad, s_bad, s_getI (by decide +kernel) fl_RX9_100 rfl, s_bad, s_bad, s_icmp_ge (off := 7) (by decide +kernel) (by decide), s_bad, s_bad, s_iconst (n := 1) (by decide +kernel) (by decide +kernel), s_goto (off := 4) (by decide +kernel) (by decide), s_bad, s_bad, s_iconst (n := 0) (by decide +kernel) (by decide +kernel), s_zret (by decide +kernel) rfl, trivial⟩
theorem kX9_isState_0 : List.getD tX9_isState 0 x_bad = x_iload 1 1 := rfl
theorem kX9_isState_1 : List.getD tX9_isState 1 x_bad = x_if (fun a => a < 0) 19 := rfl
theorem kX9_isState_4 : List.getD tX9_isState 4 x_bad = x_iload 1 1 := rfl
theorem kX9_isState_5 : List.getD tX9_isState 5 x_bad = x_aload 0 1 := rfl
theorem kX9_isState_6 : List.getD tX9_isState 6 x_bad = x_getR 9 1 := rfl
theorem kX9_isState_9 : List.getD tX9_isState 9 x_bad = x_getI 3 0 := rfl
theorem kX9_isState_12 : List.getD tX9_isState 12 x_bad = x_icmp (fun a b => b ≤ a) 19 := rfl
theorem kX9_isState_15 : List.getD tX9_isState 15 x_bad = x_push (.int (nI 1)) 1 := rfl
theorem kX9_isState_16 : List.getD tX9_isState 16 x_bad = x_goto 20 := rfl
theorem kX9_isState_19 : List.getD tX9_isState 19 x_bad = x_push (.int (nI 0)) 1 := rfl
theorem kX9_isState_20 : List.getD tX9_isState 20 x_bad = x_zret := rfl
def tX9_arc : List PT := [x_aload 0 1, x_iload 1 1, x_callV1 9 mX9_isArc, x_bad, x_bad, x_ifn (fun a => a = 0) 10, x_bad, x_bad, x_push (.int (-1)) 1, x_iret, x_iload 2 1, x_tsw [36, 46, 56] 66, x_bad, x_bad, x_bad, x_bad, x_bad, x_bad, x_bad, x_bad, x_bad, x_bad, x_bad, x_bad, x_bad, x_bad, x_bad, x_bad, x_bad, x_bad, x_bad, x_bad, x_bad, x_bad, x_bad, x_bad, x_aload 0 1, x_getR 9 1, x_bad, x_bad, x_getR 3 2, x_bad, x_bad, x_iload 1 1, x_iald, x_iret, x_aload 0 1, x_getR 9 1, x_bad, x_bad, x_getR 3 3, x_bad, x_bad, x_iload 1 1, x_iald, x_iret, x_aload 0 1, x_getR 9 1, x_bad, x_bad, x_getR 3 4, x_bad, x_bad, x_iload 1 1, x_iald, x_iret, x_push (.int (-1)) 1, x_iret]
set_option maxRecDepth 20000 in
theorem okX9_arc : SndT RX9 cX9_arc mX9_arc.2.2.1 mX9_arc.2.2.2.2.1 mX9_arc.2.2.2.2.2 false mX9_arc.2.2.2.1 0 tX9_arc := ⟨s_aload_n (k := 0) (i := 0) (by decide +kernel) rfl, s_iload_n (k := 1) (i := 1) (by decide +kernel) rfl, s_callV1 (by decide +kernel) lv_RX9_113 ⟨by decide, by decide⟩, s_bad, s_bad, s_if_ne (off := 5) (by decide +kernel) (by decide), s_bad, s_bad, s_iconst (n := (-1)) (by decide +kernel) (by decide +kernel), s_iret (by decide +kernel) rfl, s_iload_n (k := 2) (i := 2) (by decide +kernel) rfl, s_tsw (dflt := 55) (hi := 2) (offs := #[25, 35, 45]) (len := 25) (by decide +kernel) (by decide) (by decide) (by decide) (by decide), s_bad, s_bad, s_bad, s_bad, s_bad, s_bad, s_bad, s_bad, s_bad, s_bad, s_bad, s_bad, s_bad, s_bad, s_bad, s_bad, s_bad, s_bad, s_bad, s_bad, s_bad, s_bad, s_bad, s_bad, s_aload_n (k := 0) (i := 0) (by decide +kernel) rfl, s_getR (by decide +kernel) fl_RX9_19 rfl, s_bad, s_bad, s_getR (by decide +kernel) fl_RX9_120 rfl, s_bad, s_bad, s_iload_n (k := 1) (i := 1) (by decide +kernel) rfl, s_iald (by decide +kernel), s_iret (by decide +kernel) rfl, s_aload_n (k := 0) (i := 0) (by decide +kernel) rfl, s_getR (by decide +kernel) fl_RX9_19 rfl, s_bad, s_bad, s_getR (by decide +kernel) fl_RX9_124 rfl, s_bad, s_bad, s_iload_n (k := 1) (i := 1) (by decide +kernel) rfl, s_iald (by decide +kernel), s_iret (by decide +kernel) rfl, s_aload_n (k := 0) (i := 0) (by decide +kernel) rfl, s_getR (by decide +kernel) fl_RX9_19 rfl, s_bad, s_bad, s_getR (by decide +kernel) fl_RX9_127 rfl, s_bad, s_bad, s_iload_n (k := 1) (i := 1) (by decide +kernel) rfl, s_iald (by decide +kernel), s_iret (by decide +kernel) rfl, s_iconst (n := (-1)) (by decide +kernel) (by decide +kernel), s_iret (by decide +kernel) rfl, trivial⟩
theorem kX9_arc_0 : List.getD tX9_arc 0 x_bad = x_aload 0 1 := rfl
theorem kX9_arc_1 : List.getD tX9_arc 1 x_bad = x_iload 1 1 := rfl
theorem kX9_arc_2 : List.getD tX9_arc 2 x_bad = x_callV1 9 mX9_isArc := rfl
theorem kX9_arc_5 : List.getD tX9_arc 5 x_bad = x_ifn (fun a => a = 0) 10 := rfl
theorem kX9_arc_8 : List.getD tX9_arc 8 x_bad = x_push (.int (-1)) 1 := rfl
theorem kX9_arc_9 : List.getD tX9_arc 9 x_bad = x_iret := rfl
theorem kX9_arc_10 : List.getD tX9_arc 10 x_bad = x_iload 2 1 := rfl
theorem kX9_arc_11 : List.getD tX9_arc 11 x_bad = x_tsw [36, 46, 56] 66 := rfl
theorem kX9_arc_36 : List.getD tX9_arc 36 x_bad = x_aload 0 1 := rfl
theorem kX9_arc_37 : List.getD tX9_arc 37 x_bad = x_getR 9 1 := rfl
theorem kX9_arc_40 : List.getD tX9_arc 40 x_bad = x_getR 3 2 := rfl
theorem kX9_arc_43 : List.getD tX9_arc 43 x_bad = x_iload 1 1 := rfl
theorem kX9_arc_44 : List.getD tX9_arc 44 x_bad = x_iald := rfl
theorem kX9_arc_45 : List.getD tX9_arc 45 x_bad = x_iret := rfl
theorem kX9_arc_46 : List.getD tX9_arc 46 x_bad = x_aload 0 1 := rfl
theorem kX9_arc_47 : List.getD tX9_arc 47 x_bad = x_getR 9 1 := rfl
theorem kX9_arc_50 : List.getD tX9_arc 50 x_bad = x_getR 3 3 := rfl
theorem kX9_arc_53 : List.getD tX9_arc 53 x_bad = x_iload 1 1 := rfl
theorem kX9_arc_54 : List.getD tX9_arc 54 x_bad = x_iald := rfl
theorem kX9_arc_55 : List.getD tX9_arc 55 x_bad = x_iret := rfl
theorem kX9_arc_56 : List.getD tX9_arc 56 x_bad = x_aload 0 1 := rfl
theorem kX9_arc_57 : List.getD tX9_arc 57 x_bad = x_getR 9 1 := rfl
theorem kX9_arc_60 : List.getD tX9_arc 60 x_bad = x_getR 3 4 := rfl
theorem kX9_arc_63 : List.getD tX9_arc 63 x_bad = x_iload 1 1 := rfl
theorem kX9_arc_64 : List.getD tX9_arc 64 x_bad = x_iald := rfl
theorem kX9_arc_65 : List.getD tX9_arc 65 x_bad = x_iret := rfl
theorem kX9_arc_66 : List.getD tX9_arc 66 x_bad = x_push (.int (-1)) 1 := rfl
theorem kX9_arc_67 : List.getD tX9_arc 67 x_bad = x_iret := rfl
def tX9_arcRefusal : List PT := [x_aload 0 1, x_iload 1 1, x_callV1 9 mX9_isState, x_bad, x_bad, x_if (fun a => a = 0) 23, x_bad, x_bad, x_iload 2 1, x_callS1 mX9_isEvent, x_bad, x_bad, x_if (fun a => a = 0) 23, x_bad, x_bad, x_aload 0 1, x_iload 3 1, x_callV1 9 mX9_isState, x_bad, x_bad, x_ifn (fun a => a = 0) 25, x_bad, x_bad, x_push (.int (-1)) 1, x_iret, x_aload 0 1, x_getR 9 1, x_bad, x_bad, x_iload 1 1, x_iload 2 1, x_callV2 3 mX3_target, x_bad, x_bad, x_if (fun a => a < 0) 40, x_bad, x_bad, x_push (.int (-2)) 2, x_bad, x_iret, x_aload 0 1, x_getR 9 1, x_bad, x_bad, x_getI 3 1, x_bad, x_bad, x_push (.int (nI 24)) 2, x_bad, x_icmp (fun a b => a < b) 57, x_bad, x_bad, x_push (.int (-3)) 2, x_bad, x_goto 58, x_bad, x_bad, x_push (.int (nI 0)) 1, x_iret]
set_option maxRecDepth 20000 in
theorem okX9_arcRefusal : SndT RX9 cX9_arcRefusal mX9_arcRefusal.2.2.1 mX9_arcRefusal.2.2.2.2.1 mX9_arcRefusal.2.2.2.2.2 false mX9_arcRefusal.2.2.2.1 0 tX9_arcRefusal := ⟨s_aload_n (k := 0) (i := 0) (by decide +kernel) rfl, s_iload_n (k := 1) (i := 1) (by decide +kernel) rfl, s_callV1 (by decide +kernel) lv_RX9_130 ⟨by decide, by decide⟩, s_bad, s_bad, s_if_eq (off := 18) (by decide +kernel) (by decide), s_bad, s_bad, s_iload_n (k := 2) (i := 2) (by decide +kernel) rfl, s_callS1 (by decide +kernel) ls_RX9_133 ⟨by decide, by decide⟩, s_bad, s_bad, s_if_eq (off := 11) (by decide +kernel) (by decide), s_bad, s_bad, s_aload_n (k := 0) (i := 0) (by decide +kernel) rfl, s_iload_n (k := 3) (i := 3) (by decide +kernel) rfl, s_callV1 (by decide +kernel) lv_RX9_130 ⟨by decide, by decide⟩, s_bad, s_bad, s_if_ne (off := 5) (by decide +kernel) (by decide), s_bad, s_bad, s_iconst (n := (-1)) (by decide +kernel) (by decide +kernel), s_iret (by decide +kernel) rfl, s_aload_n (k := 0) (i := 0) (by decide +kernel) rfl, s_getR (by decide +kernel) fl_RX9_19 rfl, s_bad, s_bad, s_iload_n (k := 1) (i := 1) (by decide +kernel) rfl, s_iload_n (k := 2) (i := 2) (by decide +kernel) rfl, s_callV2 (by decide +kernel) lv_RX9_136 ⟨by decide, by decide⟩, s_bad, s_bad, s_if_lt (off := 6) (by decide +kernel) (by decide), s_bad, s_bad, s_bipush (n := (-2)) (by decide +kernel) (by decide +kernel), s_bad, s_iret (by decide +kernel) rfl, s_aload_n (k := 0) (i := 0) (by decide +kernel) rfl, s_getR (by decide +kernel) fl_RX9_19 rfl, s_bad, s_bad, s_getI (by decide +kernel) fl_RX9_107 rfl, s_bad, s_bad, s_bipush (n := 24) (by decide +kernel) (by decide +kernel), s_bad, s_icmp_lt (off := 8) (by decide +kernel) (by decide), s_bad, s_bad, s_bipush (n := (-3)) (by decide +kernel) (by decide +kernel), s_bad, s_goto (off := 4) (by decide +kernel) (by decide), s_bad, s_bad, s_iconst (n := 0) (by decide +kernel) (by decide +kernel), s_iret (by decide +kernel) rfl, trivial⟩
theorem kX9_arcRefusal_0 : List.getD tX9_arcRefusal 0 x_bad = x_aload 0 1 := rfl
theorem kX9_arcRefusal_1 : List.getD tX9_arcRefusal 1 x_bad = x_iload 1 1 := rfl
theorem kX9_arcRefusal_2 : List.getD tX9_arcRefusal 2 x_bad = x_callV1 9 mX9_isState := rfl
theorem kX9_arcRefusal_5 : List.getD tX9_arcRefusal 5 x_bad = x_if (fun a => a = 0) 23 := rfl
theorem kX9_arcRefusal_8 : List.getD tX9_arcRefusal 8 x_bad = x_iload 2 1 := rfl
theorem kX9_arcRefusal_9 : List.getD tX9_arcRefusal 9 x_bad = x_callS1 mX9_isEvent := rfl
theorem kX9_arcRefusal_12 : List.getD tX9_arcRefusal 12 x_bad = x_if (fun a => a = 0) 23 := rfl
theorem kX9_arcRefusal_15 : List.getD tX9_arcRefusal 15 x_bad = x_aload 0 1 := rfl
theorem kX9_arcRefusal_16 : List.getD tX9_arcRefusal 16 x_bad = x_iload 3 1 := rfl
theorem kX9_arcRefusal_17 : List.getD tX9_arcRefusal 17 x_bad = x_callV1 9 mX9_isState := rfl
theorem kX9_arcRefusal_20 : List.getD tX9_arcRefusal 20 x_bad = x_ifn (fun a => a = 0) 25 := rfl
theorem kX9_arcRefusal_23 : List.getD tX9_arcRefusal 23 x_bad = x_push (.int (-1)) 1 := rfl
theorem kX9_arcRefusal_24 : List.getD tX9_arcRefusal 24 x_bad = x_iret := rfl
theorem kX9_arcRefusal_25 : List.getD tX9_arcRefusal 25 x_bad = x_aload 0 1 := rfl
theorem kX9_arcRefusal_26 : List.getD tX9_arcRefusal 26 x_bad = x_getR 9 1 := rfl
theorem kX9_arcRefusal_29 : List.getD tX9_arcRefusal 29 x_bad = x_iload 1 1 := rfl
theorem kX9_arcRefusal_30 : List.getD tX9_arcRefusal 30 x_bad = x_iload 2 1 := rfl
theorem kX9_arcRefusal_31 : List.getD tX9_arcRefusal 31 x_bad = x_callV2 3 mX3_target := rfl
theorem kX9_arcRefusal_34 : List.getD tX9_arcRefusal 34 x_bad = x_if (fun a => a < 0) 40 := rfl
theorem kX9_arcRefusal_37 : List.getD tX9_arcRefusal 37 x_bad = x_push (.int (-2)) 2 := rfl
theorem kX9_arcRefusal_39 : List.getD tX9_arcRefusal 39 x_bad = x_iret := rfl
theorem kX9_arcRefusal_40 : List.getD tX9_arcRefusal 40 x_bad = x_aload 0 1 := rfl
theorem kX9_arcRefusal_41 : List.getD tX9_arcRefusal 41 x_bad = x_getR 9 1 := rfl
theorem kX9_arcRefusal_44 : List.getD tX9_arcRefusal 44 x_bad = x_getI 3 1 := rfl
theorem kX9_arcRefusal_47 : List.getD tX9_arcRefusal 47 x_bad = x_push (.int (nI 24)) 2 := rfl
theorem kX9_arcRefusal_49 : List.getD tX9_arcRefusal 49 x_bad = x_icmp (fun a b => a < b) 57 := rfl
theorem kX9_arcRefusal_52 : List.getD tX9_arcRefusal 52 x_bad = x_push (.int (-3)) 2 := rfl
theorem kX9_arcRefusal_54 : List.getD tX9_arcRefusal 54 x_bad = x_goto 58 := rfl
theorem kX9_arcRefusal_57 : List.getD tX9_arcRefusal 57 x_bad = x_push (.int (nI 0)) 1 := rfl
theorem kX9_arcRefusal_58 : List.getD tX9_arcRefusal 58 x_bad = x_iret := rfl
def tX9_count : List PT := [x_iload 1 1, x_tsw [44, 52, 60, 71, 82, 90, 98] 106, x_bad, x_bad, x_bad, x_bad, x_bad, x_bad, x_bad, x_bad, x_bad, x_bad, x_bad, x_bad, x_bad, x_bad, x_bad, x_bad, x_bad, x_bad, x_bad, x_bad, x_bad, x_bad, x_bad, x_bad, x_bad, x_bad, x_bad, x_bad, x_bad, x_bad, x_bad, x_bad, x_bad, x_bad, x_bad, x_bad, x_bad, x_bad, x_bad, x_bad, x_bad, x_bad, x_aload 0 1, x_getR 9 1, x_bad, x_bad, x_getI 3 0, x_bad, x_bad, x_iret, x_aload 0 1, x_getR 9 1, x_bad, x_bad, x_getI 3 1, x_bad, x_bad, x_iret, x_aload 0 1, x_getR 9 1, x_bad, x_bad, x_callV0 3 mX3_usedEvents, x_bad, x_bad, x_callS1 mJ6_bitCount_0f7a4, x_bad, x_bad, x_iret, x_aload 0 1, x_getR 9 1, x_bad, x_bad, x_callV0 3 mX3_reachableStates, x_bad, x_bad, x_callS1 mJ6_bitCount_0f7a4, x_bad, x_bad, x_iret, x_aload 0 1, x_getR 9 2, x_bad, x_bad, x_getI 7 0, x_bad, x_bad, x_iret, x_aload 0 1, x_getR 9 0, x_bad, x_bad, x_getI 8 1, x_bad, x_bad, x_iret, x_aload 0 1, x_getR 9 3, x_bad, x_bad, x_getI 4 3, x_bad, x_bad, x_iret, x_push (.int (-1)) 1, x_iret]
set_option maxRecDepth 20000 in
theorem okX9_count : SndT RX9 cX9_count mX9_count.2.2.1 mX9_count.2.2.2.2.1 mX9_count.2.2.2.2.2 false mX9_count.2.2.2.1 0 tX9_count := ⟨s_iload_n (k := 1) (i := 1) (by decide +kernel) rfl, s_tsw (dflt := 105) (hi := 6) (offs := #[43, 51, 59, 70, 81, 89, 97]) (len := 43) (by decide +kernel) (by decide) (by decide) (by decide) (by decide), s_bad, s_bad, s_bad, s_bad, s_bad, s_bad, s_bad, s_bad, s_bad, s_bad, s_bad, s_bad, s_bad, s_bad, s_bad, s_bad, s_bad, s_bad, s_bad, s_bad, s_bad, s_bad, s_bad, s_bad, s_bad, s_bad, s_bad, s_bad, s_bad, s_bad, s_bad, s_bad, s_bad, s_bad, s_bad, s_bad, s_bad, s_bad, s_bad, s_bad, s_bad, s_bad, s_aload_n (k := 0) (i := 0) (by decide +kernel) rfl, s_getR (by decide +kernel) fl_RX9_19 rfl, s_bad, s_bad, s_getI (by decide +kernel) fl_RX9_100 rfl, s_bad, s_bad, s_iret (by decide +kernel) rfl, s_aload_n (k := 0) (i := 0) (by decide +kernel) rfl, s_getR (by decide +kernel) fl_RX9_19 rfl, s_bad, s_bad, s_getI (by decide +kernel) fl_RX9_107 rfl, s_bad, s_bad, s_iret (by decide +kernel) rfl, s_aload_n (k := 0) (i := 0) (by decide +kernel) rfl, s_getR (by decide +kernel) fl_RX9_19 rfl, s_bad, s_bad, s_callV0 (by decide +kernel) lv_RX9_271 ⟨by decide, by decide⟩, s_bad, s_bad, s_callS1 (by decide +kernel) ls_RX9_274 ⟨by decide, by decide⟩, s_bad, s_bad, s_iret (by decide +kernel) rfl, s_aload_n (k := 0) (i := 0) (by decide +kernel) rfl, s_getR (by decide +kernel) fl_RX9_19 rfl, s_bad, s_bad, s_callV0 (by decide +kernel) lv_RX9_279 ⟨by decide, by decide⟩, s_bad, s_bad, s_callS1 (by decide +kernel) ls_RX9_274 ⟨by decide, by decide⟩, s_bad, s_bad, s_iret (by decide +kernel) rfl, s_aload_n (k := 0) (i := 0) (by decide +kernel) rfl, s_getR (by decide +kernel) fl_RX9_26 rfl, s_bad, s_bad, s_getI (by decide +kernel) fl_RX9_257 rfl, s_bad, s_bad, s_iret (by decide +kernel) rfl, s_aload_n (k := 0) (i := 0) (by decide +kernel) rfl, s_getR (by decide +kernel) fl_RX9_10 rfl, s_bad, s_bad, s_getI (by decide +kernel) fl_RX9_75 rfl, s_bad, s_bad, s_iret (by decide +kernel) rfl, s_aload_n (k := 0) (i := 0) (by decide +kernel) rfl, s_getR (by decide +kernel) fl_RX9_33 rfl, s_bad, s_bad, s_getI (by decide +kernel) fl_RX9_266 rfl, s_bad, s_bad, s_iret (by decide +kernel) rfl, s_iconst (n := (-1)) (by decide +kernel) (by decide +kernel), s_iret (by decide +kernel) rfl, trivial⟩
theorem kX9_count_0 : List.getD tX9_count 0 x_bad = x_iload 1 1 := rfl
theorem kX9_count_1 : List.getD tX9_count 1 x_bad = x_tsw [44, 52, 60, 71, 82, 90, 98] 106 := rfl
theorem kX9_count_44 : List.getD tX9_count 44 x_bad = x_aload 0 1 := rfl
theorem kX9_count_45 : List.getD tX9_count 45 x_bad = x_getR 9 1 := rfl
theorem kX9_count_48 : List.getD tX9_count 48 x_bad = x_getI 3 0 := rfl
theorem kX9_count_51 : List.getD tX9_count 51 x_bad = x_iret := rfl
theorem kX9_count_52 : List.getD tX9_count 52 x_bad = x_aload 0 1 := rfl
theorem kX9_count_53 : List.getD tX9_count 53 x_bad = x_getR 9 1 := rfl
theorem kX9_count_56 : List.getD tX9_count 56 x_bad = x_getI 3 1 := rfl
theorem kX9_count_59 : List.getD tX9_count 59 x_bad = x_iret := rfl
theorem kX9_count_60 : List.getD tX9_count 60 x_bad = x_aload 0 1 := rfl
theorem kX9_count_61 : List.getD tX9_count 61 x_bad = x_getR 9 1 := rfl
theorem kX9_count_64 : List.getD tX9_count 64 x_bad = x_callV0 3 mX3_usedEvents := rfl
theorem kX9_count_67 : List.getD tX9_count 67 x_bad = x_callS1 mJ6_bitCount_0f7a4 := rfl
theorem kX9_count_70 : List.getD tX9_count 70 x_bad = x_iret := rfl
theorem kX9_count_71 : List.getD tX9_count 71 x_bad = x_aload 0 1 := rfl
theorem kX9_count_72 : List.getD tX9_count 72 x_bad = x_getR 9 1 := rfl
theorem kX9_count_75 : List.getD tX9_count 75 x_bad = x_callV0 3 mX3_reachableStates := rfl
theorem kX9_count_78 : List.getD tX9_count 78 x_bad = x_callS1 mJ6_bitCount_0f7a4 := rfl
theorem kX9_count_81 : List.getD tX9_count 81 x_bad = x_iret := rfl
theorem kX9_count_82 : List.getD tX9_count 82 x_bad = x_aload 0 1 := rfl
theorem kX9_count_83 : List.getD tX9_count 83 x_bad = x_getR 9 2 := rfl
theorem kX9_count_86 : List.getD tX9_count 86 x_bad = x_getI 7 0 := rfl
theorem kX9_count_89 : List.getD tX9_count 89 x_bad = x_iret := rfl
theorem kX9_count_90 : List.getD tX9_count 90 x_bad = x_aload 0 1 := rfl
theorem kX9_count_91 : List.getD tX9_count 91 x_bad = x_getR 9 0 := rfl
theorem kX9_count_94 : List.getD tX9_count 94 x_bad = x_getI 8 1 := rfl
theorem kX9_count_97 : List.getD tX9_count 97 x_bad = x_iret := rfl
theorem kX9_count_98 : List.getD tX9_count 98 x_bad = x_aload 0 1 := rfl
theorem kX9_count_99 : List.getD tX9_count 99 x_bad = x_getR 9 3 := rfl
theorem kX9_count_102 : List.getD tX9_count 102 x_bad = x_getI 4 3 := rfl
theorem kX9_count_105 : List.getD tX9_count 105 x_bad = x_iret := rfl
theorem kX9_count_106 : List.getD tX9_count 106 x_bad = x_push (.int (-1)) 1 := rfl
theorem kX9_count_107 : List.getD tX9_count 107 x_bad = x_iret := rfl
def tX9_currentMarking : List PT := [x_aload 0 1, x_getR 9 2, x_bad, x_bad, x_getI 7 0, x_bad, x_bad, x_ifn (fun a => a = 0) 27, x_bad, x_bad, x_aload 0 1, x_getR 9 2, x_bad, x_bad, x_getR 7 1, x_bad, x_bad, x_aload 0 1, x_getR 9 5, x_bad, x_bad, x_getR 5 5, x_bad, x_bad, x_callV1 1 mX1_become, x_bad, x_bad, x_aload 0 1, x_getR 9 2, x_bad, x_bad, x_getR 7 1, x_bad, x_bad, x_aret]
set_option maxRecDepth 20000 in
theorem okX9_currentMarking : SndT RX9 cX9_currentMarking mX9_currentMarking.2.2.1 mX9_currentMarking.2.2.2.2.1 mX9_currentMarking.2.2.2.2.2 false mX9_currentMarking.2.2.2.1 0 tX9_currentMarking := ⟨s_aload_n (k := 0) (i := 0) (by decide +kernel) rfl, s_getR (by decide +kernel) fl_RX9_26 rfl, s_bad, s_bad, s_getI (by decide +kernel) fl_RX9_257 rfl, s_bad, s_bad, s_if_ne (off := 20) (by decide +kernel) (by decide), s_bad, s_bad, s_aload_n (k := 0) (i := 0) (by decide +kernel) rfl, s_getR (by decide +kernel) fl_RX9_26 rfl, s_bad, s_bad, s_getR (by decide +kernel) fl_RX9_337 rfl, s_bad, s_bad, s_aload_n (k := 0) (i := 0) (by decide +kernel) rfl, s_getR (by decide +kernel) fl_RX9_47 rfl, s_bad, s_bad, s_getR (by decide +kernel) fl_RX9_341 rfl, s_bad, s_bad, s_callV1 (by decide +kernel) lv_RX9_344 ⟨by decide, by decide⟩, s_bad, s_bad, s_aload_n (k := 0) (i := 0) (by decide +kernel) rfl, s_getR (by decide +kernel) fl_RX9_26 rfl, s_bad, s_bad, s_getR (by decide +kernel) fl_RX9_337 rfl, s_bad, s_bad, s_aret (by decide +kernel) rfl, trivial⟩
theorem kX9_currentMarking_0 : List.getD tX9_currentMarking 0 x_bad = x_aload 0 1 := rfl
theorem kX9_currentMarking_1 : List.getD tX9_currentMarking 1 x_bad = x_getR 9 2 := rfl
theorem kX9_currentMarking_4 : List.getD tX9_currentMarking 4 x_bad = x_getI 7 0 := rfl
theorem kX9_currentMarking_7 : List.getD tX9_currentMarking 7 x_bad = x_ifn (fun a => a = 0) 27 := rfl
theorem kX9_currentMarking_10 : List.getD tX9_currentMarking 10 x_bad = x_aload 0 1 := rfl
theorem kX9_currentMarking_11 : List.getD tX9_currentMarking 11 x_bad = x_getR 9 2 := rfl
theorem kX9_currentMarking_14 : List.getD tX9_currentMarking 14 x_bad = x_getR 7 1 := rfl
theorem kX9_currentMarking_17 : List.getD tX9_currentMarking 17 x_bad = x_aload 0 1 := rfl
theorem kX9_currentMarking_18 : List.getD tX9_currentMarking 18 x_bad = x_getR 9 5 := rfl
theorem kX9_currentMarking_21 : List.getD tX9_currentMarking 21 x_bad = x_getR 5 5 := rfl
theorem kX9_currentMarking_24 : List.getD tX9_currentMarking 24 x_bad = x_callV1 1 mX1_become := rfl
theorem kX9_currentMarking_27 : List.getD tX9_currentMarking 27 x_bad = x_aload 0 1 := rfl
theorem kX9_currentMarking_28 : List.getD tX9_currentMarking 28 x_bad = x_getR 9 2 := rfl
theorem kX9_currentMarking_31 : List.getD tX9_currentMarking 31 x_bad = x_getR 7 1 := rfl
theorem kX9_currentMarking_34 : List.getD tX9_currentMarking 34 x_bad = x_aret := rfl
def tX9_isStateSet : List PT := [x_iload 1 1, x_if (fun a => a < 0) 19, x_bad, x_bad, x_iload 1 1, x_aload 0 1, x_getR 9 1, x_bad, x_bad, x_callV0 3 mX3_allStates, x_bad, x_bad, x_icmp (fun a b => b < a) 19, x_bad, x_bad, x_push (.int (nI 1)) 1, x_goto 20, x_bad, x_bad, x_push (.int (nI 0)) 1, x_zret]
set_option maxRecDepth 20000 in
theorem okX9_isStateSet : SndT RX9 cX9_isStateSet mX9_isStateSet.2.2.1 mX9_isStateSet.2.2.2.2.1 mX9_isStateSet.2.2.2.2.2 false mX9_isStateSet.2.2.2.1 0 tX9_isStateSet := ⟨s_iload_n (k := 1) (i := 1) (by decide +kernel) rfl, s_if_lt (off := 18) (by decide +kernel) (by decide), s_bad, s_bad, s_iload_n (k := 1) (i := 1) (by decide +kernel) rfl, s_aload_n (k := 0) (i := 0) (by decide +kernel) rfl, s_getR (by decide +kernel) fl_RX9_19 rfl, s_bad, s_bad, s_callV0 (by decide +kernel) lv_RX9_320 ⟨by decide, by decide⟩, s_bad, s_bad, s_icmp_gt (off := 7) (by decide +kernel) (by decide), s_bad, s_bad, s_iconst (n := 1) (by decide +kernel) (by decide +kernel), s_goto (off := 4) (by decide +kernel) (by decide), s_bad, s_bad, s_iconst (n := 0) (by decide +kernel) (by decide +kernel), s_zret (by decide +kernel) rfl, trivial⟩
theorem kX9_isStateSet_0 : List.getD tX9_isStateSet 0 x_bad = x_iload 1 1 := rfl
theorem kX9_isStateSet_1 : List.getD tX9_isStateSet 1 x_bad = x_if (fun a => a < 0) 19 := rfl
theorem kX9_isStateSet_4 : List.getD tX9_isStateSet 4 x_bad = x_iload 1 1 := rfl
theorem kX9_isStateSet_5 : List.getD tX9_isStateSet 5 x_bad = x_aload 0 1 := rfl
theorem kX9_isStateSet_6 : List.getD tX9_isStateSet 6 x_bad = x_getR 9 1 := rfl
theorem kX9_isStateSet_9 : List.getD tX9_isStateSet 9 x_bad = x_callV0 3 mX3_allStates := rfl
theorem kX9_isStateSet_12 : List.getD tX9_isStateSet 12 x_bad = x_icmp (fun a b => b < a) 19 := rfl
theorem kX9_isStateSet_15 : List.getD tX9_isStateSet 15 x_bad = x_push (.int (nI 1)) 1 := rfl
theorem kX9_isStateSet_16 : List.getD tX9_isStateSet 16 x_bad = x_goto 20 := rfl
theorem kX9_isStateSet_19 : List.getD tX9_isStateSet 19 x_bad = x_push (.int (nI 0)) 1 := rfl
theorem kX9_isStateSet_20 : List.getD tX9_isStateSet 20 x_bad = x_zret := rfl
def tX9_next : List PT := [x_aload 0 1, x_iload 1 1, x_callV1 9 mX9_isState, x_bad, x_bad, x_if (fun a => a = 0) 15, x_bad, x_bad, x_iload 2 1, x_callS1 mX9_isEvent, x_bad, x_bad, x_ifn (fun a => a = 0) 17, x_bad, x_bad, x_push (.int (-1)) 1, x_iret, x_aload 0 1, x_getR 9 1, x_bad, x_bad, x_iload 1 1, x_iload 2 1, x_callV2 3 mX3_target, x_bad, x_bad, x_istore 3 1, x_iload 3 1, x_if (fun a => 0 ≤ a) 36, x_bad, x_bad, x_push (.int (-9)) 2, x_bad, x_goto 37, x_bad, x_bad, x_iload 3 1, x_iret]
set_option maxRecDepth 20000 in
theorem okX9_next : SndT RX9 cX9_next mX9_next.2.2.1 mX9_next.2.2.2.2.1 mX9_next.2.2.2.2.2 false mX9_next.2.2.2.1 0 tX9_next := ⟨s_aload_n (k := 0) (i := 0) (by decide +kernel) rfl, s_iload_n (k := 1) (i := 1) (by decide +kernel) rfl, s_callV1 (by decide +kernel) lv_RX9_130 ⟨by decide, by decide⟩, s_bad, s_bad, s_if_eq (off := 10) (by decide +kernel) (by decide), s_bad, s_bad, s_iload_n (k := 2) (i := 2) (by decide +kernel) rfl, s_callS1 (by decide +kernel) ls_RX9_133 ⟨by decide, by decide⟩, s_bad, s_bad, s_if_ne (off := 5) (by decide +kernel) (by decide), s_bad, s_bad, s_iconst (n := (-1)) (by decide +kernel) (by decide +kernel), s_iret (by decide +kernel) rfl, s_aload_n (k := 0) (i := 0) (by decide +kernel) rfl, s_getR (by decide +kernel) fl_RX9_19 rfl, s_bad, s_bad, s_iload_n (k := 1) (i := 1) (by decide +kernel) rfl, s_iload_n (k := 2) (i := 2) (by decide +kernel) rfl, s_callV2 (by decide +kernel) lv_RX9_136 ⟨by decide, by decide⟩, s_bad, s_bad, s_istore_n (k := 3) (i := 3) (by decide +kernel) rfl (by decide), s_iload_n (k := 3) (i := 3) (by decide +kernel) rfl, s_if_ge (off := 8) (by decide +kernel) (by decide), s_bad, s_bad, s_bipush (n := (-9)) (by decide +kernel) (by decide +kernel), s_bad, s_goto (off := 4) (by decide +kernel) (by decide), s_bad, s_bad, s_iload_n (k := 3) (i := 3) (by decide +kernel) rfl, s_iret (by decide +kernel) rfl, trivial⟩
theorem kX9_next_0 : List.getD tX9_next 0 x_bad = x_aload 0 1 := rfl
theorem kX9_next_1 : List.getD tX9_next 1 x_bad = x_iload 1 1 := rfl
theorem kX9_next_2 : List.getD tX9_next 2 x_bad = x_callV1 9 mX9_isState := rfl
theorem kX9_next_5 : List.getD tX9_next 5 x_bad = x_if (fun a => a = 0) 15 := rfl
theorem kX9_next_8 : List.getD tX9_next 8 x_bad = x_iload 2 1 := rfl
theorem kX9_next_9 : List.getD tX9_next 9 x_bad = x_callS1 mX9_isEvent := rfl
theorem kX9_next_12 : List.getD tX9_next 12 x_bad = x_ifn (fun a => a = 0) 17 := rfl
theorem kX9_next_15 : List.getD tX9_next 15 x_bad = x_push (.int (-1)) 1 := rfl
theorem kX9_next_16 : List.getD tX9_next 16 x_bad = x_iret := rfl
theorem kX9_next_17 : List.getD tX9_next 17 x_bad = x_aload 0 1 := rfl
theorem kX9_next_18 : List.getD tX9_next 18 x_bad = x_getR 9 1 := rfl
theorem kX9_next_21 : List.getD tX9_next 21 x_bad = x_iload 1 1 := rfl
theorem kX9_next_22 : List.getD tX9_next 22 x_bad = x_iload 2 1 := rfl
theorem kX9_next_23 : List.getD tX9_next 23 x_bad = x_callV2 3 mX3_target := rfl
theorem kX9_next_26 : List.getD tX9_next 26 x_bad = x_istore 3 1 := rfl
theorem kX9_next_27 : List.getD tX9_next 27 x_bad = x_iload 3 1 := rfl
theorem kX9_next_28 : List.getD tX9_next 28 x_bad = x_if (fun a => 0 ≤ a) 36 := rfl
theorem kX9_next_31 : List.getD tX9_next 31 x_bad = x_push (.int (-9)) 2 := rfl
theorem kX9_next_33 : List.getD tX9_next 33 x_bad = x_goto 37 := rfl
theorem kX9_next_36 : List.getD tX9_next 36 x_bad = x_iload 3 1 := rfl
theorem kX9_next_37 : List.getD tX9_next 37 x_bad = x_iret := rfl
def tX9_type : List PT := [x_iload 1 1, x_push (.int (nI 32)) 2, x_bad, x_icmp (fun a b => a < b) 12, x_bad, x_bad, x_iload 1 1, x_push (.int (nI 126)) 2, x_bad, x_icmp (fun a b => a ≤ b) 14, x_bad, x_bad, x_push (.int (-1)) 1, x_iret, x_aload 0 1, x_getR 9 0, x_bad, x_bad, x_getI 8 1, x_bad, x_bad, x_push (.int (nI 80)) 2, x_bad, x_icmp (fun a b => a < b) 29, x_bad, x_bad, x_push (.int (-3)) 2, x_bad, x_iret, x_aload 0 1, x_getR 9 0, x_bad, x_bad, x_iload 1 1, x_callV1 8 mX8_append, x_bad, x_bad, x_aload 0 1, x_getR 9 0, x_bad, x_bad, x_getI 8 1, x_bad, x_bad, x_iret]
set_option maxRecDepth 20000 in
theorem okX9_type : SndT RX9 cX9_type mX9_type.2.2.1 mX9_type.2.2.2.2.1 mX9_type.2.2.2.2.2 false mX9_type.2.2.2.1 0 tX9_type := ⟨s_iload_n (k := 1) (i := 1) (by decide +kernel) rfl, s_bipush (n := 32) (by decide +kernel) (by decide +kernel), s_bad, s_icmp_lt (off := 9) (by decide +kernel) (by decide), s_bad, s_bad, s_iload_n (k := 1) (i := 1) (by decide +kernel) rfl, s_bipush (n := 126) (by decide +kernel) (by decide +kernel), s_bad, s_icmp_le (off := 5) (by decide +kernel) (by decide), s_bad, s_bad, s_iconst (n := (-1)) (by decide +kernel) (by decide +kernel), s_iret (by decide +kernel) rfl, s_aload_n (k := 0) (i := 0) (by decide +kernel) rfl, s_getR (by decide +kernel) fl_RX9_10 rfl, s_bad, s_bad, s_getI (by decide +kernel) fl_RX9_75 rfl, s_bad, s_bad, s_bipush (n := 80) (by decide +kernel) (by decide +kernel), s_bad, s_icmp_lt (off := 6) (by decide +kernel) (by decide), s_bad, s_bad, s_bipush (n := (-3)) (by decide +kernel) (by decide +kernel), s_bad, s_iret (by decide +kernel) rfl, s_aload_n (k := 0) (i := 0) (by decide +kernel) rfl, s_getR (by decide +kernel) fl_RX9_10 rfl, s_bad, s_bad, s_iload_n (k := 1) (i := 1) (by decide +kernel) rfl, s_callV1 (by decide +kernel) lv_RX9_78 ⟨by decide, by decide⟩, s_bad, s_bad, s_aload_n (k := 0) (i := 0) (by decide +kernel) rfl, s_getR (by decide +kernel) fl_RX9_10 rfl, s_bad, s_bad, s_getI (by decide +kernel) fl_RX9_75 rfl, s_bad, s_bad, s_iret (by decide +kernel) rfl, trivial⟩
theorem kX9_type_0 : List.getD tX9_type 0 x_bad = x_iload 1 1 := rfl
theorem kX9_type_1 : List.getD tX9_type 1 x_bad = x_push (.int (nI 32)) 2 := rfl
theorem kX9_type_3 : List.getD tX9_type 3 x_bad = x_icmp (fun a b => a < b) 12 := rfl
theorem kX9_type_6 : List.getD tX9_type 6 x_bad = x_iload 1 1 := rfl
theorem kX9_type_7 : List.getD tX9_type 7 x_bad = x_push (.int (nI 126)) 2 := rfl
theorem kX9_type_9 : List.getD tX9_type 9 x_bad = x_icmp (fun a b => a ≤ b) 14 := rfl
theorem kX9_type_12 : List.getD tX9_type 12 x_bad = x_push (.int (-1)) 1 := rfl
theorem kX9_type_13 : List.getD tX9_type 13 x_bad = x_iret := rfl
theorem kX9_type_14 : List.getD tX9_type 14 x_bad = x_aload 0 1 := rfl
theorem kX9_type_15 : List.getD tX9_type 15 x_bad = x_getR 9 0 := rfl
theorem kX9_type_18 : List.getD tX9_type 18 x_bad = x_getI 8 1 := rfl
theorem kX9_type_21 : List.getD tX9_type 21 x_bad = x_push (.int (nI 80)) 2 := rfl
theorem kX9_type_23 : List.getD tX9_type 23 x_bad = x_icmp (fun a b => a < b) 29 := rfl
theorem kX9_type_26 : List.getD tX9_type 26 x_bad = x_push (.int (-3)) 2 := rfl
theorem kX9_type_28 : List.getD tX9_type 28 x_bad = x_iret := rfl
theorem kX9_type_29 : List.getD tX9_type 29 x_bad = x_aload 0 1 := rfl
theorem kX9_type_30 : List.getD tX9_type 30 x_bad = x_getR 9 0 := rfl
theorem kX9_type_33 : List.getD tX9_type 33 x_bad = x_iload 1 1 := rfl
theorem kX9_type_34 : List.getD tX9_type 34 x_bad = x_callV1 8 mX8_append := rfl
theorem kX9_type_37 : List.getD tX9_type 37 x_bad = x_aload 0 1 := rfl
theorem kX9_type_38 : List.getD tX9_type 38 x_bad = x_getR 9 0 := rfl
theorem kX9_type_41 : List.getD tX9_type 41 x_bad = x_getI 8 1 := rfl
theorem kX9_type_44 : List.getD tX9_type 44 x_bad = x_iret := rfl
def tX9_crosses : List PT := [x_aload 0 1, x_iload 1 1, x_callV1 9 mX9_isStateSet, x_bad, x_bad, x_if (fun a => a = 0) 15, x_bad, x_bad, x_iload 2 1, x_callS1 mX9_isEvent, x_bad, x_bad, x_ifn (fun a => a = 0) 17, x_bad, x_bad, x_push (.int (-1)) 1, x_iret, x_aload 0 1, x_getR 9 7, x_bad, x_bad, x_aload 0 1, x_getR 9 1, x_bad, x_bad, x_iload 1 1, x_callV2 2 mX2_measure, x_bad, x_bad, x_aload 0 1, x_getR 9 7, x_bad, x_bad, x_iload 2 1, x_callV1 2 mX2_kindOf, x_bad, x_bad, x_iret]
set_option maxRecDepth 20000 in
theorem okX9_crosses : SndT RX9 cX9_crosses mX9_crosses.2.2.1 mX9_crosses.2.2.2.2.1 mX9_crosses.2.2.2.2.2 false mX9_crosses.2.2.2.1 0 tX9_crosses := ⟨s_aload_n (k := 0) (i := 0) (by decide +kernel) rfl, s_iload_n (k := 1) (i := 1) (by decide +kernel) rfl, s_callV1 (by decide +kernel) lv_RX9_165 ⟨by decide, by decide⟩, s_bad, s_bad, s_if_eq (off := 10) (by decide +kernel) (by decide), s_bad, s_bad, s_iload_n (k := 2) (i := 2) (by decide +kernel) rfl, s_callS1 (by decide +kernel) ls_RX9_133 ⟨by decide, by decide⟩, s_bad, s_bad, s_if_ne (off := 5) (by decide +kernel) (by decide), s_bad, s_bad, s_iconst (n := (-1)) (by decide +kernel) (by decide +kernel), s_iret (by decide +kernel) rfl, s_aload_n (k := 0) (i := 0) (by decide +kernel) rfl, s_getR (by decide +kernel) fl_RX9_61 rfl, s_bad, s_bad, s_aload_n (k := 0) (i := 0) (by decide +kernel) rfl, s_getR (by decide +kernel) fl_RX9_19 rfl, s_bad, s_bad, s_iload_n (k := 1) (i := 1) (by decide +kernel) rfl, s_callV2 (by decide +kernel) lv_RX9_168 ⟨by decide, by decide⟩, s_bad, s_bad, s_aload_n (k := 0) (i := 0) (by decide +kernel) rfl, s_getR (by decide +kernel) fl_RX9_61 rfl, s_bad, s_bad, s_iload_n (k := 2) (i := 2) (by decide +kernel) rfl, s_callV1 (by decide +kernel) lv_RX9_172 ⟨by decide, by decide⟩, s_bad, s_bad, s_iret (by decide +kernel) rfl, trivial⟩
theorem kX9_crosses_0 : List.getD tX9_crosses 0 x_bad = x_aload 0 1 := rfl
theorem kX9_crosses_1 : List.getD tX9_crosses 1 x_bad = x_iload 1 1 := rfl
theorem kX9_crosses_2 : List.getD tX9_crosses 2 x_bad = x_callV1 9 mX9_isStateSet := rfl
theorem kX9_crosses_5 : List.getD tX9_crosses 5 x_bad = x_if (fun a => a = 0) 15 := rfl
theorem kX9_crosses_8 : List.getD tX9_crosses 8 x_bad = x_iload 2 1 := rfl
theorem kX9_crosses_9 : List.getD tX9_crosses 9 x_bad = x_callS1 mX9_isEvent := rfl
theorem kX9_crosses_12 : List.getD tX9_crosses 12 x_bad = x_ifn (fun a => a = 0) 17 := rfl
theorem kX9_crosses_15 : List.getD tX9_crosses 15 x_bad = x_push (.int (-1)) 1 := rfl
theorem kX9_crosses_16 : List.getD tX9_crosses 16 x_bad = x_iret := rfl
theorem kX9_crosses_17 : List.getD tX9_crosses 17 x_bad = x_aload 0 1 := rfl
theorem kX9_crosses_18 : List.getD tX9_crosses 18 x_bad = x_getR 9 7 := rfl
theorem kX9_crosses_21 : List.getD tX9_crosses 21 x_bad = x_aload 0 1 := rfl
theorem kX9_crosses_22 : List.getD tX9_crosses 22 x_bad = x_getR 9 1 := rfl
theorem kX9_crosses_25 : List.getD tX9_crosses 25 x_bad = x_iload 1 1 := rfl
theorem kX9_crosses_26 : List.getD tX9_crosses 26 x_bad = x_callV2 2 mX2_measure := rfl
theorem kX9_crosses_29 : List.getD tX9_crosses 29 x_bad = x_aload 0 1 := rfl
theorem kX9_crosses_30 : List.getD tX9_crosses 30 x_bad = x_getR 9 7 := rfl
theorem kX9_crosses_33 : List.getD tX9_crosses 33 x_bad = x_iload 2 1 := rfl
theorem kX9_crosses_34 : List.getD tX9_crosses 34 x_bad = x_callV1 2 mX2_kindOf := rfl
theorem kX9_crosses_37 : List.getD tX9_crosses 37 x_bad = x_iret := rfl
def tX9_splitRefusal : List PT := [x_iload 1 1, x_callS1 mX9_isEvent, x_bad, x_bad, x_ifn (fun a => a = 0) 9, x_bad, x_bad, x_push (.int (-1)) 1, x_iret, x_aload 0 1, x_getR 9 1, x_bad, x_bad, x_iload 1 1, x_callV1 3 mX3_arcsWith, x_bad, x_bad, x_push (.int (nI 2)) 1, x_icmp (fun a b => b ≤ a) 24, x_bad, x_bad, x_push (.int (-2)) 2, x_bad, x_iret, x_aload 0 1, x_getR 9 1, x_bad, x_bad, x_callV0 3 mX3_unusedEvent, x_bad, x_bad, x_if (fun a => 0 ≤ a) 39, x_bad, x_bad, x_push (.int (-3)) 2, x_bad, x_goto 40, x_bad, x_bad, x_push (.int (nI 0)) 1, x_iret]
set_option maxRecDepth 20000 in
theorem okX9_splitRefusal : SndT RX9 cX9_splitRefusal mX9_splitRefusal.2.2.1 mX9_splitRefusal.2.2.2.2.1 mX9_splitRefusal.2.2.2.2.2 false mX9_splitRefusal.2.2.2.1 0 tX9_splitRefusal := ⟨s_iload_n (k := 1) (i := 1) (by decide +kernel) rfl, s_callS1 (by decide +kernel) ls_RX9_133 ⟨by decide, by decide⟩, s_bad, s_bad, s_if_ne (off := 5) (by decide +kernel) (by decide), s_bad, s_bad, s_iconst (n := (-1)) (by decide +kernel) (by decide +kernel), s_iret (by decide +kernel) rfl, s_aload_n (k := 0) (i := 0) (by decide +kernel) rfl, s_getR (by decide +kernel) fl_RX9_19 rfl, s_bad, s_bad, s_iload_n (k := 1) (i := 1) (by decide +kernel) rfl, s_callV1 (by decide +kernel) lv_RX9_186 ⟨by decide, by decide⟩, s_bad, s_bad, s_iconst (n := 2) (by decide +kernel) (by decide +kernel), s_icmp_ge (off := 6) (by decide +kernel) (by decide), s_bad, s_bad, s_bipush (n := (-2)) (by decide +kernel) (by decide +kernel), s_bad, s_iret (by decide +kernel) rfl, s_aload_n (k := 0) (i := 0) (by decide +kernel) rfl, s_getR (by decide +kernel) fl_RX9_19 rfl, s_bad, s_bad, s_callV0 (by decide +kernel) lv_RX9_323 ⟨by decide, by decide⟩, s_bad, s_bad, s_if_ge (off := 8) (by decide +kernel) (by decide), s_bad, s_bad, s_bipush (n := (-3)) (by decide +kernel) (by decide +kernel), s_bad, s_goto (off := 4) (by decide +kernel) (by decide), s_bad, s_bad, s_iconst (n := 0) (by decide +kernel) (by decide +kernel), s_iret (by decide +kernel) rfl, trivial⟩
theorem kX9_splitRefusal_0 : List.getD tX9_splitRefusal 0 x_bad = x_iload 1 1 := rfl
theorem kX9_splitRefusal_1 : List.getD tX9_splitRefusal 1 x_bad = x_callS1 mX9_isEvent := rfl
theorem kX9_splitRefusal_4 : List.getD tX9_splitRefusal 4 x_bad = x_ifn (fun a => a = 0) 9 := rfl
theorem kX9_splitRefusal_7 : List.getD tX9_splitRefusal 7 x_bad = x_push (.int (-1)) 1 := rfl
theorem kX9_splitRefusal_8 : List.getD tX9_splitRefusal 8 x_bad = x_iret := rfl
theorem kX9_splitRefusal_9 : List.getD tX9_splitRefusal 9 x_bad = x_aload 0 1 := rfl
theorem kX9_splitRefusal_10 : List.getD tX9_splitRefusal 10 x_bad = x_getR 9 1 := rfl
theorem kX9_splitRefusal_13 : List.getD tX9_splitRefusal 13 x_bad = x_iload 1 1 := rfl
theorem kX9_splitRefusal_14 : List.getD tX9_splitRefusal 14 x_bad = x_callV1 3 mX3_arcsWith := rfl
theorem kX9_splitRefusal_17 : List.getD tX9_splitRefusal 17 x_bad = x_push (.int (nI 2)) 1 := rfl
theorem kX9_splitRefusal_18 : List.getD tX9_splitRefusal 18 x_bad = x_icmp (fun a b => b ≤ a) 24 := rfl
theorem kX9_splitRefusal_21 : List.getD tX9_splitRefusal 21 x_bad = x_push (.int (-2)) 2 := rfl
theorem kX9_splitRefusal_23 : List.getD tX9_splitRefusal 23 x_bad = x_iret := rfl
theorem kX9_splitRefusal_24 : List.getD tX9_splitRefusal 24 x_bad = x_aload 0 1 := rfl
theorem kX9_splitRefusal_25 : List.getD tX9_splitRefusal 25 x_bad = x_getR 9 1 := rfl
theorem kX9_splitRefusal_28 : List.getD tX9_splitRefusal 28 x_bad = x_callV0 3 mX3_unusedEvent := rfl
theorem kX9_splitRefusal_31 : List.getD tX9_splitRefusal 31 x_bad = x_if (fun a => 0 ≤ a) 39 := rfl
theorem kX9_splitRefusal_34 : List.getD tX9_splitRefusal 34 x_bad = x_push (.int (-3)) 2 := rfl
theorem kX9_splitRefusal_36 : List.getD tX9_splitRefusal 36 x_bad = x_goto 40 := rfl
theorem kX9_splitRefusal_39 : List.getD tX9_splitRefusal 39 x_bad = x_push (.int (nI 0)) 1 := rfl
theorem kX9_splitRefusal_40 : List.getD tX9_splitRefusal 40 x_bad = x_iret := rfl
def tX9_beginGraphChange : List PT := [x_aload 0 1, x_getR 9 3, x_bad, x_bad, x_aload 0 1, x_getR 9 1, x_bad, x_bad, x_aload 0 1, x_getR 9 2, x_bad, x_bad, x_callV2 4 mX4_remember, x_bad, x_bad, x_aload 0 1, x_getR 9 2, x_bad, x_bad, x_push (.int (nI 0)) 1, x_putI 7 0, x_bad, x_bad, x_aload 0 1, x_push (.int (nI 0)) 1, x_putI 9 10, x_bad, x_bad, x_vret]
set_option maxRecDepth 20000 in
theorem okX9_beginGraphChange : SndT RX9 cX9_beginGraphChange mX9_beginGraphChange.2.2.1 mX9_beginGraphChange.2.2.2.2.1 mX9_beginGraphChange.2.2.2.2.2 false mX9_beginGraphChange.2.2.2.1 0 tX9_beginGraphChange := ⟨s_aload_n (k := 0) (i := 0) (by decide +kernel) rfl, s_getR (by decide +kernel) fl_RX9_33 rfl, s_bad, s_bad, s_aload_n (k := 0) (i := 0) (by decide +kernel) rfl, s_getR (by decide +kernel) fl_RX9_19 rfl, s_bad, s_bad, s_aload_n (k := 0) (i := 0) (by decide +kernel) rfl, s_getR (by decide +kernel) fl_RX9_26 rfl, s_bad, s_bad, s_callV2 (by decide +kernel) lv_RX9_249 ⟨by decide, by decide⟩, s_bad, s_bad, s_aload_n (k := 0) (i := 0) (by decide +kernel) rfl, s_getR (by decide +kernel) fl_RX9_26 rfl, s_bad, s_bad, s_iconst (n := 0) (by decide +kernel) (by decide +kernel), s_putI (by decide +kernel) fl_RX9_257 fp_7_0 rfl, s_bad, s_bad, s_aload_n (k := 0) (i := 0) (by decide +kernel) rfl, s_iconst (n := 0) (by decide +kernel) (by decide +kernel), s_putI (by decide +kernel) fl_RX9_71 fp_9_10 rfl, s_bad, s_bad, s_vret (by decide +kernel) rfl, trivial⟩
theorem kX9_beginGraphChange_0 : List.getD tX9_beginGraphChange 0 x_bad = x_aload 0 1 := rfl
theorem kX9_beginGraphChange_1 : List.getD tX9_beginGraphChange 1 x_bad = x_getR 9 3 := rfl
theorem kX9_beginGraphChange_4 : List.getD tX9_beginGraphChange 4 x_bad = x_aload 0 1 := rfl
theorem kX9_beginGraphChange_5 : List.getD tX9_beginGraphChange 5 x_bad = x_getR 9 1 := rfl
theorem kX9_beginGraphChange_8 : List.getD tX9_beginGraphChange 8 x_bad = x_aload 0 1 := rfl
theorem kX9_beginGraphChange_9 : List.getD tX9_beginGraphChange 9 x_bad = x_getR 9 2 := rfl
theorem kX9_beginGraphChange_12 : List.getD tX9_beginGraphChange 12 x_bad = x_callV2 4 mX4_remember := rfl
theorem kX9_beginGraphChange_15 : List.getD tX9_beginGraphChange 15 x_bad = x_aload 0 1 := rfl
theorem kX9_beginGraphChange_16 : List.getD tX9_beginGraphChange 16 x_bad = x_getR 9 2 := rfl
theorem kX9_beginGraphChange_19 : List.getD tX9_beginGraphChange 19 x_bad = x_push (.int (nI 0)) 1 := rfl
theorem kX9_beginGraphChange_20 : List.getD tX9_beginGraphChange 20 x_bad = x_putI 7 0 := rfl
theorem kX9_beginGraphChange_23 : List.getD tX9_beginGraphChange 23 x_bad = x_aload 0 1 := rfl
theorem kX9_beginGraphChange_24 : List.getD tX9_beginGraphChange 24 x_bad = x_push (.int (nI 0)) 1 := rfl
theorem kX9_beginGraphChange_25 : List.getD tX9_beginGraphChange 25 x_bad = x_putI 9 10 := rfl
theorem kX9_beginGraphChange_28 : List.getD tX9_beginGraphChange 28 x_bad = x_vret := rfl
def tX9_restart : List PT := [x_aload 0 1, x_getR 9 2, x_bad, x_bad, x_getI 7 0, x_bad, x_bad, x_istore 1 1, x_aload 0 1, x_getR 9 3, x_bad, x_bad, x_aload 0 1, x_getR 9 1, x_bad, x_bad, x_aload 0 1, x_getR 9 2, x_bad, x_bad, x_callV2 4 mX4_remember, x_bad, x_bad, x_aload 0 1, x_getR 9 2, x_bad, x_bad, x_push (.int (nI 0)) 1, x_putI 7 0, x_bad, x_bad, x_iload 1 1, x_iret]
set_option maxRecDepth 20000 in
theorem okX9_restart : SndT RX9 cX9_restart mX9_restart.2.2.1 mX9_restart.2.2.2.2.1 mX9_restart.2.2.2.2.2 false mX9_restart.2.2.2.1 0 tX9_restart := ⟨s_aload_n (k := 0) (i := 0) (by decide +kernel) rfl, s_getR (by decide +kernel) fl_RX9_26 rfl, s_bad, s_bad, s_getI (by decide +kernel) fl_RX9_257 rfl, s_bad, s_bad, s_istore_n (k := 1) (i := 1) (by decide +kernel) rfl (by decide), s_aload_n (k := 0) (i := 0) (by decide +kernel) rfl, s_getR (by decide +kernel) fl_RX9_33 rfl, s_bad, s_bad, s_aload_n (k := 0) (i := 0) (by decide +kernel) rfl, s_getR (by decide +kernel) fl_RX9_19 rfl, s_bad, s_bad, s_aload_n (k := 0) (i := 0) (by decide +kernel) rfl, s_getR (by decide +kernel) fl_RX9_26 rfl, s_bad, s_bad, s_callV2 (by decide +kernel) lv_RX9_249 ⟨by decide, by decide⟩, s_bad, s_bad, s_aload_n (k := 0) (i := 0) (by decide +kernel) rfl, s_getR (by decide +kernel) fl_RX9_26 rfl, s_bad, s_bad, s_iconst (n := 0) (by decide +kernel) (by decide +kernel), s_putI (by decide +kernel) fl_RX9_257 fp_7_0 rfl, s_bad, s_bad, s_iload_n (k := 1) (i := 1) (by decide +kernel) rfl, s_iret (by decide +kernel) rfl, trivial⟩
theorem kX9_restart_0 : List.getD tX9_restart 0 x_bad = x_aload 0 1 := rfl
theorem kX9_restart_1 : List.getD tX9_restart 1 x_bad = x_getR 9 2 := rfl
theorem kX9_restart_4 : List.getD tX9_restart 4 x_bad = x_getI 7 0 := rfl
theorem kX9_restart_7 : List.getD tX9_restart 7 x_bad = x_istore 1 1 := rfl
theorem kX9_restart_8 : List.getD tX9_restart 8 x_bad = x_aload 0 1 := rfl
theorem kX9_restart_9 : List.getD tX9_restart 9 x_bad = x_getR 9 3 := rfl
theorem kX9_restart_12 : List.getD tX9_restart 12 x_bad = x_aload 0 1 := rfl
theorem kX9_restart_13 : List.getD tX9_restart 13 x_bad = x_getR 9 1 := rfl
theorem kX9_restart_16 : List.getD tX9_restart 16 x_bad = x_aload 0 1 := rfl
theorem kX9_restart_17 : List.getD tX9_restart 17 x_bad = x_getR 9 2 := rfl
theorem kX9_restart_20 : List.getD tX9_restart 20 x_bad = x_callV2 4 mX4_remember := rfl
theorem kX9_restart_23 : List.getD tX9_restart 23 x_bad = x_aload 0 1 := rfl
theorem kX9_restart_24 : List.getD tX9_restart 24 x_bad = x_getR 9 2 := rfl
theorem kX9_restart_27 : List.getD tX9_restart 27 x_bad = x_push (.int (nI 0)) 1 := rfl
theorem kX9_restart_28 : List.getD tX9_restart 28 x_bad = x_putI 7 0 := rfl
theorem kX9_restart_31 : List.getD tX9_restart 31 x_bad = x_iload 1 1 := rfl
theorem kX9_restart_32 : List.getD tX9_restart 32 x_bad = x_iret := rfl
def tX9_undo : List PT := [x_aload 0 1, x_getR 9 3, x_bad, x_bad, x_getI 4 3, x_bad, x_bad, x_ifn (fun a => a = 0) 13, x_bad, x_bad, x_push (.int (-2)) 2, x_bad, x_iret, x_aload 0 1, x_getR 9 3, x_bad, x_bad, x_aload 0 1, x_getR 9 1, x_bad, x_bad, x_aload 0 1, x_getR 9 2, x_bad, x_bad, x_callV2 4 mX4_restore, x_bad, x_bad, x_aload 0 1, x_push (.int (nI 0)) 1, x_putI 9 10, x_bad, x_bad, x_aload 0 1, x_getR 9 3, x_bad, x_bad, x_getI 4 3, x_bad, x_bad, x_iret]
set_option maxRecDepth 20000 in
theorem okX9_undo : SndT RX9 cX9_undo mX9_undo.2.2.1 mX9_undo.2.2.2.2.1 mX9_undo.2.2.2.2.2 false mX9_undo.2.2.2.1 0 tX9_undo := ⟨s_aload_n (k := 0) (i := 0) (by decide +kernel) rfl, s_getR (by decide +kernel) fl_RX9_33 rfl, s_bad, s_bad, s_getI (by decide +kernel) fl_RX9_266 rfl, s_bad, s_bad, s_if_ne (off := 6) (by decide +kernel) (by decide), s_bad, s_bad, s_bipush (n := (-2)) (by decide +kernel) (by decide +kernel), s_bad, s_iret (by decide +kernel) rfl, s_aload_n (k := 0) (i := 0) (by decide +kernel) rfl, s_getR (by decide +kernel) fl_RX9_33 rfl, s_bad, s_bad, s_aload_n (k := 0) (i := 0) (by decide +kernel) rfl, s_getR (by decide +kernel) fl_RX9_19 rfl, s_bad, s_bad, s_aload_n (k := 0) (i := 0) (by decide +kernel) rfl, s_getR (by decide +kernel) fl_RX9_26 rfl, s_bad, s_bad, s_callV2 (by decide +kernel) lv_RX9_268 ⟨by decide, by decide⟩, s_bad, s_bad, s_aload_n (k := 0) (i := 0) (by decide +kernel) rfl, s_iconst (n := 0) (by decide +kernel) (by decide +kernel), s_putI (by decide +kernel) fl_RX9_71 fp_9_10 rfl, s_bad, s_bad, s_aload_n (k := 0) (i := 0) (by decide +kernel) rfl, s_getR (by decide +kernel) fl_RX9_33 rfl, s_bad, s_bad, s_getI (by decide +kernel) fl_RX9_266 rfl, s_bad, s_bad, s_iret (by decide +kernel) rfl, trivial⟩
theorem kX9_undo_0 : List.getD tX9_undo 0 x_bad = x_aload 0 1 := rfl
theorem kX9_undo_1 : List.getD tX9_undo 1 x_bad = x_getR 9 3 := rfl
theorem kX9_undo_4 : List.getD tX9_undo 4 x_bad = x_getI 4 3 := rfl
theorem kX9_undo_7 : List.getD tX9_undo 7 x_bad = x_ifn (fun a => a = 0) 13 := rfl
theorem kX9_undo_10 : List.getD tX9_undo 10 x_bad = x_push (.int (-2)) 2 := rfl
theorem kX9_undo_12 : List.getD tX9_undo 12 x_bad = x_iret := rfl
theorem kX9_undo_13 : List.getD tX9_undo 13 x_bad = x_aload 0 1 := rfl
theorem kX9_undo_14 : List.getD tX9_undo 14 x_bad = x_getR 9 3 := rfl
theorem kX9_undo_17 : List.getD tX9_undo 17 x_bad = x_aload 0 1 := rfl
theorem kX9_undo_18 : List.getD tX9_undo 18 x_bad = x_getR 9 1 := rfl
theorem kX9_undo_21 : List.getD tX9_undo 21 x_bad = x_aload 0 1 := rfl
theorem kX9_undo_22 : List.getD tX9_undo 22 x_bad = x_getR 9 2 := rfl
theorem kX9_undo_25 : List.getD tX9_undo 25 x_bad = x_callV2 4 mX4_restore := rfl
theorem kX9_undo_28 : List.getD tX9_undo 28 x_bad = x_aload 0 1 := rfl
theorem kX9_undo_29 : List.getD tX9_undo 29 x_bad = x_push (.int (nI 0)) 1 := rfl
theorem kX9_undo_30 : List.getD tX9_undo 30 x_bad = x_putI 9 10 := rfl
theorem kX9_undo_33 : List.getD tX9_undo 33 x_bad = x_aload 0 1 := rfl
theorem kX9_undo_34 : List.getD tX9_undo 34 x_bad = x_getR 9 3 := rfl
theorem kX9_undo_37 : List.getD tX9_undo 37 x_bad = x_getI 4 3 := rfl
theorem kX9_undo_40 : List.getD tX9_undo 40 x_bad = x_iret := rfl
def tX9_addArc : List PT := [x_aload 0 1, x_iload 1 1, x_iload 2 1, x_iload 3 1, x_callV3 9 mX9_arcRefusal, x_bad, x_bad, x_istore 4 2, x_bad, x_iload 4 2, x_bad, x_if (fun a => a = 0) 17, x_bad, x_bad, x_iload 4 2, x_bad, x_iret, x_aload 0 1, x_getR 9 1, x_bad, x_bad, x_getI 3 1, x_bad, x_bad, x_istore 5 2, x_bad, x_aload 0 1, x_callV0 9 mX9_beginGraphChange, x_bad, x_bad, x_aload 0 1, x_getR 9 1, x_bad, x_bad, x_iload 1 1, x_iload 2 1, x_iload 3 1, x_callV3 3 mX3_append, x_bad, x_bad, x_iload 5 2, x_bad, x_iret]
set_option maxRecDepth 20000 in
theorem okX9_addArc : SndT RX9 cX9_addArc mX9_addArc.2.2.1 mX9_addArc.2.2.2.2.1 mX9_addArc.2.2.2.2.2 false mX9_addArc.2.2.2.1 0 tX9_addArc := ⟨s_aload_n (k := 0) (i := 0) (by decide +kernel) rfl, s_iload_n (k := 1) (i := 1) (by decide +kernel) rfl, s_iload_n (k := 2) (i := 2) (by decide +kernel) rfl, s_iload_n (k := 3) (i := 3) (by decide +kernel) rfl, s_callV3 (by decide +kernel) lv_RX9_103 ⟨by decide, by decide⟩, s_bad, s_bad, s_istore (by decide +kernel) (by decide), s_bad, s_iload (by decide +kernel), s_bad, s_if_eq (off := 6) (by decide +kernel) (by decide), s_bad, s_bad, s_iload (by decide +kernel), s_bad, s_iret (by decide +kernel) rfl, s_aload_n (k := 0) (i := 0) (by decide +kernel) rfl, s_getR (by decide +kernel) fl_RX9_19 rfl, s_bad, s_bad, s_getI (by decide +kernel) fl_RX9_107 rfl, s_bad, s_bad, s_istore (by decide +kernel) (by decide), s_bad, s_aload_n (k := 0) (i := 0) (by decide +kernel) rfl, s_callV0 (by decide +kernel) lv_RX9_86 ⟨by decide, by decide⟩, s_bad, s_bad, s_aload_n (k := 0) (i := 0) (by decide +kernel) rfl, s_getR (by decide +kernel) fl_RX9_19 rfl, s_bad, s_bad, s_iload_n (k := 1) (i := 1) (by decide +kernel) rfl, s_iload_n (k := 2) (i := 2) (by decide +kernel) rfl, s_iload_n (k := 3) (i := 3) (by decide +kernel) rfl, s_callV3 (by decide +kernel) lv_RX9_110 ⟨by decide, by decide⟩, s_bad, s_bad, s_iload (by decide +kernel), s_bad, s_iret (by decide +kernel) rfl, trivial⟩
theorem kX9_addArc_0 : List.getD tX9_addArc 0 x_bad = x_aload 0 1 := rfl
theorem kX9_addArc_1 : List.getD tX9_addArc 1 x_bad = x_iload 1 1 := rfl
theorem kX9_addArc_2 : List.getD tX9_addArc 2 x_bad = x_iload 2 1 := rfl
theorem kX9_addArc_3 : List.getD tX9_addArc 3 x_bad = x_iload 3 1 := rfl
theorem kX9_addArc_4 : List.getD tX9_addArc 4 x_bad = x_callV3 9 mX9_arcRefusal := rfl
theorem kX9_addArc_7 : List.getD tX9_addArc 7 x_bad = x_istore 4 2 := rfl
theorem kX9_addArc_9 : List.getD tX9_addArc 9 x_bad = x_iload 4 2 := rfl
theorem kX9_addArc_11 : List.getD tX9_addArc 11 x_bad = x_if (fun a => a = 0) 17 := rfl
theorem kX9_addArc_14 : List.getD tX9_addArc 14 x_bad = x_iload 4 2 := rfl
theorem kX9_addArc_16 : List.getD tX9_addArc 16 x_bad = x_iret := rfl
theorem kX9_addArc_17 : List.getD tX9_addArc 17 x_bad = x_aload 0 1 := rfl
theorem kX9_addArc_18 : List.getD tX9_addArc 18 x_bad = x_getR 9 1 := rfl
theorem kX9_addArc_21 : List.getD tX9_addArc 21 x_bad = x_getI 3 1 := rfl
theorem kX9_addArc_24 : List.getD tX9_addArc 24 x_bad = x_istore 5 2 := rfl
theorem kX9_addArc_26 : List.getD tX9_addArc 26 x_bad = x_aload 0 1 := rfl
theorem kX9_addArc_27 : List.getD tX9_addArc 27 x_bad = x_callV0 9 mX9_beginGraphChange := rfl
theorem kX9_addArc_30 : List.getD tX9_addArc 30 x_bad = x_aload 0 1 := rfl
theorem kX9_addArc_31 : List.getD tX9_addArc 31 x_bad = x_getR 9 1 := rfl
theorem kX9_addArc_34 : List.getD tX9_addArc 34 x_bad = x_iload 1 1 := rfl
theorem kX9_addArc_35 : List.getD tX9_addArc 35 x_bad = x_iload 2 1 := rfl
theorem kX9_addArc_36 : List.getD tX9_addArc 36 x_bad = x_iload 3 1 := rfl
theorem kX9_addArc_37 : List.getD tX9_addArc 37 x_bad = x_callV3 3 mX3_append := rfl
theorem kX9_addArc_40 : List.getD tX9_addArc 40 x_bad = x_iload 5 2 := rfl
theorem kX9_addArc_42 : List.getD tX9_addArc 42 x_bad = x_iret := rfl
def tX9_dropArc : List PT := [x_aload 0 1, x_iload 1 1, x_callV1 9 mX9_isArc, x_bad, x_bad, x_ifn (fun a => a = 0) 10, x_bad, x_bad, x_push (.int (-1)) 1, x_iret, x_aload 0 1, x_callV0 9 mX9_beginGraphChange, x_bad, x_bad, x_aload 0 1, x_getR 9 1, x_bad, x_bad, x_iload 1 1, x_callV1 3 mX3_remove, x_bad, x_bad, x_aload 0 1, x_getR 9 1, x_bad, x_bad, x_getI 3 1, x_bad, x_bad, x_iret]
set_option maxRecDepth 20000 in
theorem okX9_dropArc : SndT RX9 cX9_dropArc mX9_dropArc.2.2.1 mX9_dropArc.2.2.2.2.1 mX9_dropArc.2.2.2.2.2 false mX9_dropArc.2.2.2.1 0 tX9_dropArc := ⟨s_aload_n (k := 0) (i := 0) (by decide +kernel) rfl, s_iload_n (k := 1) (i := 1) (by decide +kernel) rfl, s_callV1 (by decide +kernel) lv_RX9_113 ⟨by decide, by decide⟩, s_bad, s_bad, s_if_ne (off := 5) (by decide +kernel) (by decide), s_bad, s_bad, s_iconst (n := (-1)) (by decide +kernel) (by decide +kernel), s_iret (by decide +kernel) rfl, s_aload_n (k := 0) (i := 0) (by decide +kernel) rfl, s_callV0 (by decide +kernel) lv_RX9_86 ⟨by decide, by decide⟩, s_bad, s_bad, s_aload_n (k := 0) (i := 0) (by decide +kernel) rfl, s_getR (by decide +kernel) fl_RX9_19 rfl, s_bad, s_bad, s_iload_n (k := 1) (i := 1) (by decide +kernel) rfl, s_callV1 (by decide +kernel) lv_RX9_117 ⟨by decide, by decide⟩, s_bad, s_bad, s_aload_n (k := 0) (i := 0) (by decide +kernel) rfl, s_getR (by decide +kernel) fl_RX9_19 rfl, s_bad, s_bad, s_getI (by decide +kernel) fl_RX9_107 rfl, s_bad, s_bad, s_iret (by decide +kernel) rfl, trivial⟩
theorem kX9_dropArc_0 : List.getD tX9_dropArc 0 x_bad = x_aload 0 1 := rfl
theorem kX9_dropArc_1 : List.getD tX9_dropArc 1 x_bad = x_iload 1 1 := rfl
theorem kX9_dropArc_2 : List.getD tX9_dropArc 2 x_bad = x_callV1 9 mX9_isArc := rfl
theorem kX9_dropArc_5 : List.getD tX9_dropArc 5 x_bad = x_ifn (fun a => a = 0) 10 := rfl
theorem kX9_dropArc_8 : List.getD tX9_dropArc 8 x_bad = x_push (.int (-1)) 1 := rfl
theorem kX9_dropArc_9 : List.getD tX9_dropArc 9 x_bad = x_iret := rfl
theorem kX9_dropArc_10 : List.getD tX9_dropArc 10 x_bad = x_aload 0 1 := rfl
theorem kX9_dropArc_11 : List.getD tX9_dropArc 11 x_bad = x_callV0 9 mX9_beginGraphChange := rfl
theorem kX9_dropArc_14 : List.getD tX9_dropArc 14 x_bad = x_aload 0 1 := rfl
theorem kX9_dropArc_15 : List.getD tX9_dropArc 15 x_bad = x_getR 9 1 := rfl
theorem kX9_dropArc_18 : List.getD tX9_dropArc 18 x_bad = x_iload 1 1 := rfl
theorem kX9_dropArc_19 : List.getD tX9_dropArc 19 x_bad = x_callV1 3 mX3_remove := rfl
theorem kX9_dropArc_22 : List.getD tX9_dropArc 22 x_bad = x_aload 0 1 := rfl
theorem kX9_dropArc_23 : List.getD tX9_dropArc 23 x_bad = x_getR 9 1 := rfl
theorem kX9_dropArc_26 : List.getD tX9_dropArc 26 x_bad = x_getI 3 1 := rfl
theorem kX9_dropArc_29 : List.getD tX9_dropArc 29 x_bad = x_iret := rfl
def tX9_init : List PT := [x_aload 0 1, x_objinit, x_bad, x_bad, x_aload 0 1, x_new 8, x_bad, x_bad, x_dup, x_callI mX8_init 1, x_bad, x_bad, x_putR 9 0, x_bad, x_bad, x_aload 0 1, x_new 3, x_bad, x_bad, x_dup, x_callI mX3_init 3, x_bad, x_bad, x_putR 9 1, x_bad, x_bad, x_aload 0 1, x_new 7, x_bad, x_bad, x_dup, x_callI mX7_init 1, x_bad, x_bad, x_putR 9 2, x_bad, x_bad, x_aload 0 1, x_new 4, x_bad, x_bad, x_dup, x_callI mX4_init 50, x_bad, x_bad, x_putR 9 3, x_bad, x_bad, x_aload 0 1, x_new 0, x_bad, x_bad, x_dup, x_callI mX0_init 8, x_bad, x_bad, x_putR 9 4, x_bad, x_bad, x_aload 0 1, x_new 5, x_bad, x_bad, x_dup, x_callI mX5_init 274, x_bad, x_bad, x_putR 9 5, x_bad, x_bad, x_aload 0 1, x_new 6, x_bad, x_bad, x_dup, x_callI mX6_init 104, x_bad, x_bad, x_putR 9 6, x_bad, x_bad, x_aload 0 1, x_new 2, x_bad, x_bad, x_dup, x_callI mX2_init 0, x_bad, x_bad, x_putR 9 7, x_bad, x_bad, x_aload 0 1, x_new 3, x_bad, x_bad, x_dup, x_callI mX3_init 3, x_bad, x_bad, x_putR 9 8, x_bad, x_bad, x_aload 0 1, x_new 0, x_bad, x_bad, x_dup, x_callI mX0_init 8, x_bad, x_bad, x_putR 9 9, x_bad, x_bad, x_aload 0 1, x_push (.int (nI 0)) 1, x_putI 9 10, x_bad, x_bad, x_vret]
set_option maxRecDepth 20000 in
theorem okX9_init : SndT RX9 cX9_init mX9_init.2.2.1 mX9_init.2.2.2.2.1 mX9_init.2.2.2.2.2 true mX9_init.2.2.2.1 0 tX9_init := ⟨s_aload_n (k := 0) (i := 0) (by decide +kernel) rfl, s_objinit (by decide +kernel) tb_89 tb_90 tb_91 (by decide) (by decide), s_bad, s_bad, s_aload_n (k := 0) (i := 0) (by decide +kernel) rfl, s_new (by decide +kernel) nok_8 ⟨_, rfl, tb_92⟩, s_bad, s_bad, s_dup (by decide +kernel), s_callI (by decide +kernel) li_RX9_9 ⟨by decide, by decide⟩, s_bad, s_bad, s_putR rfl (by decide +kernel) fl_RX9_10 fp_9_0 rfl (fun _ => ⟨rfl, rfl⟩) ⟨_, rfl, rfl⟩ (fun r hr => by cases hr; exact tb_354), s_bad, s_bad, s_aload_n (k := 0) (i := 0) (by decide +kernel) rfl, s_new (by decide +kernel) nok_3 ⟨_, rfl, tb_111⟩, s_bad, s_bad, s_dup (by decide +kernel), s_callI (by decide +kernel) li_RX9_18 ⟨by decide, by decide⟩, s_bad, s_bad, s_putR rfl (by decide +kernel) fl_RX9_19 fp_9_1 rfl (fun _ => ⟨rfl, rfl⟩) ⟨_, rfl, rfl⟩ (fun r hr => by cases hr; exact tb_355), s_bad, s_bad, s_aload_n (k := 0) (i := 0) (by decide +kernel) rfl, s_new (by decide +kernel) nok_7 ⟨_, rfl, tb_145⟩, s_bad, s_bad, s_dup (by decide +kernel), s_callI (by decide +kernel) li_RX9_25 ⟨by decide, by decide⟩, s_bad, s_bad, s_putR rfl (by decide +kernel) fl_RX9_26 fp_9_2 rfl (fun _ => ⟨rfl, rfl⟩) ⟨_, rfl, rfl⟩ (fun r hr => by cases hr; exact tb_356), s_bad, s_bad, s_aload_n (k := 0) (i := 0) (by decide +kernel) rfl, s_new (by decide +kernel) nok_4 ⟨_, rfl, tb_173⟩, s_bad, s_bad, s_dup (by decide +kernel), s_callI (by decide +kernel) li_RX9_32 ⟨by decide, by decide⟩, s_bad, s_bad, s_putR rfl (by decide +kernel) fl_RX9_33 fp_9_3 rfl (fun _ => ⟨rfl, rfl⟩) ⟨_, rfl, rfl⟩ (fun r hr => by cases hr; exact tb_357), s_bad, s_bad, s_aload_n (k := 0) (i := 0) (by decide +kernel) rfl, s_new (by decide +kernel) nok_0 ⟨_, rfl, tb_199⟩, s_bad, s_bad, s_dup (by decide +kernel), s_callI (by decide +kernel) li_RX9_39 ⟨by decide, by decide⟩, s_bad, s_bad, s_putR rfl (by decide +kernel) fl_RX9_40 fp_9_4 rfl (fun _ => ⟨rfl, rfl⟩) ⟨_, rfl, rfl⟩ (fun r hr => by cases hr; exact tb_358), s_bad, s_bad, s_aload_n (k := 0) (i := 0) (by decide +kernel) rfl, s_new (by decide +kernel) nok_5 ⟨_, rfl, tb_277⟩, s_bad, s_bad, s_dup (by decide +kernel), s_callI (by decide +kernel) li_RX9_46 ⟨by decide, by decide⟩, s_bad, s_bad, s_putR rfl (by decide +kernel) fl_RX9_47 fp_9_5 rfl (fun _ => ⟨rfl, rfl⟩) ⟨_, rfl, rfl⟩ (fun r hr => by cases hr; exact tb_359), s_bad, s_bad, s_aload_n (k := 0) (i := 0) (by decide +kernel) rfl, s_new (by decide +kernel) nok_6 ⟨_, rfl, tb_315⟩, s_bad, s_bad, s_dup (by decide +kernel), s_callI (by decide +kernel) li_RX9_53 ⟨by decide, by decide⟩, s_bad, s_bad, s_putR rfl (by decide +kernel) fl_RX9_54 fp_9_6 rfl (fun _ => ⟨rfl, rfl⟩) ⟨_, rfl, rfl⟩ (fun r hr => by cases hr; exact tb_360), s_bad, s_bad, s_aload_n (k := 0) (i := 0) (by decide +kernel) rfl, s_new (by decide +kernel) nok_2 ⟨_, rfl, tb_352⟩, s_bad, s_bad, s_dup (by decide +kernel), s_callI (by decide +kernel) li_RX9_60 ⟨by decide, by decide⟩, s_bad, s_bad, s_putR rfl (by decide +kernel) fl_RX9_61 fp_9_7 rfl (fun _ => ⟨rfl, rfl⟩) ⟨_, rfl, rfl⟩ (fun r hr => by cases hr; exact tb_361), s_bad, s_bad, s_aload_n (k := 0) (i := 0) (by decide +kernel) rfl, s_new (by decide +kernel) nok_3 ⟨_, rfl, tb_111⟩, s_bad, s_bad, s_dup (by decide +kernel), s_callI (by decide +kernel) li_RX9_18 ⟨by decide, by decide⟩, s_bad, s_bad, s_putR rfl (by decide +kernel) fl_RX9_65 fp_9_8 rfl (fun _ => ⟨rfl, rfl⟩) ⟨_, rfl, rfl⟩ (fun r hr => by cases hr; exact tb_362), s_bad, s_bad, s_aload_n (k := 0) (i := 0) (by decide +kernel) rfl, s_new (by decide +kernel) nok_0 ⟨_, rfl, tb_199⟩, s_bad, s_bad, s_dup (by decide +kernel), s_callI (by decide +kernel) li_RX9_39 ⟨by decide, by decide⟩, s_bad, s_bad, s_putR rfl (by decide +kernel) fl_RX9_68 fp_9_9 rfl (fun _ => ⟨rfl, rfl⟩) ⟨_, rfl, rfl⟩ (fun r hr => by cases hr; exact tb_363), s_bad, s_bad, s_aload_n (k := 0) (i := 0) (by decide +kernel) rfl, s_iconst (n := 0) (by decide +kernel) (by decide +kernel), s_putI (by decide +kernel) fl_RX9_71 fp_9_10 rfl, s_bad, s_bad, s_vret (by decide +kernel) rfl, trivial⟩
theorem kX9_init_0 : List.getD tX9_init 0 x_bad = x_aload 0 1 := rfl
theorem kX9_init_1 : List.getD tX9_init 1 x_bad = x_objinit := rfl
theorem kX9_init_4 : List.getD tX9_init 4 x_bad = x_aload 0 1 := rfl
theorem kX9_init_5 : List.getD tX9_init 5 x_bad = x_new 8 := rfl
theorem kX9_init_8 : List.getD tX9_init 8 x_bad = x_dup := rfl
theorem kX9_init_9 : List.getD tX9_init 9 x_bad = x_callI mX8_init 1 := rfl
theorem kX9_init_12 : List.getD tX9_init 12 x_bad = x_putR 9 0 := rfl
theorem kX9_init_15 : List.getD tX9_init 15 x_bad = x_aload 0 1 := rfl
theorem kX9_init_16 : List.getD tX9_init 16 x_bad = x_new 3 := rfl
theorem kX9_init_19 : List.getD tX9_init 19 x_bad = x_dup := rfl
theorem kX9_init_20 : List.getD tX9_init 20 x_bad = x_callI mX3_init 3 := rfl
theorem kX9_init_23 : List.getD tX9_init 23 x_bad = x_putR 9 1 := rfl
theorem kX9_init_26 : List.getD tX9_init 26 x_bad = x_aload 0 1 := rfl
theorem kX9_init_27 : List.getD tX9_init 27 x_bad = x_new 7 := rfl
theorem kX9_init_30 : List.getD tX9_init 30 x_bad = x_dup := rfl
theorem kX9_init_31 : List.getD tX9_init 31 x_bad = x_callI mX7_init 1 := rfl
theorem kX9_init_34 : List.getD tX9_init 34 x_bad = x_putR 9 2 := rfl
theorem kX9_init_37 : List.getD tX9_init 37 x_bad = x_aload 0 1 := rfl
theorem kX9_init_38 : List.getD tX9_init 38 x_bad = x_new 4 := rfl
theorem kX9_init_41 : List.getD tX9_init 41 x_bad = x_dup := rfl
theorem kX9_init_42 : List.getD tX9_init 42 x_bad = x_callI mX4_init 50 := rfl
theorem kX9_init_45 : List.getD tX9_init 45 x_bad = x_putR 9 3 := rfl
theorem kX9_init_48 : List.getD tX9_init 48 x_bad = x_aload 0 1 := rfl
theorem kX9_init_49 : List.getD tX9_init 49 x_bad = x_new 0 := rfl
theorem kX9_init_52 : List.getD tX9_init 52 x_bad = x_dup := rfl
theorem kX9_init_53 : List.getD tX9_init 53 x_bad = x_callI mX0_init 8 := rfl
theorem kX9_init_56 : List.getD tX9_init 56 x_bad = x_putR 9 4 := rfl
theorem kX9_init_59 : List.getD tX9_init 59 x_bad = x_aload 0 1 := rfl
theorem kX9_init_60 : List.getD tX9_init 60 x_bad = x_new 5 := rfl
theorem kX9_init_63 : List.getD tX9_init 63 x_bad = x_dup := rfl
theorem kX9_init_64 : List.getD tX9_init 64 x_bad = x_callI mX5_init 274 := rfl
theorem kX9_init_67 : List.getD tX9_init 67 x_bad = x_putR 9 5 := rfl
theorem kX9_init_70 : List.getD tX9_init 70 x_bad = x_aload 0 1 := rfl
theorem kX9_init_71 : List.getD tX9_init 71 x_bad = x_new 6 := rfl
theorem kX9_init_74 : List.getD tX9_init 74 x_bad = x_dup := rfl
theorem kX9_init_75 : List.getD tX9_init 75 x_bad = x_callI mX6_init 104 := rfl
theorem kX9_init_78 : List.getD tX9_init 78 x_bad = x_putR 9 6 := rfl
theorem kX9_init_81 : List.getD tX9_init 81 x_bad = x_aload 0 1 := rfl
theorem kX9_init_82 : List.getD tX9_init 82 x_bad = x_new 2 := rfl
theorem kX9_init_85 : List.getD tX9_init 85 x_bad = x_dup := rfl
theorem kX9_init_86 : List.getD tX9_init 86 x_bad = x_callI mX2_init 0 := rfl
theorem kX9_init_89 : List.getD tX9_init 89 x_bad = x_putR 9 7 := rfl
theorem kX9_init_92 : List.getD tX9_init 92 x_bad = x_aload 0 1 := rfl
theorem kX9_init_93 : List.getD tX9_init 93 x_bad = x_new 3 := rfl
theorem kX9_init_96 : List.getD tX9_init 96 x_bad = x_dup := rfl
theorem kX9_init_97 : List.getD tX9_init 97 x_bad = x_callI mX3_init 3 := rfl
theorem kX9_init_100 : List.getD tX9_init 100 x_bad = x_putR 9 8 := rfl
theorem kX9_init_103 : List.getD tX9_init 103 x_bad = x_aload 0 1 := rfl
theorem kX9_init_104 : List.getD tX9_init 104 x_bad = x_new 0 := rfl
theorem kX9_init_107 : List.getD tX9_init 107 x_bad = x_dup := rfl
theorem kX9_init_108 : List.getD tX9_init 108 x_bad = x_callI mX0_init 8 := rfl
theorem kX9_init_111 : List.getD tX9_init 111 x_bad = x_putR 9 9 := rfl
theorem kX9_init_114 : List.getD tX9_init 114 x_bad = x_aload 0 1 := rfl
theorem kX9_init_115 : List.getD tX9_init 115 x_bad = x_push (.int (nI 0)) 1 := rfl
theorem kX9_init_116 : List.getD tX9_init 116 x_bad = x_putI 9 10 := rfl
theorem kX9_init_119 : List.getD tX9_init 119 x_bad = x_vret := rfl
def tX9_load : List PT := [x_aload 0 1, x_getR 9 0, x_bad, x_bad, x_aload 0 1, x_getR 9 8, x_bad, x_bad, x_callV1 8 mX8_readInto, x_bad, x_bad, x_istore 1 1, x_iload 1 1, x_if (fun a => 0 ≤ a) 18, x_bad, x_bad, x_iload 1 1, x_iret, x_aload 0 1, x_callV0 9 mX9_beginGraphChange, x_bad, x_bad, x_aload 0 1, x_getR 9 1, x_bad, x_bad, x_aload 0 1, x_getR 9 8, x_bad, x_bad, x_callV1 3 mX3_become, x_bad, x_bad, x_iload 1 1, x_iret]
set_option maxRecDepth 20000 in
theorem okX9_load : SndT RX9 cX9_load mX9_load.2.2.1 mX9_load.2.2.2.2.1 mX9_load.2.2.2.2.2 false mX9_load.2.2.2.1 0 tX9_load := ⟨s_aload_n (k := 0) (i := 0) (by decide +kernel) rfl, s_getR (by decide +kernel) fl_RX9_10 rfl, s_bad, s_bad, s_aload_n (k := 0) (i := 0) (by decide +kernel) rfl, s_getR (by decide +kernel) fl_RX9_65 rfl, s_bad, s_bad, s_callV1 (by decide +kernel) lv_RX9_82 ⟨by decide, by decide⟩, s_bad, s_bad, s_istore_n (k := 1) (i := 1) (by decide +kernel) rfl (by decide), s_iload_n (k := 1) (i := 1) (by decide +kernel) rfl, s_if_ge (off := 5) (by decide +kernel) (by decide), s_bad, s_bad, s_iload_n (k := 1) (i := 1) (by decide +kernel) rfl, s_iret (by decide +kernel) rfl, s_aload_n (k := 0) (i := 0) (by decide +kernel) rfl, s_callV0 (by decide +kernel) lv_RX9_86 ⟨by decide, by decide⟩, s_bad, s_bad, s_aload_n (k := 0) (i := 0) (by decide +kernel) rfl, s_getR (by decide +kernel) fl_RX9_19 rfl, s_bad, s_bad, s_aload_n (k := 0) (i := 0) (by decide +kernel) rfl, s_getR (by decide +kernel) fl_RX9_65 rfl, s_bad, s_bad, s_callV1 (by decide +kernel) lv_RX9_89 ⟨by decide, by decide⟩, s_bad, s_bad, s_iload_n (k := 1) (i := 1) (by decide +kernel) rfl, s_iret (by decide +kernel) rfl, trivial⟩
theorem kX9_load_0 : List.getD tX9_load 0 x_bad = x_aload 0 1 := rfl
theorem kX9_load_1 : List.getD tX9_load 1 x_bad = x_getR 9 0 := rfl
theorem kX9_load_4 : List.getD tX9_load 4 x_bad = x_aload 0 1 := rfl
theorem kX9_load_5 : List.getD tX9_load 5 x_bad = x_getR 9 8 := rfl
theorem kX9_load_8 : List.getD tX9_load 8 x_bad = x_callV1 8 mX8_readInto := rfl
theorem kX9_load_11 : List.getD tX9_load 11 x_bad = x_istore 1 1 := rfl
theorem kX9_load_12 : List.getD tX9_load 12 x_bad = x_iload 1 1 := rfl
theorem kX9_load_13 : List.getD tX9_load 13 x_bad = x_if (fun a => 0 ≤ a) 18 := rfl
theorem kX9_load_16 : List.getD tX9_load 16 x_bad = x_iload 1 1 := rfl
theorem kX9_load_17 : List.getD tX9_load 17 x_bad = x_iret := rfl
theorem kX9_load_18 : List.getD tX9_load 18 x_bad = x_aload 0 1 := rfl
theorem kX9_load_19 : List.getD tX9_load 19 x_bad = x_callV0 9 mX9_beginGraphChange := rfl
theorem kX9_load_22 : List.getD tX9_load 22 x_bad = x_aload 0 1 := rfl
theorem kX9_load_23 : List.getD tX9_load 23 x_bad = x_getR 9 1 := rfl
theorem kX9_load_26 : List.getD tX9_load 26 x_bad = x_aload 0 1 := rfl
theorem kX9_load_27 : List.getD tX9_load 27 x_bad = x_getR 9 8 := rfl
theorem kX9_load_30 : List.getD tX9_load 30 x_bad = x_callV1 3 mX3_become := rfl
theorem kX9_load_33 : List.getD tX9_load 33 x_bad = x_iload 1 1 := rfl
theorem kX9_load_34 : List.getD tX9_load 34 x_bad = x_iret := rfl
def tX9_setStates : List PT := [x_iload 1 1, x_push (.int (nI 1)) 1, x_icmp (fun a b => a < b) 11, x_bad, x_bad, x_iload 1 1, x_push (.int (nI 10)) 2, x_bad, x_icmp (fun a b => a ≤ b) 13, x_bad, x_bad, x_push (.int (-1)) 1, x_iret, x_aload 0 1, x_getR 9 1, x_bad, x_bad, x_callV0 3 mX3_statesNeeded, x_bad, x_bad, x_iload 1 1, x_icmp (fun a b => a ≤ b) 27, x_bad, x_bad, x_push (.int (-2)) 2, x_bad, x_iret, x_aload 0 1, x_getR 9 1, x_bad, x_bad, x_getI 3 0, x_bad, x_bad, x_istore 2 1, x_aload 0 1, x_callV0 9 mX9_beginGraphChange, x_bad, x_bad, x_aload 0 1, x_getR 9 1, x_bad, x_bad, x_iload 1 1, x_putI 3 0, x_bad, x_bad, x_iload 2 1, x_iret]
set_option maxRecDepth 20000 in
theorem okX9_setStates : SndT RX9 cX9_setStates mX9_setStates.2.2.1 mX9_setStates.2.2.2.2.1 mX9_setStates.2.2.2.2.2 false mX9_setStates.2.2.2.1 0 tX9_setStates := ⟨s_iload_n (k := 1) (i := 1) (by decide +kernel) rfl, s_iconst (n := 1) (by decide +kernel) (by decide +kernel), s_icmp_lt (off := 9) (by decide +kernel) (by decide), s_bad, s_bad, s_iload_n (k := 1) (i := 1) (by decide +kernel) rfl, s_bipush (n := 10) (by decide +kernel) (by decide +kernel), s_bad, s_icmp_le (off := 5) (by decide +kernel) (by decide), s_bad, s_bad, s_iconst (n := (-1)) (by decide +kernel) (by decide +kernel), s_iret (by decide +kernel) rfl, s_aload_n (k := 0) (i := 0) (by decide +kernel) rfl, s_getR (by decide +kernel) fl_RX9_19 rfl, s_bad, s_bad, s_callV0 (by decide +kernel) lv_RX9_96 ⟨by decide, by decide⟩, s_bad, s_bad, s_iload_n (k := 1) (i := 1) (by decide +kernel) rfl, s_icmp_le (off := 6) (by decide +kernel) (by decide), s_bad, s_bad, s_bipush (n := (-2)) (by decide +kernel) (by decide +kernel), s_bad, s_iret (by decide +kernel) rfl, s_aload_n (k := 0) (i := 0) (by decide +kernel) rfl, s_getR (by decide +kernel) fl_RX9_19 rfl, s_bad, s_bad, s_getI (by decide +kernel) fl_RX9_100 rfl, s_bad, s_bad, s_istore_n (k := 2) (i := 2) (by decide +kernel) rfl (by decide), s_aload_n (k := 0) (i := 0) (by decide +kernel) rfl, s_callV0 (by decide +kernel) lv_RX9_86 ⟨by decide, by decide⟩, s_bad, s_bad, s_aload_n (k := 0) (i := 0) (by decide +kernel) rfl, s_getR (by decide +kernel) fl_RX9_19 rfl, s_bad, s_bad, s_iload_n (k := 1) (i := 1) (by decide +kernel) rfl, s_putI (by decide +kernel) fl_RX9_100 fp_3_0 rfl, s_bad, s_bad, s_iload_n (k := 2) (i := 2) (by decide +kernel) rfl, s_iret (by decide +kernel) rfl, trivial⟩
theorem kX9_setStates_0 : List.getD tX9_setStates 0 x_bad = x_iload 1 1 := rfl
theorem kX9_setStates_1 : List.getD tX9_setStates 1 x_bad = x_push (.int (nI 1)) 1 := rfl
theorem kX9_setStates_2 : List.getD tX9_setStates 2 x_bad = x_icmp (fun a b => a < b) 11 := rfl
theorem kX9_setStates_5 : List.getD tX9_setStates 5 x_bad = x_iload 1 1 := rfl
theorem kX9_setStates_6 : List.getD tX9_setStates 6 x_bad = x_push (.int (nI 10)) 2 := rfl
theorem kX9_setStates_8 : List.getD tX9_setStates 8 x_bad = x_icmp (fun a b => a ≤ b) 13 := rfl
theorem kX9_setStates_11 : List.getD tX9_setStates 11 x_bad = x_push (.int (-1)) 1 := rfl
theorem kX9_setStates_12 : List.getD tX9_setStates 12 x_bad = x_iret := rfl
theorem kX9_setStates_13 : List.getD tX9_setStates 13 x_bad = x_aload 0 1 := rfl
theorem kX9_setStates_14 : List.getD tX9_setStates 14 x_bad = x_getR 9 1 := rfl
theorem kX9_setStates_17 : List.getD tX9_setStates 17 x_bad = x_callV0 3 mX3_statesNeeded := rfl
theorem kX9_setStates_20 : List.getD tX9_setStates 20 x_bad = x_iload 1 1 := rfl
theorem kX9_setStates_21 : List.getD tX9_setStates 21 x_bad = x_icmp (fun a b => a ≤ b) 27 := rfl
theorem kX9_setStates_24 : List.getD tX9_setStates 24 x_bad = x_push (.int (-2)) 2 := rfl
theorem kX9_setStates_26 : List.getD tX9_setStates 26 x_bad = x_iret := rfl
theorem kX9_setStates_27 : List.getD tX9_setStates 27 x_bad = x_aload 0 1 := rfl
theorem kX9_setStates_28 : List.getD tX9_setStates 28 x_bad = x_getR 9 1 := rfl
theorem kX9_setStates_31 : List.getD tX9_setStates 31 x_bad = x_getI 3 0 := rfl
theorem kX9_setStates_34 : List.getD tX9_setStates 34 x_bad = x_istore 2 1 := rfl
theorem kX9_setStates_35 : List.getD tX9_setStates 35 x_bad = x_aload 0 1 := rfl
theorem kX9_setStates_36 : List.getD tX9_setStates 36 x_bad = x_callV0 9 mX9_beginGraphChange := rfl
theorem kX9_setStates_39 : List.getD tX9_setStates 39 x_bad = x_aload 0 1 := rfl
theorem kX9_setStates_40 : List.getD tX9_setStates 40 x_bad = x_getR 9 1 := rfl
theorem kX9_setStates_43 : List.getD tX9_setStates 43 x_bad = x_iload 1 1 := rfl
theorem kX9_setStates_44 : List.getD tX9_setStates 44 x_bad = x_putI 3 0 := rfl
theorem kX9_setStates_47 : List.getD tX9_setStates 47 x_bad = x_iload 2 1 := rfl
theorem kX9_setStates_48 : List.getD tX9_setStates 48 x_bad = x_iret := rfl
def tX9_split : List PT := [x_aload 0 1, x_iload 1 1, x_callV1 9 mX9_splitRefusal, x_bad, x_bad, x_istore 2 1, x_iload 2 1, x_if (fun a => a = 0) 12, x_bad, x_bad, x_iload 2 1, x_iret, x_aload 0 1, x_callV0 9 mX9_beginGraphChange, x_bad, x_bad, x_aload 0 1, x_getR 9 1, x_bad, x_bad, x_iload 1 1, x_callV1 3 mX3_splitEvent, x_bad, x_bad, x_iret]
set_option maxRecDepth 20000 in
theorem okX9_split : SndT RX9 cX9_split mX9_split.2.2.1 mX9_split.2.2.2.2.1 mX9_split.2.2.2.2.2 false mX9_split.2.2.2.1 0 tX9_split := ⟨s_aload_n (k := 0) (i := 0) (by decide +kernel) rfl, s_iload_n (k := 1) (i := 1) (by decide +kernel) rfl, s_callV1 (by decide +kernel) lv_RX9_140 ⟨by decide, by decide⟩, s_bad, s_bad, s_istore_n (k := 2) (i := 2) (by decide +kernel) rfl (by decide), s_iload_n (k := 2) (i := 2) (by decide +kernel) rfl, s_if_eq (off := 5) (by decide +kernel) (by decide), s_bad, s_bad, s_iload_n (k := 2) (i := 2) (by decide +kernel) rfl, s_iret (by decide +kernel) rfl, s_aload_n (k := 0) (i := 0) (by decide +kernel) rfl, s_callV0 (by decide +kernel) lv_RX9_86 ⟨by decide, by decide⟩, s_bad, s_bad, s_aload_n (k := 0) (i := 0) (by decide +kernel) rfl, s_getR (by decide +kernel) fl_RX9_19 rfl, s_bad, s_bad, s_iload_n (k := 1) (i := 1) (by decide +kernel) rfl, s_callV1 (by decide +kernel) lv_RX9_144 ⟨by decide, by decide⟩, s_bad, s_bad, s_iret (by decide +kernel) rfl, trivial⟩
theorem kX9_split_0 : List.getD tX9_split 0 x_bad = x_aload 0 1 := rfl
theorem kX9_split_1 : List.getD tX9_split 1 x_bad = x_iload 1 1 := rfl
theorem kX9_split_2 : List.getD tX9_split 2 x_bad = x_callV1 9 mX9_splitRefusal := rfl
theorem kX9_split_5 : List.getD tX9_split 5 x_bad = x_istore 2 1 := rfl
theorem kX9_split_6 : List.getD tX9_split 6 x_bad = x_iload 2 1 := rfl
theorem kX9_split_7 : List.getD tX9_split 7 x_bad = x_if (fun a => a = 0) 12 := rfl
theorem kX9_split_10 : List.getD tX9_split 10 x_bad = x_iload 2 1 := rfl
theorem kX9_split_11 : List.getD tX9_split 11 x_bad = x_iret := rfl
theorem kX9_split_12 : List.getD tX9_split 12 x_bad = x_aload 0 1 := rfl
theorem kX9_split_13 : List.getD tX9_split 13 x_bad = x_callV0 9 mX9_beginGraphChange := rfl
theorem kX9_split_16 : List.getD tX9_split 16 x_bad = x_aload 0 1 := rfl
theorem kX9_split_17 : List.getD tX9_split 17 x_bad = x_getR 9 1 := rfl
theorem kX9_split_20 : List.getD tX9_split 20 x_bad = x_iload 1 1 := rfl
theorem kX9_split_21 : List.getD tX9_split 21 x_bad = x_callV1 3 mX3_splitEvent := rfl
theorem kX9_split_24 : List.getD tX9_split 24 x_bad = x_iret := rfl
def tX9_unsolvedInTrial : List PT := [x_aload 0 1, x_getR 9 9, x_bad, x_bad, x_aload 0 1, x_getR 9 8, x_bad, x_bad, x_callV1 0 mX0_study, x_bad, x_bad, x_aload 0 1, x_getR 9 9, x_bad, x_bad, x_push (.int (nI 0)) 1, x_push (.int (nI 0)) 1, x_callV2 0 mX0_countSeparations, x_bad, x_bad, x_aload 0 1, x_getR 9 9, x_bad, x_bad, x_push (.int (nI 1)) 1, x_push (.int (nI 0)) 1, x_callV2 0 mX0_countSeparations, x_bad, x_bad, x_ii (fun a b => a + b), x_iret]
set_option maxRecDepth 20000 in
theorem okX9_unsolvedInTrial : SndT RX9 cX9_unsolvedInTrial mX9_unsolvedInTrial.2.2.1 mX9_unsolvedInTrial.2.2.2.2.1 mX9_unsolvedInTrial.2.2.2.2.2 false mX9_unsolvedInTrial.2.2.2.1 0 tX9_unsolvedInTrial := ⟨s_aload_n (k := 0) (i := 0) (by decide +kernel) rfl, s_getR (by decide +kernel) fl_RX9_68 rfl, s_bad, s_bad, s_aload_n (k := 0) (i := 0) (by decide +kernel) rfl, s_getR (by decide +kernel) fl_RX9_65 rfl, s_bad, s_bad, s_callV1 (by decide +kernel) lv_RX9_326 ⟨by decide, by decide⟩, s_bad, s_bad, s_aload_n (k := 0) (i := 0) (by decide +kernel) rfl, s_getR (by decide +kernel) fl_RX9_68 rfl, s_bad, s_bad, s_iconst (n := 0) (by decide +kernel) (by decide +kernel), s_iconst (n := 0) (by decide +kernel) (by decide +kernel), s_callV2 (by decide +kernel) lv_RX9_178 ⟨by decide, by decide⟩, s_bad, s_bad, s_aload_n (k := 0) (i := 0) (by decide +kernel) rfl, s_getR (by decide +kernel) fl_RX9_68 rfl, s_bad, s_bad, s_iconst (n := 1) (by decide +kernel) (by decide +kernel), s_iconst (n := 0) (by decide +kernel) (by decide +kernel), s_callV2 (by decide +kernel) lv_RX9_178 ⟨by decide, by decide⟩, s_bad, s_bad, s_iadd (by decide +kernel), s_iret (by decide +kernel) rfl, trivial⟩
theorem kX9_unsolvedInTrial_0 : List.getD tX9_unsolvedInTrial 0 x_bad = x_aload 0 1 := rfl
theorem kX9_unsolvedInTrial_1 : List.getD tX9_unsolvedInTrial 1 x_bad = x_getR 9 9 := rfl
theorem kX9_unsolvedInTrial_4 : List.getD tX9_unsolvedInTrial 4 x_bad = x_aload 0 1 := rfl
theorem kX9_unsolvedInTrial_5 : List.getD tX9_unsolvedInTrial 5 x_bad = x_getR 9 8 := rfl
theorem kX9_unsolvedInTrial_8 : List.getD tX9_unsolvedInTrial 8 x_bad = x_callV1 0 mX0_study := rfl
theorem kX9_unsolvedInTrial_11 : List.getD tX9_unsolvedInTrial 11 x_bad = x_aload 0 1 := rfl
theorem kX9_unsolvedInTrial_12 : List.getD tX9_unsolvedInTrial 12 x_bad = x_getR 9 9 := rfl
theorem kX9_unsolvedInTrial_15 : List.getD tX9_unsolvedInTrial 15 x_bad = x_push (.int (nI 0)) 1 := rfl
theorem kX9_unsolvedInTrial_16 : List.getD tX9_unsolvedInTrial 16 x_bad = x_push (.int (nI 0)) 1 := rfl
theorem kX9_unsolvedInTrial_17 : List.getD tX9_unsolvedInTrial 17 x_bad = x_callV2 0 mX0_countSeparations := rfl
theorem kX9_unsolvedInTrial_20 : List.getD tX9_unsolvedInTrial 20 x_bad = x_aload 0 1 := rfl
theorem kX9_unsolvedInTrial_21 : List.getD tX9_unsolvedInTrial 21 x_bad = x_getR 9 9 := rfl
theorem kX9_unsolvedInTrial_24 : List.getD tX9_unsolvedInTrial 24 x_bad = x_push (.int (nI 1)) 1 := rfl
theorem kX9_unsolvedInTrial_25 : List.getD tX9_unsolvedInTrial 25 x_bad = x_push (.int (nI 0)) 1 := rfl
theorem kX9_unsolvedInTrial_26 : List.getD tX9_unsolvedInTrial 26 x_bad = x_callV2 0 mX0_countSeparations := rfl
theorem kX9_unsolvedInTrial_29 : List.getD tX9_unsolvedInTrial 29 x_bad = x_ii (fun a b => a + b) := rfl
theorem kX9_unsolvedInTrial_30 : List.getD tX9_unsolvedInTrial 30 x_bad = x_iret := rfl
def tX9_ifArc : List PT := [x_aload 0 1, x_iload 1 1, x_iload 2 1, x_iload 3 1, x_callV3 9 mX9_arcRefusal, x_bad, x_bad, x_istore 4 2, x_bad, x_iload 4 2, x_bad, x_if (fun a => a = 0) 17, x_bad, x_bad, x_iload 4 2, x_bad, x_iret, x_aload 0 1, x_getR 9 8, x_bad, x_bad, x_aload 0 1, x_getR 9 1, x_bad, x_bad, x_callV1 3 mX3_become, x_bad, x_bad, x_aload 0 1, x_getR 9 8, x_bad, x_bad, x_iload 1 1, x_iload 2 1, x_iload 3 1, x_callV3 3 mX3_append, x_bad, x_bad, x_aload 0 1, x_callV0 9 mX9_unsolvedInTrial, x_bad, x_bad, x_iret]
set_option maxRecDepth 20000 in
theorem okX9_ifArc : SndT RX9 cX9_ifArc mX9_ifArc.2.2.1 mX9_ifArc.2.2.2.2.1 mX9_ifArc.2.2.2.2.2 false mX9_ifArc.2.2.2.1 0 tX9_ifArc := ⟨s_aload_n (k := 0) (i := 0) (by decide +kernel) rfl, s_iload_n (k := 1) (i := 1) (by decide +kernel) rfl, s_iload_n (k := 2) (i := 2) (by decide +kernel) rfl, s_iload_n (k := 3) (i := 3) (by decide +kernel) rfl, s_callV3 (by decide +kernel) lv_RX9_103 ⟨by decide, by decide⟩, s_bad, s_bad, s_istore (by decide +kernel) (by decide), s_bad, s_iload (by decide +kernel), s_bad, s_if_eq (off := 6) (by decide +kernel) (by decide), s_bad, s_bad, s_iload (by decide +kernel), s_bad, s_iret (by decide +kernel) rfl, s_aload_n (k := 0) (i := 0) (by decide +kernel) rfl, s_getR (by decide +kernel) fl_RX9_65 rfl, s_bad, s_bad, s_aload_n (k := 0) (i := 0) (by decide +kernel) rfl, s_getR (by decide +kernel) fl_RX9_19 rfl, s_bad, s_bad, s_callV1 (by decide +kernel) lv_RX9_89 ⟨by decide, by decide⟩, s_bad, s_bad, s_aload_n (k := 0) (i := 0) (by decide +kernel) rfl, s_getR (by decide +kernel) fl_RX9_65 rfl, s_bad, s_bad, s_iload_n (k := 1) (i := 1) (by decide +kernel) rfl, s_iload_n (k := 2) (i := 2) (by decide +kernel) rfl, s_iload_n (k := 3) (i := 3) (by decide +kernel) rfl, s_callV3 (by decide +kernel) lv_RX9_110 ⟨by decide, by decide⟩, s_bad, s_bad, s_aload_n (k := 0) (i := 0) (by decide +kernel) rfl, s_callV0 (by decide +kernel) lv_RX9_263 ⟨by decide, by decide⟩, s_bad, s_bad, s_iret (by decide +kernel) rfl, trivial⟩
theorem kX9_ifArc_0 : List.getD tX9_ifArc 0 x_bad = x_aload 0 1 := rfl
theorem kX9_ifArc_1 : List.getD tX9_ifArc 1 x_bad = x_iload 1 1 := rfl
theorem kX9_ifArc_2 : List.getD tX9_ifArc 2 x_bad = x_iload 2 1 := rfl
theorem kX9_ifArc_3 : List.getD tX9_ifArc 3 x_bad = x_iload 3 1 := rfl
theorem kX9_ifArc_4 : List.getD tX9_ifArc 4 x_bad = x_callV3 9 mX9_arcRefusal := rfl
theorem kX9_ifArc_7 : List.getD tX9_ifArc 7 x_bad = x_istore 4 2 := rfl
theorem kX9_ifArc_9 : List.getD tX9_ifArc 9 x_bad = x_iload 4 2 := rfl
theorem kX9_ifArc_11 : List.getD tX9_ifArc 11 x_bad = x_if (fun a => a = 0) 17 := rfl
theorem kX9_ifArc_14 : List.getD tX9_ifArc 14 x_bad = x_iload 4 2 := rfl
theorem kX9_ifArc_16 : List.getD tX9_ifArc 16 x_bad = x_iret := rfl
theorem kX9_ifArc_17 : List.getD tX9_ifArc 17 x_bad = x_aload 0 1 := rfl
theorem kX9_ifArc_18 : List.getD tX9_ifArc 18 x_bad = x_getR 9 8 := rfl
theorem kX9_ifArc_21 : List.getD tX9_ifArc 21 x_bad = x_aload 0 1 := rfl
theorem kX9_ifArc_22 : List.getD tX9_ifArc 22 x_bad = x_getR 9 1 := rfl
theorem kX9_ifArc_25 : List.getD tX9_ifArc 25 x_bad = x_callV1 3 mX3_become := rfl
theorem kX9_ifArc_28 : List.getD tX9_ifArc 28 x_bad = x_aload 0 1 := rfl
theorem kX9_ifArc_29 : List.getD tX9_ifArc 29 x_bad = x_getR 9 8 := rfl
theorem kX9_ifArc_32 : List.getD tX9_ifArc 32 x_bad = x_iload 1 1 := rfl
theorem kX9_ifArc_33 : List.getD tX9_ifArc 33 x_bad = x_iload 2 1 := rfl
theorem kX9_ifArc_34 : List.getD tX9_ifArc 34 x_bad = x_iload 3 1 := rfl
theorem kX9_ifArc_35 : List.getD tX9_ifArc 35 x_bad = x_callV3 3 mX3_append := rfl
theorem kX9_ifArc_38 : List.getD tX9_ifArc 38 x_bad = x_aload 0 1 := rfl
theorem kX9_ifArc_39 : List.getD tX9_ifArc 39 x_bad = x_callV0 9 mX9_unsolvedInTrial := rfl
theorem kX9_ifArc_42 : List.getD tX9_ifArc 42 x_bad = x_iret := rfl
def tX9_ifSplit : List PT := [x_aload 0 1, x_iload 1 1, x_callV1 9 mX9_splitRefusal, x_bad, x_bad, x_istore 2 1, x_iload 2 1, x_if (fun a => a = 0) 12, x_bad, x_bad, x_iload 2 1, x_iret, x_aload 0 1, x_getR 9 8, x_bad, x_bad, x_aload 0 1, x_getR 9 1, x_bad, x_bad, x_callV1 3 mX3_become, x_bad, x_bad, x_aload 0 1, x_getR 9 8, x_bad, x_bad, x_iload 1 1, x_callV1 3 mX3_splitEvent, x_bad, x_bad, x_pop, x_aload 0 1, x_callV0 9 mX9_unsolvedInTrial, x_bad, x_bad, x_iret]
set_option maxRecDepth 20000 in
theorem okX9_ifSplit : SndT RX9 cX9_ifSplit mX9_ifSplit.2.2.1 mX9_ifSplit.2.2.2.2.1 mX9_ifSplit.2.2.2.2.2 false mX9_ifSplit.2.2.2.1 0 tX9_ifSplit := ⟨s_aload_n (k := 0) (i := 0) (by decide +kernel) rfl, s_iload_n (k := 1) (i := 1) (by decide +kernel) rfl, s_callV1 (by decide +kernel) lv_RX9_140 ⟨by decide, by decide⟩, s_bad, s_bad, s_istore_n (k := 2) (i := 2) (by decide +kernel) rfl (by decide), s_iload_n (k := 2) (i := 2) (by decide +kernel) rfl, s_if_eq (off := 5) (by decide +kernel) (by decide), s_bad, s_bad, s_iload_n (k := 2) (i := 2) (by decide +kernel) rfl, s_iret (by decide +kernel) rfl, s_aload_n (k := 0) (i := 0) (by decide +kernel) rfl, s_getR (by decide +kernel) fl_RX9_65 rfl, s_bad, s_bad, s_aload_n (k := 0) (i := 0) (by decide +kernel) rfl, s_getR (by decide +kernel) fl_RX9_19 rfl, s_bad, s_bad, s_callV1 (by decide +kernel) lv_RX9_89 ⟨by decide, by decide⟩, s_bad, s_bad, s_aload_n (k := 0) (i := 0) (by decide +kernel) rfl, s_getR (by decide +kernel) fl_RX9_65 rfl, s_bad, s_bad, s_iload_n (k := 1) (i := 1) (by decide +kernel) rfl, s_callV1 (by decide +kernel) lv_RX9_144 ⟨by decide, by decide⟩, s_bad, s_bad, s_pop (by decide +kernel), s_aload_n (k := 0) (i := 0) (by decide +kernel) rfl, s_callV0 (by decide +kernel) lv_RX9_263 ⟨by decide, by decide⟩, s_bad, s_bad, s_iret (by decide +kernel) rfl, trivial⟩
theorem kX9_ifSplit_0 : List.getD tX9_ifSplit 0 x_bad = x_aload 0 1 := rfl
theorem kX9_ifSplit_1 : List.getD tX9_ifSplit 1 x_bad = x_iload 1 1 := rfl
theorem kX9_ifSplit_2 : List.getD tX9_ifSplit 2 x_bad = x_callV1 9 mX9_splitRefusal := rfl
theorem kX9_ifSplit_5 : List.getD tX9_ifSplit 5 x_bad = x_istore 2 1 := rfl
theorem kX9_ifSplit_6 : List.getD tX9_ifSplit 6 x_bad = x_iload 2 1 := rfl
theorem kX9_ifSplit_7 : List.getD tX9_ifSplit 7 x_bad = x_if (fun a => a = 0) 12 := rfl
theorem kX9_ifSplit_10 : List.getD tX9_ifSplit 10 x_bad = x_iload 2 1 := rfl
theorem kX9_ifSplit_11 : List.getD tX9_ifSplit 11 x_bad = x_iret := rfl
theorem kX9_ifSplit_12 : List.getD tX9_ifSplit 12 x_bad = x_aload 0 1 := rfl
theorem kX9_ifSplit_13 : List.getD tX9_ifSplit 13 x_bad = x_getR 9 8 := rfl
theorem kX9_ifSplit_16 : List.getD tX9_ifSplit 16 x_bad = x_aload 0 1 := rfl
theorem kX9_ifSplit_17 : List.getD tX9_ifSplit 17 x_bad = x_getR 9 1 := rfl
theorem kX9_ifSplit_20 : List.getD tX9_ifSplit 20 x_bad = x_callV1 3 mX3_become := rfl
theorem kX9_ifSplit_23 : List.getD tX9_ifSplit 23 x_bad = x_aload 0 1 := rfl
theorem kX9_ifSplit_24 : List.getD tX9_ifSplit 24 x_bad = x_getR 9 8 := rfl
theorem kX9_ifSplit_27 : List.getD tX9_ifSplit 27 x_bad = x_iload 1 1 := rfl
theorem kX9_ifSplit_28 : List.getD tX9_ifSplit 28 x_bad = x_callV1 3 mX3_splitEvent := rfl
theorem kX9_ifSplit_31 : List.getD tX9_ifSplit 31 x_bad = x_pop := rfl
theorem kX9_ifSplit_32 : List.getD tX9_ifSplit 32 x_bad = x_aload 0 1 := rfl
theorem kX9_ifSplit_33 : List.getD tX9_ifSplit 33 x_bad = x_callV0 9 mX9_unsolvedInTrial := rfl
theorem kX9_ifSplit_36 : List.getD tX9_ifSplit 36 x_bad = x_iret := rfl
def tX9_learn : List PT := [x_aload 0 1, x_getI 9 10, x_bad, x_bad, x_push (.int (nI 1)) 1, x_icmp (fun a b => b ≤ a) 29, x_bad, x_bad, x_iload 1 1, x_push (.int (nI 1)) 1, x_icmp (fun a b => a < b) 29, x_bad, x_bad, x_aload 0 1, x_getR 9 4, x_bad, x_bad, x_aload 0 1, x_getR 9 1, x_bad, x_bad, x_callV1 0 mX0_study, x_bad, x_bad, x_aload 0 1, x_push (.int (nI 1)) 1, x_putI 9 10, x_bad, x_bad, x_aload 0 1, x_getI 9 10, x_bad, x_bad, x_push (.int (nI 2)) 1, x_icmp (fun a b => b ≤ a) 65, x_bad, x_bad, x_iload 1 1, x_push (.int (nI 2)) 1, x_icmp (fun a b => a < b) 65, x_bad, x_bad, x_aload 0 1, x_getR 9 5, x_bad, x_bad, x_aload 0 1, x_getR 9 4, x_bad, x_bad, x_aload 0 1, x_getR 9 1, x_bad, x_bad, x_callV0 3 mX3_usedEvents, x_bad, x_bad, x_callV2 5 mX5_build, x_bad, x_bad, x_aload 0 1, x_push (.int (nI 2)) 1, x_putI 9 10, x_bad, x_bad, x_aload 0 1, x_getI 9 10, x_bad, x_bad, x_push (.int (nI 3)) 1, x_icmp (fun a b => b ≤ a) 94, x_bad, x_bad, x_iload 1 1, x_push (.int (nI 3)) 1, x_icmp (fun a b => a < b) 94, x_bad, x_bad, x_aload 0 1, x_getR 9 6, x_bad, x_bad, x_aload 0 1, x_getR 9 5, x_bad, x_bad, x_callV1 6 mX6_explore, x_bad, x_bad, x_aload 0 1, x_push (.int (nI 3)) 1, x_putI 9 10, x_bad, x_bad, x_vret]
set_option maxRecDepth 20000 in
theorem okX9_learn : SndT RX9 cX9_learn mX9_learn.2.2.1 mX9_learn.2.2.2.2.1 mX9_learn.2.2.2.2.2 false mX9_learn.2.2.2.1 0 tX9_learn := ⟨s_aload_n (k := 0) (i := 0) (by decide +kernel) rfl, s_getI (by decide +kernel) fl_RX9_71 rfl, s_bad, s_bad, s_iconst (n := 1) (by decide +kernel) (by decide +kernel), s_icmp_ge (off := 24) (by decide +kernel) (by decide), s_bad, s_bad, s_iload_n (k := 1) (i := 1) (by decide +kernel) rfl, s_iconst (n := 1) (by decide +kernel) (by decide +kernel), s_icmp_lt (off := 19) (by decide +kernel) (by decide), s_bad, s_bad, s_aload_n (k := 0) (i := 0) (by decide +kernel) rfl, s_getR (by decide +kernel) fl_RX9_40 rfl, s_bad, s_bad, s_aload_n (k := 0) (i := 0) (by decide +kernel) rfl, s_getR (by decide +kernel) fl_RX9_19 rfl, s_bad, s_bad, s_callV1 (by decide +kernel) lv_RX9_326 ⟨by decide, by decide⟩, s_bad, s_bad, s_aload_n (k := 0) (i := 0) (by decide +kernel) rfl, s_iconst (n := 1) (by decide +kernel) (by decide +kernel), s_putI (by decide +kernel) fl_RX9_71 fp_9_10 rfl, s_bad, s_bad, s_aload_n (k := 0) (i := 0) (by decide +kernel) rfl, s_getI (by decide +kernel) fl_RX9_71 rfl, s_bad, s_bad, s_iconst (n := 2) (by decide +kernel) (by decide +kernel), s_icmp_ge (off := 31) (by decide +kernel) (by decide), s_bad, s_bad, s_iload_n (k := 1) (i := 1) (by decide +kernel) rfl, s_iconst (n := 2) (by decide +kernel) (by decide +kernel), s_icmp_lt (off := 26) (by decide +kernel) (by decide), s_bad, s_bad, s_aload_n (k := 0) (i := 0) (by decide +kernel) rfl, s_getR (by decide +kernel) fl_RX9_47 rfl, s_bad, s_bad, s_aload_n (k := 0) (i := 0) (by decide +kernel) rfl, s_getR (by decide +kernel) fl_RX9_40 rfl, s_bad, s_bad, s_aload_n (k := 0) (i := 0) (by decide +kernel) rfl, s_getR (by decide +kernel) fl_RX9_19 rfl, s_bad, s_bad, s_callV0 (by decide +kernel) lv_RX9_271 ⟨by decide, by decide⟩, s_bad, s_bad, s_callV2 (by decide +kernel) lv_RX9_329 ⟨by decide, by decide⟩, s_bad, s_bad, s_aload_n (k := 0) (i := 0) (by decide +kernel) rfl, s_iconst (n := 2) (by decide +kernel) (by decide +kernel), s_putI (by decide +kernel) fl_RX9_71 fp_9_10 rfl, s_bad, s_bad, s_aload_n (k := 0) (i := 0) (by decide +kernel) rfl, s_getI (by decide +kernel) fl_RX9_71 rfl, s_bad, s_bad, s_iconst (n := 3) (by decide +kernel) (by decide +kernel), s_icmp_ge (off := 24) (by decide +kernel) (by decide), s_bad, s_bad, s_iload_n (k := 1) (i := 1) (by decide +kernel) rfl, s_iconst (n := 3) (by decide +kernel) (by decide +kernel), s_icmp_lt (off := 19) (by decide +kernel) (by decide), s_bad, s_bad, s_aload_n (k := 0) (i := 0) (by decide +kernel) rfl, s_getR (by decide +kernel) fl_RX9_54 rfl, s_bad, s_bad, s_aload_n (k := 0) (i := 0) (by decide +kernel) rfl, s_getR (by decide +kernel) fl_RX9_47 rfl, s_bad, s_bad, s_callV1 (by decide +kernel) lv_RX9_333 ⟨by decide, by decide⟩, s_bad, s_bad, s_aload_n (k := 0) (i := 0) (by decide +kernel) rfl, s_iconst (n := 3) (by decide +kernel) (by decide +kernel), s_putI (by decide +kernel) fl_RX9_71 fp_9_10 rfl, s_bad, s_bad, s_vret (by decide +kernel) rfl, trivial⟩
theorem kX9_learn_0 : List.getD tX9_learn 0 x_bad = x_aload 0 1 := rfl
theorem kX9_learn_1 : List.getD tX9_learn 1 x_bad = x_getI 9 10 := rfl
theorem kX9_learn_4 : List.getD tX9_learn 4 x_bad = x_push (.int (nI 1)) 1 := rfl
theorem kX9_learn_5 : List.getD tX9_learn 5 x_bad = x_icmp (fun a b => b ≤ a) 29 := rfl
theorem kX9_learn_8 : List.getD tX9_learn 8 x_bad = x_iload 1 1 := rfl
theorem kX9_learn_9 : List.getD tX9_learn 9 x_bad = x_push (.int (nI 1)) 1 := rfl
theorem kX9_learn_10 : List.getD tX9_learn 10 x_bad = x_icmp (fun a b => a < b) 29 := rfl
theorem kX9_learn_13 : List.getD tX9_learn 13 x_bad = x_aload 0 1 := rfl
theorem kX9_learn_14 : List.getD tX9_learn 14 x_bad = x_getR 9 4 := rfl
theorem kX9_learn_17 : List.getD tX9_learn 17 x_bad = x_aload 0 1 := rfl
theorem kX9_learn_18 : List.getD tX9_learn 18 x_bad = x_getR 9 1 := rfl
theorem kX9_learn_21 : List.getD tX9_learn 21 x_bad = x_callV1 0 mX0_study := rfl
theorem kX9_learn_24 : List.getD tX9_learn 24 x_bad = x_aload 0 1 := rfl
theorem kX9_learn_25 : List.getD tX9_learn 25 x_bad = x_push (.int (nI 1)) 1 := rfl
theorem kX9_learn_26 : List.getD tX9_learn 26 x_bad = x_putI 9 10 := rfl
theorem kX9_learn_29 : List.getD tX9_learn 29 x_bad = x_aload 0 1 := rfl
theorem kX9_learn_30 : List.getD tX9_learn 30 x_bad = x_getI 9 10 := rfl
theorem kX9_learn_33 : List.getD tX9_learn 33 x_bad = x_push (.int (nI 2)) 1 := rfl
theorem kX9_learn_34 : List.getD tX9_learn 34 x_bad = x_icmp (fun a b => b ≤ a) 65 := rfl
theorem kX9_learn_37 : List.getD tX9_learn 37 x_bad = x_iload 1 1 := rfl
theorem kX9_learn_38 : List.getD tX9_learn 38 x_bad = x_push (.int (nI 2)) 1 := rfl
theorem kX9_learn_39 : List.getD tX9_learn 39 x_bad = x_icmp (fun a b => a < b) 65 := rfl
theorem kX9_learn_42 : List.getD tX9_learn 42 x_bad = x_aload 0 1 := rfl
theorem kX9_learn_43 : List.getD tX9_learn 43 x_bad = x_getR 9 5 := rfl
theorem kX9_learn_46 : List.getD tX9_learn 46 x_bad = x_aload 0 1 := rfl
theorem kX9_learn_47 : List.getD tX9_learn 47 x_bad = x_getR 9 4 := rfl
theorem kX9_learn_50 : List.getD tX9_learn 50 x_bad = x_aload 0 1 := rfl
theorem kX9_learn_51 : List.getD tX9_learn 51 x_bad = x_getR 9 1 := rfl
theorem kX9_learn_54 : List.getD tX9_learn 54 x_bad = x_callV0 3 mX3_usedEvents := rfl
theorem kX9_learn_57 : List.getD tX9_learn 57 x_bad = x_callV2 5 mX5_build := rfl
theorem kX9_learn_60 : List.getD tX9_learn 60 x_bad = x_aload 0 1 := rfl
theorem kX9_learn_61 : List.getD tX9_learn 61 x_bad = x_push (.int (nI 2)) 1 := rfl
theorem kX9_learn_62 : List.getD tX9_learn 62 x_bad = x_putI 9 10 := rfl
theorem kX9_learn_65 : List.getD tX9_learn 65 x_bad = x_aload 0 1 := rfl
theorem kX9_learn_66 : List.getD tX9_learn 66 x_bad = x_getI 9 10 := rfl
theorem kX9_learn_69 : List.getD tX9_learn 69 x_bad = x_push (.int (nI 3)) 1 := rfl
theorem kX9_learn_70 : List.getD tX9_learn 70 x_bad = x_icmp (fun a b => b ≤ a) 94 := rfl
theorem kX9_learn_73 : List.getD tX9_learn 73 x_bad = x_iload 1 1 := rfl
theorem kX9_learn_74 : List.getD tX9_learn 74 x_bad = x_push (.int (nI 3)) 1 := rfl
theorem kX9_learn_75 : List.getD tX9_learn 75 x_bad = x_icmp (fun a b => a < b) 94 := rfl
theorem kX9_learn_78 : List.getD tX9_learn 78 x_bad = x_aload 0 1 := rfl
theorem kX9_learn_79 : List.getD tX9_learn 79 x_bad = x_getR 9 6 := rfl
theorem kX9_learn_82 : List.getD tX9_learn 82 x_bad = x_aload 0 1 := rfl
theorem kX9_learn_83 : List.getD tX9_learn 83 x_bad = x_getR 9 5 := rfl
theorem kX9_learn_86 : List.getD tX9_learn 86 x_bad = x_callV1 6 mX6_explore := rfl
theorem kX9_learn_89 : List.getD tX9_learn 89 x_bad = x_aload 0 1 := rfl
theorem kX9_learn_90 : List.getD tX9_learn 90 x_bad = x_push (.int (nI 3)) 1 := rfl
theorem kX9_learn_91 : List.getD tX9_learn 91 x_bad = x_putI 9 10 := rfl
theorem kX9_learn_94 : List.getD tX9_learn 94 x_bad = x_vret := rfl
def tX9_enabled : List PT := [x_aload 0 1, x_push (.int (nI 2)) 1, x_callV1 9 mX9_learn, x_bad, x_bad, x_aload 0 1, x_callV0 9 mX9_currentMarking, x_bad, x_bad, x_astore 1 1, x_push (.int (nI 0)) 1, x_istore 2 1, x_push (.int (nI 0)) 1, x_istore 3 1, x_iload 3 1, x_push (.int (nI 8)) 2, x_bad, x_icmp (fun a b => b ≤ a) 44, x_bad, x_bad, x_aload 0 1, x_getR 9 5, x_bad, x_bad, x_iload 3 1, x_aload 1 1, x_callV2 5 mX5_canOccur, x_bad, x_bad, x_if (fun a => a = 0) 38, x_bad, x_bad, x_iload 2 1, x_push (.int (nI 1)) 1, x_iload 3 1, x_ii (fun a b => a <<< (b &&& 31)), x_ii (fun a b => a ||| b), x_istore 2 1, x_iinc 3 (nI 1), x_bad, x_bad, x_goto 14, x_bad, x_bad, x_iload 2 1, x_iret]
set_option maxRecDepth 20000 in
theorem okX9_enabled : SndT RX9 cX9_enabled mX9_enabled.2.2.1 mX9_enabled.2.2.2.2.1 mX9_enabled.2.2.2.2.2 false mX9_enabled.2.2.2.1 0 tX9_enabled := ⟨s_aload_n (k := 0) (i := 0) (by decide +kernel) rfl, s_iconst (n := 2) (by decide +kernel) (by decide +kernel), s_callV1 (by decide +kernel) lv_RX9_147 ⟨by decide, by decide⟩, s_bad, s_bad, s_aload_n (k := 0) (i := 0) (by decide +kernel) rfl, s_callV0 (by decide +kernel) lv_RX9_216 ⟨by decide, by decide⟩, s_bad, s_bad, s_astore_n (k := 1) (i := 1) (by decide +kernel) rfl (by decide), s_iconst (n := 0) (by decide +kernel) (by decide +kernel), s_istore_n (k := 2) (i := 2) (by decide +kernel) rfl (by decide), s_iconst (n := 0) (by decide +kernel) (by decide +kernel), s_istore_n (k := 3) (i := 3) (by decide +kernel) rfl (by decide), s_iload_n (k := 3) (i := 3) (by decide +kernel) rfl, s_bipush (n := 8) (by decide +kernel) (by decide +kernel), s_bad, s_icmp_ge (off := 27) (by decide +kernel) (by decide), s_bad, s_bad, s_aload_n (k := 0) (i := 0) (by decide +kernel) rfl, s_getR (by decide +kernel) fl_RX9_47 rfl, s_bad, s_bad, s_iload_n (k := 3) (i := 3) (by decide +kernel) rfl, s_aload_n (k := 1) (i := 1) (by decide +kernel) rfl, s_callV2 (by decide +kernel) lv_RX9_245 ⟨by decide, by decide⟩, s_bad, s_bad, s_if_eq (off := 9) (by decide +kernel) (by decide), s_bad, s_bad, s_iload_n (k := 2) (i := 2) (by decide +kernel) rfl, s_iconst (n := 1) (by decide +kernel) (by decide +kernel), s_iload_n (k := 3) (i := 3) (by decide +kernel) rfl, s_ishl (by decide +kernel), s_ior (by decide +kernel), s_istore_n (k := 2) (i := 2) (by decide +kernel) rfl (by decide), s_iinc (n := 1) (by decide +kernel) (by decide +kernel) (by decide), s_bad, s_bad, s_goto (off := (-27)) (by decide +kernel) (by decide), s_bad, s_bad, s_iload_n (k := 2) (i := 2) (by decide +kernel) rfl, s_iret (by decide +kernel) rfl, trivial⟩
theorem kX9_enabled_0 : List.getD tX9_enabled 0 x_bad = x_aload 0 1 := rfl
theorem kX9_enabled_1 : List.getD tX9_enabled 1 x_bad = x_push (.int (nI 2)) 1 := rfl
theorem kX9_enabled_2 : List.getD tX9_enabled 2 x_bad = x_callV1 9 mX9_learn := rfl
theorem kX9_enabled_5 : List.getD tX9_enabled 5 x_bad = x_aload 0 1 := rfl
theorem kX9_enabled_6 : List.getD tX9_enabled 6 x_bad = x_callV0 9 mX9_currentMarking := rfl
theorem kX9_enabled_9 : List.getD tX9_enabled 9 x_bad = x_astore 1 1 := rfl
theorem kX9_enabled_10 : List.getD tX9_enabled 10 x_bad = x_push (.int (nI 0)) 1 := rfl
theorem kX9_enabled_11 : List.getD tX9_enabled 11 x_bad = x_istore 2 1 := rfl
theorem kX9_enabled_12 : List.getD tX9_enabled 12 x_bad = x_push (.int (nI 0)) 1 := rfl
theorem kX9_enabled_13 : List.getD tX9_enabled 13 x_bad = x_istore 3 1 := rfl
theorem kX9_enabled_14 : List.getD tX9_enabled 14 x_bad = x_iload 3 1 := rfl
theorem kX9_enabled_15 : List.getD tX9_enabled 15 x_bad = x_push (.int (nI 8)) 2 := rfl
theorem kX9_enabled_17 : List.getD tX9_enabled 17 x_bad = x_icmp (fun a b => b ≤ a) 44 := rfl
theorem kX9_enabled_20 : List.getD tX9_enabled 20 x_bad = x_aload 0 1 := rfl
theorem kX9_enabled_21 : List.getD tX9_enabled 21 x_bad = x_getR 9 5 := rfl
theorem kX9_enabled_24 : List.getD tX9_enabled 24 x_bad = x_iload 3 1 := rfl
theorem kX9_enabled_25 : List.getD tX9_enabled 25 x_bad = x_aload 1 1 := rfl
theorem kX9_enabled_26 : List.getD tX9_enabled 26 x_bad = x_callV2 5 mX5_canOccur := rfl
theorem kX9_enabled_29 : List.getD tX9_enabled 29 x_bad = x_if (fun a => a = 0) 38 := rfl
theorem kX9_enabled_32 : List.getD tX9_enabled 32 x_bad = x_iload 2 1 := rfl
theorem kX9_enabled_33 : List.getD tX9_enabled 33 x_bad = x_push (.int (nI 1)) 1 := rfl
theorem kX9_enabled_34 : List.getD tX9_enabled 34 x_bad = x_iload 3 1 := rfl
theorem kX9_enabled_35 : List.getD tX9_enabled 35 x_bad = x_ii (fun a b => a <<< (b &&& 31)) := rfl
theorem kX9_enabled_36 : List.getD tX9_enabled 36 x_bad = x_ii (fun a b => a ||| b) := rfl
theorem kX9_enabled_37 : List.getD tX9_enabled 37 x_bad = x_istore 2 1 := rfl
theorem kX9_enabled_38 : List.getD tX9_enabled 38 x_bad = x_iinc 3 (nI 1) := rfl
theorem kX9_enabled_41 : List.getD tX9_enabled 41 x_bad = x_goto 14 := rfl
theorem kX9_enabled_44 : List.getD tX9_enabled 44 x_bad = x_iload 2 1 := rfl
theorem kX9_enabled_45 : List.getD tX9_enabled 45 x_bad = x_iret := rfl
def tX9_fire : List PT := [x_iload 1 1, x_callS1 mX9_isEvent, x_bad, x_bad, x_ifn (fun a => a = 0) 9, x_bad, x_bad, x_push (.int (-1)) 1, x_iret, x_aload 0 1, x_push (.int (nI 2)) 1, x_callV1 9 mX9_learn, x_bad, x_bad, x_aload 0 1, x_callV0 9 mX9_currentMarking, x_bad, x_bad, x_astore 2 1, x_aload 0 1, x_getR 9 5, x_bad, x_bad, x_iload 1 1, x_aload 2 1, x_callV2 5 mX5_canOccur, x_bad, x_bad, x_ifn (fun a => a = 0) 34, x_bad, x_bad, x_push (.int (-2)) 2, x_bad, x_iret, x_aload 0 1, x_getR 9 3, x_bad, x_bad, x_aload 0 1, x_getR 9 1, x_bad, x_bad, x_aload 0 1, x_getR 9 2, x_bad, x_bad, x_callV2 4 mX4_remember, x_bad, x_bad, x_aload 0 1, x_getR 9 5, x_bad, x_bad, x_iload 1 1, x_aload 2 1, x_callV2 5 mX5_occur, x_bad, x_bad, x_aload 0 1, x_getR 9 2, x_bad, x_bad, x_dup, x_getI 7 0, x_bad, x_bad, x_push (.int (nI 1)) 1, x_ii (fun a b => a + b), x_putI 7 0, x_bad, x_bad, x_aload 2 1, x_callV0 1 mX1_size, x_bad, x_bad, x_iret]
set_option maxRecDepth 20000 in
theorem okX9_fire : SndT RX9 cX9_fire mX9_fire.2.2.1 mX9_fire.2.2.2.2.1 mX9_fire.2.2.2.2.2 false mX9_fire.2.2.2.1 0 tX9_fire := ⟨s_iload_n (k := 1) (i := 1) (by decide +kernel) rfl, s_callS1 (by decide +kernel) ls_RX9_133 ⟨by decide, by decide⟩, s_bad, s_bad, s_if_ne (off := 5) (by decide +kernel) (by decide), s_bad, s_bad, s_iconst (n := (-1)) (by decide +kernel) (by decide +kernel), s_iret (by decide +kernel) rfl, s_aload_n (k := 0) (i := 0) (by decide +kernel) rfl, s_iconst (n := 2) (by decide +kernel) (by decide +kernel), s_callV1 (by decide +kernel) lv_RX9_147 ⟨by decide, by decide⟩, s_bad, s_bad, s_aload_n (k := 0) (i := 0) (by decide +kernel) rfl, s_callV0 (by decide +kernel) lv_RX9_216 ⟨by decide, by decide⟩, s_bad, s_bad, s_astore_n (k := 2) (i := 2) (by decide +kernel) rfl (by decide), s_aload_n (k := 0) (i := 0) (by decide +kernel) rfl, s_getR (by decide +kernel) fl_RX9_47 rfl, s_bad, s_bad, s_iload_n (k := 1) (i := 1) (by decide +kernel) rfl, s_aload_n (k := 2) (i := 2) (by decide +kernel) rfl, s_callV2 (by decide +kernel) lv_RX9_245 ⟨by decide, by decide⟩, s_bad, s_bad, s_if_ne (off := 6) (by decide +kernel) (by decide), s_bad, s_bad, s_bipush (n := (-2)) (by decide +kernel) (by decide +kernel), s_bad, s_iret (by decide +kernel) rfl, s_aload_n (k := 0) (i := 0) (by decide +kernel) rfl, s_getR (by decide +kernel) fl_RX9_33 rfl, s_bad, s_bad, s_aload_n (k := 0) (i := 0) (by decide +kernel) rfl, s_getR (by decide +kernel) fl_RX9_19 rfl, s_bad, s_bad, s_aload_n (k := 0) (i := 0) (by decide +kernel) rfl, s_getR (by decide +kernel) fl_RX9_26 rfl, s_bad, s_bad, s_callV2 (by decide +kernel) lv_RX9_249 ⟨by decide, by decide⟩, s_bad, s_bad, s_aload_n (k := 0) (i := 0) (by decide +kernel) rfl, s_getR (by decide +kernel) fl_RX9_47 rfl, s_bad, s_bad, s_iload_n (k := 1) (i := 1) (by decide +kernel) rfl, s_aload_n (k := 2) (i := 2) (by decide +kernel) rfl, s_callV2 (by decide +kernel) lv_RX9_253 ⟨by decide, by decide⟩, s_bad, s_bad, s_aload_n (k := 0) (i := 0) (by decide +kernel) rfl, s_getR (by decide +kernel) fl_RX9_26 rfl, s_bad, s_bad, s_dup (by decide +kernel), s_getI (by decide +kernel) fl_RX9_257 rfl, s_bad, s_bad, s_iconst (n := 1) (by decide +kernel) (by decide +kernel), s_iadd (by decide +kernel), s_putI (by decide +kernel) fl_RX9_257 fp_7_0 rfl, s_bad, s_bad, s_aload_n (k := 2) (i := 2) (by decide +kernel) rfl, s_callV0 (by decide +kernel) lv_RX9_260 ⟨by decide, by decide⟩, s_bad, s_bad, s_iret (by decide +kernel) rfl, trivial⟩
theorem kX9_fire_0 : List.getD tX9_fire 0 x_bad = x_iload 1 1 := rfl
theorem kX9_fire_1 : List.getD tX9_fire 1 x_bad = x_callS1 mX9_isEvent := rfl
theorem kX9_fire_4 : List.getD tX9_fire 4 x_bad = x_ifn (fun a => a = 0) 9 := rfl
theorem kX9_fire_7 : List.getD tX9_fire 7 x_bad = x_push (.int (-1)) 1 := rfl
theorem kX9_fire_8 : List.getD tX9_fire 8 x_bad = x_iret := rfl
theorem kX9_fire_9 : List.getD tX9_fire 9 x_bad = x_aload 0 1 := rfl
theorem kX9_fire_10 : List.getD tX9_fire 10 x_bad = x_push (.int (nI 2)) 1 := rfl
theorem kX9_fire_11 : List.getD tX9_fire 11 x_bad = x_callV1 9 mX9_learn := rfl
theorem kX9_fire_14 : List.getD tX9_fire 14 x_bad = x_aload 0 1 := rfl
theorem kX9_fire_15 : List.getD tX9_fire 15 x_bad = x_callV0 9 mX9_currentMarking := rfl
theorem kX9_fire_18 : List.getD tX9_fire 18 x_bad = x_astore 2 1 := rfl
theorem kX9_fire_19 : List.getD tX9_fire 19 x_bad = x_aload 0 1 := rfl
theorem kX9_fire_20 : List.getD tX9_fire 20 x_bad = x_getR 9 5 := rfl
theorem kX9_fire_23 : List.getD tX9_fire 23 x_bad = x_iload 1 1 := rfl
theorem kX9_fire_24 : List.getD tX9_fire 24 x_bad = x_aload 2 1 := rfl
theorem kX9_fire_25 : List.getD tX9_fire 25 x_bad = x_callV2 5 mX5_canOccur := rfl
theorem kX9_fire_28 : List.getD tX9_fire 28 x_bad = x_ifn (fun a => a = 0) 34 := rfl
theorem kX9_fire_31 : List.getD tX9_fire 31 x_bad = x_push (.int (-2)) 2 := rfl
theorem kX9_fire_33 : List.getD tX9_fire 33 x_bad = x_iret := rfl
theorem kX9_fire_34 : List.getD tX9_fire 34 x_bad = x_aload 0 1 := rfl
theorem kX9_fire_35 : List.getD tX9_fire 35 x_bad = x_getR 9 3 := rfl
theorem kX9_fire_38 : List.getD tX9_fire 38 x_bad = x_aload 0 1 := rfl
theorem kX9_fire_39 : List.getD tX9_fire 39 x_bad = x_getR 9 1 := rfl
theorem kX9_fire_42 : List.getD tX9_fire 42 x_bad = x_aload 0 1 := rfl
theorem kX9_fire_43 : List.getD tX9_fire 43 x_bad = x_getR 9 2 := rfl
theorem kX9_fire_46 : List.getD tX9_fire 46 x_bad = x_callV2 4 mX4_remember := rfl
theorem kX9_fire_49 : List.getD tX9_fire 49 x_bad = x_aload 0 1 := rfl
theorem kX9_fire_50 : List.getD tX9_fire 50 x_bad = x_getR 9 5 := rfl
theorem kX9_fire_53 : List.getD tX9_fire 53 x_bad = x_iload 1 1 := rfl
theorem kX9_fire_54 : List.getD tX9_fire 54 x_bad = x_aload 2 1 := rfl
theorem kX9_fire_55 : List.getD tX9_fire 55 x_bad = x_callV2 5 mX5_occur := rfl
theorem kX9_fire_58 : List.getD tX9_fire 58 x_bad = x_aload 0 1 := rfl
theorem kX9_fire_59 : List.getD tX9_fire 59 x_bad = x_getR 9 2 := rfl
theorem kX9_fire_62 : List.getD tX9_fire 62 x_bad = x_dup := rfl
theorem kX9_fire_63 : List.getD tX9_fire 63 x_bad = x_getI 7 0 := rfl
theorem kX9_fire_66 : List.getD tX9_fire 66 x_bad = x_push (.int (nI 1)) 1 := rfl
theorem kX9_fire_67 : List.getD tX9_fire 67 x_bad = x_ii (fun a b => a + b) := rfl
theorem kX9_fire_68 : List.getD tX9_fire 68 x_bad = x_putI 7 0 := rfl
theorem kX9_fire_71 : List.getD tX9_fire 71 x_bad = x_aload 2 1 := rfl
theorem kX9_fire_72 : List.getD tX9_fire 72 x_bad = x_callV0 1 mX1_size := rfl
theorem kX9_fire_75 : List.getD tX9_fire 75 x_bad = x_iret := rfl
def tX9_fits : List PT := [x_aload 0 1, x_push (.int (nI 3)) 1, x_callV1 9 mX9_learn, x_bad, x_bad, x_aload 0 1, x_getR 9 6, x_bad, x_bad, x_aload 0 1, x_getR 9 1, x_bad, x_bad, x_callV1 6 mX6_matches, x_bad, x_bad, x_if (fun a => a = 0) 23, x_bad, x_bad, x_push (.int (nI 1)) 1, x_goto 24, x_bad, x_bad, x_push (.int (nI 0)) 1, x_iret]
set_option maxRecDepth 20000 in
theorem okX9_fits : SndT RX9 cX9_fits mX9_fits.2.2.1 mX9_fits.2.2.2.2.1 mX9_fits.2.2.2.2.2 false mX9_fits.2.2.2.1 0 tX9_fits := ⟨s_aload_n (k := 0) (i := 0) (by decide +kernel) rfl, s_iconst (n := 3) (by decide +kernel) (by decide +kernel), s_callV1 (by decide +kernel) lv_RX9_147 ⟨by decide, by decide⟩, s_bad, s_bad, s_aload_n (k := 0) (i := 0) (by decide +kernel) rfl, s_getR (by decide +kernel) fl_RX9_54 rfl, s_bad, s_bad, s_aload_n (k := 0) (i := 0) (by decide +kernel) rfl, s_getR (by decide +kernel) fl_RX9_19 rfl, s_bad, s_bad, s_callV1 (by decide +kernel) lv_RX9_241 ⟨by decide, by decide⟩, s_bad, s_bad, s_if_eq (off := 7) (by decide +kernel) (by decide), s_bad, s_bad, s_iconst (n := 1) (by decide +kernel) (by decide +kernel), s_goto (off := 4) (by decide +kernel) (by decide), s_bad, s_bad, s_iconst (n := 0) (by decide +kernel) (by decide +kernel), s_iret (by decide +kernel) rfl, trivial⟩
theorem kX9_fits_0 : List.getD tX9_fits 0 x_bad = x_aload 0 1 := rfl
theorem kX9_fits_1 : List.getD tX9_fits 1 x_bad = x_push (.int (nI 3)) 1 := rfl
theorem kX9_fits_2 : List.getD tX9_fits 2 x_bad = x_callV1 9 mX9_learn := rfl
theorem kX9_fits_5 : List.getD tX9_fits 5 x_bad = x_aload 0 1 := rfl
theorem kX9_fits_6 : List.getD tX9_fits 6 x_bad = x_getR 9 6 := rfl
theorem kX9_fits_9 : List.getD tX9_fits 9 x_bad = x_aload 0 1 := rfl
theorem kX9_fits_10 : List.getD tX9_fits 10 x_bad = x_getR 9 1 := rfl
theorem kX9_fits_13 : List.getD tX9_fits 13 x_bad = x_callV1 6 mX6_matches := rfl
theorem kX9_fits_16 : List.getD tX9_fits 16 x_bad = x_if (fun a => a = 0) 23 := rfl
theorem kX9_fits_19 : List.getD tX9_fits 19 x_bad = x_push (.int (nI 1)) 1 := rfl
theorem kX9_fits_20 : List.getD tX9_fits 20 x_bad = x_goto 24 := rfl
theorem kX9_fits_23 : List.getD tX9_fits 23 x_bad = x_push (.int (nI 0)) 1 := rfl
theorem kX9_fits_24 : List.getD tX9_fits 24 x_bad = x_iret := rfl
def tX9_netGraph : List PT := [x_iload 1 1, x_if (fun a => a < 0) 9, x_bad, x_bad, x_iload 1 1, x_push (.int (nI 2)) 1, x_icmp (fun a b => a ≤ b) 11, x_bad, x_bad, x_push (.int (-1)) 1, x_iret, x_aload 0 1, x_push (.int (nI 3)) 1, x_callV1 9 mX9_learn, x_bad, x_bad, x_aload 0 1, x_getR 9 6, x_bad, x_bad, x_getI 6 7, x_bad, x_bad, x_if (fun a => a = 0) 29, x_bad, x_bad, x_push (.int (-3)) 2, x_bad, x_iret, x_iload 1 1, x_ifn (fun a => a = 0) 41, x_bad, x_bad, x_aload 0 1, x_getR 9 6, x_bad, x_bad, x_getI 6 4, x_bad, x_bad, x_iret, x_iload 1 1, x_push (.int (nI 1)) 1, x_icmpn (fun a b => a = b) 56, x_bad, x_bad, x_aload 0 1, x_getR 9 6, x_bad, x_bad, x_getI 6 5, x_bad, x_bad, x_goto 63, x_bad, x_bad, x_aload 0 1, x_getR 9 6, x_bad, x_bad, x_getI 6 6, x_bad, x_bad, x_iret]
set_option maxRecDepth 20000 in
theorem okX9_netGraph : SndT RX9 cX9_netGraph mX9_netGraph.2.2.1 mX9_netGraph.2.2.2.2.1 mX9_netGraph.2.2.2.2.2 false mX9_netGraph.2.2.2.1 0 tX9_netGraph := ⟨s_iload_n (k := 1) (i := 1) (by decide +kernel) rfl, s_if_lt (off := 8) (by decide +kernel) (by decide), s_bad, s_bad, s_iload_n (k := 1) (i := 1) (by decide +kernel) rfl, s_iconst (n := 2) (by decide +kernel) (by decide +kernel), s_icmp_le (off := 5) (by decide +kernel) (by decide), s_bad, s_bad, s_iconst (n := (-1)) (by decide +kernel) (by decide +kernel), s_iret (by decide +kernel) rfl, s_aload_n (k := 0) (i := 0) (by decide +kernel) rfl, s_iconst (n := 3) (by decide +kernel) (by decide +kernel), s_callV1 (by decide +kernel) lv_RX9_147 ⟨by decide, by decide⟩, s_bad, s_bad, s_aload_n (k := 0) (i := 0) (by decide +kernel) rfl, s_getR (by decide +kernel) fl_RX9_54 rfl, s_bad, s_bad, s_getI (by decide +kernel) fl_RX9_228 rfl, s_bad, s_bad, s_if_eq (off := 6) (by decide +kernel) (by decide), s_bad, s_bad, s_bipush (n := (-3)) (by decide +kernel) (by decide +kernel), s_bad, s_iret (by decide +kernel) rfl, s_iload_n (k := 1) (i := 1) (by decide +kernel) rfl, s_if_ne (off := 11) (by decide +kernel) (by decide), s_bad, s_bad, s_aload_n (k := 0) (i := 0) (by decide +kernel) rfl, s_getR (by decide +kernel) fl_RX9_54 rfl, s_bad, s_bad, s_getI (by decide +kernel) fl_RX9_232 rfl, s_bad, s_bad, s_iret (by decide +kernel) rfl, s_iload_n (k := 1) (i := 1) (by decide +kernel) rfl, s_iconst (n := 1) (by decide +kernel) (by decide +kernel), s_icmp_ne (off := 13) (by decide +kernel) (by decide), s_bad, s_bad, s_aload_n (k := 0) (i := 0) (by decide +kernel) rfl, s_getR (by decide +kernel) fl_RX9_54 rfl, s_bad, s_bad, s_getI (by decide +kernel) fl_RX9_235 rfl, s_bad, s_bad, s_goto (off := 10) (by decide +kernel) (by decide), s_bad, s_bad, s_aload_n (k := 0) (i := 0) (by decide +kernel) rfl, s_getR (by decide +kernel) fl_RX9_54 rfl, s_bad, s_bad, s_getI (by decide +kernel) fl_RX9_238 rfl, s_bad, s_bad, s_iret (by decide +kernel) rfl, trivial⟩
theorem kX9_netGraph_0 : List.getD tX9_netGraph 0 x_bad = x_iload 1 1 := rfl
theorem kX9_netGraph_1 : List.getD tX9_netGraph 1 x_bad = x_if (fun a => a < 0) 9 := rfl
theorem kX9_netGraph_4 : List.getD tX9_netGraph 4 x_bad = x_iload 1 1 := rfl
theorem kX9_netGraph_5 : List.getD tX9_netGraph 5 x_bad = x_push (.int (nI 2)) 1 := rfl
theorem kX9_netGraph_6 : List.getD tX9_netGraph 6 x_bad = x_icmp (fun a b => a ≤ b) 11 := rfl
theorem kX9_netGraph_9 : List.getD tX9_netGraph 9 x_bad = x_push (.int (-1)) 1 := rfl
theorem kX9_netGraph_10 : List.getD tX9_netGraph 10 x_bad = x_iret := rfl
theorem kX9_netGraph_11 : List.getD tX9_netGraph 11 x_bad = x_aload 0 1 := rfl
theorem kX9_netGraph_12 : List.getD tX9_netGraph 12 x_bad = x_push (.int (nI 3)) 1 := rfl
theorem kX9_netGraph_13 : List.getD tX9_netGraph 13 x_bad = x_callV1 9 mX9_learn := rfl
theorem kX9_netGraph_16 : List.getD tX9_netGraph 16 x_bad = x_aload 0 1 := rfl
theorem kX9_netGraph_17 : List.getD tX9_netGraph 17 x_bad = x_getR 9 6 := rfl
theorem kX9_netGraph_20 : List.getD tX9_netGraph 20 x_bad = x_getI 6 7 := rfl
theorem kX9_netGraph_23 : List.getD tX9_netGraph 23 x_bad = x_if (fun a => a = 0) 29 := rfl
theorem kX9_netGraph_26 : List.getD tX9_netGraph 26 x_bad = x_push (.int (-3)) 2 := rfl
theorem kX9_netGraph_28 : List.getD tX9_netGraph 28 x_bad = x_iret := rfl
theorem kX9_netGraph_29 : List.getD tX9_netGraph 29 x_bad = x_iload 1 1 := rfl
theorem kX9_netGraph_30 : List.getD tX9_netGraph 30 x_bad = x_ifn (fun a => a = 0) 41 := rfl
theorem kX9_netGraph_33 : List.getD tX9_netGraph 33 x_bad = x_aload 0 1 := rfl
theorem kX9_netGraph_34 : List.getD tX9_netGraph 34 x_bad = x_getR 9 6 := rfl
theorem kX9_netGraph_37 : List.getD tX9_netGraph 37 x_bad = x_getI 6 4 := rfl
theorem kX9_netGraph_40 : List.getD tX9_netGraph 40 x_bad = x_iret := rfl
theorem kX9_netGraph_41 : List.getD tX9_netGraph 41 x_bad = x_iload 1 1 := rfl
theorem kX9_netGraph_42 : List.getD tX9_netGraph 42 x_bad = x_push (.int (nI 1)) 1 := rfl
theorem kX9_netGraph_43 : List.getD tX9_netGraph 43 x_bad = x_icmpn (fun a b => a = b) 56 := rfl
theorem kX9_netGraph_46 : List.getD tX9_netGraph 46 x_bad = x_aload 0 1 := rfl
theorem kX9_netGraph_47 : List.getD tX9_netGraph 47 x_bad = x_getR 9 6 := rfl
theorem kX9_netGraph_50 : List.getD tX9_netGraph 50 x_bad = x_getI 6 5 := rfl
theorem kX9_netGraph_53 : List.getD tX9_netGraph 53 x_bad = x_goto 63 := rfl
theorem kX9_netGraph_56 : List.getD tX9_netGraph 56 x_bad = x_aload 0 1 := rfl
theorem kX9_netGraph_57 : List.getD tX9_netGraph 57 x_bad = x_getR 9 6 := rfl
theorem kX9_netGraph_60 : List.getD tX9_netGraph 60 x_bad = x_getI 6 6 := rfl
theorem kX9_netGraph_63 : List.getD tX9_netGraph 63 x_bad = x_iret := rfl
def tX9_place : List PT := [x_aload 0 1, x_push (.int (nI 2)) 1, x_callV1 9 mX9_learn, x_bad, x_bad, x_iload 1 1, x_if (fun a => a < 0) 20, x_bad, x_bad, x_iload 1 1, x_aload 0 1, x_getR 9 5, x_bad, x_bad, x_getI 5 1, x_bad, x_bad, x_icmp (fun a b => a < b) 22, x_bad, x_bad, x_push (.int (-1)) 1, x_iret, x_aload 0 1, x_getR 9 5, x_bad, x_bad, x_getR 5 0, x_bad, x_bad, x_iload 1 1, x_iald, x_istore 3 1, x_iload 2 1, x_tsw [68, 78, 88, 98, 115] 124, x_bad, x_bad, x_bad, x_bad, x_bad, x_bad, x_bad, x_bad, x_bad, x_bad, x_bad, x_bad, x_bad, x_bad, x_bad, x_bad, x_bad, x_bad, x_bad, x_bad, x_bad, x_bad, x_bad, x_bad, x_bad, x_bad, x_bad, x_bad, x_bad, x_bad, x_bad, x_bad, x_bad, x_bad, x_aload 0 1, x_getR 9 4, x_bad, x_bad, x_getR 0 3, x_bad, x_bad, x_iload 3 1, x_iald, x_iret, x_aload 0 1, x_getR 9 4, x_bad, x_bad, x_getR 0 5, x_bad, x_bad, x_iload 3 1, x_iald, x_iret, x_aload 0 1, x_getR 9 4, x_bad, x_bad, x_getR 0 4, x_bad, x_bad, x_iload 3 1, x_iald, x_iret, x_aload 0 1, x_callV0 9 mX9_currentMarking, x_bad, x_bad, x_iload 1 1, x_callV1 1 mX1_has, x_bad, x_bad, x_if (fun a => a = 0) 113, x_bad, x_bad, x_push (.int (nI 1)) 1, x_goto 114, x_bad, x_bad, x_push (.int (nI 0)) 1, x_iret, x_aload 0 1, x_getR 9 5, x_bad, x_bad, x_iload 1 1, x_callV1 5 mX5_solvedAlone, x_bad, x_bad, x_iret, x_push (.int (-1)) 1, x_iret]
set_option maxRecDepth 20000 in
theorem okX9_place : SndT RX9 cX9_place mX9_place.2.2.1 mX9_place.2.2.2.2.1 mX9_place.2.2.2.2.2 false mX9_place.2.2.2.1 0 tX9_place := ⟨s_aload_n (k := 0) (i := 0) (by decide +kernel) rfl, s_iconst (n := 2) (by decide +kernel) (by decide +kernel), s_callV1 (by decide +kernel) lv_RX9_147 ⟨by decide, by decide⟩, s_bad, s_bad, s_iload_n (k := 1) (i := 1) (by decide +kernel) rfl, s_if_lt (off := 14) (by decide +kernel) (by decide), s_bad, s_bad, s_iload_n (k := 1) (i := 1) (by decide +kernel) rfl, s_aload_n (k := 0) (i := 0) (by decide +kernel) rfl, s_getR (by decide +kernel) fl_RX9_47 rfl, s_bad, s_bad, s_getI (by decide +kernel) fl_RX9_204 rfl, s_bad, s_bad, s_icmp_lt (off := 5) (by decide +kernel) (by decide), s_bad, s_bad, s_iconst (n := (-1)) (by decide +kernel) (by decide +kernel), s_iret (by decide +kernel) rfl, s_aload_n (k := 0) (i := 0) (by decide +kernel) rfl, s_getR (by decide +kernel) fl_RX9_47 rfl, s_bad, s_bad, s_getR (by decide +kernel) fl_RX9_207 rfl, s_bad, s_bad, s_iload_n (k := 1) (i := 1) (by decide +kernel) rfl, s_iald (by decide +kernel), s_istore_n (k := 3) (i := 3) (by decide +kernel) rfl (by decide), s_iload_n (k := 2) (i := 2) (by decide +kernel) rfl, s_tsw (dflt := 91) (hi := 4) (offs := #[35, 45, 55, 65, 82]) (len := 35) (by decide +kernel) (by decide) (by decide) (by decide) (by decide), s_bad, s_bad, s_bad, s_bad, s_bad, s_bad, s_bad, s_bad, s_bad, s_bad, s_bad, s_bad, s_bad, s_bad, s_bad, s_bad, s_bad, s_bad, s_bad, s_bad, s_bad, s_bad, s_bad, s_bad, s_bad, s_bad, s_bad, s_bad, s_bad, s_bad, s_bad, s_bad, s_bad, s_bad, s_aload_n (k := 0) (i := 0) (by decide +kernel) rfl, s_getR (by decide +kernel) fl_RX9_40 rfl, s_bad, s_bad, s_getR (by decide +kernel) fl_RX9_159 rfl, s_bad, s_bad, s_iload_n (k := 3) (i := 3) (by decide +kernel) rfl, s_iald (by decide +kernel), s_iret (by decide +kernel) rfl, s_aload_n (k := 0) (i := 0) (by decide +kernel) rfl, s_getR (by decide +kernel) fl_RX9_40 rfl, s_bad, s_bad, s_getR (by decide +kernel) fl_RX9_210 rfl, s_bad, s_bad, s_iload_n (k := 3) (i := 3) (by decide +kernel) rfl, s_iald (by decide +kernel), s_iret (by decide +kernel) rfl, s_aload_n (k := 0) (i := 0) (by decide +kernel) rfl, s_getR (by decide +kernel) fl_RX9_40 rfl, s_bad, s_bad, s_getR (by decide +kernel) fl_RX9_213 rfl, s_bad, s_bad, s_iload_n (k := 3) (i := 3) (by decide +kernel) rfl, s_iald (by decide +kernel), s_iret (by decide +kernel) rfl, s_aload_n (k := 0) (i := 0) (by decide +kernel) rfl, s_callV0 (by decide +kernel) lv_RX9_216 ⟨by decide, by decide⟩, s_bad, s_bad, s_iload_n (k := 1) (i := 1) (by decide +kernel) rfl, s_callV1 (by decide +kernel) lv_RX9_220 ⟨by decide, by decide⟩, s_bad, s_bad, s_if_eq (off := 7) (by decide +kernel) (by decide), s_bad, s_bad, s_iconst (n := 1) (by decide +kernel) (by decide +kernel), s_goto (off := 4) (by decide +kernel) (by decide), s_bad, s_bad, s_iconst (n := 0) (by decide +kernel) (by decide +kernel), s_iret (by decide +kernel) rfl, s_aload_n (k := 0) (i := 0) (by decide +kernel) rfl, s_getR (by decide +kernel) fl_RX9_47 rfl, s_bad, s_bad, s_iload_n (k := 1) (i := 1) (by decide +kernel) rfl, s_callV1 (by decide +kernel) lv_RX9_225 ⟨by decide, by decide⟩, s_bad, s_bad, s_iret (by decide +kernel) rfl, s_iconst (n := (-1)) (by decide +kernel) (by decide +kernel), s_iret (by decide +kernel) rfl, trivial⟩
theorem kX9_place_0 : List.getD tX9_place 0 x_bad = x_aload 0 1 := rfl
theorem kX9_place_1 : List.getD tX9_place 1 x_bad = x_push (.int (nI 2)) 1 := rfl
theorem kX9_place_2 : List.getD tX9_place 2 x_bad = x_callV1 9 mX9_learn := rfl
theorem kX9_place_5 : List.getD tX9_place 5 x_bad = x_iload 1 1 := rfl
theorem kX9_place_6 : List.getD tX9_place 6 x_bad = x_if (fun a => a < 0) 20 := rfl
theorem kX9_place_9 : List.getD tX9_place 9 x_bad = x_iload 1 1 := rfl
theorem kX9_place_10 : List.getD tX9_place 10 x_bad = x_aload 0 1 := rfl
theorem kX9_place_11 : List.getD tX9_place 11 x_bad = x_getR 9 5 := rfl
theorem kX9_place_14 : List.getD tX9_place 14 x_bad = x_getI 5 1 := rfl
theorem kX9_place_17 : List.getD tX9_place 17 x_bad = x_icmp (fun a b => a < b) 22 := rfl
theorem kX9_place_20 : List.getD tX9_place 20 x_bad = x_push (.int (-1)) 1 := rfl
theorem kX9_place_21 : List.getD tX9_place 21 x_bad = x_iret := rfl
theorem kX9_place_22 : List.getD tX9_place 22 x_bad = x_aload 0 1 := rfl
theorem kX9_place_23 : List.getD tX9_place 23 x_bad = x_getR 9 5 := rfl
theorem kX9_place_26 : List.getD tX9_place 26 x_bad = x_getR 5 0 := rfl
theorem kX9_place_29 : List.getD tX9_place 29 x_bad = x_iload 1 1 := rfl
theorem kX9_place_30 : List.getD tX9_place 30 x_bad = x_iald := rfl
theorem kX9_place_31 : List.getD tX9_place 31 x_bad = x_istore 3 1 := rfl
theorem kX9_place_32 : List.getD tX9_place 32 x_bad = x_iload 2 1 := rfl
theorem kX9_place_33 : List.getD tX9_place 33 x_bad = x_tsw [68, 78, 88, 98, 115] 124 := rfl
theorem kX9_place_68 : List.getD tX9_place 68 x_bad = x_aload 0 1 := rfl
theorem kX9_place_69 : List.getD tX9_place 69 x_bad = x_getR 9 4 := rfl
theorem kX9_place_72 : List.getD tX9_place 72 x_bad = x_getR 0 3 := rfl
theorem kX9_place_75 : List.getD tX9_place 75 x_bad = x_iload 3 1 := rfl
theorem kX9_place_76 : List.getD tX9_place 76 x_bad = x_iald := rfl
theorem kX9_place_77 : List.getD tX9_place 77 x_bad = x_iret := rfl
theorem kX9_place_78 : List.getD tX9_place 78 x_bad = x_aload 0 1 := rfl
theorem kX9_place_79 : List.getD tX9_place 79 x_bad = x_getR 9 4 := rfl
theorem kX9_place_82 : List.getD tX9_place 82 x_bad = x_getR 0 5 := rfl
theorem kX9_place_85 : List.getD tX9_place 85 x_bad = x_iload 3 1 := rfl
theorem kX9_place_86 : List.getD tX9_place 86 x_bad = x_iald := rfl
theorem kX9_place_87 : List.getD tX9_place 87 x_bad = x_iret := rfl
theorem kX9_place_88 : List.getD tX9_place 88 x_bad = x_aload 0 1 := rfl
theorem kX9_place_89 : List.getD tX9_place 89 x_bad = x_getR 9 4 := rfl
theorem kX9_place_92 : List.getD tX9_place 92 x_bad = x_getR 0 4 := rfl
theorem kX9_place_95 : List.getD tX9_place 95 x_bad = x_iload 3 1 := rfl
theorem kX9_place_96 : List.getD tX9_place 96 x_bad = x_iald := rfl
theorem kX9_place_97 : List.getD tX9_place 97 x_bad = x_iret := rfl
theorem kX9_place_98 : List.getD tX9_place 98 x_bad = x_aload 0 1 := rfl
theorem kX9_place_99 : List.getD tX9_place 99 x_bad = x_callV0 9 mX9_currentMarking := rfl
theorem kX9_place_102 : List.getD tX9_place 102 x_bad = x_iload 1 1 := rfl
theorem kX9_place_103 : List.getD tX9_place 103 x_bad = x_callV1 1 mX1_has := rfl
theorem kX9_place_106 : List.getD tX9_place 106 x_bad = x_if (fun a => a = 0) 113 := rfl
theorem kX9_place_109 : List.getD tX9_place 109 x_bad = x_push (.int (nI 1)) 1 := rfl
theorem kX9_place_110 : List.getD tX9_place 110 x_bad = x_goto 114 := rfl
theorem kX9_place_113 : List.getD tX9_place 113 x_bad = x_push (.int (nI 0)) 1 := rfl
theorem kX9_place_114 : List.getD tX9_place 114 x_bad = x_iret := rfl
theorem kX9_place_115 : List.getD tX9_place 115 x_bad = x_aload 0 1 := rfl
theorem kX9_place_116 : List.getD tX9_place 116 x_bad = x_getR 9 5 := rfl
theorem kX9_place_119 : List.getD tX9_place 119 x_bad = x_iload 1 1 := rfl
theorem kX9_place_120 : List.getD tX9_place 120 x_bad = x_callV1 5 mX5_solvedAlone := rfl
theorem kX9_place_123 : List.getD tX9_place 123 x_bad = x_iret := rfl
theorem kX9_place_124 : List.getD tX9_place 124 x_bad = x_push (.int (-1)) 1 := rfl
theorem kX9_place_125 : List.getD tX9_place 125 x_bad = x_iret := rfl
def tX9_places : List PT := [x_aload 0 1, x_push (.int (nI 2)) 1, x_callV1 9 mX9_learn, x_bad, x_bad, x_aload 0 1, x_getR 9 5, x_bad, x_bad, x_getI 5 1, x_bad, x_bad, x_iret]
set_option maxRecDepth 20000 in
theorem okX9_places : SndT RX9 cX9_places mX9_places.2.2.1 mX9_places.2.2.2.2.1 mX9_places.2.2.2.2.2 false mX9_places.2.2.2.1 0 tX9_places := ⟨s_aload_n (k := 0) (i := 0) (by decide +kernel) rfl, s_iconst (n := 2) (by decide +kernel) (by decide +kernel), s_callV1 (by decide +kernel) lv_RX9_147 ⟨by decide, by decide⟩, s_bad, s_bad, s_aload_n (k := 0) (i := 0) (by decide +kernel) rfl, s_getR (by decide +kernel) fl_RX9_47 rfl, s_bad, s_bad, s_getI (by decide +kernel) fl_RX9_204 rfl, s_bad, s_bad, s_iret (by decide +kernel) rfl, trivial⟩
theorem kX9_places_0 : List.getD tX9_places 0 x_bad = x_aload 0 1 := rfl
theorem kX9_places_1 : List.getD tX9_places 1 x_bad = x_push (.int (nI 2)) 1 := rfl
theorem kX9_places_2 : List.getD tX9_places 2 x_bad = x_callV1 9 mX9_learn := rfl
theorem kX9_places_5 : List.getD tX9_places 5 x_bad = x_aload 0 1 := rfl
theorem kX9_places_6 : List.getD tX9_places 6 x_bad = x_getR 9 5 := rfl
theorem kX9_places_9 : List.getD tX9_places 9 x_bad = x_getI 5 1 := rfl
theorem kX9_places_12 : List.getD tX9_places 12 x_bad = x_iret := rfl
def tX9_preventer : List PT := [x_aload 0 1, x_iload 1 1, x_callV1 9 mX9_isState, x_bad, x_bad, x_if (fun a => a = 0) 15, x_bad, x_bad, x_iload 2 1, x_callS1 mX9_isEvent, x_bad, x_bad, x_ifn (fun a => a = 0) 17, x_bad, x_bad, x_push (.int (-1)) 1, x_iret, x_aload 0 1, x_getR 9 1, x_bad, x_bad, x_iload 2 1, x_callV1 3 mX3_arcsWith, x_bad, x_bad, x_if (fun a => a = 0) 40, x_bad, x_bad, x_aload 0 1, x_getR 9 1, x_bad, x_bad, x_iload 1 1, x_iload 2 1, x_callV2 3 mX3_target, x_bad, x_bad, x_if (fun a => a < 0) 43, x_bad, x_bad, x_push (.int (-2)) 2, x_bad, x_iret, x_aload 0 1, x_push (.int (nI 1)) 1, x_callV1 9 mX9_learn, x_bad, x_bad, x_push (.int (nI 0)) 1, x_istore 3 1, x_iload 3 1, x_aload 0 1, x_getR 9 4, x_bad, x_bad, x_getI 0 6, x_bad, x_bad, x_icmp (fun a b => b ≤ a) 90, x_bad, x_bad, x_aload 0 1, x_getR 9 4, x_bad, x_bad, x_iload 3 1, x_iload 1 1, x_iload 2 1, x_callV3 0 mX0_prevents, x_bad, x_bad, x_if (fun a => a = 0) 84, x_bad, x_bad, x_aload 0 1, x_getR 9 4, x_bad, x_bad, x_getR 0 3, x_bad, x_bad, x_iload 3 1, x_iald, x_iret, x_iinc 3 (nI 1), x_bad, x_bad, x_goto 50, x_bad, x_bad, x_push (.int (-9)) 2, x_bad, x_iret]
set_option maxRecDepth 20000 in
theorem okX9_preventer : SndT RX9 cX9_preventer mX9_preventer.2.2.1 mX9_preventer.2.2.2.2.1 mX9_preventer.2.2.2.2.2 false mX9_preventer.2.2.2.1 0 tX9_preventer := ⟨s_aload_n (k := 0) (i := 0) (by decide +kernel) rfl, s_iload_n (k := 1) (i := 1) (by decide +kernel) rfl, s_callV1 (by decide +kernel) lv_RX9_130 ⟨by decide, by decide⟩, s_bad, s_bad, s_if_eq (off := 10) (by decide +kernel) (by decide), s_bad, s_bad, s_iload_n (k := 2) (i := 2) (by decide +kernel) rfl, s_callS1 (by decide +kernel) ls_RX9_133 ⟨by decide, by decide⟩, s_bad, s_bad, s_if_ne (off := 5) (by decide +kernel) (by decide), s_bad, s_bad, s_iconst (n := (-1)) (by decide +kernel) (by decide +kernel), s_iret (by decide +kernel) rfl, s_aload_n (k := 0) (i := 0) (by decide +kernel) rfl, s_getR (by decide +kernel) fl_RX9_19 rfl, s_bad, s_bad, s_iload_n (k := 2) (i := 2) (by decide +kernel) rfl, s_callV1 (by decide +kernel) lv_RX9_186 ⟨by decide, by decide⟩, s_bad, s_bad, s_if_eq (off := 15) (by decide +kernel) (by decide), s_bad, s_bad, s_aload_n (k := 0) (i := 0) (by decide +kernel) rfl, s_getR (by decide +kernel) fl_RX9_19 rfl, s_bad, s_bad, s_iload_n (k := 1) (i := 1) (by decide +kernel) rfl, s_iload_n (k := 2) (i := 2) (by decide +kernel) rfl, s_callV2 (by decide +kernel) lv_RX9_136 ⟨by decide, by decide⟩, s_bad, s_bad, s_if_lt (off := 6) (by decide +kernel) (by decide), s_bad, s_bad, s_bipush (n := (-2)) (by decide +kernel) (by decide +kernel), s_bad, s_iret (by decide +kernel) rfl, s_aload_n (k := 0) (i := 0) (by decide +kernel) rfl, s_iconst (n := 1) (by decide +kernel) (by decide +kernel), s_callV1 (by decide +kernel) lv_RX9_147 ⟨by decide, by decide⟩, s_bad, s_bad, s_iconst (n := 0) (by decide +kernel) (by decide +kernel), s_istore_n (k := 3) (i := 3) (by decide +kernel) rfl (by decide), s_iload_n (k := 3) (i := 3) (by decide +kernel) rfl, s_aload_n (k := 0) (i := 0) (by decide +kernel) rfl, s_getR (by decide +kernel) fl_RX9_40 rfl, s_bad, s_bad, s_getI (by decide +kernel) fl_RX9_153 rfl, s_bad, s_bad, s_icmp_ge (off := 32) (by decide +kernel) (by decide), s_bad, s_bad, s_aload_n (k := 0) (i := 0) (by decide +kernel) rfl, s_getR (by decide +kernel) fl_RX9_40 rfl, s_bad, s_bad, s_iload_n (k := 3) (i := 3) (by decide +kernel) rfl, s_iload_n (k := 1) (i := 1) (by decide +kernel) rfl, s_iload_n (k := 2) (i := 2) (by decide +kernel) rfl, s_callV3 (by decide +kernel) lv_RX9_189 ⟨by decide, by decide⟩, s_bad, s_bad, s_if_eq (off := 13) (by decide +kernel) (by decide), s_bad, s_bad, s_aload_n (k := 0) (i := 0) (by decide +kernel) rfl, s_getR (by decide +kernel) fl_RX9_40 rfl, s_bad, s_bad, s_getR (by decide +kernel) fl_RX9_159 rfl, s_bad, s_bad, s_iload_n (k := 3) (i := 3) (by decide +kernel) rfl, s_iald (by decide +kernel), s_iret (by decide +kernel) rfl, s_iinc (n := 1) (by decide +kernel) (by decide +kernel) (by decide), s_bad, s_bad, s_goto (off := (-37)) (by decide +kernel) (by decide), s_bad, s_bad, s_bipush (n := (-9)) (by decide +kernel) (by decide +kernel), s_bad, s_iret (by decide +kernel) rfl, trivial⟩
theorem kX9_preventer_0 : List.getD tX9_preventer 0 x_bad = x_aload 0 1 := rfl
theorem kX9_preventer_1 : List.getD tX9_preventer 1 x_bad = x_iload 1 1 := rfl
theorem kX9_preventer_2 : List.getD tX9_preventer 2 x_bad = x_callV1 9 mX9_isState := rfl
theorem kX9_preventer_5 : List.getD tX9_preventer 5 x_bad = x_if (fun a => a = 0) 15 := rfl
theorem kX9_preventer_8 : List.getD tX9_preventer 8 x_bad = x_iload 2 1 := rfl
theorem kX9_preventer_9 : List.getD tX9_preventer 9 x_bad = x_callS1 mX9_isEvent := rfl
theorem kX9_preventer_12 : List.getD tX9_preventer 12 x_bad = x_ifn (fun a => a = 0) 17 := rfl
theorem kX9_preventer_15 : List.getD tX9_preventer 15 x_bad = x_push (.int (-1)) 1 := rfl
theorem kX9_preventer_16 : List.getD tX9_preventer 16 x_bad = x_iret := rfl
theorem kX9_preventer_17 : List.getD tX9_preventer 17 x_bad = x_aload 0 1 := rfl
theorem kX9_preventer_18 : List.getD tX9_preventer 18 x_bad = x_getR 9 1 := rfl
theorem kX9_preventer_21 : List.getD tX9_preventer 21 x_bad = x_iload 2 1 := rfl
theorem kX9_preventer_22 : List.getD tX9_preventer 22 x_bad = x_callV1 3 mX3_arcsWith := rfl
theorem kX9_preventer_25 : List.getD tX9_preventer 25 x_bad = x_if (fun a => a = 0) 40 := rfl
theorem kX9_preventer_28 : List.getD tX9_preventer 28 x_bad = x_aload 0 1 := rfl
theorem kX9_preventer_29 : List.getD tX9_preventer 29 x_bad = x_getR 9 1 := rfl
theorem kX9_preventer_32 : List.getD tX9_preventer 32 x_bad = x_iload 1 1 := rfl
theorem kX9_preventer_33 : List.getD tX9_preventer 33 x_bad = x_iload 2 1 := rfl
theorem kX9_preventer_34 : List.getD tX9_preventer 34 x_bad = x_callV2 3 mX3_target := rfl
theorem kX9_preventer_37 : List.getD tX9_preventer 37 x_bad = x_if (fun a => a < 0) 43 := rfl
theorem kX9_preventer_40 : List.getD tX9_preventer 40 x_bad = x_push (.int (-2)) 2 := rfl
theorem kX9_preventer_42 : List.getD tX9_preventer 42 x_bad = x_iret := rfl
theorem kX9_preventer_43 : List.getD tX9_preventer 43 x_bad = x_aload 0 1 := rfl
theorem kX9_preventer_44 : List.getD tX9_preventer 44 x_bad = x_push (.int (nI 1)) 1 := rfl
theorem kX9_preventer_45 : List.getD tX9_preventer 45 x_bad = x_callV1 9 mX9_learn := rfl
theorem kX9_preventer_48 : List.getD tX9_preventer 48 x_bad = x_push (.int (nI 0)) 1 := rfl
theorem kX9_preventer_49 : List.getD tX9_preventer 49 x_bad = x_istore 3 1 := rfl
theorem kX9_preventer_50 : List.getD tX9_preventer 50 x_bad = x_iload 3 1 := rfl
theorem kX9_preventer_51 : List.getD tX9_preventer 51 x_bad = x_aload 0 1 := rfl
theorem kX9_preventer_52 : List.getD tX9_preventer 52 x_bad = x_getR 9 4 := rfl
theorem kX9_preventer_55 : List.getD tX9_preventer 55 x_bad = x_getI 0 6 := rfl
theorem kX9_preventer_58 : List.getD tX9_preventer 58 x_bad = x_icmp (fun a b => b ≤ a) 90 := rfl
theorem kX9_preventer_61 : List.getD tX9_preventer 61 x_bad = x_aload 0 1 := rfl
theorem kX9_preventer_62 : List.getD tX9_preventer 62 x_bad = x_getR 9 4 := rfl
theorem kX9_preventer_65 : List.getD tX9_preventer 65 x_bad = x_iload 3 1 := rfl
theorem kX9_preventer_66 : List.getD tX9_preventer 66 x_bad = x_iload 1 1 := rfl
theorem kX9_preventer_67 : List.getD tX9_preventer 67 x_bad = x_iload 2 1 := rfl
theorem kX9_preventer_68 : List.getD tX9_preventer 68 x_bad = x_callV3 0 mX0_prevents := rfl
theorem kX9_preventer_71 : List.getD tX9_preventer 71 x_bad = x_if (fun a => a = 0) 84 := rfl
theorem kX9_preventer_74 : List.getD tX9_preventer 74 x_bad = x_aload 0 1 := rfl
theorem kX9_preventer_75 : List.getD tX9_preventer 75 x_bad = x_getR 9 4 := rfl
theorem kX9_preventer_78 : List.getD tX9_preventer 78 x_bad = x_getR 0 3 := rfl
theorem kX9_preventer_81 : List.getD tX9_preventer 81 x_bad = x_iload 3 1 := rfl
theorem kX9_preventer_82 : List.getD tX9_preventer 82 x_bad = x_iald := rfl
theorem kX9_preventer_83 : List.getD tX9_preventer 83 x_bad = x_iret := rfl
theorem kX9_preventer_84 : List.getD tX9_preventer 84 x_bad = x_iinc 3 (nI 1) := rfl
theorem kX9_preventer_87 : List.getD tX9_preventer 87 x_bad = x_goto 50 := rfl
theorem kX9_preventer_90 : List.getD tX9_preventer 90 x_bad = x_push (.int (-9)) 2 := rfl
theorem kX9_preventer_92 : List.getD tX9_preventer 92 x_bad = x_iret := rfl
def tX9_region : List PT := [x_iload 1 1, x_if (fun a => 0 ≤ a) 6, x_bad, x_bad, x_push (.int (-1)) 1, x_iret, x_aload 0 1, x_push (.int (nI 1)) 1, x_callV1 9 mX9_learn, x_bad, x_bad, x_iload 2 1, x_if (fun a => a = 0) 41, x_bad, x_bad, x_iload 1 1, x_aload 0 1, x_getR 9 4, x_bad, x_bad, x_getI 0 6, x_bad, x_bad, x_icmp (fun a b => b ≤ a) 38, x_bad, x_bad, x_aload 0 1, x_getR 9 4, x_bad, x_bad, x_getR 0 3, x_bad, x_bad, x_iload 1 1, x_iald, x_goto 40, x_bad, x_bad, x_push (.int (-9)) 2, x_bad, x_iret, x_iload 1 1, x_aload 0 1, x_getR 9 4, x_bad, x_bad, x_getI 0 2, x_bad, x_bad, x_icmp (fun a b => b ≤ a) 64, x_bad, x_bad, x_aload 0 1, x_getR 9 4, x_bad, x_bad, x_getR 0 1, x_bad, x_bad, x_iload 1 1, x_iald, x_goto 66, x_bad, x_bad, x_push (.int (-9)) 2, x_bad, x_iret]
set_option maxRecDepth 20000 in
theorem okX9_region : SndT RX9 cX9_region mX9_region.2.2.1 mX9_region.2.2.2.2.1 mX9_region.2.2.2.2.2 false mX9_region.2.2.2.1 0 tX9_region := ⟨s_iload_n (k := 1) (i := 1) (by decide +kernel) rfl, s_if_ge (off := 5) (by decide +kernel) (by decide), s_bad, s_bad, s_iconst (n := (-1)) (by decide +kernel) (by decide +kernel), s_iret (by decide +kernel) rfl, s_aload_n (k := 0) (i := 0) (by decide +kernel) rfl, s_iconst (n := 1) (by decide +kernel) (by decide +kernel), s_callV1 (by decide +kernel) lv_RX9_147 ⟨by decide, by decide⟩, s_bad, s_bad, s_iload_n (k := 2) (i := 2) (by decide +kernel) rfl, s_if_eq (off := 29) (by decide +kernel) (by decide), s_bad, s_bad, s_iload_n (k := 1) (i := 1) (by decide +kernel) rfl, s_aload_n (k := 0) (i := 0) (by decide +kernel) rfl, s_getR (by decide +kernel) fl_RX9_40 rfl, s_bad, s_bad, s_getI (by decide +kernel) fl_RX9_153 rfl, s_bad, s_bad, s_icmp_ge (off := 15) (by decide +kernel) (by decide), s_bad, s_bad, s_aload_n (k := 0) (i := 0) (by decide +kernel) rfl, s_getR (by decide +kernel) fl_RX9_40 rfl, s_bad, s_bad, s_getR (by decide +kernel) fl_RX9_159 rfl, s_bad, s_bad, s_iload_n (k := 1) (i := 1) (by decide +kernel) rfl, s_iald (by decide +kernel), s_goto (off := 5) (by decide +kernel) (by decide), s_bad, s_bad, s_bipush (n := (-9)) (by decide +kernel) (by decide +kernel), s_bad, s_iret (by decide +kernel) rfl, s_iload_n (k := 1) (i := 1) (by decide +kernel) rfl, s_aload_n (k := 0) (i := 0) (by decide +kernel) rfl, s_getR (by decide +kernel) fl_RX9_40 rfl, s_bad, s_bad, s_getI (by decide +kernel) fl_RX9_156 rfl, s_bad, s_bad, s_icmp_ge (off := 15) (by decide +kernel) (by decide), s_bad, s_bad, s_aload_n (k := 0) (i := 0) (by decide +kernel) rfl, s_getR (by decide +kernel) fl_RX9_40 rfl, s_bad, s_bad, s_getR (by decide +kernel) fl_RX9_162 rfl, s_bad, s_bad, s_iload_n (k := 1) (i := 1) (by decide +kernel) rfl, s_iald (by decide +kernel), s_goto (off := 5) (by decide +kernel) (by decide), s_bad, s_bad, s_bipush (n := (-9)) (by decide +kernel) (by decide +kernel), s_bad, s_iret (by decide +kernel) rfl, trivial⟩
theorem kX9_region_0 : List.getD tX9_region 0 x_bad = x_iload 1 1 := rfl
theorem kX9_region_1 : List.getD tX9_region 1 x_bad = x_if (fun a => 0 ≤ a) 6 := rfl
theorem kX9_region_4 : List.getD tX9_region 4 x_bad = x_push (.int (-1)) 1 := rfl
theorem kX9_region_5 : List.getD tX9_region 5 x_bad = x_iret := rfl
theorem kX9_region_6 : List.getD tX9_region 6 x_bad = x_aload 0 1 := rfl
theorem kX9_region_7 : List.getD tX9_region 7 x_bad = x_push (.int (nI 1)) 1 := rfl
theorem kX9_region_8 : List.getD tX9_region 8 x_bad = x_callV1 9 mX9_learn := rfl
theorem kX9_region_11 : List.getD tX9_region 11 x_bad = x_iload 2 1 := rfl
theorem kX9_region_12 : List.getD tX9_region 12 x_bad = x_if (fun a => a = 0) 41 := rfl
theorem kX9_region_15 : List.getD tX9_region 15 x_bad = x_iload 1 1 := rfl
theorem kX9_region_16 : List.getD tX9_region 16 x_bad = x_aload 0 1 := rfl
theorem kX9_region_17 : List.getD tX9_region 17 x_bad = x_getR 9 4 := rfl
theorem kX9_region_20 : List.getD tX9_region 20 x_bad = x_getI 0 6 := rfl
theorem kX9_region_23 : List.getD tX9_region 23 x_bad = x_icmp (fun a b => b ≤ a) 38 := rfl
theorem kX9_region_26 : List.getD tX9_region 26 x_bad = x_aload 0 1 := rfl
theorem kX9_region_27 : List.getD tX9_region 27 x_bad = x_getR 9 4 := rfl
theorem kX9_region_30 : List.getD tX9_region 30 x_bad = x_getR 0 3 := rfl
theorem kX9_region_33 : List.getD tX9_region 33 x_bad = x_iload 1 1 := rfl
theorem kX9_region_34 : List.getD tX9_region 34 x_bad = x_iald := rfl
theorem kX9_region_35 : List.getD tX9_region 35 x_bad = x_goto 40 := rfl
theorem kX9_region_38 : List.getD tX9_region 38 x_bad = x_push (.int (-9)) 2 := rfl
theorem kX9_region_40 : List.getD tX9_region 40 x_bad = x_iret := rfl
theorem kX9_region_41 : List.getD tX9_region 41 x_bad = x_iload 1 1 := rfl
theorem kX9_region_42 : List.getD tX9_region 42 x_bad = x_aload 0 1 := rfl
theorem kX9_region_43 : List.getD tX9_region 43 x_bad = x_getR 9 4 := rfl
theorem kX9_region_46 : List.getD tX9_region 46 x_bad = x_getI 0 2 := rfl
theorem kX9_region_49 : List.getD tX9_region 49 x_bad = x_icmp (fun a b => b ≤ a) 64 := rfl
theorem kX9_region_52 : List.getD tX9_region 52 x_bad = x_aload 0 1 := rfl
theorem kX9_region_53 : List.getD tX9_region 53 x_bad = x_getR 9 4 := rfl
theorem kX9_region_56 : List.getD tX9_region 56 x_bad = x_getR 0 1 := rfl
theorem kX9_region_59 : List.getD tX9_region 59 x_bad = x_iload 1 1 := rfl
theorem kX9_region_60 : List.getD tX9_region 60 x_bad = x_iald := rfl
theorem kX9_region_61 : List.getD tX9_region 61 x_bad = x_goto 66 := rfl
theorem kX9_region_64 : List.getD tX9_region 64 x_bad = x_push (.int (-9)) 2 := rfl
theorem kX9_region_66 : List.getD tX9_region 66 x_bad = x_iret := rfl
def tX9_regionAround : List PT := [x_aload 0 1, x_iload 1 1, x_callV1 9 mX9_isStateSet, x_bad, x_bad, x_ifn (fun a => a = 0) 10, x_bad, x_bad, x_push (.int (-1)) 1, x_iret, x_aload 0 1, x_push (.int (nI 1)) 1, x_callV1 9 mX9_learn, x_bad, x_bad, x_aload 0 1, x_getR 9 4, x_bad, x_bad, x_iload 1 1, x_callV1 0 mX0_smallestAround, x_bad, x_bad, x_istore 2 1, x_iload 2 1, x_if (fun a => 0 ≤ a) 33, x_bad, x_bad, x_push (.int (-9)) 2, x_bad, x_goto 34, x_bad, x_bad, x_iload 2 1, x_iret]
set_option maxRecDepth 20000 in
theorem okX9_regionAround : SndT RX9 cX9_regionAround mX9_regionAround.2.2.1 mX9_regionAround.2.2.2.2.1 mX9_regionAround.2.2.2.2.2 false mX9_regionAround.2.2.2.1 0 tX9_regionAround := ⟨s_aload_n (k := 0) (i := 0) (by decide +kernel) rfl, s_iload_n (k := 1) (i := 1) (by decide +kernel) rfl, s_callV1 (by decide +kernel) lv_RX9_165 ⟨by decide, by decide⟩, s_bad, s_bad, s_if_ne (off := 5) (by decide +kernel) (by decide), s_bad, s_bad, s_iconst (n := (-1)) (by decide +kernel) (by decide +kernel), s_iret (by decide +kernel) rfl, s_aload_n (k := 0) (i := 0) (by decide +kernel) rfl, s_iconst (n := 1) (by decide +kernel) (by decide +kernel), s_callV1 (by decide +kernel) lv_RX9_147 ⟨by decide, by decide⟩, s_bad, s_bad, s_aload_n (k := 0) (i := 0) (by decide +kernel) rfl, s_getR (by decide +kernel) fl_RX9_40 rfl, s_bad, s_bad, s_iload_n (k := 1) (i := 1) (by decide +kernel) rfl, s_callV1 (by decide +kernel) lv_RX9_175 ⟨by decide, by decide⟩, s_bad, s_bad, s_istore_n (k := 2) (i := 2) (by decide +kernel) rfl (by decide), s_iload_n (k := 2) (i := 2) (by decide +kernel) rfl, s_if_ge (off := 8) (by decide +kernel) (by decide), s_bad, s_bad, s_bipush (n := (-9)) (by decide +kernel) (by decide +kernel), s_bad, s_goto (off := 4) (by decide +kernel) (by decide), s_bad, s_bad, s_iload_n (k := 2) (i := 2) (by decide +kernel) rfl, s_iret (by decide +kernel) rfl, trivial⟩
theorem kX9_regionAround_0 : List.getD tX9_regionAround 0 x_bad = x_aload 0 1 := rfl
theorem kX9_regionAround_1 : List.getD tX9_regionAround 1 x_bad = x_iload 1 1 := rfl
theorem kX9_regionAround_2 : List.getD tX9_regionAround 2 x_bad = x_callV1 9 mX9_isStateSet := rfl
theorem kX9_regionAround_5 : List.getD tX9_regionAround 5 x_bad = x_ifn (fun a => a = 0) 10 := rfl
theorem kX9_regionAround_8 : List.getD tX9_regionAround 8 x_bad = x_push (.int (-1)) 1 := rfl
theorem kX9_regionAround_9 : List.getD tX9_regionAround 9 x_bad = x_iret := rfl
theorem kX9_regionAround_10 : List.getD tX9_regionAround 10 x_bad = x_aload 0 1 := rfl
theorem kX9_regionAround_11 : List.getD tX9_regionAround 11 x_bad = x_push (.int (nI 1)) 1 := rfl
theorem kX9_regionAround_12 : List.getD tX9_regionAround 12 x_bad = x_callV1 9 mX9_learn := rfl
theorem kX9_regionAround_15 : List.getD tX9_regionAround 15 x_bad = x_aload 0 1 := rfl
theorem kX9_regionAround_16 : List.getD tX9_regionAround 16 x_bad = x_getR 9 4 := rfl
theorem kX9_regionAround_19 : List.getD tX9_regionAround 19 x_bad = x_iload 1 1 := rfl
theorem kX9_regionAround_20 : List.getD tX9_regionAround 20 x_bad = x_callV1 0 mX0_smallestAround := rfl
theorem kX9_regionAround_23 : List.getD tX9_regionAround 23 x_bad = x_istore 2 1 := rfl
theorem kX9_regionAround_24 : List.getD tX9_regionAround 24 x_bad = x_iload 2 1 := rfl
theorem kX9_regionAround_25 : List.getD tX9_regionAround 25 x_bad = x_if (fun a => 0 ≤ a) 33 := rfl
theorem kX9_regionAround_28 : List.getD tX9_regionAround 28 x_bad = x_push (.int (-9)) 2 := rfl
theorem kX9_regionAround_30 : List.getD tX9_regionAround 30 x_bad = x_goto 34 := rfl
theorem kX9_regionAround_33 : List.getD tX9_regionAround 33 x_bad = x_iload 2 1 := rfl
theorem kX9_regionAround_34 : List.getD tX9_regionAround 34 x_bad = x_iret := rfl
def tX9_regions : List PT := [x_aload 0 1, x_push (.int (nI 1)) 1, x_callV1 9 mX9_learn, x_bad, x_bad, x_iload 1 1, x_if (fun a => a = 0) 19, x_bad, x_bad, x_aload 0 1, x_getR 9 4, x_bad, x_bad, x_getI 0 6, x_bad, x_bad, x_goto 26, x_bad, x_bad, x_aload 0 1, x_getR 9 4, x_bad, x_bad, x_getI 0 2, x_bad, x_bad, x_iret]
set_option maxRecDepth 20000 in
theorem okX9_regions : SndT RX9 cX9_regions mX9_regions.2.2.1 mX9_regions.2.2.2.2.1 mX9_regions.2.2.2.2.2 false mX9_regions.2.2.2.1 0 tX9_regions := ⟨s_aload_n (k := 0) (i := 0) (by decide +kernel) rfl, s_iconst (n := 1) (by decide +kernel) (by decide +kernel), s_callV1 (by decide +kernel) lv_RX9_147 ⟨by decide, by decide⟩, s_bad, s_bad, s_iload_n (k := 1) (i := 1) (by decide +kernel) rfl, s_if_eq (off := 13) (by decide +kernel) (by decide), s_bad, s_bad, s_aload_n (k := 0) (i := 0) (by decide +kernel) rfl, s_getR (by decide +kernel) fl_RX9_40 rfl, s_bad, s_bad, s_getI (by decide +kernel) fl_RX9_153 rfl, s_bad, s_bad, s_goto (off := 10) (by decide +kernel) (by decide), s_bad, s_bad, s_aload_n (k := 0) (i := 0) (by decide +kernel) rfl, s_getR (by decide +kernel) fl_RX9_40 rfl, s_bad, s_bad, s_getI (by decide +kernel) fl_RX9_156 rfl, s_bad, s_bad, s_iret (by decide +kernel) rfl, trivial⟩
theorem kX9_regions_0 : List.getD tX9_regions 0 x_bad = x_aload 0 1 := rfl
theorem kX9_regions_1 : List.getD tX9_regions 1 x_bad = x_push (.int (nI 1)) 1 := rfl
theorem kX9_regions_2 : List.getD tX9_regions 2 x_bad = x_callV1 9 mX9_learn := rfl
theorem kX9_regions_5 : List.getD tX9_regions 5 x_bad = x_iload 1 1 := rfl
theorem kX9_regions_6 : List.getD tX9_regions 6 x_bad = x_if (fun a => a = 0) 19 := rfl
theorem kX9_regions_9 : List.getD tX9_regions 9 x_bad = x_aload 0 1 := rfl
theorem kX9_regions_10 : List.getD tX9_regions 10 x_bad = x_getR 9 4 := rfl
theorem kX9_regions_13 : List.getD tX9_regions 13 x_bad = x_getI 0 6 := rfl
theorem kX9_regions_16 : List.getD tX9_regions 16 x_bad = x_goto 26 := rfl
theorem kX9_regions_19 : List.getD tX9_regions 19 x_bad = x_aload 0 1 := rfl
theorem kX9_regions_20 : List.getD tX9_regions 20 x_bad = x_getR 9 4 := rfl
theorem kX9_regions_23 : List.getD tX9_regions 23 x_bad = x_getI 0 2 := rfl
theorem kX9_regions_26 : List.getD tX9_regions 26 x_bad = x_iret := rfl
def tX9_repair : List PT := [x_aload 0 1, x_callV0 9 mX9_beginGraphChange, x_bad, x_bad, x_push (.int (nI 0)) 1, x_istore 1 1, x_iload 1 1, x_push (.int (nI 8)) 2, x_bad, x_icmp (fun a b => b ≤ a) 56, x_bad, x_bad, x_aload 0 1, x_push (.int (nI 1)) 1, x_callV1 9 mX9_learn, x_bad, x_bad, x_aload 0 1, x_getR 9 4, x_bad, x_bad, x_aload 0 1, x_getR 9 1, x_bad, x_bad, x_callV1 0 mX0_eventToSplit, x_bad, x_bad, x_istore 2 1, x_iload 2 1, x_if (fun a => 0 ≤ a) 36, x_bad, x_bad, x_goto 56, x_bad, x_bad, x_aload 0 1, x_getR 9 1, x_bad, x_bad, x_iload 2 1, x_callV1 3 mX3_splitEvent, x_bad, x_bad, x_pop, x_aload 0 1, x_push (.int (nI 0)) 1, x_putI 9 10, x_bad, x_bad, x_iinc 1 (nI 1), x_bad, x_bad, x_goto 6, x_bad, x_bad, x_iload 1 1, x_iret]
set_option maxRecDepth 20000 in
theorem okX9_repair : SndT RX9 cX9_repair mX9_repair.2.2.1 mX9_repair.2.2.2.2.1 mX9_repair.2.2.2.2.2 false mX9_repair.2.2.2.1 0 tX9_repair := ⟨s_aload_n (k := 0) (i := 0) (by decide +kernel) rfl, s_callV0 (by decide +kernel) lv_RX9_86 ⟨by decide, by decide⟩, s_bad, s_bad, s_iconst (n := 0) (by decide +kernel) (by decide +kernel), s_istore_n (k := 1) (i := 1) (by decide +kernel) rfl (by decide), s_iload_n (k := 1) (i := 1) (by decide +kernel) rfl, s_bipush (n := 8) (by decide +kernel) (by decide +kernel), s_bad, s_icmp_ge (off := 47) (by decide +kernel) (by decide), s_bad, s_bad, s_aload_n (k := 0) (i := 0) (by decide +kernel) rfl, s_iconst (n := 1) (by decide +kernel) (by decide +kernel), s_callV1 (by decide +kernel) lv_RX9_147 ⟨by decide, by decide⟩, s_bad, s_bad, s_aload_n (k := 0) (i := 0) (by decide +kernel) rfl, s_getR (by decide +kernel) fl_RX9_40 rfl, s_bad, s_bad, s_aload_n (k := 0) (i := 0) (by decide +kernel) rfl, s_getR (by decide +kernel) fl_RX9_19 rfl, s_bad, s_bad, s_callV1 (by decide +kernel) lv_RX9_150 ⟨by decide, by decide⟩, s_bad, s_bad, s_istore_n (k := 2) (i := 2) (by decide +kernel) rfl (by decide), s_iload_n (k := 2) (i := 2) (by decide +kernel) rfl, s_if_ge (off := 6) (by decide +kernel) (by decide), s_bad, s_bad, s_goto (off := 23) (by decide +kernel) (by decide), s_bad, s_bad, s_aload_n (k := 0) (i := 0) (by decide +kernel) rfl, s_getR (by decide +kernel) fl_RX9_19 rfl, s_bad, s_bad, s_iload_n (k := 2) (i := 2) (by decide +kernel) rfl, s_callV1 (by decide +kernel) lv_RX9_144 ⟨by decide, by decide⟩, s_bad, s_bad, s_pop (by decide +kernel), s_aload_n (k := 0) (i := 0) (by decide +kernel) rfl, s_iconst (n := 0) (by decide +kernel) (by decide +kernel), s_putI (by decide +kernel) fl_RX9_71 fp_9_10 rfl, s_bad, s_bad, s_iinc (n := 1) (by decide +kernel) (by decide +kernel) (by decide), s_bad, s_bad, s_goto (off := (-47)) (by decide +kernel) (by decide), s_bad, s_bad, s_iload_n (k := 1) (i := 1) (by decide +kernel) rfl, s_iret (by decide +kernel) rfl, trivial⟩
theorem kX9_repair_0 : List.getD tX9_repair 0 x_bad = x_aload 0 1 := rfl
theorem kX9_repair_1 : List.getD tX9_repair 1 x_bad = x_callV0 9 mX9_beginGraphChange := rfl
theorem kX9_repair_4 : List.getD tX9_repair 4 x_bad = x_push (.int (nI 0)) 1 := rfl
theorem kX9_repair_5 : List.getD tX9_repair 5 x_bad = x_istore 1 1 := rfl
theorem kX9_repair_6 : List.getD tX9_repair 6 x_bad = x_iload 1 1 := rfl
theorem kX9_repair_7 : List.getD tX9_repair 7 x_bad = x_push (.int (nI 8)) 2 := rfl
theorem kX9_repair_9 : List.getD tX9_repair 9 x_bad = x_icmp (fun a b => b ≤ a) 56 := rfl
theorem kX9_repair_12 : List.getD tX9_repair 12 x_bad = x_aload 0 1 := rfl
theorem kX9_repair_13 : List.getD tX9_repair 13 x_bad = x_push (.int (nI 1)) 1 := rfl
theorem kX9_repair_14 : List.getD tX9_repair 14 x_bad = x_callV1 9 mX9_learn := rfl
theorem kX9_repair_17 : List.getD tX9_repair 17 x_bad = x_aload 0 1 := rfl
theorem kX9_repair_18 : List.getD tX9_repair 18 x_bad = x_getR 9 4 := rfl
theorem kX9_repair_21 : List.getD tX9_repair 21 x_bad = x_aload 0 1 := rfl
theorem kX9_repair_22 : List.getD tX9_repair 22 x_bad = x_getR 9 1 := rfl
theorem kX9_repair_25 : List.getD tX9_repair 25 x_bad = x_callV1 0 mX0_eventToSplit := rfl
theorem kX9_repair_28 : List.getD tX9_repair 28 x_bad = x_istore 2 1 := rfl
theorem kX9_repair_29 : List.getD tX9_repair 29 x_bad = x_iload 2 1 := rfl
theorem kX9_repair_30 : List.getD tX9_repair 30 x_bad = x_if (fun a => 0 ≤ a) 36 := rfl
theorem kX9_repair_33 : List.getD tX9_repair 33 x_bad = x_goto 56 := rfl
theorem kX9_repair_36 : List.getD tX9_repair 36 x_bad = x_aload 0 1 := rfl
theorem kX9_repair_37 : List.getD tX9_repair 37 x_bad = x_getR 9 1 := rfl
theorem kX9_repair_40 : List.getD tX9_repair 40 x_bad = x_iload 2 1 := rfl
theorem kX9_repair_41 : List.getD tX9_repair 41 x_bad = x_callV1 3 mX3_splitEvent := rfl
theorem kX9_repair_44 : List.getD tX9_repair 44 x_bad = x_pop := rfl
theorem kX9_repair_45 : List.getD tX9_repair 45 x_bad = x_aload 0 1 := rfl
theorem kX9_repair_46 : List.getD tX9_repair 46 x_bad = x_push (.int (nI 0)) 1 := rfl
theorem kX9_repair_47 : List.getD tX9_repair 47 x_bad = x_putI 9 10 := rfl
theorem kX9_repair_50 : List.getD tX9_repair 50 x_bad = x_iinc 1 (nI 1) := rfl
theorem kX9_repair_53 : List.getD tX9_repair 53 x_bad = x_goto 6 := rfl
theorem kX9_repair_56 : List.getD tX9_repair 56 x_bad = x_iload 1 1 := rfl
theorem kX9_repair_57 : List.getD tX9_repair 57 x_bad = x_iret := rfl
def tX9_separations : List PT := [x_iload 1 1, x_if (fun a => a < 0) 9, x_bad, x_bad, x_iload 1 1, x_push (.int (nI 1)) 1, x_icmp (fun a b => a ≤ b) 11, x_bad, x_bad, x_push (.int (-1)) 1, x_iret, x_aload 0 1, x_push (.int (nI 1)) 1, x_callV1 9 mX9_learn, x_bad, x_bad, x_aload 0 1, x_getR 9 4, x_bad, x_bad, x_iload 1 1, x_iload 2 1, x_callV2 0 mX0_countSeparations, x_bad, x_bad, x_iret]
set_option maxRecDepth 20000 in
theorem okX9_separations : SndT RX9 cX9_separations mX9_separations.2.2.1 mX9_separations.2.2.2.2.1 mX9_separations.2.2.2.2.2 false mX9_separations.2.2.2.1 0 tX9_separations := ⟨s_iload_n (k := 1) (i := 1) (by decide +kernel) rfl, s_if_lt (off := 8) (by decide +kernel) (by decide), s_bad, s_bad, s_iload_n (k := 1) (i := 1) (by decide +kernel) rfl, s_iconst (n := 1) (by decide +kernel) (by decide +kernel), s_icmp_le (off := 5) (by decide +kernel) (by decide), s_bad, s_bad, s_iconst (n := (-1)) (by decide +kernel) (by decide +kernel), s_iret (by decide +kernel) rfl, s_aload_n (k := 0) (i := 0) (by decide +kernel) rfl, s_iconst (n := 1) (by decide +kernel) (by decide +kernel), s_callV1 (by decide +kernel) lv_RX9_147 ⟨by decide, by decide⟩, s_bad, s_bad, s_aload_n (k := 0) (i := 0) (by decide +kernel) rfl, s_getR (by decide +kernel) fl_RX9_40 rfl, s_bad, s_bad, s_iload_n (k := 1) (i := 1) (by decide +kernel) rfl, s_iload_n (k := 2) (i := 2) (by decide +kernel) rfl, s_callV2 (by decide +kernel) lv_RX9_178 ⟨by decide, by decide⟩, s_bad, s_bad, s_iret (by decide +kernel) rfl, trivial⟩
theorem kX9_separations_0 : List.getD tX9_separations 0 x_bad = x_iload 1 1 := rfl
theorem kX9_separations_1 : List.getD tX9_separations 1 x_bad = x_if (fun a => a < 0) 9 := rfl
theorem kX9_separations_4 : List.getD tX9_separations 4 x_bad = x_iload 1 1 := rfl
theorem kX9_separations_5 : List.getD tX9_separations 5 x_bad = x_push (.int (nI 1)) 1 := rfl
theorem kX9_separations_6 : List.getD tX9_separations 6 x_bad = x_icmp (fun a b => a ≤ b) 11 := rfl
theorem kX9_separations_9 : List.getD tX9_separations 9 x_bad = x_push (.int (-1)) 1 := rfl
theorem kX9_separations_10 : List.getD tX9_separations 10 x_bad = x_iret := rfl
theorem kX9_separations_11 : List.getD tX9_separations 11 x_bad = x_aload 0 1 := rfl
theorem kX9_separations_12 : List.getD tX9_separations 12 x_bad = x_push (.int (nI 1)) 1 := rfl
theorem kX9_separations_13 : List.getD tX9_separations 13 x_bad = x_callV1 9 mX9_learn := rfl
theorem kX9_separations_16 : List.getD tX9_separations 16 x_bad = x_aload 0 1 := rfl
theorem kX9_separations_17 : List.getD tX9_separations 17 x_bad = x_getR 9 4 := rfl
theorem kX9_separations_20 : List.getD tX9_separations 20 x_bad = x_iload 1 1 := rfl
theorem kX9_separations_21 : List.getD tX9_separations 21 x_bad = x_iload 2 1 := rfl
theorem kX9_separations_22 : List.getD tX9_separations 22 x_bad = x_callV2 0 mX0_countSeparations := rfl
theorem kX9_separations_25 : List.getD tX9_separations 25 x_bad = x_iret := rfl
def tX9_solver : List PT := [x_aload 0 1, x_iload 1 1, x_callV1 9 mX9_isState, x_bad, x_bad, x_if (fun a => a = 0) 21, x_bad, x_bad, x_aload 0 1, x_iload 2 1, x_callV1 9 mX9_isState, x_bad, x_bad, x_if (fun a => a = 0) 21, x_bad, x_bad, x_iload 1 1, x_iload 2 1, x_icmpn (fun a b => a = b) 23, x_bad, x_bad, x_push (.int (-1)) 1, x_iret, x_aload 0 1, x_push (.int (nI 1)) 1, x_callV1 9 mX9_learn, x_bad, x_bad, x_push (.int (nI 0)) 1, x_istore 3 1, x_iload 3 1, x_aload 0 1, x_getR 9 4, x_bad, x_bad, x_getI 0 6, x_bad, x_bad, x_icmp (fun a b => b ≤ a) 70, x_bad, x_bad, x_aload 0 1, x_getR 9 4, x_bad, x_bad, x_iload 3 1, x_iload 1 1, x_iload 2 1, x_callV3 0 mX0_parts, x_bad, x_bad, x_if (fun a => a = 0) 64, x_bad, x_bad, x_aload 0 1, x_getR 9 4, x_bad, x_bad, x_getR 0 3, x_bad, x_bad, x_iload 3 1, x_iald, x_iret, x_iinc 3 (nI 1), x_bad, x_bad, x_goto 30, x_bad, x_bad, x_push (.int (-9)) 2, x_bad, x_iret]
set_option maxRecDepth 20000 in
theorem okX9_solver : SndT RX9 cX9_solver mX9_solver.2.2.1 mX9_solver.2.2.2.2.1 mX9_solver.2.2.2.2.2 false mX9_solver.2.2.2.1 0 tX9_solver := ⟨s_aload_n (k := 0) (i := 0) (by decide +kernel) rfl, s_iload_n (k := 1) (i := 1) (by decide +kernel) rfl, s_callV1 (by decide +kernel) lv_RX9_130 ⟨by decide, by decide⟩, s_bad, s_bad, s_if_eq (off := 16) (by decide +kernel) (by decide), s_bad, s_bad, s_aload_n (k := 0) (i := 0) (by decide +kernel) rfl, s_iload_n (k := 2) (i := 2) (by decide +kernel) rfl, s_callV1 (by decide +kernel) lv_RX9_130 ⟨by decide, by decide⟩, s_bad, s_bad, s_if_eq (off := 8) (by decide +kernel) (by decide), s_bad, s_bad, s_iload_n (k := 1) (i := 1) (by decide +kernel) rfl, s_iload_n (k := 2) (i := 2) (by decide +kernel) rfl, s_icmp_ne (off := 5) (by decide +kernel) (by decide), s_bad, s_bad, s_iconst (n := (-1)) (by decide +kernel) (by decide +kernel), s_iret (by decide +kernel) rfl, s_aload_n (k := 0) (i := 0) (by decide +kernel) rfl, s_iconst (n := 1) (by decide +kernel) (by decide +kernel), s_callV1 (by decide +kernel) lv_RX9_147 ⟨by decide, by decide⟩, s_bad, s_bad, s_iconst (n := 0) (by decide +kernel) (by decide +kernel), s_istore_n (k := 3) (i := 3) (by decide +kernel) rfl (by decide), s_iload_n (k := 3) (i := 3) (by decide +kernel) rfl, s_aload_n (k := 0) (i := 0) (by decide +kernel) rfl, s_getR (by decide +kernel) fl_RX9_40 rfl, s_bad, s_bad, s_getI (by decide +kernel) fl_RX9_153 rfl, s_bad, s_bad, s_icmp_ge (off := 32) (by decide +kernel) (by decide), s_bad, s_bad, s_aload_n (k := 0) (i := 0) (by decide +kernel) rfl, s_getR (by decide +kernel) fl_RX9_40 rfl, s_bad, s_bad, s_iload_n (k := 3) (i := 3) (by decide +kernel) rfl, s_iload_n (k := 1) (i := 1) (by decide +kernel) rfl, s_iload_n (k := 2) (i := 2) (by decide +kernel) rfl, s_callV3 (by decide +kernel) lv_RX9_182 ⟨by decide, by decide⟩, s_bad, s_bad, s_if_eq (off := 13) (by decide +kernel) (by decide), s_bad, s_bad, s_aload_n (k := 0) (i := 0) (by decide +kernel) rfl, s_getR (by decide +kernel) fl_RX9_40 rfl, s_bad, s_bad, s_getR (by decide +kernel) fl_RX9_159 rfl, s_bad, s_bad, s_iload_n (k := 3) (i := 3) (by decide +kernel) rfl, s_iald (by decide +kernel), s_iret (by decide +kernel) rfl, s_iinc (n := 1) (by decide +kernel) (by decide +kernel) (by decide), s_bad, s_bad, s_goto (off := (-37)) (by decide +kernel) (by decide), s_bad, s_bad, s_bipush (n := (-9)) (by decide +kernel) (by decide +kernel), s_bad, s_iret (by decide +kernel) rfl, trivial⟩
theorem kX9_solver_0 : List.getD tX9_solver 0 x_bad = x_aload 0 1 := rfl
theorem kX9_solver_1 : List.getD tX9_solver 1 x_bad = x_iload 1 1 := rfl
theorem kX9_solver_2 : List.getD tX9_solver 2 x_bad = x_callV1 9 mX9_isState := rfl
theorem kX9_solver_5 : List.getD tX9_solver 5 x_bad = x_if (fun a => a = 0) 21 := rfl
theorem kX9_solver_8 : List.getD tX9_solver 8 x_bad = x_aload 0 1 := rfl
theorem kX9_solver_9 : List.getD tX9_solver 9 x_bad = x_iload 2 1 := rfl
theorem kX9_solver_10 : List.getD tX9_solver 10 x_bad = x_callV1 9 mX9_isState := rfl
theorem kX9_solver_13 : List.getD tX9_solver 13 x_bad = x_if (fun a => a = 0) 21 := rfl
theorem kX9_solver_16 : List.getD tX9_solver 16 x_bad = x_iload 1 1 := rfl
theorem kX9_solver_17 : List.getD tX9_solver 17 x_bad = x_iload 2 1 := rfl
theorem kX9_solver_18 : List.getD tX9_solver 18 x_bad = x_icmpn (fun a b => a = b) 23 := rfl
theorem kX9_solver_21 : List.getD tX9_solver 21 x_bad = x_push (.int (-1)) 1 := rfl
theorem kX9_solver_22 : List.getD tX9_solver 22 x_bad = x_iret := rfl
theorem kX9_solver_23 : List.getD tX9_solver 23 x_bad = x_aload 0 1 := rfl
theorem kX9_solver_24 : List.getD tX9_solver 24 x_bad = x_push (.int (nI 1)) 1 := rfl
theorem kX9_solver_25 : List.getD tX9_solver 25 x_bad = x_callV1 9 mX9_learn := rfl
theorem kX9_solver_28 : List.getD tX9_solver 28 x_bad = x_push (.int (nI 0)) 1 := rfl
theorem kX9_solver_29 : List.getD tX9_solver 29 x_bad = x_istore 3 1 := rfl
theorem kX9_solver_30 : List.getD tX9_solver 30 x_bad = x_iload 3 1 := rfl
theorem kX9_solver_31 : List.getD tX9_solver 31 x_bad = x_aload 0 1 := rfl
theorem kX9_solver_32 : List.getD tX9_solver 32 x_bad = x_getR 9 4 := rfl
theorem kX9_solver_35 : List.getD tX9_solver 35 x_bad = x_getI 0 6 := rfl
theorem kX9_solver_38 : List.getD tX9_solver 38 x_bad = x_icmp (fun a b => b ≤ a) 70 := rfl
theorem kX9_solver_41 : List.getD tX9_solver 41 x_bad = x_aload 0 1 := rfl
theorem kX9_solver_42 : List.getD tX9_solver 42 x_bad = x_getR 9 4 := rfl
theorem kX9_solver_45 : List.getD tX9_solver 45 x_bad = x_iload 3 1 := rfl
theorem kX9_solver_46 : List.getD tX9_solver 46 x_bad = x_iload 1 1 := rfl
theorem kX9_solver_47 : List.getD tX9_solver 47 x_bad = x_iload 2 1 := rfl
theorem kX9_solver_48 : List.getD tX9_solver 48 x_bad = x_callV3 0 mX0_parts := rfl
theorem kX9_solver_51 : List.getD tX9_solver 51 x_bad = x_if (fun a => a = 0) 64 := rfl
theorem kX9_solver_54 : List.getD tX9_solver 54 x_bad = x_aload 0 1 := rfl
theorem kX9_solver_55 : List.getD tX9_solver 55 x_bad = x_getR 9 4 := rfl
theorem kX9_solver_58 : List.getD tX9_solver 58 x_bad = x_getR 0 3 := rfl
theorem kX9_solver_61 : List.getD tX9_solver 61 x_bad = x_iload 3 1 := rfl
theorem kX9_solver_62 : List.getD tX9_solver 62 x_bad = x_iald := rfl
theorem kX9_solver_63 : List.getD tX9_solver 63 x_bad = x_iret := rfl
theorem kX9_solver_64 : List.getD tX9_solver 64 x_bad = x_iinc 3 (nI 1) := rfl
theorem kX9_solver_67 : List.getD tX9_solver 67 x_bad = x_goto 30 := rfl
theorem kX9_solver_70 : List.getD tX9_solver 70 x_bad = x_push (.int (-9)) 2 := rfl
theorem kX9_solver_72 : List.getD tX9_solver 72 x_bad = x_iret := rfl
def tX9_unsolved : List PT := [x_iload 1 1, x_if (fun a => 0 ≤ a) 6, x_bad, x_bad, x_push (.int (-1)) 1, x_iret, x_aload 0 1, x_push (.int (nI 1)) 1, x_callV1 9 mX9_learn, x_bad, x_bad, x_aload 0 1, x_getR 9 4, x_bad, x_bad, x_iload 1 1, x_callV1 0 mX0_unsolvedIndex, x_bad, x_bad, x_istore 2 1, x_iload 2 1, x_if (fun a => 0 ≤ a) 27, x_bad, x_bad, x_push (.int (-9)) 2, x_bad, x_iret, x_push (.int (nI 100)) 2, x_bad, x_aload 0 1, x_getR 9 4, x_bad, x_bad, x_getR 0 7, x_bad, x_bad, x_iload 2 1, x_iald, x_ii (fun a b => a * b), x_aload 0 1, x_getR 9 4, x_bad, x_bad, x_getR 0 8, x_bad, x_bad, x_iload 2 1, x_iald, x_ii (fun a b => a + b), x_istore 3 1, x_iload 2 1, x_aload 0 1, x_getR 9 4, x_bad, x_bad, x_getI 0 9, x_bad, x_bad, x_icmp (fun a b => b ≤ a) 65, x_bad, x_bad, x_iload 3 1, x_goto 70, x_bad, x_bad, x_push (.int (nI 1000)) 3, x_bad, x_bad, x_iload 3 1, x_ii (fun a b => a + b), x_iret]
set_option maxRecDepth 20000 in
theorem okX9_unsolved : SndT RX9 cX9_unsolved mX9_unsolved.2.2.1 mX9_unsolved.2.2.2.2.1 mX9_unsolved.2.2.2.2.2 false mX9_unsolved.2.2.2.1 0 tX9_unsolved := ⟨s_iload_n (k := 1) (i := 1) (by decide +kernel) rfl, s_if_ge (off := 5) (by decide +kernel) (by decide), s_bad, s_bad, s_iconst (n := (-1)) (by decide +kernel) (by decide +kernel), s_iret (by decide +kernel) rfl, s_aload_n (k := 0) (i := 0) (by decide +kernel) rfl, s_iconst (n := 1) (by decide +kernel) (by decide +kernel), s_callV1 (by decide +kernel) lv_RX9_147 ⟨by decide, by decide⟩, s_bad, s_bad, s_aload_n (k := 0) (i := 0) (by decide +kernel) rfl, s_getR (by decide +kernel) fl_RX9_40 rfl, s_bad, s_bad, s_iload_n (k := 1) (i := 1) (by decide +kernel) rfl, s_callV1 (by decide +kernel) lv_RX9_192 ⟨by decide, by decide⟩, s_bad, s_bad, s_istore_n (k := 2) (i := 2) (by decide +kernel) rfl (by decide), s_iload_n (k := 2) (i := 2) (by decide +kernel) rfl, s_if_ge (off := 6) (by decide +kernel) (by decide), s_bad, s_bad, s_bipush (n := (-9)) (by decide +kernel) (by decide +kernel), s_bad, s_iret (by decide +kernel) rfl, s_bipush (n := 100) (by decide +kernel) (by decide +kernel), s_bad, s_aload_n (k := 0) (i := 0) (by decide +kernel) rfl, s_getR (by decide +kernel) fl_RX9_40 rfl, s_bad, s_bad, s_getR (by decide +kernel) fl_RX9_195 rfl, s_bad, s_bad, s_iload_n (k := 2) (i := 2) (by decide +kernel) rfl, s_iald (by decide +kernel), s_imul (by decide +kernel), s_aload_n (k := 0) (i := 0) (by decide +kernel) rfl, s_getR (by decide +kernel) fl_RX9_40 rfl, s_bad, s_bad, s_getR (by decide +kernel) fl_RX9_198 rfl, s_bad, s_bad, s_iload_n (k := 2) (i := 2) (by decide +kernel) rfl, s_iald (by decide +kernel), s_iadd (by decide +kernel), s_istore_n (k := 3) (i := 3) (by decide +kernel) rfl (by decide), s_iload_n (k := 2) (i := 2) (by decide +kernel) rfl, s_aload_n (k := 0) (i := 0) (by decide +kernel) rfl, s_getR (by decide +kernel) fl_RX9_40 rfl, s_bad, s_bad, s_getI (by decide +kernel) fl_RX9_201 rfl, s_bad, s_bad, s_icmp_ge (off := 7) (by decide +kernel) (by decide), s_bad, s_bad, s_iload_n (k := 3) (i := 3) (by decide +kernel) rfl, s_goto (off := 8) (by decide +kernel) (by decide), s_bad, s_bad, s_sipush (n := 1000) (by decide +kernel) (by decide +kernel), s_bad, s_bad, s_iload_n (k := 3) (i := 3) (by decide +kernel) rfl, s_iadd (by decide +kernel), s_iret (by decide +kernel) rfl, trivial⟩
theorem kX9_unsolved_0 : List.getD tX9_unsolved 0 x_bad = x_iload 1 1 := rfl
theorem kX9_unsolved_1 : List.getD tX9_unsolved 1 x_bad = x_if (fun a => 0 ≤ a) 6 := rfl
theorem kX9_unsolved_4 : List.getD tX9_unsolved 4 x_bad = x_push (.int (-1)) 1 := rfl
theorem kX9_unsolved_5 : List.getD tX9_unsolved 5 x_bad = x_iret := rfl
theorem kX9_unsolved_6 : List.getD tX9_unsolved 6 x_bad = x_aload 0 1 := rfl
theorem kX9_unsolved_7 : List.getD tX9_unsolved 7 x_bad = x_push (.int (nI 1)) 1 := rfl
theorem kX9_unsolved_8 : List.getD tX9_unsolved 8 x_bad = x_callV1 9 mX9_learn := rfl
theorem kX9_unsolved_11 : List.getD tX9_unsolved 11 x_bad = x_aload 0 1 := rfl
theorem kX9_unsolved_12 : List.getD tX9_unsolved 12 x_bad = x_getR 9 4 := rfl
theorem kX9_unsolved_15 : List.getD tX9_unsolved 15 x_bad = x_iload 1 1 := rfl
theorem kX9_unsolved_16 : List.getD tX9_unsolved 16 x_bad = x_callV1 0 mX0_unsolvedIndex := rfl
theorem kX9_unsolved_19 : List.getD tX9_unsolved 19 x_bad = x_istore 2 1 := rfl
theorem kX9_unsolved_20 : List.getD tX9_unsolved 20 x_bad = x_iload 2 1 := rfl
theorem kX9_unsolved_21 : List.getD tX9_unsolved 21 x_bad = x_if (fun a => 0 ≤ a) 27 := rfl
theorem kX9_unsolved_24 : List.getD tX9_unsolved 24 x_bad = x_push (.int (-9)) 2 := rfl
theorem kX9_unsolved_26 : List.getD tX9_unsolved 26 x_bad = x_iret := rfl
theorem kX9_unsolved_27 : List.getD tX9_unsolved 27 x_bad = x_push (.int (nI 100)) 2 := rfl
theorem kX9_unsolved_29 : List.getD tX9_unsolved 29 x_bad = x_aload 0 1 := rfl
theorem kX9_unsolved_30 : List.getD tX9_unsolved 30 x_bad = x_getR 9 4 := rfl
theorem kX9_unsolved_33 : List.getD tX9_unsolved 33 x_bad = x_getR 0 7 := rfl
theorem kX9_unsolved_36 : List.getD tX9_unsolved 36 x_bad = x_iload 2 1 := rfl
theorem kX9_unsolved_37 : List.getD tX9_unsolved 37 x_bad = x_iald := rfl
theorem kX9_unsolved_38 : List.getD tX9_unsolved 38 x_bad = x_ii (fun a b => a * b) := rfl
theorem kX9_unsolved_39 : List.getD tX9_unsolved 39 x_bad = x_aload 0 1 := rfl
theorem kX9_unsolved_40 : List.getD tX9_unsolved 40 x_bad = x_getR 9 4 := rfl
theorem kX9_unsolved_43 : List.getD tX9_unsolved 43 x_bad = x_getR 0 8 := rfl
theorem kX9_unsolved_46 : List.getD tX9_unsolved 46 x_bad = x_iload 2 1 := rfl
theorem kX9_unsolved_47 : List.getD tX9_unsolved 47 x_bad = x_iald := rfl
theorem kX9_unsolved_48 : List.getD tX9_unsolved 48 x_bad = x_ii (fun a b => a + b) := rfl
theorem kX9_unsolved_49 : List.getD tX9_unsolved 49 x_bad = x_istore 3 1 := rfl
theorem kX9_unsolved_50 : List.getD tX9_unsolved 50 x_bad = x_iload 2 1 := rfl
theorem kX9_unsolved_51 : List.getD tX9_unsolved 51 x_bad = x_aload 0 1 := rfl
theorem kX9_unsolved_52 : List.getD tX9_unsolved 52 x_bad = x_getR 9 4 := rfl
theorem kX9_unsolved_55 : List.getD tX9_unsolved 55 x_bad = x_getI 0 9 := rfl
theorem kX9_unsolved_58 : List.getD tX9_unsolved 58 x_bad = x_icmp (fun a b => b ≤ a) 65 := rfl
theorem kX9_unsolved_61 : List.getD tX9_unsolved 61 x_bad = x_iload 3 1 := rfl
theorem kX9_unsolved_62 : List.getD tX9_unsolved 62 x_bad = x_goto 70 := rfl
theorem kX9_unsolved_65 : List.getD tX9_unsolved 65 x_bad = x_push (.int (nI 1000)) 3 := rfl
theorem kX9_unsolved_68 : List.getD tX9_unsolved 68 x_bad = x_iload 3 1 := rfl
theorem kX9_unsolved_69 : List.getD tX9_unsolved 69 x_bad = x_ii (fun a b => a + b) := rfl
theorem kX9_unsolved_70 : List.getD tX9_unsolved 70 x_bad = x_iret := rfl
def tX9_digest : List PT := [x_push (.long 17341) 3, x_bad, x_bad, x_lstore 1 1, x_push (.int (nI 0)) 1, x_istore 3 1, x_iload 3 1, x_push (.int (nI 6)) 2, x_bad, x_icmp (fun a b => b < a) 31, x_bad, x_bad, x_push (.long 31) 3, x_bad, x_bad, x_lload 1 1, x_ll (fun a b => a * b), x_aload 0 1, x_iload 3 1, x_callV1 9 mX9_count, x_bad, x_bad, x_i2l, x_ll (fun a b => a + b), x_lstore 1 1, x_iinc 3 (nI 1), x_bad, x_bad, x_goto 6, x_bad, x_bad, x_push (.int (nI 0)) 1, x_istore 3 1, x_iload 3 1, x_aload 0 1, x_getR 9 1, x_bad, x_bad, x_getI 3 1, x_bad, x_bad, x_icmp (fun a b => b ≤ a) 80, x_bad, x_bad, x_push (.int (nI 0)) 1, x_istore 4 2, x_bad, x_iload 4 2, x_bad, x_push (.int (nI 2)) 1, x_icmp (fun a b => b < a) 74, x_bad, x_bad, x_push (.long 31) 3, x_bad, x_bad, x_lload 1 1, x_ll (fun a b => a * b), x_aload 0 1, x_iload 3 1, x_iload 4 2, x_bad, x_callV2 9 mX9_arc, x_bad, x_bad, x_i2l, x_ll (fun a b => a + b), x_lstore 1 1, x_iinc 4 (nI 1), x_bad, x_bad, x_goto 47, x_bad, x_bad, x_iinc 3 (nI 1), x_bad, x_bad, x_goto 33, x_bad, x_bad, x_push (.long 31) 3, x_bad, x_bad, x_lload 1 1, x_ll (fun a b => a * b), x_aload 0 1, x_push (.int (nI 0)) 1, x_callV1 9 mX9_regions, x_bad, x_bad, x_i2l, x_ll (fun a b => a + b), x_lstore 1 1, x_push (.long 31) 3, x_bad, x_bad, x_lload 1 1, x_ll (fun a b => a * b), x_aload 0 1, x_push (.int (nI 1)) 1, x_callV1 9 mX9_regions, x_bad, x_bad, x_i2l, x_ll (fun a b => a + b), x_lstore 1 1, x_push (.int (nI 0)) 1, x_istore 3 1, x_iload 3 1, x_aload 0 1, x_getR 9 4, x_bad, x_bad, x_getI 0 6, x_bad, x_bad, x_icmp (fun a b => b ≤ a) 139, x_bad, x_bad, x_push (.long 31) 3, x_bad, x_bad, x_lload 1 1, x_ll (fun a b => a * b), x_aload 0 1, x_iload 3 1, x_push (.int (nI 1)) 1, x_callV2 9 mX9_region, x_bad, x_bad, x_i2l, x_ll (fun a b => a + b), x_lstore 1 1, x_iinc 3 (nI 1), x_bad, x_bad, x_goto 108, x_bad, x_bad, x_push (.int (nI 0)) 1, x_istore 3 1, x_iload 3 1, x_push (.int (nI 1)) 1, x_icmp (fun a b => b < a) 180, x_bad, x_bad, x_push (.long 31) 3, x_bad, x_bad, x_lload 1 1, x_ll (fun a b => a * b), x_aload 0 1, x_iload 3 1, x_push (.int (nI 1)) 1, x_callV2 9 mX9_separations, x_bad, x_bad, x_i2l, x_ll (fun a b => a + b), x_lstore 1 1, x_push (.long 31) 3, x_bad, x_bad, x_lload 1 1, x_ll (fun a b => a * b), x_aload 0 1, x_iload 3 1, x_push (.int (nI 0)) 1, x_callV2 9 mX9_separations, x_bad, x_bad, x_i2l, x_ll (fun a b => a + b), x_lstore 1 1, x_iinc 3 (nI 1), x_bad, x_bad, x_goto 141, x_bad, x_bad, x_push (.int (nI 0)) 1, x_istore 3 1, x_iload 3 1, x_push (.int (nI 125)) 2, x_bad, x_icmp (fun a b => b ≤ a) 217, x_bad, x_bad, x_aload 0 1, x_iload 3 1, x_callV1 9 mX9_unsolved, x_bad, x_bad, x_push (.int (-9)) 2, x_bad, x_icmp (fun a b => a = b) 217, x_bad, x_bad, x_push (.long 31) 3, x_bad, x_bad, x_lload 1 1, x_ll (fun a b => a * b), x_aload 0 1, x_iload 3 1, x_callV1 9 mX9_unsolved, x_bad, x_bad, x_i2l, x_ll (fun a b => a + b), x_lstore 1 1, x_iinc 3 (nI 1), x_bad, x_bad, x_goto 182, x_bad, x_bad, x_push (.long 31) 3, x_bad, x_bad, x_lload 1 1, x_ll (fun a b => a * b), x_aload 0 1, x_callV0 9 mX9_places, x_bad, x_bad, x_i2l, x_ll (fun a b => a + b), x_lstore 1 1, x_push (.int (nI 0)) 1, x_istore 3 1, x_iload 3 1, x_aload 0 1, x_getR 9 5, x_bad, x_bad, x_getI 5 1, x_bad, x_bad, x_icmp (fun a b => b ≤ a) 278, x_bad, x_bad, x_push (.int (nI 0)) 1, x_istore 4 2, x_bad, x_iload 4 2, x_bad, x_push (.int (nI 4)) 1, x_icmp (fun a b => b < a) 272, x_bad, x_bad, x_push (.long 31) 3, x_bad, x_bad, x_lload 1 1, x_ll (fun a b => a * b), x_aload 0 1, x_iload 3 1, x_iload 4 2, x_bad, x_callV2 9 mX9_place, x_bad, x_bad, x_i2l, x_ll (fun a b => a + b), x_lstore 1 1, x_iinc 4 (nI 1), x_bad, x_bad, x_goto 245, x_bad, x_bad, x_iinc 3 (nI 1), x_bad, x_bad, x_goto 231, x_bad, x_bad, x_push (.int (nI 0)) 1, x_istore 3 1, x_iload 3 1, x_push (.int (nI 2)) 1, x_icmp (fun a b => b < a) 304, x_bad, x_bad, x_push (.long 31) 3, x_bad, x_bad, x_lload 1 1, x_ll (fun a b => a * b), x_aload 0 1, x_iload 3 1, x_callV1 9 mX9_netGraph, x_bad, x_bad, x_i2l, x_ll (fun a b => a + b), x_lstore 1 1, x_iinc 3 (nI 1), x_bad, x_bad, x_goto 280, x_bad, x_bad, x_push (.long 31) 3, x_bad, x_bad, x_lload 1 1, x_ll (fun a b => a * b), x_aload 0 1, x_callV0 9 mX9_fits, x_bad, x_bad, x_i2l, x_ll (fun a b => a + b), x_lstore 1 1, x_push (.long 31) 3, x_bad, x_bad, x_lload 1 1, x_ll (fun a b => a * b), x_aload 0 1, x_callV0 9 mX9_enabled, x_bad, x_bad, x_i2l, x_ll (fun a b => a + b), x_lret]
set_option maxRecDepth 20000 in
theorem okX9_digest : SndT RX9 cX9_digest mX9_digest.2.2.1 mX9_digest.2.2.2.2.1 mX9_digest.2.2.2.2.2 false mX9_digest.2.2.2.1 0 tX9_digest := ⟨s_ldc2 (by decide +kernel) tb_839, s_bad, s_bad, s_lstore_n (k := 1) (i := 1) (by decide +kernel) rfl (by decide), s_iconst (n := 0) (by decide +kernel) (by decide +kernel), s_istore_n (k := 3) (i := 3) (by decide +kernel) rfl (by decide), s_iload_n (k := 3) (i := 3) (by decide +kernel) rfl, s_bipush (n := 6) (by decide +kernel) (by decide +kernel), s_bad, s_icmp_gt (off := 22) (by decide +kernel) (by decide), s_bad, s_bad, s_ldc2 (by decide +kernel) tb_840, s_bad, s_bad, s_lload_n (k := 1) (i := 1) (by decide +kernel) rfl, s_lmul (by decide +kernel), s_aload_n (k := 0) (i := 0) (by decide +kernel) rfl, s_iload_n (k := 3) (i := 3) (by decide +kernel) rfl, s_callV1 (by decide +kernel) lv_RX9_286 ⟨by decide, by decide⟩, s_bad, s_bad, s_i2l (by decide +kernel), s_ladd (by decide +kernel), s_lstore_n (k := 1) (i := 1) (by decide +kernel) rfl (by decide), s_iinc (n := 1) (by decide +kernel) (by decide +kernel) (by decide), s_bad, s_bad, s_goto (off := (-22)) (by decide +kernel) (by decide), s_bad, s_bad, s_iconst (n := 0) (by decide +kernel) (by decide +kernel), s_istore_n (k := 3) (i := 3) (by decide +kernel) rfl (by decide), s_iload_n (k := 3) (i := 3) (by decide +kernel) rfl, s_aload_n (k := 0) (i := 0) (by decide +kernel) rfl, s_getR (by decide +kernel) fl_RX9_19 rfl, s_bad, s_bad, s_getI (by decide +kernel) fl_RX9_107 rfl, s_bad, s_bad, s_icmp_ge (off := 39) (by decide +kernel) (by decide), s_bad, s_bad, s_iconst (n := 0) (by decide +kernel) (by decide +kernel), s_istore (by decide +kernel) (by decide), s_bad, s_iload (by decide +kernel), s_bad, s_iconst (n := 2) (by decide +kernel) (by decide +kernel), s_icmp_gt (off := 24) (by decide +kernel) (by decide), s_bad, s_bad, s_ldc2 (by decide +kernel) tb_840, s_bad, s_bad, s_lload_n (k := 1) (i := 1) (by decide +kernel) rfl, s_lmul (by decide +kernel), s_aload_n (k := 0) (i := 0) (by decide +kernel) rfl, s_iload_n (k := 3) (i := 3) (by decide +kernel) rfl, s_iload (by decide +kernel), s_bad, s_callV2 (by decide +kernel) lv_RX9_289 ⟨by decide, by decide⟩, s_bad, s_bad, s_i2l (by decide +kernel), s_ladd (by decide +kernel), s_lstore_n (k := 1) (i := 1) (by decide +kernel) rfl (by decide), s_iinc (n := 1) (by decide +kernel) (by decide +kernel) (by decide), s_bad, s_bad, s_goto (off := (-24)) (by decide +kernel) (by decide), s_bad, s_bad, s_iinc (n := 1) (by decide +kernel) (by decide +kernel) (by decide), s_bad, s_bad, s_goto (off := (-44)) (by decide +kernel) (by decide), s_bad, s_bad, s_ldc2 (by decide +kernel) tb_840, s_bad, s_bad, s_lload_n (k := 1) (i := 1) (by decide +kernel) rfl, s_lmul (by decide +kernel), s_aload_n (k := 0) (i := 0) (by decide +kernel) rfl, s_iconst (n := 0) (by decide +kernel) (by decide +kernel), s_callV1 (by decide +kernel) lv_RX9_292 ⟨by decide, by decide⟩, s_bad, s_bad, s_i2l (by decide +kernel), s_ladd (by decide +kernel), s_lstore_n (k := 1) (i := 1) (by decide +kernel) rfl (by decide), s_ldc2 (by decide +kernel) tb_840, s_bad, s_bad, s_lload_n (k := 1) (i := 1) (by decide +kernel) rfl, s_lmul (by decide +kernel), s_aload_n (k := 0) (i := 0) (by decide +kernel) rfl, s_iconst (n := 1) (by decide +kernel) (by decide +kernel), s_callV1 (by decide +kernel) lv_RX9_292 ⟨by decide, by decide⟩, s_bad, s_bad, s_i2l (by decide +kernel), s_ladd (by decide +kernel), s_lstore_n (k := 1) (i := 1) (by decide +kernel) rfl (by decide), s_iconst (n := 0) (by decide +kernel) (by decide +kernel), s_istore_n (k := 3) (i := 3) (by decide +kernel) rfl (by decide), s_iload_n (k := 3) (i := 3) (by decide +kernel) rfl, s_aload_n (k := 0) (i := 0) (by decide +kernel) rfl, s_getR (by decide +kernel) fl_RX9_40 rfl, s_bad, s_bad, s_getI (by decide +kernel) fl_RX9_153 rfl, s_bad, s_bad, s_icmp_ge (off := 23) (by decide +kernel) (by decide), s_bad, s_bad, s_ldc2 (by decide +kernel) tb_840, s_bad, s_bad, s_lload_n (k := 1) (i := 1) (by decide +kernel) rfl, s_lmul (by decide +kernel), s_aload_n (k := 0) (i := 0) (by decide +kernel) rfl, s_iload_n (k := 3) (i := 3) (by decide +kernel) rfl, s_iconst (n := 1) (by decide +kernel) (by decide +kernel), s_callV2 (by decide +kernel) lv_RX9_296 ⟨by decide, by decide⟩, s_bad, s_bad, s_i2l (by decide +kernel), s_ladd (by decide +kernel), s_lstore_n (k := 1) (i := 1) (by decide +kernel) rfl (by decide), s_iinc (n := 1) (by decide +kernel) (by decide +kernel) (by decide), s_bad, s_bad, s_goto (off := (-28)) (by decide +kernel) (by decide), s_bad, s_bad, s_iconst (n := 0) (by decide +kernel) (by decide +kernel), s_istore_n (k := 3) (i := 3) (by decide +kernel) rfl (by decide), s_iload_n (k := 3) (i := 3) (by decide +kernel) rfl, s_iconst (n := 1) (by decide +kernel) (by decide +kernel), s_icmp_gt (off := 37) (by decide +kernel) (by decide), s_bad, s_bad, s_ldc2 (by decide +kernel) tb_840, s_bad, s_bad, s_lload_n (k := 1) (i := 1) (by decide +kernel) rfl, s_lmul (by decide +kernel), s_aload_n (k := 0) (i := 0) (by decide +kernel) rfl, s_iload_n (k := 3) (i := 3) (by decide +kernel) rfl, s_iconst (n := 1) (by decide +kernel) (by decide +kernel), s_callV2 (by decide +kernel) lv_RX9_299 ⟨by decide, by decide⟩, s_bad, s_bad, s_i2l (by decide +kernel), s_ladd (by decide +kernel), s_lstore_n (k := 1) (i := 1) (by decide +kernel) rfl (by decide), s_ldc2 (by decide +kernel) tb_840, s_bad, s_bad, s_lload_n (k := 1) (i := 1) (by decide +kernel) rfl, s_lmul (by decide +kernel), s_aload_n (k := 0) (i := 0) (by decide +kernel) rfl, s_iload_n (k := 3) (i := 3) (by decide +kernel) rfl, s_iconst (n := 0) (by decide +kernel) (by decide +kernel), s_callV2 (by decide +kernel) lv_RX9_299 ⟨by decide, by decide⟩, s_bad, s_bad, s_i2l (by decide +kernel), s_ladd (by decide +kernel), s_lstore_n (k := 1) (i := 1) (by decide +kernel) rfl (by decide), s_iinc (n := 1) (by decide +kernel) (by decide +kernel) (by decide), s_bad, s_bad, s_goto (off := (-36)) (by decide +kernel) (by decide), s_bad, s_bad, s_iconst (n := 0) (by decide +kernel) (by decide +kernel), s_istore_n (k := 3) (i := 3) (by decide +kernel) rfl (by decide), s_iload_n (k := 3) (i := 3) (by decide +kernel) rfl, s_bipush (n := 125) (by decide +kernel) (by decide +kernel), s_bad, s_icmp_ge (off := 32) (by decide +kernel) (by decide), s_bad, s_bad, s_aload_n (k := 0) (i := 0) (by decide +kernel) rfl, s_iload_n (k := 3) (i := 3) (by decide +kernel) rfl, s_callV1 (by decide +kernel) lv_RX9_302 ⟨by decide, by decide⟩, s_bad, s_bad, s_bipush (n := (-9)) (by decide +kernel) (by decide +kernel), s_bad, s_icmp_eq (off := 22) (by decide +kernel) (by decide), s_bad, s_bad, s_ldc2 (by decide +kernel) tb_840, s_bad, s_bad, s_lload_n (k := 1) (i := 1) (by decide +kernel) rfl, s_lmul (by decide +kernel), s_aload_n (k := 0) (i := 0) (by decide +kernel) rfl, s_iload_n (k := 3) (i := 3) (by decide +kernel) rfl, s_callV1 (by decide +kernel) lv_RX9_302 ⟨by decide, by decide⟩, s_bad, s_bad, s_i2l (by decide +kernel), s_ladd (by decide +kernel), s_lstore_n (k := 1) (i := 1) (by decide +kernel) rfl (by decide), s_iinc (n := 1) (by decide +kernel) (by decide +kernel) (by decide), s_bad, s_bad, s_goto (off := (-32)) (by decide +kernel) (by decide), s_bad, s_bad, s_ldc2 (by decide +kernel) tb_840, s_bad, s_bad, s_lload_n (k := 1) (i := 1) (by decide +kernel) rfl, s_lmul (by decide +kernel), s_aload_n (k := 0) (i := 0) (by decide +kernel) rfl, s_callV0 (by decide +kernel) lv_RX9_305 ⟨by decide, by decide⟩, s_bad, s_bad, s_i2l (by decide +kernel), s_ladd (by decide +kernel), s_lstore_n (k := 1) (i := 1) (by decide +kernel) rfl (by decide), s_iconst (n := 0) (by decide +kernel) (by decide +kernel), s_istore_n (k := 3) (i := 3) (by decide +kernel) rfl (by decide), s_iload_n (k := 3) (i := 3) (by decide +kernel) rfl, s_aload_n (k := 0) (i := 0) (by decide +kernel) rfl, s_getR (by decide +kernel) fl_RX9_47 rfl, s_bad, s_bad, s_getI (by decide +kernel) fl_RX9_204 rfl, s_bad, s_bad, s_icmp_ge (off := 39) (by decide +kernel) (by decide), s_bad, s_bad, s_iconst (n := 0) (by decide +kernel) (by decide +kernel), s_istore (by decide +kernel) (by decide), s_bad, s_iload (by decide +kernel), s_bad, s_iconst (n := 4) (by decide +kernel) (by decide +kernel), s_icmp_gt (off := 24) (by decide +kernel) (by decide), s_bad, s_bad, s_ldc2 (by decide +kernel) tb_840, s_bad, s_bad, s_lload_n (k := 1) (i := 1) (by decide +kernel) rfl, s_lmul (by decide +kernel), s_aload_n (k := 0) (i := 0) (by decide +kernel) rfl, s_iload_n (k := 3) (i := 3) (by decide +kernel) rfl, s_iload (by decide +kernel), s_bad, s_callV2 (by decide +kernel) lv_RX9_308 ⟨by decide, by decide⟩, s_bad, s_bad, s_i2l (by decide +kernel), s_ladd (by decide +kernel), s_lstore_n (k := 1) (i := 1) (by decide +kernel) rfl (by decide), s_iinc (n := 1) (by decide +kernel) (by decide +kernel) (by decide), s_bad, s_bad, s_goto (off := (-24)) (by decide +kernel) (by decide), s_bad, s_bad, s_iinc (n := 1) (by decide +kernel) (by decide +kernel) (by decide), s_bad, s_bad, s_goto (off := (-44)) (by decide +kernel) (by decide), s_bad, s_bad, s_iconst (n := 0) (by decide +kernel) (by decide +kernel), s_istore_n (k := 3) (i := 3) (by decide +kernel) rfl (by decide), s_iload_n (k := 3) (i := 3) (by decide +kernel) rfl, s_iconst (n := 2) (by decide +kernel) (by decide +kernel), s_icmp_gt (off := 22) (by decide +kernel) (by decide), s_bad, s_bad, s_ldc2 (by decide +kernel) tb_840, s_bad, s_bad, s_lload_n (k := 1) (i := 1) (by decide +kernel) rfl, s_lmul (by decide +kernel), s_aload_n (k := 0) (i := 0) (by decide +kernel) rfl, s_iload_n (k := 3) (i := 3) (by decide +kernel) rfl, s_callV1 (by decide +kernel) lv_RX9_311 ⟨by decide, by decide⟩, s_bad, s_bad, s_i2l (by decide +kernel), s_ladd (by decide +kernel), s_lstore_n (k := 1) (i := 1) (by decide +kernel) rfl (by decide), s_iinc (n := 1) (by decide +kernel) (by decide +kernel) (by decide), s_bad, s_bad, s_goto (off := (-21)) (by decide +kernel) (by decide), s_bad, s_bad, s_ldc2 (by decide +kernel) tb_840, s_bad, s_bad, s_lload_n (k := 1) (i := 1) (by decide +kernel) rfl, s_lmul (by decide +kernel), s_aload_n (k := 0) (i := 0) (by decide +kernel) rfl, s_callV0 (by decide +kernel) lv_RX9_314 ⟨by decide, by decide⟩, s_bad, s_bad, s_i2l (by decide +kernel), s_ladd (by decide +kernel), s_lstore_n (k := 1) (i := 1) (by decide +kernel) rfl (by decide), s_ldc2 (by decide +kernel) tb_840, s_bad, s_bad, s_lload_n (k := 1) (i := 1) (by decide +kernel) rfl, s_lmul (by decide +kernel), s_aload_n (k := 0) (i := 0) (by decide +kernel) rfl, s_callV0 (by decide +kernel) lv_RX9_317 ⟨by decide, by decide⟩, s_bad, s_bad, s_i2l (by decide +kernel), s_ladd (by decide +kernel), s_lret (by decide +kernel) rfl, trivial⟩
theorem kX9_digest_0 : List.getD tX9_digest 0 x_bad = x_push (.long 17341) 3 := rfl
theorem kX9_digest_3 : List.getD tX9_digest 3 x_bad = x_lstore 1 1 := rfl
theorem kX9_digest_4 : List.getD tX9_digest 4 x_bad = x_push (.int (nI 0)) 1 := rfl
theorem kX9_digest_5 : List.getD tX9_digest 5 x_bad = x_istore 3 1 := rfl
theorem kX9_digest_6 : List.getD tX9_digest 6 x_bad = x_iload 3 1 := rfl
theorem kX9_digest_7 : List.getD tX9_digest 7 x_bad = x_push (.int (nI 6)) 2 := rfl
theorem kX9_digest_9 : List.getD tX9_digest 9 x_bad = x_icmp (fun a b => b < a) 31 := rfl
theorem kX9_digest_12 : List.getD tX9_digest 12 x_bad = x_push (.long 31) 3 := rfl
theorem kX9_digest_15 : List.getD tX9_digest 15 x_bad = x_lload 1 1 := rfl
theorem kX9_digest_16 : List.getD tX9_digest 16 x_bad = x_ll (fun a b => a * b) := rfl
theorem kX9_digest_17 : List.getD tX9_digest 17 x_bad = x_aload 0 1 := rfl
theorem kX9_digest_18 : List.getD tX9_digest 18 x_bad = x_iload 3 1 := rfl
theorem kX9_digest_19 : List.getD tX9_digest 19 x_bad = x_callV1 9 mX9_count := rfl
theorem kX9_digest_22 : List.getD tX9_digest 22 x_bad = x_i2l := rfl
theorem kX9_digest_23 : List.getD tX9_digest 23 x_bad = x_ll (fun a b => a + b) := rfl
theorem kX9_digest_24 : List.getD tX9_digest 24 x_bad = x_lstore 1 1 := rfl
theorem kX9_digest_25 : List.getD tX9_digest 25 x_bad = x_iinc 3 (nI 1) := rfl
theorem kX9_digest_28 : List.getD tX9_digest 28 x_bad = x_goto 6 := rfl
theorem kX9_digest_31 : List.getD tX9_digest 31 x_bad = x_push (.int (nI 0)) 1 := rfl
theorem kX9_digest_32 : List.getD tX9_digest 32 x_bad = x_istore 3 1 := rfl
theorem kX9_digest_33 : List.getD tX9_digest 33 x_bad = x_iload 3 1 := rfl
theorem kX9_digest_34 : List.getD tX9_digest 34 x_bad = x_aload 0 1 := rfl
theorem kX9_digest_35 : List.getD tX9_digest 35 x_bad = x_getR 9 1 := rfl
theorem kX9_digest_38 : List.getD tX9_digest 38 x_bad = x_getI 3 1 := rfl
theorem kX9_digest_41 : List.getD tX9_digest 41 x_bad = x_icmp (fun a b => b ≤ a) 80 := rfl
theorem kX9_digest_44 : List.getD tX9_digest 44 x_bad = x_push (.int (nI 0)) 1 := rfl
theorem kX9_digest_45 : List.getD tX9_digest 45 x_bad = x_istore 4 2 := rfl
theorem kX9_digest_47 : List.getD tX9_digest 47 x_bad = x_iload 4 2 := rfl
theorem kX9_digest_49 : List.getD tX9_digest 49 x_bad = x_push (.int (nI 2)) 1 := rfl
theorem kX9_digest_50 : List.getD tX9_digest 50 x_bad = x_icmp (fun a b => b < a) 74 := rfl
theorem kX9_digest_53 : List.getD tX9_digest 53 x_bad = x_push (.long 31) 3 := rfl
theorem kX9_digest_56 : List.getD tX9_digest 56 x_bad = x_lload 1 1 := rfl
theorem kX9_digest_57 : List.getD tX9_digest 57 x_bad = x_ll (fun a b => a * b) := rfl
theorem kX9_digest_58 : List.getD tX9_digest 58 x_bad = x_aload 0 1 := rfl
theorem kX9_digest_59 : List.getD tX9_digest 59 x_bad = x_iload 3 1 := rfl
theorem kX9_digest_60 : List.getD tX9_digest 60 x_bad = x_iload 4 2 := rfl
theorem kX9_digest_62 : List.getD tX9_digest 62 x_bad = x_callV2 9 mX9_arc := rfl
theorem kX9_digest_65 : List.getD tX9_digest 65 x_bad = x_i2l := rfl
theorem kX9_digest_66 : List.getD tX9_digest 66 x_bad = x_ll (fun a b => a + b) := rfl
theorem kX9_digest_67 : List.getD tX9_digest 67 x_bad = x_lstore 1 1 := rfl
theorem kX9_digest_68 : List.getD tX9_digest 68 x_bad = x_iinc 4 (nI 1) := rfl
theorem kX9_digest_71 : List.getD tX9_digest 71 x_bad = x_goto 47 := rfl
theorem kX9_digest_74 : List.getD tX9_digest 74 x_bad = x_iinc 3 (nI 1) := rfl
theorem kX9_digest_77 : List.getD tX9_digest 77 x_bad = x_goto 33 := rfl
theorem kX9_digest_80 : List.getD tX9_digest 80 x_bad = x_push (.long 31) 3 := rfl
theorem kX9_digest_83 : List.getD tX9_digest 83 x_bad = x_lload 1 1 := rfl
theorem kX9_digest_84 : List.getD tX9_digest 84 x_bad = x_ll (fun a b => a * b) := rfl
theorem kX9_digest_85 : List.getD tX9_digest 85 x_bad = x_aload 0 1 := rfl
theorem kX9_digest_86 : List.getD tX9_digest 86 x_bad = x_push (.int (nI 0)) 1 := rfl
theorem kX9_digest_87 : List.getD tX9_digest 87 x_bad = x_callV1 9 mX9_regions := rfl
theorem kX9_digest_90 : List.getD tX9_digest 90 x_bad = x_i2l := rfl
theorem kX9_digest_91 : List.getD tX9_digest 91 x_bad = x_ll (fun a b => a + b) := rfl
theorem kX9_digest_92 : List.getD tX9_digest 92 x_bad = x_lstore 1 1 := rfl
theorem kX9_digest_93 : List.getD tX9_digest 93 x_bad = x_push (.long 31) 3 := rfl
theorem kX9_digest_96 : List.getD tX9_digest 96 x_bad = x_lload 1 1 := rfl
theorem kX9_digest_97 : List.getD tX9_digest 97 x_bad = x_ll (fun a b => a * b) := rfl
theorem kX9_digest_98 : List.getD tX9_digest 98 x_bad = x_aload 0 1 := rfl
theorem kX9_digest_99 : List.getD tX9_digest 99 x_bad = x_push (.int (nI 1)) 1 := rfl
theorem kX9_digest_100 : List.getD tX9_digest 100 x_bad = x_callV1 9 mX9_regions := rfl
theorem kX9_digest_103 : List.getD tX9_digest 103 x_bad = x_i2l := rfl
theorem kX9_digest_104 : List.getD tX9_digest 104 x_bad = x_ll (fun a b => a + b) := rfl
theorem kX9_digest_105 : List.getD tX9_digest 105 x_bad = x_lstore 1 1 := rfl
theorem kX9_digest_106 : List.getD tX9_digest 106 x_bad = x_push (.int (nI 0)) 1 := rfl
theorem kX9_digest_107 : List.getD tX9_digest 107 x_bad = x_istore 3 1 := rfl
theorem kX9_digest_108 : List.getD tX9_digest 108 x_bad = x_iload 3 1 := rfl
theorem kX9_digest_109 : List.getD tX9_digest 109 x_bad = x_aload 0 1 := rfl
theorem kX9_digest_110 : List.getD tX9_digest 110 x_bad = x_getR 9 4 := rfl
theorem kX9_digest_113 : List.getD tX9_digest 113 x_bad = x_getI 0 6 := rfl
theorem kX9_digest_116 : List.getD tX9_digest 116 x_bad = x_icmp (fun a b => b ≤ a) 139 := rfl
theorem kX9_digest_119 : List.getD tX9_digest 119 x_bad = x_push (.long 31) 3 := rfl
theorem kX9_digest_122 : List.getD tX9_digest 122 x_bad = x_lload 1 1 := rfl
theorem kX9_digest_123 : List.getD tX9_digest 123 x_bad = x_ll (fun a b => a * b) := rfl
theorem kX9_digest_124 : List.getD tX9_digest 124 x_bad = x_aload 0 1 := rfl
theorem kX9_digest_125 : List.getD tX9_digest 125 x_bad = x_iload 3 1 := rfl
theorem kX9_digest_126 : List.getD tX9_digest 126 x_bad = x_push (.int (nI 1)) 1 := rfl
theorem kX9_digest_127 : List.getD tX9_digest 127 x_bad = x_callV2 9 mX9_region := rfl
theorem kX9_digest_130 : List.getD tX9_digest 130 x_bad = x_i2l := rfl
theorem kX9_digest_131 : List.getD tX9_digest 131 x_bad = x_ll (fun a b => a + b) := rfl
theorem kX9_digest_132 : List.getD tX9_digest 132 x_bad = x_lstore 1 1 := rfl
theorem kX9_digest_133 : List.getD tX9_digest 133 x_bad = x_iinc 3 (nI 1) := rfl
theorem kX9_digest_136 : List.getD tX9_digest 136 x_bad = x_goto 108 := rfl
theorem kX9_digest_139 : List.getD tX9_digest 139 x_bad = x_push (.int (nI 0)) 1 := rfl
theorem kX9_digest_140 : List.getD tX9_digest 140 x_bad = x_istore 3 1 := rfl
theorem kX9_digest_141 : List.getD tX9_digest 141 x_bad = x_iload 3 1 := rfl
theorem kX9_digest_142 : List.getD tX9_digest 142 x_bad = x_push (.int (nI 1)) 1 := rfl
theorem kX9_digest_143 : List.getD tX9_digest 143 x_bad = x_icmp (fun a b => b < a) 180 := rfl
theorem kX9_digest_146 : List.getD tX9_digest 146 x_bad = x_push (.long 31) 3 := rfl
theorem kX9_digest_149 : List.getD tX9_digest 149 x_bad = x_lload 1 1 := rfl
theorem kX9_digest_150 : List.getD tX9_digest 150 x_bad = x_ll (fun a b => a * b) := rfl
theorem kX9_digest_151 : List.getD tX9_digest 151 x_bad = x_aload 0 1 := rfl
theorem kX9_digest_152 : List.getD tX9_digest 152 x_bad = x_iload 3 1 := rfl
theorem kX9_digest_153 : List.getD tX9_digest 153 x_bad = x_push (.int (nI 1)) 1 := rfl
theorem kX9_digest_154 : List.getD tX9_digest 154 x_bad = x_callV2 9 mX9_separations := rfl
theorem kX9_digest_157 : List.getD tX9_digest 157 x_bad = x_i2l := rfl
theorem kX9_digest_158 : List.getD tX9_digest 158 x_bad = x_ll (fun a b => a + b) := rfl
theorem kX9_digest_159 : List.getD tX9_digest 159 x_bad = x_lstore 1 1 := rfl
theorem kX9_digest_160 : List.getD tX9_digest 160 x_bad = x_push (.long 31) 3 := rfl
theorem kX9_digest_163 : List.getD tX9_digest 163 x_bad = x_lload 1 1 := rfl
theorem kX9_digest_164 : List.getD tX9_digest 164 x_bad = x_ll (fun a b => a * b) := rfl
theorem kX9_digest_165 : List.getD tX9_digest 165 x_bad = x_aload 0 1 := rfl
theorem kX9_digest_166 : List.getD tX9_digest 166 x_bad = x_iload 3 1 := rfl
theorem kX9_digest_167 : List.getD tX9_digest 167 x_bad = x_push (.int (nI 0)) 1 := rfl
theorem kX9_digest_168 : List.getD tX9_digest 168 x_bad = x_callV2 9 mX9_separations := rfl
theorem kX9_digest_171 : List.getD tX9_digest 171 x_bad = x_i2l := rfl
theorem kX9_digest_172 : List.getD tX9_digest 172 x_bad = x_ll (fun a b => a + b) := rfl
theorem kX9_digest_173 : List.getD tX9_digest 173 x_bad = x_lstore 1 1 := rfl
theorem kX9_digest_174 : List.getD tX9_digest 174 x_bad = x_iinc 3 (nI 1) := rfl
theorem kX9_digest_177 : List.getD tX9_digest 177 x_bad = x_goto 141 := rfl
theorem kX9_digest_180 : List.getD tX9_digest 180 x_bad = x_push (.int (nI 0)) 1 := rfl
theorem kX9_digest_181 : List.getD tX9_digest 181 x_bad = x_istore 3 1 := rfl
theorem kX9_digest_182 : List.getD tX9_digest 182 x_bad = x_iload 3 1 := rfl
theorem kX9_digest_183 : List.getD tX9_digest 183 x_bad = x_push (.int (nI 125)) 2 := rfl
theorem kX9_digest_185 : List.getD tX9_digest 185 x_bad = x_icmp (fun a b => b ≤ a) 217 := rfl
theorem kX9_digest_188 : List.getD tX9_digest 188 x_bad = x_aload 0 1 := rfl
theorem kX9_digest_189 : List.getD tX9_digest 189 x_bad = x_iload 3 1 := rfl
theorem kX9_digest_190 : List.getD tX9_digest 190 x_bad = x_callV1 9 mX9_unsolved := rfl
theorem kX9_digest_193 : List.getD tX9_digest 193 x_bad = x_push (.int (-9)) 2 := rfl
theorem kX9_digest_195 : List.getD tX9_digest 195 x_bad = x_icmp (fun a b => a = b) 217 := rfl
theorem kX9_digest_198 : List.getD tX9_digest 198 x_bad = x_push (.long 31) 3 := rfl
theorem kX9_digest_201 : List.getD tX9_digest 201 x_bad = x_lload 1 1 := rfl
theorem kX9_digest_202 : List.getD tX9_digest 202 x_bad = x_ll (fun a b => a * b) := rfl
theorem kX9_digest_203 : List.getD tX9_digest 203 x_bad = x_aload 0 1 := rfl
theorem kX9_digest_204 : List.getD tX9_digest 204 x_bad = x_iload 3 1 := rfl
theorem kX9_digest_205 : List.getD tX9_digest 205 x_bad = x_callV1 9 mX9_unsolved := rfl
theorem kX9_digest_208 : List.getD tX9_digest 208 x_bad = x_i2l := rfl
theorem kX9_digest_209 : List.getD tX9_digest 209 x_bad = x_ll (fun a b => a + b) := rfl
theorem kX9_digest_210 : List.getD tX9_digest 210 x_bad = x_lstore 1 1 := rfl
theorem kX9_digest_211 : List.getD tX9_digest 211 x_bad = x_iinc 3 (nI 1) := rfl
theorem kX9_digest_214 : List.getD tX9_digest 214 x_bad = x_goto 182 := rfl
theorem kX9_digest_217 : List.getD tX9_digest 217 x_bad = x_push (.long 31) 3 := rfl
theorem kX9_digest_220 : List.getD tX9_digest 220 x_bad = x_lload 1 1 := rfl
theorem kX9_digest_221 : List.getD tX9_digest 221 x_bad = x_ll (fun a b => a * b) := rfl
theorem kX9_digest_222 : List.getD tX9_digest 222 x_bad = x_aload 0 1 := rfl
theorem kX9_digest_223 : List.getD tX9_digest 223 x_bad = x_callV0 9 mX9_places := rfl
theorem kX9_digest_226 : List.getD tX9_digest 226 x_bad = x_i2l := rfl
theorem kX9_digest_227 : List.getD tX9_digest 227 x_bad = x_ll (fun a b => a + b) := rfl
theorem kX9_digest_228 : List.getD tX9_digest 228 x_bad = x_lstore 1 1 := rfl
theorem kX9_digest_229 : List.getD tX9_digest 229 x_bad = x_push (.int (nI 0)) 1 := rfl
theorem kX9_digest_230 : List.getD tX9_digest 230 x_bad = x_istore 3 1 := rfl
theorem kX9_digest_231 : List.getD tX9_digest 231 x_bad = x_iload 3 1 := rfl
theorem kX9_digest_232 : List.getD tX9_digest 232 x_bad = x_aload 0 1 := rfl
theorem kX9_digest_233 : List.getD tX9_digest 233 x_bad = x_getR 9 5 := rfl
theorem kX9_digest_236 : List.getD tX9_digest 236 x_bad = x_getI 5 1 := rfl
theorem kX9_digest_239 : List.getD tX9_digest 239 x_bad = x_icmp (fun a b => b ≤ a) 278 := rfl
theorem kX9_digest_242 : List.getD tX9_digest 242 x_bad = x_push (.int (nI 0)) 1 := rfl
theorem kX9_digest_243 : List.getD tX9_digest 243 x_bad = x_istore 4 2 := rfl
theorem kX9_digest_245 : List.getD tX9_digest 245 x_bad = x_iload 4 2 := rfl
theorem kX9_digest_247 : List.getD tX9_digest 247 x_bad = x_push (.int (nI 4)) 1 := rfl
theorem kX9_digest_248 : List.getD tX9_digest 248 x_bad = x_icmp (fun a b => b < a) 272 := rfl
theorem kX9_digest_251 : List.getD tX9_digest 251 x_bad = x_push (.long 31) 3 := rfl
theorem kX9_digest_254 : List.getD tX9_digest 254 x_bad = x_lload 1 1 := rfl
theorem kX9_digest_255 : List.getD tX9_digest 255 x_bad = x_ll (fun a b => a * b) := rfl
theorem kX9_digest_256 : List.getD tX9_digest 256 x_bad = x_aload 0 1 := rfl
theorem kX9_digest_257 : List.getD tX9_digest 257 x_bad = x_iload 3 1 := rfl
theorem kX9_digest_258 : List.getD tX9_digest 258 x_bad = x_iload 4 2 := rfl
theorem kX9_digest_260 : List.getD tX9_digest 260 x_bad = x_callV2 9 mX9_place := rfl
theorem kX9_digest_263 : List.getD tX9_digest 263 x_bad = x_i2l := rfl
theorem kX9_digest_264 : List.getD tX9_digest 264 x_bad = x_ll (fun a b => a + b) := rfl
theorem kX9_digest_265 : List.getD tX9_digest 265 x_bad = x_lstore 1 1 := rfl
theorem kX9_digest_266 : List.getD tX9_digest 266 x_bad = x_iinc 4 (nI 1) := rfl
theorem kX9_digest_269 : List.getD tX9_digest 269 x_bad = x_goto 245 := rfl
theorem kX9_digest_272 : List.getD tX9_digest 272 x_bad = x_iinc 3 (nI 1) := rfl
theorem kX9_digest_275 : List.getD tX9_digest 275 x_bad = x_goto 231 := rfl
theorem kX9_digest_278 : List.getD tX9_digest 278 x_bad = x_push (.int (nI 0)) 1 := rfl
theorem kX9_digest_279 : List.getD tX9_digest 279 x_bad = x_istore 3 1 := rfl
theorem kX9_digest_280 : List.getD tX9_digest 280 x_bad = x_iload 3 1 := rfl
theorem kX9_digest_281 : List.getD tX9_digest 281 x_bad = x_push (.int (nI 2)) 1 := rfl
theorem kX9_digest_282 : List.getD tX9_digest 282 x_bad = x_icmp (fun a b => b < a) 304 := rfl
theorem kX9_digest_285 : List.getD tX9_digest 285 x_bad = x_push (.long 31) 3 := rfl
theorem kX9_digest_288 : List.getD tX9_digest 288 x_bad = x_lload 1 1 := rfl
theorem kX9_digest_289 : List.getD tX9_digest 289 x_bad = x_ll (fun a b => a * b) := rfl
theorem kX9_digest_290 : List.getD tX9_digest 290 x_bad = x_aload 0 1 := rfl
theorem kX9_digest_291 : List.getD tX9_digest 291 x_bad = x_iload 3 1 := rfl
theorem kX9_digest_292 : List.getD tX9_digest 292 x_bad = x_callV1 9 mX9_netGraph := rfl
theorem kX9_digest_295 : List.getD tX9_digest 295 x_bad = x_i2l := rfl
theorem kX9_digest_296 : List.getD tX9_digest 296 x_bad = x_ll (fun a b => a + b) := rfl
theorem kX9_digest_297 : List.getD tX9_digest 297 x_bad = x_lstore 1 1 := rfl
theorem kX9_digest_298 : List.getD tX9_digest 298 x_bad = x_iinc 3 (nI 1) := rfl
theorem kX9_digest_301 : List.getD tX9_digest 301 x_bad = x_goto 280 := rfl
theorem kX9_digest_304 : List.getD tX9_digest 304 x_bad = x_push (.long 31) 3 := rfl
theorem kX9_digest_307 : List.getD tX9_digest 307 x_bad = x_lload 1 1 := rfl
theorem kX9_digest_308 : List.getD tX9_digest 308 x_bad = x_ll (fun a b => a * b) := rfl
theorem kX9_digest_309 : List.getD tX9_digest 309 x_bad = x_aload 0 1 := rfl
theorem kX9_digest_310 : List.getD tX9_digest 310 x_bad = x_callV0 9 mX9_fits := rfl
theorem kX9_digest_313 : List.getD tX9_digest 313 x_bad = x_i2l := rfl
theorem kX9_digest_314 : List.getD tX9_digest 314 x_bad = x_ll (fun a b => a + b) := rfl
theorem kX9_digest_315 : List.getD tX9_digest 315 x_bad = x_lstore 1 1 := rfl
theorem kX9_digest_316 : List.getD tX9_digest 316 x_bad = x_push (.long 31) 3 := rfl
theorem kX9_digest_319 : List.getD tX9_digest 319 x_bad = x_lload 1 1 := rfl
theorem kX9_digest_320 : List.getD tX9_digest 320 x_bad = x_ll (fun a b => a * b) := rfl
theorem kX9_digest_321 : List.getD tX9_digest 321 x_bad = x_aload 0 1 := rfl
theorem kX9_digest_322 : List.getD tX9_digest 322 x_bad = x_callV0 9 mX9_enabled := rfl
theorem kX9_digest_325 : List.getD tX9_digest 325 x_bad = x_i2l := rfl
theorem kX9_digest_326 : List.getD tX9_digest 326 x_bad = x_ll (fun a b => a + b) := rfl
theorem kX9_digest_327 : List.getD tX9_digest 327 x_bad = x_lret := rfl
