abbrev pX9_feed : Px := (cX9_feed, 2, RX9, "feed", (some .int), 1, 25, fun _ => True)
def bX9_feed_27 : Kt Int32 := o_ald 0 <| o_gR 8 9 <| o_ald 0 <| o_gI 8 10 <| o_ild 1 <| o_sI <| o_ald 0 <| o_dup <| o_gI 8 10 <| o_psh (.int 1) <| o_i2 o_add <| o_pI 8 10 <| o_ald 0 <| o_gI 8 10 <| o_rI
set_option maxRecDepth 100000 in
theorem sX9_feed_27 : Sd pX9_feed ev_i 27 (bX9_feed_27) := sd_aload_n dX9_feed_27 rfl <| sd_gR flX9_19 dX9_feed_28 <| sd_aload_n dX9_feed_31 rfl <| sd_gI flX9_62 dX9_feed_32 <| sd_iload_n dX9_feed_35 rfl <| sd_sI dX9_feed_36 <| sd_aload_n dX9_feed_37 rfl <| sd_dup dX9_feed_38 <| sd_gI flX9_62 dX9_feed_39 <| sd_iconst dX9_feed_42 rfl <| sd_iadd dX9_feed_43 <| sd_pI fpX9_62 dX9_feed_44 <| sd_aload_n dX9_feed_47 rfl <| sd_gI flX9_62 dX9_feed_48 <| (sd_rI rfl dX9_feed_51)
def bX9_feed_24 : Kt Int32 := o_psh (.int (-3)) <| o_rI
set_option maxRecDepth 100000 in
theorem sX9_feed_24 : Sd pX9_feed ev_i 24 (bX9_feed_24) := sd_bipush dX9_feed_24 rfl <| (sd_rI rfl dX9_feed_26)
def bX9_feed_14 : Kt Int32 := o_ald 0 <| o_gI 8 10 <| o_psh (.int 160) <| o_cne bX9_feed_27 <| (o_fg 0 (o_fg 1 bX9_feed_24))
set_option maxRecDepth 100000 in
theorem sX9_feed_14 : Sd pX9_feed ev_i 14 (bX9_feed_14) := sd_aload_n dX9_feed_14 rfl <| sd_gI flX9_62 dX9_feed_15 <| sd_sipush dX9_feed_18 rfl <| sd_cne (tgt := 27) dX9_feed_21 (by decide) sX9_feed_27 <| (sd_fg (i := 0) (sd_fg (i := 1) sX9_feed_24))
def bX9_feed_12 : Kt Int32 := o_psh (.int (-1)) <| o_rI
set_option maxRecDepth 100000 in
theorem sX9_feed_12 : Sd pX9_feed ev_i 12 (bX9_feed_12) := sd_iconst dX9_feed_12 rfl <| (sd_rI rfl dX9_feed_13)
def bX9_feed_0 : Kt Int32 := o_ild 1 <| o_i2l <| o_psh (.long 0) <| o_psh (.long 127) <| o_sc ev_i 3 fX9_in <| o_zne bX9_feed_14 <| (o_fg 0 (o_fg 1 bX9_feed_12))
set_option maxRecDepth 100000 in
theorem sX9_feed_0 : Sd pX9_feed ev_i 0 (bX9_feed_0) := sd_iload_n dX9_feed_0 rfl <| sd_i2l dX9_feed_1 <| sd_lconst dX9_feed_2 rfl <| sd_ldc2 tw_607 dX9_feed_3 <| sd_sc tX9_in (fun _ _ => rfl) mwX9_in mvX9_in tw_611 (by decide) dX9_feed_6 <| sd_zne (tgt := 14) dX9_feed_9 (by decide) sX9_feed_14 <| (sd_fg (i := 0) (sd_fg (i := 1) sX9_feed_12))
def fX9_feed : Mt Int32 := mk_f 2 bX9_feed_0
theorem tX9_feed : Ct ev_i yX9_feed cX9_feed 2 (some .int) 1 25 fX9_feed := ct_of (by decide +kernel) sX9_feed_0
abbrev pX9_end : Px := (cX9_end, 3, RX9, "end", (some .int), 1, 25, fun _ => True)
def bX9_end_16 : Kt Int32 := o_ald 0 <| o_gI 8 10 <| o_ist 2 <| o_ald 0 <| o_ild 1 <| o_pI 8 10 <| o_ild 2 <| o_rI
set_option maxRecDepth 100000 in
theorem sX9_end_16 : Sd pX9_end ev_i 16 (bX9_end_16) := sd_aload_n dX9_end_16 rfl <| sd_gI flX9_62 dX9_end_17 <| sd_istore_n dX9_end_20 rfl (by decide) <| sd_aload_n dX9_end_21 rfl <| sd_iload_n dX9_end_22 rfl <| sd_pI fpX9_62 dX9_end_23 <| sd_iload_n dX9_end_26 rfl <| (sd_rI rfl dX9_end_27)
def bX9_end_14 : Kt Int32 := o_psh (.int (-1)) <| o_rI
set_option maxRecDepth 100000 in
theorem sX9_end_14 : Sd pX9_end ev_i 14 (bX9_end_14) := sd_iconst dX9_end_14 rfl <| (sd_rI rfl dX9_end_15)
def bX9_end_0 : Kt Int32 := o_ild 1 <| o_i2l <| o_psh (.long 0) <| o_ald 0 <| o_gI 8 10 <| o_i2l <| o_sc ev_i 3 fX9_in <| o_zne bX9_end_16 <| (o_fg 0 (o_fg 1 bX9_end_14))
set_option maxRecDepth 100000 in
theorem sX9_end_0 : Sd pX9_end ev_i 0 (bX9_end_0) := sd_iload_n dX9_end_0 rfl <| sd_i2l dX9_end_1 <| sd_lconst dX9_end_2 rfl <| sd_aload_n dX9_end_3 rfl <| sd_gI flX9_62 dX9_end_4 <| sd_i2l dX9_end_7 <| sd_sc tX9_in (fun _ _ => rfl) mwX9_in mvX9_in tw_611 (by decide) dX9_end_8 <| sd_zne (tgt := 16) dX9_end_11 (by decide) sX9_end_16 <| (sd_fg (i := 0) (sd_fg (i := 1) sX9_end_14))
def fX9_end : Mt Int32 := mk_f 3 bX9_end_0
theorem tX9_end : Ct ev_i yX9_end cX9_end 3 (some .int) 1 25 fX9_end := ct_of (by decide +kernel) sX9_end_0
abbrev pX9_byteAt : Px := (cX9_byteAt, 2, RX9, "byteAt", (some .int), 0, 0, fun _ => True)
def bX9_byteAt_19 : Kt Int32 := o_rI
set_option maxRecDepth 100000 in
theorem sX9_byteAt_19 : Sd pX9_byteAt ev_i 19 (bX9_byteAt_19) := (sd_rI rfl dX9_byteAt_19)
def bX9_byteAt_17 : Kt Int32 := o_psh (.int (-4)) <| bX9_byteAt_19
set_option maxRecDepth 100000 in
theorem sX9_byteAt_17 : Sd pX9_byteAt ev_i 17 (bX9_byteAt_17) := sd_bipush dX9_byteAt_17 rfl <| sX9_byteAt_19
def bX9_byteAt_8 : Kt Int32 := o_ald 0 <| o_gR 8 9 <| o_ild 1 <| o_aI <| (o_fg 0 (o_fg 1 bX9_byteAt_19))
set_option maxRecDepth 100000 in
theorem sX9_byteAt_8 : Sd pX9_byteAt ev_i 8 (bX9_byteAt_8) := sd_aload_n dX9_byteAt_8 rfl <| sd_gR flX9_19 dX9_byteAt_9 <| sd_iload_n dX9_byteAt_12 rfl <| sd_aI dX9_byteAt_13 <| (sd_goto (tgt := 19) dX9_byteAt_14 (by decide) (sd_fg (i := 0) (sd_fg (i := 1) sX9_byteAt_19)))
def bX9_byteAt_0 : Kt Int32 := o_ild 1 <| o_ald 0 <| o_gI 8 10 <| o_cge (o_fg 0 (o_fg 1 bX9_byteAt_17)) <| bX9_byteAt_8
set_option maxRecDepth 100000 in
theorem sX9_byteAt_0 : Sd pX9_byteAt ev_i 0 (bX9_byteAt_0) := sd_iload_n dX9_byteAt_0 rfl <| sd_aload_n dX9_byteAt_1 rfl <| sd_gI flX9_62 dX9_byteAt_2 <| sd_cge (tgt := 17) dX9_byteAt_5 (by decide) (sd_fg (i := 0) (sd_fg (i := 1) sX9_byteAt_17)) <| sX9_byteAt_8
def fX9_byteAt : Mt Int32 := mk_f 2 bX9_byteAt_0
theorem tX9_byteAt : Ct ev_i yX9_byteAt cX9_byteAt 2 (some .int) 0 0 fX9_byteAt := ct_of (by decide +kernel) sX9_byteAt_0
abbrev pX9_fails : Px := (cX9_fails, 2, RX9, "fails", none, 0, 0, fun _ => True)
def bX9_fails_20 : Kt Unit := o_rV
set_option maxRecDepth 100000 in
theorem sX9_fails_20 : Sd pX9_fails ev_v 20 (bX9_fails_20) := (sd_rV rfl dX9_fails_20)
def bX9_fails_7 : Kt Unit := o_ald 0 <| o_ild 1 <| o_pI 8 12 <| o_ald 0 <| o_ald 0 <| o_gI 8 15 <| o_pI 8 13 <| (o_fg 0 (o_fg 1 bX9_fails_20))
set_option maxRecDepth 100000 in
theorem sX9_fails_7 : Sd pX9_fails ev_v 7 (bX9_fails_7) := sd_aload_n dX9_fails_7 rfl <| sd_iload_n dX9_fails_8 rfl <| sd_pI fpX9_66 dX9_fails_9 <| sd_aload_n dX9_fails_12 rfl <| sd_aload_n dX9_fails_13 rfl <| sd_gI flX9_69 dX9_fails_14 <| sd_pI fpX9_72 dX9_fails_17 <| (sd_fg (i := 0) (sd_fg (i := 1) sX9_fails_20))
def bX9_fails_0 : Kt Unit := o_ald 0 <| o_gI 8 12 <| o_zne (o_fg 0 (o_fg 1 bX9_fails_20)) <| bX9_fails_7
set_option maxRecDepth 100000 in
theorem sX9_fails_0 : Sd pX9_fails ev_v 0 (bX9_fails_0) := sd_aload_n dX9_fails_0 rfl <| sd_gI flX9_66 dX9_fails_1 <| sd_zne (tgt := 20) dX9_fails_4 (by decide) (sd_fg (i := 0) (sd_fg (i := 1) sX9_fails_20)) <| sX9_fails_7
def fX9_fails : Mt Unit := mk_f 2 bX9_fails_0
theorem tX9_fails : Ct ev_v yX9_fails cX9_fails 2 none 0 0 fX9_fails := ct_of (by decide +kernel) sX9_fails_0
abbrev pX9_nameHere : Px := (cX9_nameHere, 4, RX9, "nameHere", (some .int), 1, 21, fun _ => True)
def bX9_nameHere_118 : Kt Int32 := o_psh (.int (-4)) <| o_rI
set_option maxRecDepth 100000 in
theorem sX9_nameHere_118 : Sd pX9_nameHere ev_i 118 (bX9_nameHere_118) := sd_bipush dX9_nameHere_118 rfl <| (sd_rI rfl dX9_nameHere_120)
def bX9_nameHere_112 (K2 : Kt Int32) : Kt Int32 := o_inc 1 1 <| K2
set_option maxRecDepth 100000 in
theorem sX9_nameHere_112 {K2 : Kt Int32} (h2 : Sd pX9_nameHere ev_i 2 K2) : Sd pX9_nameHere ev_i 112 (bX9_nameHere_112 K2) := sd_iinc dX9_nameHere_112 rfl (by decide) <| (sd_goto (tgt := 2) dX9_nameHere_115 (by decide) h2)
def bX9_nameHere_110 (K2 : Kt Int32) : Kt Int32 := o_ild 1 <| o_rI
set_option maxRecDepth 100000 in
theorem sX9_nameHere_110 {K2 : Kt Int32} (h2 : Sd pX9_nameHere ev_i 2 K2) : Sd pX9_nameHere ev_i 110 (bX9_nameHere_110 K2) := sd_iload_n dX9_nameHere_110 rfl <| (sd_rI rfl dX9_nameHere_111)
def bX9_nameHere_106 (K2 : Kt Int32) : Kt Int32 := o_ild 2 <| o_zeq (o_fg 2 (bX9_nameHere_112 K2)) <| (o_fg 0 (o_fg 2 (bX9_nameHere_110 K2)))
set_option maxRecDepth 100000 in
theorem sX9_nameHere_106 {K2 : Kt Int32} (h2 : Sd pX9_nameHere ev_i 2 K2) : Sd pX9_nameHere ev_i 106 (bX9_nameHere_106 K2) := sd_iload_n dX9_nameHere_106 rfl <| sd_zeq (tgt := 112) dX9_nameHere_107 (by decide) (sd_fg (i := 2) (sX9_nameHere_112 h2)) <| (sd_fg (i := 0) (sd_fg (i := 2) (sX9_nameHere_110 h2)))
def bX9_nameHere_99 (K2 : Kt Int32) (K51 : Kt Int32) : Kt Int32 := o_ist 2 <| o_inc 3 1 <| K51
set_option maxRecDepth 100000 in
theorem sX9_nameHere_99 {K2 : Kt Int32} (h2 : Sd pX9_nameHere ev_i 2 K2) {K51 : Kt Int32} (h51 : Sd pX9_nameHere ev_i 51 K51) : Sd pX9_nameHere ev_i 99 (bX9_nameHere_99 K2 K51) := sd_istore_n dX9_nameHere_99 rfl (by decide) <| sd_iinc dX9_nameHere_100 rfl (by decide) <| (sd_goto (tgt := 51) dX9_nameHere_103 (by decide) h51)
def bX9_nameHere_98 (K2 : Kt Int32) (K51 : Kt Int32) : Kt Int32 := o_psh (.int 0) <| (bX9_nameHere_99 K2 K51)
set_option maxRecDepth 100000 in
theorem sX9_nameHere_98 {K2 : Kt Int32} (h2 : Sd pX9_nameHere ev_i 2 K2) {K51 : Kt Int32} (h51 : Sd pX9_nameHere ev_i 51 K51) : Sd pX9_nameHere ev_i 98 (bX9_nameHere_98 K2 K51) := sd_iconst dX9_nameHere_98 rfl <| (sX9_nameHere_99 h2 h51)
def bX9_nameHere_94 (K2 : Kt Int32) (K51 : Kt Int32) : Kt Int32 := o_psh (.int 1) <| (bX9_nameHere_99 K2 K51)
set_option maxRecDepth 100000 in
theorem sX9_nameHere_94 {K2 : Kt Int32} (h2 : Sd pX9_nameHere ev_i 2 K2) {K51 : Kt Int32} (h51 : Sd pX9_nameHere ev_i 51 K51) : Sd pX9_nameHere ev_i 94 (bX9_nameHere_94 K2 K51) := sd_iconst dX9_nameHere_94 rfl <| (sd_goto (tgt := 99) dX9_nameHere_95 (by decide) (sX9_nameHere_99 h2 h51))
def bX9_nameHere_68 (K2 : Kt Int32) (K51 : Kt Int32) : Kt Int32 := o_ald 0 <| o_ald 0 <| o_gI 8 15 <| o_ild 3 <| o_i2 o_add <| o_vc ev_i 8 2 fX9_byteAt <| o_ald 0 <| o_gR 8 19 <| o_ald 0 <| o_gR 8 18 <| o_ild 1 <| o_aI <| o_ild 3 <| o_i2 o_add <| o_aI <| o_cne (bX9_nameHere_98 K2 K51) <| (bX9_nameHere_94 K2 K51)
set_option maxRecDepth 100000 in
theorem sX9_nameHere_68 {K2 : Kt Int32} (h2 : Sd pX9_nameHere ev_i 2 K2) {K51 : Kt Int32} (h51 : Sd pX9_nameHere ev_i 51 K51) : Sd pX9_nameHere ev_i 68 (bX9_nameHere_68 K2 K51) := sd_aload_n dX9_nameHere_68 rfl <| sd_aload_n dX9_nameHere_69 rfl <| sd_gI flX9_69 dX9_nameHere_70 <| sd_iload_n dX9_nameHere_73 rfl <| sd_iadd dX9_nameHere_74 <| sd_vc tX9_byteAt (fun _ _ => rfl) rfl mwX9_byteAt mvX9_byteAt tw_621 (by decide) dX9_nameHere_75 <| sd_aload_n dX9_nameHere_78 rfl <| sd_gR flX9_25 dX9_nameHere_79 <| sd_aload_n dX9_nameHere_82 rfl <| sd_gR flX9_22 dX9_nameHere_83 <| sd_iload_n dX9_nameHere_86 rfl <| sd_aI dX9_nameHere_87 <| sd_iload_n dX9_nameHere_88 rfl <| sd_iadd dX9_nameHere_89 <| sd_aI dX9_nameHere_90 <| sd_cne (tgt := 98) dX9_nameHere_91 (by decide) (sX9_nameHere_98 h2 h51) <| (sX9_nameHere_94 h2 h51)
def bX9_nameHere_55 (K2 : Kt Int32) (K51 : Kt Int32) : Kt Int32 := o_ild 3 <| o_ald 0 <| o_gI 8 14 <| o_ald 0 <| o_gI 8 15 <| o_i2 o_sub <| o_cge (o_fg 3 (bX9_nameHere_106 K2)) <| (o_fg 2 (bX9_nameHere_68 K2 K51))
set_option maxRecDepth 100000 in
theorem sX9_nameHere_55 {K2 : Kt Int32} (h2 : Sd pX9_nameHere ev_i 2 K2) {K51 : Kt Int32} (h51 : Sd pX9_nameHere ev_i 51 K51) : Sd pX9_nameHere ev_i 55 (bX9_nameHere_55 K2 K51) := sd_iload_n dX9_nameHere_55 rfl <| sd_aload_n dX9_nameHere_56 rfl <| sd_gI flX9_78 dX9_nameHere_57 <| sd_aload_n dX9_nameHere_60 rfl <| sd_gI flX9_69 dX9_nameHere_61 <| sd_isub dX9_nameHere_64 <| sd_cge (tgt := 106) dX9_nameHere_65 (by decide) (sd_fg (i := 3) (sX9_nameHere_106 h2)) <| (sd_fg (i := 2) (sX9_nameHere_68 h2 h51))
def bX9_nameHere_51 (K2 : Kt Int32) (K51 : Kt Int32) : Kt Int32 := o_ild 2 <| o_zeq (o_fg 3 (bX9_nameHere_106 K2)) <| (bX9_nameHere_55 K2 K51)
set_option maxRecDepth 100000 in
theorem sX9_nameHere_51 {K2 : Kt Int32} (h2 : Sd pX9_nameHere ev_i 2 K2) {K51 : Kt Int32} (h51 : Sd pX9_nameHere ev_i 51 K51) : Sd pX9_nameHere ev_i 51 (bX9_nameHere_51 K2 K51) := sd_iload_n dX9_nameHere_51 rfl <| sd_zeq (tgt := 106) dX9_nameHere_52 (by decide) (sd_fg (i := 3) (sX9_nameHere_106 h2)) <| (sX9_nameHere_55 h2 h51)
def bX9_nameHere_48 (K2 : Kt Int32) : Kt Int32 := o_ist 2 <| o_psh (.int 0) <| o_ist 3 <| (o_lp (bX9_nameHere_51 K2) fu)
set_option maxRecDepth 100000 in
theorem sX9_nameHere_48 {K2 : Kt Int32} (h2 : Sd pX9_nameHere ev_i 2 K2) : Sd pX9_nameHere ev_i 48 (bX9_nameHere_48 K2) := sd_istore_n dX9_nameHere_48 rfl (by decide) <| sd_iconst dX9_nameHere_49 rfl <| sd_istore_n dX9_nameHere_50 rfl (by decide) <| (sd_lp (fun K h => sX9_nameHere_51 h2 h) fu)
def bX9_nameHere_47 (K2 : Kt Int32) : Kt Int32 := o_psh (.int 0) <| (bX9_nameHere_48 K2)
set_option maxRecDepth 100000 in
theorem sX9_nameHere_47 {K2 : Kt Int32} (h2 : Sd pX9_nameHere ev_i 2 K2) : Sd pX9_nameHere ev_i 47 (bX9_nameHere_47 K2) := sd_iconst dX9_nameHere_47 rfl <| (sX9_nameHere_48 h2)
def bX9_nameHere_43 (K2 : Kt Int32) : Kt Int32 := o_psh (.int 1) <| (bX9_nameHere_48 K2)
set_option maxRecDepth 100000 in
theorem sX9_nameHere_43 {K2 : Kt Int32} (h2 : Sd pX9_nameHere ev_i 2 K2) : Sd pX9_nameHere ev_i 43 (bX9_nameHere_43 K2) := sd_iconst dX9_nameHere_43 rfl <| (sd_goto (tgt := 48) dX9_nameHere_44 (by decide) (sX9_nameHere_48 h2))
def bX9_nameHere_16 (K2 : Kt Int32) : Kt Int32 := o_ald 0 <| o_gI 8 14 <| o_ald 0 <| o_gI 8 15 <| o_i2 o_sub <| o_ald 0 <| o_gR 8 18 <| o_ild 1 <| o_psh (.int 1) <| o_i2 o_add <| o_aI <| o_ald 0 <| o_gR 8 18 <| o_ild 1 <| o_aI <| o_i2 o_sub <| o_cne (bX9_nameHere_47 K2) <| (bX9_nameHere_43 K2)
set_option maxRecDepth 100000 in
theorem sX9_nameHere_16 {K2 : Kt Int32} (h2 : Sd pX9_nameHere ev_i 2 K2) : Sd pX9_nameHere ev_i 16 (bX9_nameHere_16 K2) := sd_aload_n dX9_nameHere_16 rfl <| sd_gI flX9_78 dX9_nameHere_17 <| sd_aload_n dX9_nameHere_20 rfl <| sd_gI flX9_69 dX9_nameHere_21 <| sd_isub dX9_nameHere_24 <| sd_aload_n dX9_nameHere_25 rfl <| sd_gR flX9_22 dX9_nameHere_26 <| sd_iload_n dX9_nameHere_29 rfl <| sd_iconst dX9_nameHere_30 rfl <| sd_iadd dX9_nameHere_31 <| sd_aI dX9_nameHere_32 <| sd_aload_n dX9_nameHere_33 rfl <| sd_gR flX9_22 dX9_nameHere_34 <| sd_iload_n dX9_nameHere_37 rfl <| sd_aI dX9_nameHere_38 <| sd_isub dX9_nameHere_39 <| sd_cne (tgt := 47) dX9_nameHere_40 (by decide) (sX9_nameHere_47 h2) <| (sX9_nameHere_43 h2)
def bX9_nameHere_8 (K2 : Kt Int32) : Kt Int32 := o_ald 0 <| o_gI 8 16 <| o_psh (.int 1) <| o_cne (o_fg 0 (o_fg 1 bX9_nameHere_118)) <| (bX9_nameHere_16 K2)
set_option maxRecDepth 100000 in
theorem sX9_nameHere_8 {K2 : Kt Int32} (h2 : Sd pX9_nameHere ev_i 2 K2) : Sd pX9_nameHere ev_i 8 (bX9_nameHere_8 K2) := sd_aload_n dX9_nameHere_8 rfl <| sd_gI flX9_75 dX9_nameHere_9 <| sd_iconst dX9_nameHere_12 rfl <| sd_cne (tgt := 118) dX9_nameHere_13 (by decide) (sd_fg (i := 0) (sd_fg (i := 1) sX9_nameHere_118)) <| (sX9_nameHere_16 h2)
def bX9_nameHere_2 (K2 : Kt Int32) : Kt Int32 := o_ild 1 <| o_psh (.int 9) <| o_cge (o_fg 0 (o_fg 1 bX9_nameHere_118)) <| (bX9_nameHere_8 K2)
set_option maxRecDepth 100000 in
theorem sX9_nameHere_2 {K2 : Kt Int32} (h2 : Sd pX9_nameHere ev_i 2 K2) : Sd pX9_nameHere ev_i 2 (bX9_nameHere_2 K2) := sd_iload_n dX9_nameHere_2 rfl <| sd_bipush dX9_nameHere_3 rfl <| sd_cge (tgt := 118) dX9_nameHere_5 (by decide) (sd_fg (i := 0) (sd_fg (i := 1) sX9_nameHere_118)) <| (sX9_nameHere_8 h2)
def bX9_nameHere_0 : Kt Int32 := o_psh (.int 0) <| o_ist 1 <| (o_lp (bX9_nameHere_2) fu)
set_option maxRecDepth 100000 in
theorem sX9_nameHere_0 : Sd pX9_nameHere ev_i 0 (bX9_nameHere_0) := sd_iconst dX9_nameHere_0 rfl <| sd_istore_n dX9_nameHere_1 rfl (by decide) <| (sd_lp (fun K h => sX9_nameHere_2 h) fu)
def fX9_nameHere : Mt Int32 := mk_f 4 bX9_nameHere_0
theorem tX9_nameHere : Ct ev_i yX9_nameHere cX9_nameHere 4 (some .int) 1 21 fX9_nameHere := ct_of (by decide +kernel) sX9_nameHere_0
abbrev pX9_step : Px := (cX9_step, 2, RX9, "step", none, 1, 25, fun _ => True)
def bX9_step_269 : Kt Unit := o_rV
set_option maxRecDepth 100000 in
theorem sX9_step_269 : Sd pX9_step ev_v 269 (bX9_step_269) := (sd_rV rfl dX9_step_269)
def bX9_step_264 : Kt Unit := o_ald 0 <| o_psh (.int 1) <| o_vc ev_v 8 2 fX9_fails <| (o_fg 0 bX9_step_269)
set_option maxRecDepth 100000 in
theorem sX9_step_264 : Sd pX9_step ev_v 264 (bX9_step_264) := sd_aload_n dX9_step_264 rfl <| sd_iconst dX9_step_265 rfl <| sd_vc tX9_fails (fun _ _ => rfl) rfl mwX9_fails mvX9_fails tw_630 (by decide) dX9_step_266 <| (sd_fg (i := 0) sX9_step_269)
def bX9_step_243 : Kt Unit := o_ald 0 <| o_psh (.int 3) <| o_pI 8 16 <| o_ald 0 <| o_dup <| o_gI 8 14 <| o_psh (.int 1) <| o_i2 o_add <| o_pI 8 14 <| o_ild 1 <| o_psh (.int 59) <| o_ceq (o_fg 0 (o_fg 1 bX9_step_269)) <| (o_fg 1 bX9_step_264)
set_option maxRecDepth 100000 in
theorem sX9_step_243 : Sd pX9_step ev_v 243 (bX9_step_243) := sd_aload_n dX9_step_243 rfl <| sd_iconst dX9_step_244 rfl <| sd_pI fpX9_75 dX9_step_245 <| sd_aload_n dX9_step_248 rfl <| sd_dup dX9_step_249 <| sd_gI flX9_78 dX9_step_250 <| sd_iconst dX9_step_253 rfl <| sd_iadd dX9_step_254 <| sd_pI fpX9_78 dX9_step_255 <| sd_iload_n dX9_step_258 rfl <| sd_bipush dX9_step_259 rfl <| sd_ceq (tgt := 269) dX9_step_261 (by decide) (sd_fg (i := 0) (sd_fg (i := 1) sX9_step_269)) <| (sd_fg (i := 1) sX9_step_264)
def bX9_step_235 : Kt Unit := o_ald 0 <| o_psh (.int 1) <| o_vc ev_v 8 2 fX9_fails <| (o_fg 0 bX9_step_269)
set_option maxRecDepth 100000 in
theorem sX9_step_235 : Sd pX9_step ev_v 235 (bX9_step_235) := sd_aload_n dX9_step_235 rfl <| sd_iconst dX9_step_236 rfl <| sd_vc tX9_fails (fun _ _ => rfl) rfl mwX9_fails mvX9_fails tw_630 (by decide) dX9_step_237 <| (sd_goto (tgt := 269) dX9_step_240 (by decide) (sd_fg (i := 0) sX9_step_269))
def bX9_step_217 : Kt Unit := o_ald 0 <| o_psh (.int 2) <| o_pI 8 16 <| o_ald 0 <| o_gI 8 14 <| o_ald 0 <| o_gI 8 15 <| o_i2 o_sub <| o_psh (.int 2) <| o_cle (o_fg 0 bX9_step_269) <| bX9_step_235
set_option maxRecDepth 100000 in
theorem sX9_step_217 : Sd pX9_step ev_v 217 (bX9_step_217) := sd_aload_n dX9_step_217 rfl <| sd_iconst dX9_step_218 rfl <| sd_pI fpX9_75 dX9_step_219 <| sd_aload_n dX9_step_222 rfl <| sd_gI flX9_78 dX9_step_223 <| sd_aload_n dX9_step_226 rfl <| sd_gI flX9_69 dX9_step_227 <| sd_isub dX9_step_230 <| sd_iconst dX9_step_231 rfl <| sd_cle (tgt := 269) dX9_step_232 (by decide) (sd_fg (i := 0) sX9_step_269) <| sX9_step_235
def bX9_step_201 (K140 : Kt Unit) : Kt Unit := o_pI 8 17 <| o_ald 0 <| o_dup <| o_gI 8 14 <| o_psh (.int 1) <| o_i2 o_add <| o_pI 8 14 <| K140
set_option maxRecDepth 100000 in
theorem sX9_step_201 {K140 : Kt Unit} (h140 : Sd pX9_step ev_v 140 K140) : Sd pX9_step ev_v 201 (bX9_step_201 K140) := sd_pI fpX9_85 dX9_step_201 <| sd_aload_n dX9_step_204 rfl <| sd_dup dX9_step_205 <| sd_gI flX9_78 dX9_step_206 <| sd_iconst dX9_step_209 rfl <| sd_iadd dX9_step_210 <| sd_pI fpX9_78 dX9_step_211 <| (sd_goto (tgt := 140) dX9_step_214 (by decide) h140)
def bX9_step_197 (K140 : Kt Unit) : Kt Unit := o_ald 0 <| o_gI 8 17 <| (bX9_step_201 K140)
set_option maxRecDepth 100000 in
theorem sX9_step_197 {K140 : Kt Unit} (h140 : Sd pX9_step ev_v 140 K140) : Sd pX9_step ev_v 197 (bX9_step_197 K140) := sd_aload_n dX9_step_197 rfl <| sd_gI flX9_85 dX9_step_198 <| (sX9_step_201 h140)
def bX9_step_175 (K140 : Kt Unit) : Kt Unit := o_psh (.int 10) <| o_ald 0 <| o_gI 8 17 <| o_i2 o_mul <| o_ald 0 <| o_ald 0 <| o_gI 8 14 <| o_vc ev_i 8 2 fX9_byteAt <| o_i2 o_add <| o_psh (.int 48) <| o_i2 o_sub <| (bX9_step_201 K140)
set_option maxRecDepth 100000 in
theorem sX9_step_175 {K140 : Kt Unit} (h140 : Sd pX9_step ev_v 140 K140) : Sd pX9_step ev_v 175 (bX9_step_175 K140) := sd_bipush dX9_step_175 rfl <| sd_aload_n dX9_step_177 rfl <| sd_gI flX9_85 dX9_step_178 <| sd_imul dX9_step_181 <| sd_aload_n dX9_step_182 rfl <| sd_aload_n dX9_step_183 rfl <| sd_gI flX9_78 dX9_step_184 <| sd_vc tX9_byteAt (fun _ _ => rfl) rfl mwX9_byteAt mvX9_byteAt tw_621 (by decide) dX9_step_187 <| sd_iadd dX9_step_190 <| sd_bipush dX9_step_191 rfl <| sd_isub dX9_step_193 <| (sd_goto (tgt := 201) dX9_step_194 (by decide) (sX9_step_201 h140))
def bX9_step_161 (K140 : Kt Unit) : Kt Unit := o_ald 0 <| o_ald 0 <| o_gI 8 14 <| o_ald 0 <| o_gI 8 15 <| o_i2 o_sub <| o_psh (.int 2) <| o_cge (bX9_step_197 K140) <| (bX9_step_175 K140)
set_option maxRecDepth 100000 in
theorem sX9_step_161 {K140 : Kt Unit} (h140 : Sd pX9_step ev_v 140 K140) : Sd pX9_step ev_v 161 (bX9_step_161 K140) := sd_aload_n dX9_step_161 rfl <| sd_aload_n dX9_step_162 rfl <| sd_gI flX9_78 dX9_step_163 <| sd_aload_n dX9_step_166 rfl <| sd_gI flX9_69 dX9_step_167 <| sd_isub dX9_step_170 <| sd_iconst dX9_step_171 rfl <| sd_cge (tgt := 197) dX9_step_172 (by decide) (sX9_step_197 h140) <| (sX9_step_175 h140)
def bX9_step_140 (K140 : Kt Unit) : Kt Unit := o_ald 0 <| o_ald 0 <| o_gI 8 14 <| o_vc ev_i 8 2 fX9_byteAt <| o_i2l <| o_psh (.long 48) <| o_psh (.long 57) <| o_sc ev_i 3 fX9_in <| o_zeq bX9_step_217 <| (bX9_step_161 K140)
set_option maxRecDepth 100000 in
theorem sX9_step_140 {K140 : Kt Unit} (h140 : Sd pX9_step ev_v 140 K140) : Sd pX9_step ev_v 140 (bX9_step_140 K140) := sd_aload_n dX9_step_140 rfl <| sd_aload_n dX9_step_141 rfl <| sd_gI flX9_78 dX9_step_142 <| sd_vc tX9_byteAt (fun _ _ => rfl) rfl mwX9_byteAt mvX9_byteAt tw_621 (by decide) dX9_step_145 <| sd_i2l dX9_step_148 <| sd_ldc2 tw_625 dX9_step_149 <| sd_ldc2 tw_626 dX9_step_152 <| sd_sc tX9_in (fun _ _ => rfl) mwX9_in mvX9_in tw_611 (by decide) dX9_step_155 <| sd_zeq (tgt := 217) dX9_step_158 (by decide) sX9_step_217 <| (sX9_step_161 h140)
def bX9_step_126 : Kt Unit := o_ild 1 <| o_i2l <| o_psh (.long 48) <| o_psh (.long 57) <| o_sc ev_i 3 fX9_in <| o_zeq bX9_step_243 <| (o_fg 1 (o_lp (bX9_step_140) fu))
set_option maxRecDepth 100000 in
theorem sX9_step_126 : Sd pX9_step ev_v 126 (bX9_step_126) := sd_iload_n dX9_step_126 rfl <| sd_i2l dX9_step_127 <| sd_ldc2 tw_625 dX9_step_128 <| sd_ldc2 tw_626 dX9_step_131 <| sd_sc tX9_in (fun _ _ => rfl) mwX9_in mvX9_in tw_611 (by decide) dX9_step_134 <| sd_zeq (tgt := 243) dX9_step_137 (by decide) sX9_step_243 <| (sd_fg (i := 1) (sd_lp (fun K h => sX9_step_140 h) fu))
def bX9_step_118 : Kt Unit := o_ald 0 <| o_psh (.int 1) <| o_pI 8 16 <| (o_fg 0 bX9_step_269)
set_option maxRecDepth 100000 in
theorem sX9_step_118 : Sd pX9_step ev_v 118 (bX9_step_118) := sd_aload_n dX9_step_118 rfl <| sd_iconst dX9_step_119 rfl <| sd_pI fpX9_75 dX9_step_120 <| (sd_goto (tgt := 269) dX9_step_123 (by decide) (sd_fg (i := 0) sX9_step_269))
def bX9_step_105 (K84 : Kt Unit) : Kt Unit := o_ald 0 <| o_dup <| o_gI 8 14 <| o_psh (.int 1) <| o_i2 o_add <| o_pI 8 14 <| K84
set_option maxRecDepth 100000 in
theorem sX9_step_105 {K84 : Kt Unit} (h84 : Sd pX9_step ev_v 84 K84) : Sd pX9_step ev_v 105 (bX9_step_105 K84) := sd_aload_n dX9_step_105 rfl <| sd_dup dX9_step_106 <| sd_gI flX9_78 dX9_step_107 <| sd_iconst dX9_step_110 rfl <| sd_iadd dX9_step_111 <| sd_pI fpX9_78 dX9_step_112 <| (sd_goto (tgt := 84) dX9_step_115 (by decide) h84)
def bX9_step_84 (K84 : Kt Unit) : Kt Unit := o_ald 0 <| o_ald 0 <| o_gI 8 14 <| o_vc ev_i 8 2 fX9_byteAt <| o_i2l <| o_psh (.long 97) <| o_psh (.long 122) <| o_sc ev_i 3 fX9_in <| o_zeq bX9_step_118 <| (bX9_step_105 K84)
set_option maxRecDepth 100000 in
theorem sX9_step_84 {K84 : Kt Unit} (h84 : Sd pX9_step ev_v 84 K84) : Sd pX9_step ev_v 84 (bX9_step_84 K84) := sd_aload_n dX9_step_84 rfl <| sd_aload_n dX9_step_85 rfl <| sd_gI flX9_78 dX9_step_86 <| sd_vc tX9_byteAt (fun _ _ => rfl) rfl mwX9_byteAt mvX9_byteAt tw_621 (by decide) dX9_step_89 <| sd_i2l dX9_step_92 <| sd_ldc2 tw_623 dX9_step_93 <| sd_ldc2 tw_624 dX9_step_96 <| sd_sc tX9_in (fun _ _ => rfl) mwX9_in mvX9_in tw_611 (by decide) dX9_step_99 <| sd_zeq (tgt := 118) dX9_step_102 (by decide) sX9_step_118 <| (sX9_step_105 h84)
def bX9_step_70 : Kt Unit := o_ild 1 <| o_i2l <| o_psh (.long 97) <| o_psh (.long 122) <| o_sc ev_i 3 fX9_in <| o_zeq bX9_step_126 <| (o_fg 1 (o_lp (bX9_step_84) fu))
set_option maxRecDepth 100000 in
theorem sX9_step_70 : Sd pX9_step ev_v 70 (bX9_step_70) := sd_iload_n dX9_step_70 rfl <| sd_i2l dX9_step_71 <| sd_ldc2 tw_623 dX9_step_72 <| sd_ldc2 tw_624 dX9_step_75 <| sd_sc tX9_in (fun _ _ => rfl) mwX9_in mvX9_in tw_611 (by decide) dX9_step_78 <| sd_zeq (tgt := 126) dX9_step_81 (by decide) sX9_step_126 <| (sd_fg (i := 1) (sd_lp (fun K h => sX9_step_84 h) fu))
def bX9_step_62 : Kt Unit := o_ald 0 <| o_psh (.int 0) <| o_pI 8 16 <| (o_fg 0 bX9_step_269)
set_option maxRecDepth 100000 in
theorem sX9_step_62 : Sd pX9_step ev_v 62 (bX9_step_62) := sd_aload_n dX9_step_62 rfl <| sd_iconst dX9_step_63 rfl <| sd_pI fpX9_75 dX9_step_64 <| (sd_goto (tgt := 269) dX9_step_67 (by decide) (sd_fg (i := 0) sX9_step_269))
def bX9_step_34 : Kt Unit := o_ald 0 <| o_ald 0 <| o_gI 8 14 <| o_pI 8 15 <| o_ald 0 <| o_ald 0 <| o_gI 8 14 <| o_vc ev_i 8 2 fX9_byteAt <| o_ist 1 <| o_ald 0 <| o_psh (.int 0) <| o_pI 8 17 <| o_ild 1 <| o_psh (.int (-4)) <| o_cne bX9_step_70 <| (o_fg 1 bX9_step_62)
set_option maxRecDepth 100000 in
theorem sX9_step_34 : Sd pX9_step ev_v 34 (bX9_step_34) := sd_aload_n dX9_step_34 rfl <| sd_aload_n dX9_step_35 rfl <| sd_gI flX9_78 dX9_step_36 <| sd_pI fpX9_69 dX9_step_39 <| sd_aload_n dX9_step_42 rfl <| sd_aload_n dX9_step_43 rfl <| sd_gI flX9_78 dX9_step_44 <| sd_vc tX9_byteAt (fun _ _ => rfl) rfl mwX9_byteAt mvX9_byteAt tw_621 (by decide) dX9_step_47 <| sd_istore_n dX9_step_50 rfl (by decide) <| sd_aload_n dX9_step_51 rfl <| sd_iconst dX9_step_52 rfl <| sd_pI fpX9_85 dX9_step_53 <| sd_iload_n dX9_step_56 rfl <| sd_bipush dX9_step_57 rfl <| sd_cne (tgt := 70) dX9_step_59 (by decide) sX9_step_70 <| (sd_fg (i := 1) sX9_step_62)
def bX9_step_21 (K8 : Kt Unit) : Kt Unit := o_ald 0 <| o_dup <| o_gI 8 14 <| o_psh (.int 1) <| o_i2 o_add <| o_pI 8 14 <| K8
set_option maxRecDepth 100000 in
theorem sX9_step_21 {K8 : Kt Unit} (h8 : Sd pX9_step ev_v 8 K8) : Sd pX9_step ev_v 21 (bX9_step_21 K8) := sd_aload_n dX9_step_21 rfl <| sd_dup dX9_step_22 <| sd_gI flX9_78 dX9_step_23 <| sd_iconst dX9_step_26 rfl <| sd_iadd dX9_step_27 <| sd_pI fpX9_78 dX9_step_28 <| (sd_goto (tgt := 8) dX9_step_31 (by decide) h8)
def bX9_step_8 (K8 : Kt Unit) : Kt Unit := o_ald 0 <| o_ald 0 <| o_gI 8 14 <| o_vc ev_i 8 2 fX9_byteAt <| o_psh (.int 32) <| o_cne bX9_step_34 <| (bX9_step_21 K8)
set_option maxRecDepth 100000 in
theorem sX9_step_8 {K8 : Kt Unit} (h8 : Sd pX9_step ev_v 8 K8) : Sd pX9_step ev_v 8 (bX9_step_8 K8) := sd_aload_n dX9_step_8 rfl <| sd_aload_n dX9_step_9 rfl <| sd_gI flX9_78 dX9_step_10 <| sd_vc tX9_byteAt (fun _ _ => rfl) rfl mwX9_byteAt mvX9_byteAt tw_621 (by decide) dX9_step_13 <| sd_bipush dX9_step_16 rfl <| sd_cne (tgt := 34) dX9_step_18 (by decide) sX9_step_34 <| (sX9_step_21 h8)
def bX9_step_7 : Kt Unit := o_rV
set_option maxRecDepth 100000 in
theorem sX9_step_7 : Sd pX9_step ev_v 7 (bX9_step_7) := (sd_rV rfl dX9_step_7)
def bX9_step_0 : Kt Unit := o_ald 0 <| o_gI 8 12 <| o_zle (o_lp (bX9_step_8) fu) <| (o_fg 0 bX9_step_7)
set_option maxRecDepth 100000 in
theorem sX9_step_0 : Sd pX9_step ev_v 0 (bX9_step_0) := sd_aload_n dX9_step_0 rfl <| sd_gI flX9_66 dX9_step_1 <| sd_zle (tgt := 8) dX9_step_4 (by decide) (sd_lp (fun K h => sX9_step_8 h) fu) <| (sd_fg (i := 0) sX9_step_7)
def fX9_step : Mt Unit := mk_f 2 bX9_step_0
theorem tX9_step : Ct ev_v yX9_step cX9_step 2 none 1 25 fX9_step := ct_of (by decide +kernel) sX9_step_0
abbrev pX9_other : Px := (cX9_other, 5, RX9, "other", (some .int), 2, 46, fun _ => True)
def bX9_other_90 : Kt Int32 := o_ist 4 <| o_ald 0 <| o_vc ev_v 8 1 fX9_step <| o_ild 4 <| o_rI
set_option maxRecDepth 100000 in
theorem sX9_other_90 : Sd pX9_other ev_i 90 (bX9_other_90) := sd_istore dX9_other_90 (by decide) <| sd_aload_n dX9_other_92 rfl <| sd_vc tX9_step (fun _ _ => rfl) rfl mwX9_step mvX9_step tw_634 (by decide) dX9_other_93 <| sd_iload dX9_other_96 <| (sd_rI rfl dX9_other_98)
def bX9_other_89 : Kt Int32 := o_ild 1 <| (o_fg 1 bX9_other_90)
set_option maxRecDepth 100000 in
theorem sX9_other_89 : Sd pX9_other ev_i 89 (bX9_other_89) := sd_iload_n dX9_other_89 rfl <| (sd_fg (i := 1) sX9_other_90)
def bX9_other_82 : Kt Int32 := o_ald 0 <| o_gI 8 17 <| bX9_other_90
set_option maxRecDepth 100000 in
theorem sX9_other_82 : Sd pX9_other ev_i 82 (bX9_other_82) := sd_aload_n dX9_other_82 rfl <| sd_gI flX9_85 dX9_other_83 <| (sd_goto (tgt := 90) dX9_other_86 (by decide) sX9_other_90)
def bX9_other_75 : Kt Int32 := o_ald 0 <| o_gI 8 12 <| o_zne bX9_other_89 <| (o_fg 1 bX9_other_82)
set_option maxRecDepth 100000 in
theorem sX9_other_75 : Sd pX9_other ev_i 75 (bX9_other_75) := sd_aload_n dX9_other_75 rfl <| sd_gI flX9_66 dX9_other_76 <| sd_zne (tgt := 89) dX9_other_79 (by decide) sX9_other_89 <| (sd_fg (i := 1) sX9_other_82)
def bX9_other_70 : Kt Int32 := o_ald 0 <| o_psh (.int 4) <| o_vc ev_v 8 2 fX9_fails <| bX9_other_75
set_option maxRecDepth 100000 in
theorem sX9_other_70 : Sd pX9_other ev_i 70 (bX9_other_70) := sd_aload_n dX9_other_70 rfl <| sd_iconst dX9_other_71 rfl <| sd_vc tX9_fails (fun _ _ => rfl) rfl mwX9_fails mvX9_fails tw_630 (by decide) dX9_other_72 <| sX9_other_75
def bX9_other_58 : Kt Int32 := o_ild 3 <| o_ald 0 <| o_gI 8 17 <| o_i2 o_shr <| o_psh (.int 1) <| o_i2 o_and <| o_psh (.int 1) <| o_cne (o_fg 3 bX9_other_75) <| (o_fg 3 bX9_other_70)
set_option maxRecDepth 100000 in
theorem sX9_other_58 : Sd pX9_other ev_i 58 (bX9_other_58) := sd_iload_n dX9_other_58 rfl <| sd_aload_n dX9_other_59 rfl <| sd_gI flX9_85 dX9_other_60 <| sd_ishr dX9_other_63 <| sd_iconst dX9_other_64 rfl <| sd_iand dX9_other_65 <| sd_iconst dX9_other_66 rfl <| sd_cne (tgt := 75) dX9_other_67 (by decide) (sd_fg (i := 3) sX9_other_75) <| (sd_fg (i := 3) sX9_other_70)
def bX9_other_54 : Kt Int32 := o_ild 3 <| o_zeq (o_fg 3 bX9_other_75) <| bX9_other_58
set_option maxRecDepth 100000 in
theorem sX9_other_54 : Sd pX9_other ev_i 54 (bX9_other_54) := sd_iload_n dX9_other_54 rfl <| sd_zeq (tgt := 75) dX9_other_55 (by decide) (sd_fg (i := 3) sX9_other_75) <| sX9_other_58
def bX9_other_47 : Kt Int32 := o_ald 0 <| o_gI 8 12 <| o_zne (o_fg 3 bX9_other_75) <| bX9_other_54
set_option maxRecDepth 100000 in
theorem sX9_other_47 : Sd pX9_other ev_i 47 (bX9_other_47) := sd_aload_n dX9_other_47 rfl <| sd_gI flX9_66 dX9_other_48 <| sd_zne (tgt := 75) dX9_other_51 (by decide) (sd_fg (i := 3) sX9_other_75) <| sX9_other_54
def bX9_other_42 : Kt Int32 := o_ald 0 <| o_psh (.int 3) <| o_vc ev_v 8 2 fX9_fails <| bX9_other_47
set_option maxRecDepth 100000 in
theorem sX9_other_42 : Sd pX9_other ev_i 42 (bX9_other_42) := sd_aload_n dX9_other_42 rfl <| sd_iconst dX9_other_43 rfl <| sd_vc tX9_fails (fun _ _ => rfl) rfl mwX9_fails mvX9_fails tw_630 (by decide) dX9_other_44 <| sX9_other_47
def bX9_other_27 : Kt Int32 := o_ald 0 <| o_gI 8 17 <| o_i2l <| o_ild 1 <| o_i2l <| o_ild 2 <| o_i2l <| o_sc ev_i 3 fX9_in <| o_zne (o_fg 2 bX9_other_47) <| (o_fg 2 bX9_other_42)
set_option maxRecDepth 100000 in
theorem sX9_other_27 : Sd pX9_other ev_i 27 (bX9_other_27) := sd_aload_n dX9_other_27 rfl <| sd_gI flX9_85 dX9_other_28 <| sd_i2l dX9_other_31 <| sd_iload_n dX9_other_32 rfl <| sd_i2l dX9_other_33 <| sd_iload_n dX9_other_34 rfl <| sd_i2l dX9_other_35 <| sd_sc tX9_in (fun _ _ => rfl) mwX9_in mvX9_in tw_611 (by decide) dX9_other_36 <| sd_zne (tgt := 47) dX9_other_39 (by decide) (sd_fg (i := 2) sX9_other_47) <| (sd_fg (i := 2) sX9_other_42)
def bX9_other_20 : Kt Int32 := o_ald 0 <| o_gI 8 12 <| o_zne (o_fg 2 bX9_other_47) <| bX9_other_27
set_option maxRecDepth 100000 in
theorem sX9_other_20 : Sd pX9_other ev_i 20 (bX9_other_20) := sd_aload_n dX9_other_20 rfl <| sd_gI flX9_66 dX9_other_21 <| sd_zne (tgt := 47) dX9_other_24 (by decide) (sd_fg (i := 2) sX9_other_47) <| sX9_other_27
def bX9_other_15 : Kt Int32 := o_ald 0 <| o_psh (.int 2) <| o_vc ev_v 8 2 fX9_fails <| bX9_other_20
set_option maxRecDepth 100000 in
theorem sX9_other_15 : Sd pX9_other ev_i 15 (bX9_other_15) := sd_aload_n dX9_other_15 rfl <| sd_iconst dX9_other_16 rfl <| sd_vc tX9_fails (fun _ _ => rfl) rfl mwX9_fails mvX9_fails tw_630 (by decide) dX9_other_17 <| sX9_other_20
def bX9_other_7 : Kt Int32 := o_ald 0 <| o_gI 8 16 <| o_psh (.int 2) <| o_ceq bX9_other_20 <| bX9_other_15
set_option maxRecDepth 100000 in
theorem sX9_other_7 : Sd pX9_other ev_i 7 (bX9_other_7) := sd_aload_n dX9_other_7 rfl <| sd_gI flX9_75 dX9_other_8 <| sd_iconst dX9_other_11 rfl <| sd_ceq (tgt := 20) dX9_other_12 (by decide) sX9_other_20 <| sX9_other_15
def bX9_other_0 : Kt Int32 := o_ald 0 <| o_gI 8 12 <| o_zne bX9_other_20 <| bX9_other_7
set_option maxRecDepth 100000 in
theorem sX9_other_0 : Sd pX9_other ev_i 0 (bX9_other_0) := sd_aload_n dX9_other_0 rfl <| sd_gI flX9_66 dX9_other_1 <| sd_zne (tgt := 20) dX9_other_4 (by decide) sX9_other_20 <| sX9_other_7
def fX9_other : Mt Int32 := mk_f 5 bX9_other_0
theorem tX9_other : Ct ev_i yX9_other cX9_other 5 (some .int) 2 46 fX9_other := ct_of (by decide +kernel) sX9_other_0
abbrev pX9_oneHere : Px := (cX9_oneHere, 2, RX9, "oneHere", (some .int), 3, 70, fun _ => True)
def bX9_oneHere_25 : Kt Int32 := o_pI 8 8 <| o_ild 1 <| o_rI
set_option maxRecDepth 100000 in
theorem sX9_oneHere_25 : Sd pX9_oneHere ev_i 25 (bX9_oneHere_25) := sd_pI fpX9_107 dX9_oneHere_25 <| sd_iload_n dX9_oneHere_28 rfl <| (sd_rI rfl dX9_oneHere_29)
def bX9_oneHere_21 : Kt Int32 := o_ald 0 <| o_gI 8 8 <| (o_fg 0 bX9_oneHere_25)
set_option maxRecDepth 100000 in
theorem sX9_oneHere_21 : Sd pX9_oneHere ev_i 21 (bX9_oneHere_21) := sd_aload_n dX9_oneHere_21 rfl <| sd_gI flX9_107 dX9_oneHere_22 <| (sd_fg (i := 0) sX9_oneHere_25)
def bX9_oneHere_17 : Kt Int32 := o_ild 1 <| bX9_oneHere_25
set_option maxRecDepth 100000 in
theorem sX9_oneHere_17 : Sd pX9_oneHere ev_i 17 (bX9_oneHere_17) := sd_iload_n dX9_oneHere_17 rfl <| (sd_goto (tgt := 25) dX9_oneHere_18 (by decide) sX9_oneHere_25)
def bX9_oneHere_0 : Kt Int32 := o_ald 0 <| o_psh (.int 0) <| o_psh (.int 4) <| o_psh (.int 0) <| o_vc ev_i 8 4 fX9_other <| o_ist 1 <| o_ald 0 <| o_ild 1 <| o_ald 0 <| o_gI 8 8 <| o_cle bX9_oneHere_21 <| (o_fg 0 bX9_oneHere_17)
set_option maxRecDepth 100000 in
theorem sX9_oneHere_0 : Sd pX9_oneHere ev_i 0 (bX9_oneHere_0) := sd_aload_n dX9_oneHere_0 rfl <| sd_iconst dX9_oneHere_1 rfl <| sd_iconst dX9_oneHere_2 rfl <| sd_iconst dX9_oneHere_3 rfl <| sd_vc tX9_other (fun _ _ => rfl) rfl mwX9_other mvX9_other tw_638 (by decide) dX9_oneHere_4 <| sd_istore_n dX9_oneHere_7 rfl (by decide) <| sd_aload_n dX9_oneHere_8 rfl <| sd_iload_n dX9_oneHere_9 rfl <| sd_aload_n dX9_oneHere_10 rfl <| sd_gI flX9_107 dX9_oneHere_11 <| sd_cle (tgt := 21) dX9_oneHere_14 (by decide) sX9_oneHere_21 <| (sd_fg (i := 0) sX9_oneHere_17)
def fX9_oneHere : Mt Int32 := mk_f 2 bX9_oneHere_0
theorem tX9_oneHere : Ct ev_i yX9_oneHere cX9_oneHere 2 (some .int) 3 70 fX9_oneHere := ct_of (by decide +kernel) sX9_oneHere_0
abbrev pX9_readRota : Px := (cX9_readRota, 2, RX9, "readRota", none, 3, 70, fun _ => True)
def bX9_readRota_102 : Kt Unit := o_rV
set_option maxRecDepth 100000 in
theorem sX9_readRota_102 : Sd pX9_readRota ev_v 102 (bX9_readRota_102) := (sd_rV rfl dX9_readRota_102)
def bX9_readRota_88 (K0 : Kt Unit) : Kt Unit := o_sI <| o_ald 0 <| o_dup <| o_gI 8 5 <| o_psh (.int 1) <| o_i2 o_add <| o_pI 8 5 <| K0
set_option maxRecDepth 100000 in
theorem sX9_readRota_88 {K0 : Kt Unit} (h0 : Sd pX9_readRota ev_v 0 K0) : Sd pX9_readRota ev_v 88 (bX9_readRota_88 K0) := sd_sI dX9_readRota_88 <| sd_aload_n dX9_readRota_89 rfl <| sd_dup dX9_readRota_90 <| sd_gI flX9_110 dX9_readRota_91 <| sd_iconst dX9_readRota_94 rfl <| sd_iadd dX9_readRota_95 <| sd_pI fpX9_110 dX9_readRota_96 <| (sd_goto (tgt := 0) dX9_readRota_99 (by decide) h0)
def bX9_readRota_87 (K0 : Kt Unit) : Kt Unit := o_psh (.int 0) <| (bX9_readRota_88 K0)
set_option maxRecDepth 100000 in
theorem sX9_readRota_87 {K0 : Kt Unit} (h0 : Sd pX9_readRota ev_v 0 K0) : Sd pX9_readRota ev_v 87 (bX9_readRota_87 K0) := sd_iconst dX9_readRota_87 rfl <| (sX9_readRota_88 h0)
def bX9_readRota_81 (K0 : Kt Unit) : Kt Unit := o_ild 1 <| o_psh (.int 1) <| o_i2 o_add <| (o_fg 1 (bX9_readRota_88 K0))
set_option maxRecDepth 100000 in
theorem sX9_readRota_81 {K0 : Kt Unit} (h0 : Sd pX9_readRota ev_v 0 K0) : Sd pX9_readRota ev_v 81 (bX9_readRota_81 K0) := sd_iload_n dX9_readRota_81 rfl <| sd_iconst dX9_readRota_82 rfl <| sd_iadd dX9_readRota_83 <| (sd_goto (tgt := 88) dX9_readRota_84 (by decide) (sd_fg (i := 1) (sX9_readRota_88 h0)))
def bX9_readRota_62 (K0 : Kt Unit) : Kt Unit := o_pI 8 8 <| o_ald 0 <| o_gR 8 3 <| o_psh (.int 26) <| o_ald 0 <| o_gI 8 5 <| o_i2 o_add <| o_ild 1 <| o_psh (.int 5) <| o_cge (o_fg 1 (bX9_readRota_87 K0)) <| (bX9_readRota_81 K0)
set_option maxRecDepth 100000 in
theorem sX9_readRota_62 {K0 : Kt Unit} (h0 : Sd pX9_readRota ev_v 0 K0) : Sd pX9_readRota ev_v 62 (bX9_readRota_62 K0) := sd_pI fpX9_107 dX9_readRota_62 <| sd_aload_n dX9_readRota_65 rfl <| sd_gR flX9_16 dX9_readRota_66 <| sd_bipush dX9_readRota_69 rfl <| sd_aload_n dX9_readRota_71 rfl <| sd_gI flX9_110 dX9_readRota_72 <| sd_iadd dX9_readRota_75 <| sd_iload_n dX9_readRota_76 rfl <| sd_iconst dX9_readRota_77 rfl <| sd_cge (tgt := 87) dX9_readRota_78 (by decide) (sd_fg (i := 1) (sX9_readRota_87 h0)) <| (sX9_readRota_81 h0)
def bX9_readRota_58 (K0 : Kt Unit) : Kt Unit := o_ald 0 <| o_gI 8 8 <| (bX9_readRota_62 K0)
set_option maxRecDepth 100000 in
theorem sX9_readRota_58 {K0 : Kt Unit} (h0 : Sd pX9_readRota ev_v 0 K0) : Sd pX9_readRota ev_v 58 (bX9_readRota_58 K0) := sd_aload_n dX9_readRota_58 rfl <| sd_gI flX9_107 dX9_readRota_59 <| (sX9_readRota_62 h0)
def bX9_readRota_54 (K0 : Kt Unit) : Kt Unit := o_ild 1 <| (bX9_readRota_62 K0)
set_option maxRecDepth 100000 in
theorem sX9_readRota_54 {K0 : Kt Unit} (h0 : Sd pX9_readRota ev_v 0 K0) : Sd pX9_readRota ev_v 54 (bX9_readRota_54 K0) := sd_iload_n dX9_readRota_54 rfl <| (sd_goto (tgt := 62) dX9_readRota_55 (by decide) (sX9_readRota_62 h0))
def bX9_readRota_46 (K0 : Kt Unit) : Kt Unit := o_ild 1 <| o_ald 0 <| o_gI 8 8 <| o_cle (bX9_readRota_58 K0) <| (bX9_readRota_54 K0)
set_option maxRecDepth 100000 in
theorem sX9_readRota_46 {K0 : Kt Unit} (h0 : Sd pX9_readRota ev_v 0 K0) : Sd pX9_readRota ev_v 46 (bX9_readRota_46 K0) := sd_iload_n dX9_readRota_46 rfl <| sd_aload_n dX9_readRota_47 rfl <| sd_gI flX9_107 dX9_readRota_48 <| sd_cle (tgt := 58) dX9_readRota_51 (by decide) (sX9_readRota_58 h0) <| (sX9_readRota_54 h0)
def bX9_readRota_32 (K0 : Kt Unit) : Kt Unit := o_ald 0 <| o_psh (.int 0) <| o_psh (.int 5) <| o_psh (.int 0) <| o_vc ev_i 8 4 fX9_other <| o_ist 1 <| o_ald 0 <| o_ild 1 <| o_psh (.int 5) <| o_cge (bX9_readRota_58 K0) <| (bX9_readRota_46 K0)
set_option maxRecDepth 100000 in
theorem sX9_readRota_32 {K0 : Kt Unit} (h0 : Sd pX9_readRota ev_v 0 K0) : Sd pX9_readRota ev_v 32 (bX9_readRota_32 K0) := sd_aload_n dX9_readRota_32 rfl <| sd_iconst dX9_readRota_33 rfl <| sd_iconst dX9_readRota_34 rfl <| sd_iconst dX9_readRota_35 rfl <| sd_vc tX9_other (fun _ _ => rfl) rfl mwX9_other mvX9_other tw_638 (by decide) dX9_readRota_36 <| sd_istore_n dX9_readRota_39 rfl (by decide) <| sd_aload_n dX9_readRota_40 rfl <| sd_iload_n dX9_readRota_41 rfl <| sd_iconst dX9_readRota_42 rfl <| sd_cge (tgt := 58) dX9_readRota_43 (by decide) (sX9_readRota_58 h0) <| (sX9_readRota_46 h0)
def bX9_readRota_24 (K0 : Kt Unit) : Kt Unit := o_ald 0 <| o_psh (.int 5) <| o_vc ev_v 8 2 fX9_fails <| K0
set_option maxRecDepth 100000 in
theorem sX9_readRota_24 {K0 : Kt Unit} (h0 : Sd pX9_readRota ev_v 0 K0) : Sd pX9_readRota ev_v 24 (bX9_readRota_24 K0) := sd_aload_n dX9_readRota_24 rfl <| sd_iconst dX9_readRota_25 rfl <| sd_vc tX9_fails (fun _ _ => rfl) rfl mwX9_fails mvX9_fails tw_630 (by decide) dX9_readRota_26 <| (sd_goto (tgt := 0) dX9_readRota_29 (by decide) h0)
def bX9_readRota_15 (K0 : Kt Unit) : Kt Unit := o_ald 0 <| o_gI 8 5 <| o_psh (.int 10) <| o_cne (bX9_readRota_32 K0) <| (bX9_readRota_24 K0)
set_option maxRecDepth 100000 in
theorem sX9_readRota_15 {K0 : Kt Unit} (h0 : Sd pX9_readRota ev_v 0 K0) : Sd pX9_readRota ev_v 15 (bX9_readRota_15 K0) := sd_aload_n dX9_readRota_15 rfl <| sd_gI flX9_110 dX9_readRota_16 <| sd_bipush dX9_readRota_19 rfl <| sd_cne (tgt := 32) dX9_readRota_21 (by decide) (sX9_readRota_32 h0) <| (sX9_readRota_24 h0)
def bX9_readRota_7 (K0 : Kt Unit) : Kt Unit := o_ald 0 <| o_gI 8 16 <| o_psh (.int 2) <| o_cne (o_fg 0 bX9_readRota_102) <| (bX9_readRota_15 K0)
set_option maxRecDepth 100000 in
theorem sX9_readRota_7 {K0 : Kt Unit} (h0 : Sd pX9_readRota ev_v 0 K0) : Sd pX9_readRota ev_v 7 (bX9_readRota_7 K0) := sd_aload_n dX9_readRota_7 rfl <| sd_gI flX9_75 dX9_readRota_8 <| sd_iconst dX9_readRota_11 rfl <| sd_cne (tgt := 102) dX9_readRota_12 (by decide) (sd_fg (i := 0) sX9_readRota_102) <| (sX9_readRota_15 h0)
def bX9_readRota_0 (K0 : Kt Unit) : Kt Unit := o_ald 0 <| o_gI 8 12 <| o_zne (o_fg 0 bX9_readRota_102) <| (bX9_readRota_7 K0)
set_option maxRecDepth 100000 in
theorem sX9_readRota_0 {K0 : Kt Unit} (h0 : Sd pX9_readRota ev_v 0 K0) : Sd pX9_readRota ev_v 0 (bX9_readRota_0 K0) := sd_aload_n dX9_readRota_0 rfl <| sd_gI flX9_66 dX9_readRota_1 <| sd_zne (tgt := 102) dX9_readRota_4 (by decide) (sd_fg (i := 0) sX9_readRota_102) <| (sX9_readRota_7 h0)
def fX9_readRota : Mt Unit := mk_f 2 (o_lp bX9_readRota_0 fu)
theorem tX9_readRota : Ct ev_v yX9_readRota cX9_readRota 2 none 3 70 fX9_readRota := ct_of (by decide +kernel) (sd_lp (fun K h => sX9_readRota_0 h) fu)
abbrev pX9_readTell : Px := (cX9_readTell, 2, RX9, "readTell", none, 4, 91, fun _ => True)
def bX9_readTell_74 : Kt Unit := o_ald 0 <| o_gR 8 3 <| o_ild 1 <| o_psh (.int 2) <| o_i2 o_add <| o_ald 0 <| o_vc ev_i 8 1 fX9_oneHere <| o_sI <| o_ald 0 <| o_gR 8 3 <| o_ild 1 <| o_psh (.int 3) <| o_i2 o_add <| o_ald 0 <| o_psh (.int 0) <| o_psh (.int 2) <| o_psh (.int 0) <| o_vc ev_i 8 4 fX9_other <| o_sI <| o_ald 0 <| o_gR 8 3 <| o_psh (.int 73) <| o_du2 <| o_aI <| o_psh (.int 1) <| o_i2 o_add <| o_sI <| o_rV
set_option maxRecDepth 100000 in
theorem sX9_readTell_74 : Sd pX9_readTell ev_v 74 (bX9_readTell_74) := sd_aload_n dX9_readTell_74 rfl <| sd_gR flX9_16 dX9_readTell_75 <| sd_iload_n dX9_readTell_78 rfl <| sd_iconst dX9_readTell_79 rfl <| sd_iadd dX9_readTell_80 <| sd_aload_n dX9_readTell_81 rfl <| sd_vc tX9_oneHere (fun _ _ => rfl) rfl mwX9_oneHere mvX9_oneHere tw_644 (by decide) dX9_readTell_82 <| sd_sI dX9_readTell_85 <| sd_aload_n dX9_readTell_86 rfl <| sd_gR flX9_16 dX9_readTell_87 <| sd_iload_n dX9_readTell_90 rfl <| sd_iconst dX9_readTell_91 rfl <| sd_iadd dX9_readTell_92 <| sd_aload_n dX9_readTell_93 rfl <| sd_iconst dX9_readTell_94 rfl <| sd_iconst dX9_readTell_95 rfl <| sd_iconst dX9_readTell_96 rfl <| sd_vc tX9_other (fun _ _ => rfl) rfl mwX9_other mvX9_other tw_638 (by decide) dX9_readTell_97 <| sd_sI dX9_readTell_100 <| sd_aload_n dX9_readTell_101 rfl <| sd_gR flX9_16 dX9_readTell_102 <| sd_bipush dX9_readTell_105 rfl <| sd_dup2 dX9_readTell_107 <| sd_aI dX9_readTell_108 <| sd_iconst dX9_readTell_109 rfl <| sd_iadd dX9_readTell_110 <| sd_sI dX9_readTell_111 <| (sd_rV rfl dX9_readTell_112)
def bX9_readTell_69 : Kt Unit := o_ald 0 <| o_psh (.int 3) <| o_vc ev_v 8 2 fX9_fails <| bX9_readTell_74
set_option maxRecDepth 100000 in
theorem sX9_readTell_69 : Sd pX9_readTell ev_v 69 (bX9_readTell_69) := sd_aload_n dX9_readTell_69 rfl <| sd_iconst dX9_readTell_70 rfl <| sd_vc tX9_fails (fun _ _ => rfl) rfl mwX9_fails mvX9_fails tw_630 (by decide) dX9_readTell_71 <| sX9_readTell_74
def bX9_readTell_54 : Kt Unit := o_ald 0 <| o_gI 8 17 <| o_ald 0 <| o_gR 8 3 <| o_ild 1 <| o_psh (.int 1) <| o_i2 o_add <| o_aI <| o_cne bX9_readTell_74 <| bX9_readTell_69
set_option maxRecDepth 100000 in
theorem sX9_readTell_54 : Sd pX9_readTell ev_v 54 (bX9_readTell_54) := sd_aload_n dX9_readTell_54 rfl <| sd_gI flX9_85 dX9_readTell_55 <| sd_aload_n dX9_readTell_58 rfl <| sd_gR flX9_16 dX9_readTell_59 <| sd_iload_n dX9_readTell_62 rfl <| sd_iconst dX9_readTell_63 rfl <| sd_iadd dX9_readTell_64 <| sd_aI dX9_readTell_65 <| sd_cne (tgt := 74) dX9_readTell_66 (by decide) sX9_readTell_74 <| sX9_readTell_69
def bX9_readTell_46 : Kt Unit := o_ald 0 <| o_gI 8 16 <| o_psh (.int 2) <| o_cne bX9_readTell_74 <| bX9_readTell_54
set_option maxRecDepth 100000 in
theorem sX9_readTell_46 : Sd pX9_readTell ev_v 46 (bX9_readTell_46) := sd_aload_n dX9_readTell_46 rfl <| sd_gI flX9_75 dX9_readTell_47 <| sd_iconst dX9_readTell_50 rfl <| sd_cne (tgt := 74) dX9_readTell_51 (by decide) sX9_readTell_74 <| sX9_readTell_54
def bX9_readTell_0 : Kt Unit := o_psh (.int 57) <| o_psh (.int 4) <| o_ald 0 <| o_gR 8 3 <| o_psh (.int 73) <| o_aI <| o_i2 o_mul <| o_i2 o_add <| o_ist 1 <| o_ald 0 <| o_gR 8 3 <| o_ild 1 <| o_ald 0 <| o_psh (.int 0) <| o_psh (.int 9) <| o_psh (.int 0) <| o_vc ev_i 8 4 fX9_other <| o_sI <| o_ald 0 <| o_gR 8 3 <| o_ild 1 <| o_psh (.int 1) <| o_i2 o_add <| o_ald 0 <| o_vc ev_i 8 1 fX9_oneHere <| o_sI <| o_ald 0 <| o_gI 8 12 <| o_zne bX9_readTell_74 <| bX9_readTell_46
set_option maxRecDepth 100000 in
theorem sX9_readTell_0 : Sd pX9_readTell ev_v 0 (bX9_readTell_0) := sd_bipush dX9_readTell_0 rfl <| sd_iconst dX9_readTell_2 rfl <| sd_aload_n dX9_readTell_3 rfl <| sd_gR flX9_16 dX9_readTell_4 <| sd_bipush dX9_readTell_7 rfl <| sd_aI dX9_readTell_9 <| sd_imul dX9_readTell_10 <| sd_iadd dX9_readTell_11 <| sd_istore_n dX9_readTell_12 rfl (by decide) <| sd_aload_n dX9_readTell_13 rfl <| sd_gR flX9_16 dX9_readTell_14 <| sd_iload_n dX9_readTell_17 rfl <| sd_aload_n dX9_readTell_18 rfl <| sd_iconst dX9_readTell_19 rfl <| sd_bipush dX9_readTell_20 rfl <| sd_iconst dX9_readTell_22 rfl <| sd_vc tX9_other (fun _ _ => rfl) rfl mwX9_other mvX9_other tw_638 (by decide) dX9_readTell_23 <| sd_sI dX9_readTell_26 <| sd_aload_n dX9_readTell_27 rfl <| sd_gR flX9_16 dX9_readTell_28 <| sd_iload_n dX9_readTell_31 rfl <| sd_iconst dX9_readTell_32 rfl <| sd_iadd dX9_readTell_33 <| sd_aload_n dX9_readTell_34 rfl <| sd_vc tX9_oneHere (fun _ _ => rfl) rfl mwX9_oneHere mvX9_oneHere tw_644 (by decide) dX9_readTell_35 <| sd_sI dX9_readTell_38 <| sd_aload_n dX9_readTell_39 rfl <| sd_gI flX9_66 dX9_readTell_40 <| sd_zne (tgt := 74) dX9_readTell_43 (by decide) sX9_readTell_74 <| sX9_readTell_46
def fX9_readTell : Mt Unit := mk_f 2 bX9_readTell_0
theorem tX9_readTell : Ct ev_v yX9_readTell cX9_readTell 2 none 4 91 fX9_readTell := ct_of (by decide +kernel) sX9_readTell_0
abbrev pX9_readWork : Px := (cX9_readWork, 2, RX9, "readWork", none, 4, 91, fun _ => True)
def bX9_readWork_58 : Kt Unit := o_vc ev_i 8 4 fX9_other <| o_sI <| o_ald 0 <| o_gR 8 3 <| o_ild 1 <| o_psh (.int 3) <| o_i2 o_add <| o_ald 0 <| o_psh (.int 1) <| o_psh (.int 9) <| o_psh (.int 0) <| o_vc ev_i 8 4 fX9_other <| o_sI <| o_ald 0 <| o_gR 8 3 <| o_psh (.int 56) <| o_du2 <| o_aI <| o_psh (.int 1) <| o_i2 o_add <| o_sI <| o_rV
set_option maxRecDepth 100000 in
theorem sX9_readWork_58 : Sd pX9_readWork ev_v 58 (bX9_readWork_58) := sd_vc tX9_other (fun _ _ => rfl) rfl mwX9_other mvX9_other tw_638 (by decide) dX9_readWork_58 <| sd_sI dX9_readWork_61 <| sd_aload_n dX9_readWork_62 rfl <| sd_gR flX9_16 dX9_readWork_63 <| sd_iload_n dX9_readWork_66 rfl <| sd_iconst dX9_readWork_67 rfl <| sd_iadd dX9_readWork_68 <| sd_aload_n dX9_readWork_69 rfl <| sd_iconst dX9_readWork_70 rfl <| sd_bipush dX9_readWork_71 rfl <| sd_iconst dX9_readWork_73 rfl <| sd_vc tX9_other (fun _ _ => rfl) rfl mwX9_other mvX9_other tw_638 (by decide) dX9_readWork_74 <| sd_sI dX9_readWork_77 <| sd_aload_n dX9_readWork_78 rfl <| sd_gR flX9_16 dX9_readWork_79 <| sd_bipush dX9_readWork_82 rfl <| sd_dup2 dX9_readWork_84 <| sd_aI dX9_readWork_85 <| sd_iconst dX9_readWork_86 rfl <| sd_iadd dX9_readWork_87 <| sd_sI dX9_readWork_88 <| (sd_rV rfl dX9_readWork_89)
def bX9_readWork_0 : Kt Unit := o_psh (.int 36) <| o_psh (.int 4) <| o_ald 0 <| o_gR 8 3 <| o_psh (.int 56) <| o_aI <| o_i2 o_mul <| o_i2 o_add <| o_ist 1 <| o_ald 0 <| o_gR 8 3 <| o_ild 1 <| o_ald 0 <| o_vc ev_i 8 1 fX9_oneHere <| o_sI <| o_ald 0 <| o_gR 8 3 <| o_ild 1 <| o_psh (.int 1) <| o_i2 o_add <| o_ald 0 <| o_psh (.int 0) <| o_psh (.int 9) <| o_psh (.int 0) <| o_vc ev_i 8 4 fX9_other <| o_sI <| o_ald 0 <| o_gR 8 3 <| o_ild 1 <| o_psh (.int 2) <| o_i2 o_add <| o_ald 0 <| o_ald 0 <| o_gR 8 3 <| o_ild 1 <| o_psh (.int 1) <| o_i2 o_add <| o_aI <| o_psh (.int 9) <| o_psh (.int 0) <| bX9_readWork_58
set_option maxRecDepth 100000 in
theorem sX9_readWork_0 : Sd pX9_readWork ev_v 0 (bX9_readWork_0) := sd_bipush dX9_readWork_0 rfl <| sd_iconst dX9_readWork_2 rfl <| sd_aload_n dX9_readWork_3 rfl <| sd_gR flX9_16 dX9_readWork_4 <| sd_bipush dX9_readWork_7 rfl <| sd_aI dX9_readWork_9 <| sd_imul dX9_readWork_10 <| sd_iadd dX9_readWork_11 <| sd_istore_n dX9_readWork_12 rfl (by decide) <| sd_aload_n dX9_readWork_13 rfl <| sd_gR flX9_16 dX9_readWork_14 <| sd_iload_n dX9_readWork_17 rfl <| sd_aload_n dX9_readWork_18 rfl <| sd_vc tX9_oneHere (fun _ _ => rfl) rfl mwX9_oneHere mvX9_oneHere tw_644 (by decide) dX9_readWork_19 <| sd_sI dX9_readWork_22 <| sd_aload_n dX9_readWork_23 rfl <| sd_gR flX9_16 dX9_readWork_24 <| sd_iload_n dX9_readWork_27 rfl <| sd_iconst dX9_readWork_28 rfl <| sd_iadd dX9_readWork_29 <| sd_aload_n dX9_readWork_30 rfl <| sd_iconst dX9_readWork_31 rfl <| sd_bipush dX9_readWork_32 rfl <| sd_iconst dX9_readWork_34 rfl <| sd_vc tX9_other (fun _ _ => rfl) rfl mwX9_other mvX9_other tw_638 (by decide) dX9_readWork_35 <| sd_sI dX9_readWork_38 <| sd_aload_n dX9_readWork_39 rfl <| sd_gR flX9_16 dX9_readWork_40 <| sd_iload_n dX9_readWork_43 rfl <| sd_iconst dX9_readWork_44 rfl <| sd_iadd dX9_readWork_45 <| sd_aload_n dX9_readWork_46 rfl <| sd_aload_n dX9_readWork_47 rfl <| sd_gR flX9_16 dX9_readWork_48 <| sd_iload_n dX9_readWork_51 rfl <| sd_iconst dX9_readWork_52 rfl <| sd_iadd dX9_readWork_53 <| sd_aI dX9_readWork_54 <| sd_bipush dX9_readWork_55 rfl <| sd_iconst dX9_readWork_57 rfl <| sX9_readWork_58
def fX9_readWork : Mt Unit := mk_f 2 bX9_readWork_0
theorem tX9_readWork : Ct ev_v yX9_readWork cX9_readWork 2 none 4 91 fX9_readWork := ct_of (by decide +kernel) sX9_readWork_0
abbrev pX9_readMore : Px := (cX9_readMore, 3, RX9, "readMore", none, 5, 112, fun _ => True)
def bX9_readMore_201 : Kt Unit := o_rV
set_option maxRecDepth 100000 in
theorem sX9_readMore_201 : Sd pX9_readMore ev_v 201 (bX9_readMore_201) := (sd_rV rfl dX9_readMore_201)
def bX9_readMore_197 : Kt Unit := o_ald 0 <| o_vc ev_v 8 1 fX9_readTell <| (o_fg 0 bX9_readMore_201)
set_option maxRecDepth 100000 in
theorem sX9_readMore_197 : Sd pX9_readMore ev_v 197 (bX9_readMore_197) := sd_aload_n dX9_readMore_197 rfl <| sd_vc tX9_readTell (fun _ _ => rfl) rfl mwX9_readTell mvX9_readTell tw_658 (by decide) dX9_readMore_198 <| (sd_fg (i := 0) sX9_readMore_201)
def bX9_readMore_190 : Kt Unit := o_ald 0 <| o_vc ev_v 8 1 fX9_readWork <| (o_fg 0 bX9_readMore_201)
set_option maxRecDepth 100000 in
theorem sX9_readMore_190 : Sd pX9_readMore ev_v 190 (bX9_readMore_190) := sd_aload_n dX9_readMore_190 rfl <| sd_vc tX9_readWork (fun _ _ => rfl) rfl mwX9_readWork mvX9_readWork tw_654 (by decide) dX9_readMore_191 <| (sd_goto (tgt := 201) dX9_readMore_194 (by decide) (sd_fg (i := 0) sX9_readMore_201))
def bX9_readMore_184 : Kt Unit := o_ild 1 <| o_psh (.int 7) <| o_cne (o_fg 1 bX9_readMore_197) <| (o_fg 1 bX9_readMore_190)
set_option maxRecDepth 100000 in
theorem sX9_readMore_184 : Sd pX9_readMore ev_v 184 (bX9_readMore_184) := sd_iload_n dX9_readMore_184 rfl <| sd_bipush dX9_readMore_185 rfl <| sd_cne (tgt := 197) dX9_readMore_187 (by decide) (sd_fg (i := 1) sX9_readMore_197) <| (sd_fg (i := 1) sX9_readMore_190)
def bX9_readMore_177 : Kt Unit := o_ald 0 <| o_vc ev_v 8 1 fX9_readRota <| (o_fg 0 bX9_readMore_201)
set_option maxRecDepth 100000 in
theorem sX9_readMore_177 : Sd pX9_readMore ev_v 177 (bX9_readMore_177) := sd_aload_n dX9_readMore_177 rfl <| sd_vc tX9_readRota (fun _ _ => rfl) rfl mwX9_readRota mvX9_readRota tw_650 (by decide) dX9_readMore_178 <| (sd_goto (tgt := 201) dX9_readMore_181 (by decide) (sd_fg (i := 0) sX9_readMore_201))
def bX9_readMore_171 : Kt Unit := o_ild 1 <| o_psh (.int 6) <| o_cne bX9_readMore_184 <| (o_fg 1 bX9_readMore_177)
set_option maxRecDepth 100000 in
theorem sX9_readMore_171 : Sd pX9_readMore ev_v 171 (bX9_readMore_171) := sd_iload_n dX9_readMore_171 rfl <| sd_bipush dX9_readMore_172 rfl <| sd_cne (tgt := 184) dX9_readMore_174 (by decide) sX9_readMore_184 <| (sd_fg (i := 1) sX9_readMore_177)
def bX9_readMore_157 : Kt Unit := o_ald 0 <| o_gR 8 3 <| o_psh (.int 25) <| o_du2 <| o_aI <| o_psh (.int 1) <| o_i2 o_add <| o_sI <| (o_fg 0 bX9_readMore_201)
set_option maxRecDepth 100000 in
theorem sX9_readMore_157 : Sd pX9_readMore ev_v 157 (bX9_readMore_157) := sd_aload_n dX9_readMore_157 rfl <| sd_gR flX9_16 dX9_readMore_158 <| sd_bipush dX9_readMore_161 rfl <| sd_dup2 dX9_readMore_163 <| sd_aI dX9_readMore_164 <| sd_iconst dX9_readMore_165 rfl <| sd_iadd dX9_readMore_166 <| sd_sI dX9_readMore_167 <| (sd_goto (tgt := 201) dX9_readMore_168 (by decide) (sd_fg (i := 0) sX9_readMore_201))
def bX9_readMore_99 : Kt Unit := o_psh (.int 13) <| o_psh (.int 3) <| o_ald 0 <| o_gR 8 3 <| o_psh (.int 25) <| o_aI <| o_i2 o_mul <| o_i2 o_add <| o_ist 2 <| o_ald 0 <| o_gR 8 3 <| o_ild 2 <| o_ald 0 <| o_psh (.int 0) <| o_psh (.int 9) <| o_psh (.int 0) <| o_vc ev_i 8 4 fX9_other <| o_sI <| o_ald 0 <| o_gR 8 3 <| o_ild 2 <| o_psh (.int 1) <| o_i2 o_add <| o_ald 0 <| o_psh (.int 0) <| o_psh (.int 2) <| o_psh (.int 0) <| o_vc ev_i 8 4 fX9_other <| o_sI <| o_ald 0 <| o_gR 8 3 <| o_ild 2 <| o_psh (.int 2) <| o_i2 o_add <| o_ald 0 <| o_psh (.int 0) <| o_psh (.int 9) <| o_psh (.int 0) <| o_vc ev_i 8 4 fX9_other <| o_sI <| (o_fg 2 bX9_readMore_157)
set_option maxRecDepth 100000 in
theorem sX9_readMore_99 : Sd pX9_readMore ev_v 99 (bX9_readMore_99) := sd_bipush dX9_readMore_99 rfl <| sd_iconst dX9_readMore_101 rfl <| sd_aload_n dX9_readMore_102 rfl <| sd_gR flX9_16 dX9_readMore_103 <| sd_bipush dX9_readMore_106 rfl <| sd_aI dX9_readMore_108 <| sd_imul dX9_readMore_109 <| sd_iadd dX9_readMore_110 <| sd_istore_n dX9_readMore_111 rfl (by decide) <| sd_aload_n dX9_readMore_112 rfl <| sd_gR flX9_16 dX9_readMore_113 <| sd_iload_n dX9_readMore_116 rfl <| sd_aload_n dX9_readMore_117 rfl <| sd_iconst dX9_readMore_118 rfl <| sd_bipush dX9_readMore_119 rfl <| sd_iconst dX9_readMore_121 rfl <| sd_vc tX9_other (fun _ _ => rfl) rfl mwX9_other mvX9_other tw_638 (by decide) dX9_readMore_122 <| sd_sI dX9_readMore_125 <| sd_aload_n dX9_readMore_126 rfl <| sd_gR flX9_16 dX9_readMore_127 <| sd_iload_n dX9_readMore_130 rfl <| sd_iconst dX9_readMore_131 rfl <| sd_iadd dX9_readMore_132 <| sd_aload_n dX9_readMore_133 rfl <| sd_iconst dX9_readMore_134 rfl <| sd_iconst dX9_readMore_135 rfl <| sd_iconst dX9_readMore_136 rfl <| sd_vc tX9_other (fun _ _ => rfl) rfl mwX9_other mvX9_other tw_638 (by decide) dX9_readMore_137 <| sd_sI dX9_readMore_140 <| sd_aload_n dX9_readMore_141 rfl <| sd_gR flX9_16 dX9_readMore_142 <| sd_iload_n dX9_readMore_145 rfl <| sd_iconst dX9_readMore_146 rfl <| sd_iadd dX9_readMore_147 <| sd_aload_n dX9_readMore_148 rfl <| sd_iconst dX9_readMore_149 rfl <| sd_bipush dX9_readMore_150 rfl <| sd_iconst dX9_readMore_152 rfl <| sd_vc tX9_other (fun _ _ => rfl) rfl mwX9_other mvX9_other tw_638 (by decide) dX9_readMore_153 <| sd_sI dX9_readMore_156 <| (sd_fg (i := 2) sX9_readMore_157)
def bX9_readMore_94 : Kt Unit := o_ild 1 <| o_psh (.int 5) <| o_cne bX9_readMore_171 <| (o_fg 1 bX9_readMore_99)
set_option maxRecDepth 100000 in
theorem sX9_readMore_94 : Sd pX9_readMore ev_v 94 (bX9_readMore_94) := sd_iload_n dX9_readMore_94 rfl <| sd_iconst dX9_readMore_95 rfl <| sd_cne (tgt := 171) dX9_readMore_96 (by decide) sX9_readMore_171 <| (sd_fg (i := 1) sX9_readMore_99)
def bX9_readMore_51 : Kt Unit := o_ald 0 <| o_psh (.int 0) <| o_psh (.int 2) <| o_ald 0 <| o_gI 8 7 <| o_vc ev_i 8 4 fX9_other <| o_ist 2 <| o_ald 0 <| o_dup <| o_gI 8 7 <| o_psh (.int 1) <| o_ild 2 <| o_i2 o_shl <| o_i2 o_or <| o_pI 8 7 <| o_ald 0 <| o_gR 8 3 <| o_psh (.int 10) <| o_ild 2 <| o_i2 o_add <| o_ald 0 <| o_psh (.int 0) <| o_psh (.int 9) <| o_psh (.int 0) <| o_vc ev_i 8 4 fX9_other <| o_sI <| (o_fg 0 (o_fg 2 bX9_readMore_201))
set_option maxRecDepth 100000 in
theorem sX9_readMore_51 : Sd pX9_readMore ev_v 51 (bX9_readMore_51) := sd_aload_n dX9_readMore_51 rfl <| sd_iconst dX9_readMore_52 rfl <| sd_iconst dX9_readMore_53 rfl <| sd_aload_n dX9_readMore_54 rfl <| sd_gI flX9_120 dX9_readMore_55 <| sd_vc tX9_other (fun _ _ => rfl) rfl mwX9_other mvX9_other tw_638 (by decide) dX9_readMore_58 <| sd_istore_n dX9_readMore_61 rfl (by decide) <| sd_aload_n dX9_readMore_62 rfl <| sd_dup dX9_readMore_63 <| sd_gI flX9_120 dX9_readMore_64 <| sd_iconst dX9_readMore_67 rfl <| sd_iload_n dX9_readMore_68 rfl <| sd_ishl dX9_readMore_69 <| sd_ior dX9_readMore_70 <| sd_pI fpX9_120 dX9_readMore_71 <| sd_aload_n dX9_readMore_74 rfl <| sd_gR flX9_16 dX9_readMore_75 <| sd_bipush dX9_readMore_78 rfl <| sd_iload_n dX9_readMore_80 rfl <| sd_iadd dX9_readMore_81 <| sd_aload_n dX9_readMore_82 rfl <| sd_iconst dX9_readMore_83 rfl <| sd_bipush dX9_readMore_84 rfl <| sd_iconst dX9_readMore_86 rfl <| sd_vc tX9_other (fun _ _ => rfl) rfl mwX9_other mvX9_other tw_638 (by decide) dX9_readMore_87 <| sd_sI dX9_readMore_90 <| (sd_goto (tgt := 201) dX9_readMore_91 (by decide) (sd_fg (i := 0) (sd_fg (i := 2) sX9_readMore_201)))
def bX9_readMore_46 : Kt Unit := o_ild 1 <| o_psh (.int 4) <| o_cne bX9_readMore_94 <| (o_fg 1 bX9_readMore_51)
set_option maxRecDepth 100000 in
theorem sX9_readMore_46 : Sd pX9_readMore ev_v 46 (bX9_readMore_46) := sd_iload_n dX9_readMore_46 rfl <| sd_iconst dX9_readMore_47 rfl <| sd_cne (tgt := 94) dX9_readMore_48 (by decide) sX9_readMore_94 <| (sd_fg (i := 1) sX9_readMore_51)
def bX9_readMore_5 : Kt Unit := o_ald 0 <| o_gR 8 3 <| o_ald 0 <| o_gI 8 4 <| o_ild 1 <| o_sI <| o_ald 0 <| o_gR 8 3 <| o_psh (.int 5) <| o_ald 0 <| o_gI 8 4 <| o_i2 o_add <| o_ald 0 <| o_psh (.int 0) <| o_psh (.int 2) <| o_psh (.int 0) <| o_vc ev_i 8 4 fX9_other <| o_sI <| o_ald 0 <| o_dup <| o_gI 8 4 <| o_psh (.int 1) <| o_i2 o_add <| o_pI 8 4 <| (o_fg 0 (o_fg 1 bX9_readMore_201))
set_option maxRecDepth 100000 in
theorem sX9_readMore_5 : Sd pX9_readMore ev_v 5 (bX9_readMore_5) := sd_aload_n dX9_readMore_5 rfl <| sd_gR flX9_16 dX9_readMore_6 <| sd_aload_n dX9_readMore_9 rfl <| sd_gI flX9_117 dX9_readMore_10 <| sd_iload_n dX9_readMore_13 rfl <| sd_sI dX9_readMore_14 <| sd_aload_n dX9_readMore_15 rfl <| sd_gR flX9_16 dX9_readMore_16 <| sd_iconst dX9_readMore_19 rfl <| sd_aload_n dX9_readMore_20 rfl <| sd_gI flX9_117 dX9_readMore_21 <| sd_iadd dX9_readMore_24 <| sd_aload_n dX9_readMore_25 rfl <| sd_iconst dX9_readMore_26 rfl <| sd_iconst dX9_readMore_27 rfl <| sd_iconst dX9_readMore_28 rfl <| sd_vc tX9_other (fun _ _ => rfl) rfl mwX9_other mvX9_other tw_638 (by decide) dX9_readMore_29 <| sd_sI dX9_readMore_32 <| sd_aload_n dX9_readMore_33 rfl <| sd_dup dX9_readMore_34 <| sd_gI flX9_117 dX9_readMore_35 <| sd_iconst dX9_readMore_38 rfl <| sd_iadd dX9_readMore_39 <| sd_pI fpX9_117 dX9_readMore_40 <| (sd_goto (tgt := 201) dX9_readMore_43 (by decide) (sd_fg (i := 0) (sd_fg (i := 1) sX9_readMore_201)))
def bX9_readMore_0 : Kt Unit := o_ild 1 <| o_psh (.int 3) <| o_cgt bX9_readMore_46 <| bX9_readMore_5
set_option maxRecDepth 100000 in
theorem sX9_readMore_0 : Sd pX9_readMore ev_v 0 (bX9_readMore_0) := sd_iload_n dX9_readMore_0 rfl <| sd_iconst dX9_readMore_1 rfl <| sd_cgt (tgt := 46) dX9_readMore_2 (by decide) sX9_readMore_46 <| sX9_readMore_5
def fX9_readMore : Mt Unit := mk_f 3 bX9_readMore_0
theorem tX9_readMore : Ct ev_v yX9_readMore cX9_readMore 3 none 5 112 fX9_readMore := ct_of (by decide +kernel) sX9_readMore_0
abbrev pX9_isFull : Px := (cX9_isFull, 2, RX9, "isFull", (some .boolean), 0, 0, fun _ => True)
def bX9_isFull_68 : Kt Int32 := o_rZ
set_option maxRecDepth 100000 in
theorem sX9_isFull_68 : Sd pX9_isFull ev_i 68 (bX9_isFull_68) := (sd_rZ rfl dX9_isFull_68)
def bX9_isFull_67 : Kt Int32 := o_psh (.int 0) <| bX9_isFull_68
set_option maxRecDepth 100000 in
theorem sX9_isFull_67 : Sd pX9_isFull ev_i 67 (bX9_isFull_67) := sd_iconst dX9_isFull_67 rfl <| sX9_isFull_68
def bX9_isFull_63 : Kt Int32 := o_psh (.int 1) <| bX9_isFull_68
set_option maxRecDepth 100000 in
theorem sX9_isFull_63 : Sd pX9_isFull ev_i 63 (bX9_isFull_63) := sd_iconst dX9_isFull_63 rfl <| (sd_goto (tgt := 68) dX9_isFull_64 (by decide) sX9_isFull_68)
def bX9_isFull_52 : Kt Int32 := o_ald 0 <| o_gR 8 3 <| o_psh (.int 73) <| o_aI <| o_psh (.int 4) <| o_cne (o_fg 0 bX9_isFull_67) <| (o_fg 0 bX9_isFull_63)
set_option maxRecDepth 100000 in
theorem sX9_isFull_52 : Sd pX9_isFull ev_i 52 (bX9_isFull_52) := sd_aload_n dX9_isFull_52 rfl <| sd_gR flX9_16 dX9_isFull_53 <| sd_bipush dX9_isFull_56 rfl <| sd_aI dX9_isFull_58 <| sd_iconst dX9_isFull_59 rfl <| sd_cne (tgt := 67) dX9_isFull_60 (by decide) (sd_fg (i := 0) sX9_isFull_67) <| (sd_fg (i := 0) sX9_isFull_63)
def bX9_isFull_46 : Kt Int32 := o_ild 1 <| o_psh (.int 8) <| o_cne (o_fg 0 (o_fg 1 bX9_isFull_67)) <| (o_fg 1 bX9_isFull_52)
set_option maxRecDepth 100000 in
theorem sX9_isFull_46 : Sd pX9_isFull ev_i 46 (bX9_isFull_46) := sd_iload_n dX9_isFull_46 rfl <| sd_bipush dX9_isFull_47 rfl <| sd_cne (tgt := 67) dX9_isFull_49 (by decide) (sd_fg (i := 0) (sd_fg (i := 1) sX9_isFull_67)) <| (sd_fg (i := 1) sX9_isFull_52)
def bX9_isFull_35 : Kt Int32 := o_ald 0 <| o_gR 8 3 <| o_psh (.int 56) <| o_aI <| o_psh (.int 5) <| o_ceq (o_fg 0 (o_fg 1 bX9_isFull_63)) <| bX9_isFull_46
set_option maxRecDepth 100000 in
theorem sX9_isFull_35 : Sd pX9_isFull ev_i 35 (bX9_isFull_35) := sd_aload_n dX9_isFull_35 rfl <| sd_gR flX9_16 dX9_isFull_36 <| sd_bipush dX9_isFull_39 rfl <| sd_aI dX9_isFull_41 <| sd_iconst dX9_isFull_42 rfl <| sd_ceq (tgt := 63) dX9_isFull_43 (by decide) (sd_fg (i := 0) (sd_fg (i := 1) sX9_isFull_63)) <| sX9_isFull_46
def bX9_isFull_29 : Kt Int32 := o_ild 1 <| o_psh (.int 7) <| o_cne bX9_isFull_46 <| bX9_isFull_35
set_option maxRecDepth 100000 in
theorem sX9_isFull_29 : Sd pX9_isFull ev_i 29 (bX9_isFull_29) := sd_iload_n dX9_isFull_29 rfl <| sd_bipush dX9_isFull_30 rfl <| sd_cne (tgt := 46) dX9_isFull_32 (by decide) sX9_isFull_46 <| sX9_isFull_35
def bX9_isFull_18 : Kt Int32 := o_ald 0 <| o_gR 8 3 <| o_psh (.int 25) <| o_aI <| o_psh (.int 4) <| o_ceq (o_fg 0 (o_fg 1 bX9_isFull_63)) <| bX9_isFull_29
set_option maxRecDepth 100000 in
theorem sX9_isFull_18 : Sd pX9_isFull ev_i 18 (bX9_isFull_18) := sd_aload_n dX9_isFull_18 rfl <| sd_gR flX9_16 dX9_isFull_19 <| sd_bipush dX9_isFull_22 rfl <| sd_aI dX9_isFull_24 <| sd_iconst dX9_isFull_25 rfl <| sd_ceq (tgt := 63) dX9_isFull_26 (by decide) (sd_fg (i := 0) (sd_fg (i := 1) sX9_isFull_63)) <| sX9_isFull_29
def bX9_isFull_13 : Kt Int32 := o_ild 1 <| o_psh (.int 5) <| o_cne bX9_isFull_29 <| bX9_isFull_18
set_option maxRecDepth 100000 in
theorem sX9_isFull_13 : Sd pX9_isFull ev_i 13 (bX9_isFull_13) := sd_iload_n dX9_isFull_13 rfl <| sd_iconst dX9_isFull_14 rfl <| sd_cne (tgt := 29) dX9_isFull_15 (by decide) sX9_isFull_29 <| sX9_isFull_18
def bX9_isFull_5 : Kt Int32 := o_ald 0 <| o_gI 8 4 <| o_psh (.int 5) <| o_ceq (o_fg 0 (o_fg 1 bX9_isFull_63)) <| bX9_isFull_13
set_option maxRecDepth 100000 in
theorem sX9_isFull_5 : Sd pX9_isFull ev_i 5 (bX9_isFull_5) := sd_aload_n dX9_isFull_5 rfl <| sd_gI flX9_117 dX9_isFull_6 <| sd_iconst dX9_isFull_9 rfl <| sd_ceq (tgt := 63) dX9_isFull_10 (by decide) (sd_fg (i := 0) (sd_fg (i := 1) sX9_isFull_63)) <| sX9_isFull_13
def bX9_isFull_0 : Kt Int32 := o_ild 1 <| o_psh (.int 3) <| o_cgt bX9_isFull_13 <| bX9_isFull_5
set_option maxRecDepth 100000 in
theorem sX9_isFull_0 : Sd pX9_isFull ev_i 0 (bX9_isFull_0) := sd_iload_n dX9_isFull_0 rfl <| sd_iconst dX9_isFull_1 rfl <| sd_cgt (tgt := 13) dX9_isFull_2 (by decide) sX9_isFull_13 <| sX9_isFull_5
def fX9_isFull : Mt Int32 := mk_f 2 bX9_isFull_0
theorem tX9_isFull : Ct ev_i yX9_isFull cX9_isFull 2 (some .boolean) 0 0 fX9_isFull := ct_of (by decide +kernel) sX9_isFull_0
abbrev pX9_readLine : Px := (cX9_readLine, 2, RX9, "readLine", none, 6, 134, fun _ => True)
def bX9_readLine_113 : Kt Unit := o_ald 0 <| o_vc ev_v 8 1 fX9_step <| o_rV
set_option maxRecDepth 100000 in
theorem sX9_readLine_113 : Sd pX9_readLine ev_v 113 (bX9_readLine_113) := sd_aload_n dX9_readLine_113 rfl <| sd_vc tX9_step (fun _ _ => rfl) rfl mwX9_step mvX9_step tw_634 (by decide) dX9_readLine_114 <| (sd_rV rfl dX9_readLine_117)
def bX9_readLine_108 : Kt Unit := o_ald 0 <| o_psh (.int 2) <| o_vc ev_v 8 2 fX9_fails <| bX9_readLine_113
set_option maxRecDepth 100000 in
theorem sX9_readLine_108 : Sd pX9_readLine ev_v 108 (bX9_readLine_108) := sd_aload_n dX9_readLine_108 rfl <| sd_iconst dX9_readLine_109 rfl <| sd_vc tX9_fails (fun _ _ => rfl) rfl mwX9_fails mvX9_fails tw_630 (by decide) dX9_readLine_110 <| sX9_readLine_113
def bX9_readLine_100 : Kt Unit := o_ald 0 <| o_gI 8 16 <| o_psh (.int 3) <| o_ceq bX9_readLine_113 <| bX9_readLine_108
set_option maxRecDepth 100000 in
theorem sX9_readLine_100 : Sd pX9_readLine ev_v 100 (bX9_readLine_100) := sd_aload_n dX9_readLine_100 rfl <| sd_gI flX9_75 dX9_readLine_101 <| sd_iconst dX9_readLine_104 rfl <| sd_ceq (tgt := 113) dX9_readLine_105 (by decide) sX9_readLine_113 <| sX9_readLine_108
def bX9_readLine_88 : Kt Unit := o_ald 0 <| o_ild 1 <| o_vc ev_v 8 2 fX9_readMore <| o_ald 0 <| o_gI 8 12 <| o_zne (o_fg 1 bX9_readLine_113) <| (o_fg 1 bX9_readLine_100)
set_option maxRecDepth 100000 in
theorem sX9_readLine_88 : Sd pX9_readLine ev_v 88 (bX9_readLine_88) := sd_aload_n dX9_readLine_88 rfl <| sd_iload_n dX9_readLine_89 rfl <| sd_vc tX9_readMore (fun _ _ => rfl) rfl mwX9_readMore mvX9_readMore tw_672 (by decide) dX9_readLine_90 <| sd_aload_n dX9_readLine_93 rfl <| sd_gI flX9_66 dX9_readLine_94 <| sd_zne (tgt := 113) dX9_readLine_97 (by decide) (sd_fg (i := 1) sX9_readLine_113) <| (sd_fg (i := 1) sX9_readLine_100)
def bX9_readLine_87 : Kt Unit := o_rV
set_option maxRecDepth 100000 in
theorem sX9_readLine_87 : Sd pX9_readLine ev_v 87 (bX9_readLine_87) := (sd_rV rfl dX9_readLine_87)
def bX9_readLine_73 : Kt Unit := o_pZ 8 6 <| o_ald 0 <| o_vc ev_v 8 1 fX9_step <| o_ald 0 <| o_gI 8 12 <| o_zle bX9_readLine_88 <| (o_fg 0 (o_fg 1 bX9_readLine_87))
set_option maxRecDepth 100000 in
theorem sX9_readLine_73 : Sd pX9_readLine ev_v 73 (bX9_readLine_73) := sd_pZ fpX9_141 dX9_readLine_73 <| sd_aload_n dX9_readLine_76 rfl <| sd_vc tX9_step (fun _ _ => rfl) rfl mwX9_step mvX9_step tw_634 (by decide) dX9_readLine_77 <| sd_aload_n dX9_readLine_80 rfl <| sd_gI flX9_66 dX9_readLine_81 <| sd_zle (tgt := 88) dX9_readLine_84 (by decide) sX9_readLine_88 <| (sd_fg (i := 0) (sd_fg (i := 1) sX9_readLine_87))
def bX9_readLine_72 : Kt Unit := o_psh (.int 0) <| bX9_readLine_73
set_option maxRecDepth 100000 in
theorem sX9_readLine_72 : Sd pX9_readLine ev_v 72 (bX9_readLine_72) := sd_iconst dX9_readLine_72 rfl <| sX9_readLine_73
def bX9_readLine_68 : Kt Unit := o_psh (.int 1) <| bX9_readLine_73
set_option maxRecDepth 100000 in
theorem sX9_readLine_68 : Sd pX9_readLine ev_v 68 (bX9_readLine_68) := sd_iconst dX9_readLine_68 rfl <| (sd_goto (tgt := 73) dX9_readLine_69 (by decide) sX9_readLine_73)
def bX9_readLine_62 : Kt Unit := o_ild 1 <| o_psh (.int 6) <| o_cne bX9_readLine_72 <| bX9_readLine_68
set_option maxRecDepth 100000 in
theorem sX9_readLine_62 : Sd pX9_readLine ev_v 62 (bX9_readLine_62) := sd_iload_n dX9_readLine_62 rfl <| sd_bipush dX9_readLine_63 rfl <| sd_cne (tgt := 72) dX9_readLine_65 (by decide) sX9_readLine_72 <| sX9_readLine_68
def bX9_readLine_54 : Kt Unit := o_ald 0 <| o_ald 0 <| o_gI 8 6 <| o_zne bX9_readLine_68 <| bX9_readLine_62
set_option maxRecDepth 100000 in
theorem sX9_readLine_54 : Sd pX9_readLine ev_v 54 (bX9_readLine_54) := sd_aload_n dX9_readLine_54 rfl <| sd_aload_n dX9_readLine_55 rfl <| sd_gI flX9_141 dX9_readLine_56 <| sd_zne (tgt := 68) dX9_readLine_59 (by decide) sX9_readLine_68 <| sX9_readLine_62
def bX9_readLine_49 : Kt Unit := o_ald 0 <| o_psh (.int 4) <| o_vc ev_v 8 2 fX9_fails <| bX9_readLine_54
set_option maxRecDepth 100000 in
theorem sX9_readLine_49 : Sd pX9_readLine ev_v 49 (bX9_readLine_49) := sd_aload_n dX9_readLine_49 rfl <| sd_iconst dX9_readLine_50 rfl <| sd_vc tX9_fails (fun _ _ => rfl) rfl mwX9_fails mvX9_fails tw_630 (by decide) dX9_readLine_51 <| sX9_readLine_54
def bX9_readLine_42 : Kt Unit := o_ald 0 <| o_gI 8 6 <| o_zeq bX9_readLine_54 <| bX9_readLine_49
set_option maxRecDepth 100000 in
theorem sX9_readLine_42 : Sd pX9_readLine ev_v 42 (bX9_readLine_42) := sd_aload_n dX9_readLine_42 rfl <| sd_gI flX9_141 dX9_readLine_43 <| sd_zeq (tgt := 54) dX9_readLine_46 (by decide) sX9_readLine_54 <| sX9_readLine_49
def bX9_readLine_36 : Kt Unit := o_ild 1 <| o_psh (.int 6) <| o_cne bX9_readLine_54 <| bX9_readLine_42
set_option maxRecDepth 100000 in
theorem sX9_readLine_36 : Sd pX9_readLine ev_v 36 (bX9_readLine_36) := sd_iload_n dX9_readLine_36 rfl <| sd_bipush dX9_readLine_37 rfl <| sd_cne (tgt := 54) dX9_readLine_39 (by decide) sX9_readLine_54 <| sX9_readLine_42
def bX9_readLine_31 : Kt Unit := o_ald 0 <| o_psh (.int 5) <| o_vc ev_v 8 2 fX9_fails <| bX9_readLine_36
set_option maxRecDepth 100000 in
theorem sX9_readLine_31 : Sd pX9_readLine ev_v 31 (bX9_readLine_31) := sd_aload_n dX9_readLine_31 rfl <| sd_iconst dX9_readLine_32 rfl <| sd_vc tX9_fails (fun _ _ => rfl) rfl mwX9_fails mvX9_fails tw_630 (by decide) dX9_readLine_33 <| sX9_readLine_36
def bX9_readLine_23 : Kt Unit := o_ald 0 <| o_ild 1 <| o_vc ev_i 8 2 fX9_isFull <| o_zeq bX9_readLine_36 <| bX9_readLine_31
set_option maxRecDepth 100000 in
theorem sX9_readLine_23 : Sd pX9_readLine ev_v 23 (bX9_readLine_23) := sd_aload_n dX9_readLine_23 rfl <| sd_iload_n dX9_readLine_24 rfl <| sd_vc tX9_isFull (fun _ _ => rfl) rfl mwX9_isFull mvX9_isFull tw_667 (by decide) dX9_readLine_25 <| sd_zeq (tgt := 36) dX9_readLine_28 (by decide) sX9_readLine_36 <| sX9_readLine_31
def bX9_readLine_17 : Kt Unit := o_ald 0 <| o_psh (.int 2) <| o_vc ev_v 8 2 fX9_fails <| o_rV
set_option maxRecDepth 100000 in
theorem sX9_readLine_17 : Sd pX9_readLine ev_v 17 (bX9_readLine_17) := sd_aload_n dX9_readLine_17 rfl <| sd_iconst dX9_readLine_18 rfl <| sd_vc tX9_fails (fun _ _ => rfl) rfl mwX9_fails mvX9_fails tw_630 (by decide) dX9_readLine_19 <| (sd_rV rfl dX9_readLine_22)
def bX9_readLine_0 : Kt Unit := o_ald 0 <| o_vc ev_i 8 1 fX9_nameHere <| o_ist 1 <| o_ild 1 <| o_i2l <| o_psh (.long 0) <| o_psh (.long 8) <| o_sc ev_i 3 fX9_in <| o_zne bX9_readLine_23 <| (o_fg 1 bX9_readLine_17)
set_option maxRecDepth 100000 in
theorem sX9_readLine_0 : Sd pX9_readLine ev_v 0 (bX9_readLine_0) := sd_aload_n dX9_readLine_0 rfl <| sd_vc tX9_nameHere (fun _ _ => rfl) rfl mwX9_nameHere mvX9_nameHere tw_662 (by decide) dX9_readLine_1 <| sd_istore_n dX9_readLine_4 rfl (by decide) <| sd_iload_n dX9_readLine_5 rfl <| sd_i2l dX9_readLine_6 <| sd_lconst dX9_readLine_7 rfl <| sd_ldc2 tw_663 dX9_readLine_8 <| sd_sc tX9_in (fun _ _ => rfl) mwX9_in mvX9_in tw_611 (by decide) dX9_readLine_11 <| sd_zne (tgt := 23) dX9_readLine_14 (by decide) sX9_readLine_23 <| (sd_fg (i := 1) sX9_readLine_17)
def fX9_readLine : Mt Unit := mk_f 2 bX9_readLine_0
theorem tX9_readLine : Ct ev_v yX9_readLine cX9_readLine 2 none 6 134 fX9_readLine := ct_of (by decide +kernel) sX9_readLine_0
abbrev pX9_text : Px := (cX9_text, 3, RX9, "text", (some .int), 7, 155, fun _ => True)
def bX9_text_164 : Kt Int32 := o_ald 0 <| o_ald 0 <| o_gI 8 4 <| o_pI 8 2 <| o_ald 0 <| o_psh (.int 0) <| o_pI 8 24 <| o_ald 0 <| o_gR 8 27 <| o_psh (.int 0) <| o_psh (.int 0) <| o_sZ <| o_ald 0 <| o_gR 8 27 <| o_psh (.int 1) <| o_psh (.int 0) <| o_sZ <| o_ild 1 <| o_rI
set_option maxRecDepth 100000 in
theorem sX9_text_164 : Sd pX9_text ev_i 164 (bX9_text_164) := sd_aload_n dX9_text_164 rfl <| sd_aload_n dX9_text_165 rfl <| sd_gI flX9_117 dX9_text_166 <| sd_pI fpX9_154 dX9_text_169 <| sd_aload_n dX9_text_172 rfl <| sd_iconst dX9_text_173 rfl <| sd_pI fpX9_157 dX9_text_174 <| sd_aload_n dX9_text_177 rfl <| sd_gR flX9_43 dX9_text_178 <| sd_iconst dX9_text_181 rfl <| sd_iconst dX9_text_182 rfl <| sd_sZ dX9_text_183 <| sd_aload_n dX9_text_184 rfl <| sd_gR flX9_43 dX9_text_185 <| sd_iconst dX9_text_188 rfl <| sd_iconst dX9_text_189 rfl <| sd_sZ dX9_text_190 <| sd_iload_n dX9_text_191 rfl <| (sd_rI rfl dX9_text_192)
def bX9_text_146 (K140 : Kt Int32) : Kt Int32 := o_ald 0 <| o_gR 8 0 <| o_ild 2 <| o_ald 0 <| o_gR 8 3 <| o_ild 2 <| o_aI <| o_sI <| o_inc 2 1 <| K140
set_option maxRecDepth 100000 in
theorem sX9_text_146 {K140 : Kt Int32} (h140 : Sd pX9_text ev_i 140 K140) : Sd pX9_text ev_i 146 (bX9_text_146 K140) := sd_aload_n dX9_text_146 rfl <| sd_gR flX9_7 dX9_text_147 <| sd_iload_n dX9_text_150 rfl <| sd_aload_n dX9_text_151 rfl <| sd_gR flX9_16 dX9_text_152 <| sd_iload_n dX9_text_155 rfl <| sd_aI dX9_text_156 <| sd_sI dX9_text_157 <| sd_iinc dX9_text_158 rfl (by decide) <| (sd_goto (tgt := 140) dX9_text_161 (by decide) h140)
def bX9_text_140 (K140 : Kt Int32) : Kt Int32 := o_ild 2 <| o_psh (.int 74) <| o_cge (o_fg 2 bX9_text_164) <| (bX9_text_146 K140)
set_option maxRecDepth 100000 in
theorem sX9_text_140 {K140 : Kt Int32} (h140 : Sd pX9_text ev_i 140 K140) : Sd pX9_text ev_i 140 (bX9_text_140 K140) := sd_iload_n dX9_text_140 rfl <| sd_bipush dX9_text_141 rfl <| sd_cge (tgt := 164) dX9_text_143 (by decide) (sd_fg (i := 2) sX9_text_164) <| (sX9_text_146 h140)
def bX9_text_138 : Kt Int32 := o_psh (.int 0) <| o_ist 2 <| (o_lp (bX9_text_140) fu)
set_option maxRecDepth 100000 in
theorem sX9_text_138 : Sd pX9_text ev_i 138 (bX9_text_138) := sd_iconst dX9_text_138 rfl <| sd_istore_n dX9_text_139 rfl (by decide) <| (sd_lp (fun K h => sX9_text_140 h) fu)
def bX9_text_130 : Kt Int32 := o_psh (.int (-10)) <| o_ald 0 <| o_gI 8 13 <| o_i2 o_sub <| o_rI
set_option maxRecDepth 100000 in
theorem sX9_text_130 : Sd pX9_text ev_i 130 (bX9_text_130) := sd_bipush dX9_text_130 rfl <| sd_aload_n dX9_text_132 rfl <| sd_gI flX9_72 dX9_text_133 <| sd_isub dX9_text_136 <| (sd_rI rfl dX9_text_137)
def bX9_text_110 : Kt Int32 := o_ald 0 <| o_psh (.int 0) <| o_pI 8 10 <| o_ald 0 <| o_ald 0 <| o_gI 8 12 <| o_pI 8 11 <| o_ald 0 <| o_gI 8 12 <| o_zle bX9_text_138 <| (o_fg 1 bX9_text_130)
set_option maxRecDepth 100000 in
theorem sX9_text_110 : Sd pX9_text ev_i 110 (bX9_text_110) := sd_aload_n dX9_text_110 rfl <| sd_iconst dX9_text_111 rfl <| sd_pI fpX9_62 dX9_text_112 <| sd_aload_n dX9_text_115 rfl <| sd_aload_n dX9_text_116 rfl <| sd_gI flX9_66 dX9_text_117 <| sd_pI fpX9_151 dX9_text_120 <| sd_aload_n dX9_text_123 rfl <| sd_gI flX9_66 dX9_text_124 <| sd_zle (tgt := 138) dX9_text_127 (by decide) sX9_text_138 <| (sd_fg (i := 1) sX9_text_130)
def bX9_text_104 : Kt Int32 := o_ald 0 <| o_psh (.int 6) <| o_vc ev_v 8 2 fX9_fails <| bX9_text_110
set_option maxRecDepth 100000 in
theorem sX9_text_104 : Sd pX9_text ev_i 104 (bX9_text_104) := sd_aload_n dX9_text_104 rfl <| sd_bipush dX9_text_105 rfl <| sd_vc tX9_fails (fun _ _ => rfl) rfl mwX9_fails mvX9_fails tw_630 (by decide) dX9_text_107 <| sX9_text_110
def bX9_text_93 : Kt Int32 := o_ald 0 <| o_gI 8 8 <| o_ald 0 <| o_gI 8 4 <| o_clt bX9_text_110 <| bX9_text_104
set_option maxRecDepth 100000 in
theorem sX9_text_93 : Sd pX9_text ev_i 93 (bX9_text_93) := sd_aload_n dX9_text_93 rfl <| sd_gI flX9_107 dX9_text_94 <| sd_aload_n dX9_text_97 rfl <| sd_gI flX9_117 dX9_text_98 <| sd_clt (tgt := 110) dX9_text_101 (by decide) sX9_text_110 <| sX9_text_104
def bX9_text_86 : Kt Int32 := o_ald 0 <| o_gI 8 12 <| o_zne bX9_text_110 <| bX9_text_93
set_option maxRecDepth 100000 in
theorem sX9_text_86 : Sd pX9_text ev_i 86 (bX9_text_86) := sd_aload_n dX9_text_86 rfl <| sd_gI flX9_66 dX9_text_87 <| sd_zne (tgt := 110) dX9_text_90 (by decide) sX9_text_110 <| sX9_text_93
def bX9_text_76 (K62 : Kt Int32) : Kt Int32 := o_ald 0 <| o_vc ev_v 8 1 fX9_readLine <| o_inc 1 1 <| K62
set_option maxRecDepth 100000 in
theorem sX9_text_76 {K62 : Kt Int32} (h62 : Sd pX9_text ev_i 62 K62) : Sd pX9_text ev_i 76 (bX9_text_76 K62) := sd_aload_n dX9_text_76 rfl <| sd_vc tX9_readLine (fun _ _ => rfl) rfl mwX9_readLine mvX9_readLine tw_676 (by decide) dX9_text_77 <| sd_iinc dX9_text_80 rfl (by decide) <| (sd_goto (tgt := 62) dX9_text_83 (by decide) h62)
def bX9_text_69 (K62 : Kt Int32) : Kt Int32 := o_ald 0 <| o_gI 8 16 <| o_zeq bX9_text_86 <| (bX9_text_76 K62)
set_option maxRecDepth 100000 in
theorem sX9_text_69 {K62 : Kt Int32} (h62 : Sd pX9_text ev_i 62 K62) : Sd pX9_text ev_i 69 (bX9_text_69 K62) := sd_aload_n dX9_text_69 rfl <| sd_gI flX9_75 dX9_text_70 <| sd_zeq (tgt := 86) dX9_text_73 (by decide) sX9_text_86 <| (sX9_text_76 h62)
def bX9_text_62 (K62 : Kt Int32) : Kt Int32 := o_ald 0 <| o_gI 8 12 <| o_zne bX9_text_86 <| (bX9_text_69 K62)
set_option maxRecDepth 100000 in
theorem sX9_text_62 {K62 : Kt Int32} (h62 : Sd pX9_text ev_i 62 K62) : Sd pX9_text ev_i 62 (bX9_text_62 K62) := sd_aload_n dX9_text_62 rfl <| sd_gI flX9_66 dX9_text_63 <| sd_zne (tgt := 86) dX9_text_66 (by decide) sX9_text_86 <| (sX9_text_69 h62)
def bX9_text_58 : Kt Int32 := o_ald 0 <| o_vc ev_v 8 1 fX9_step <| (o_lp (bX9_text_62) fu)
set_option maxRecDepth 100000 in
theorem sX9_text_58 : Sd pX9_text ev_i 58 (bX9_text_58) := sd_aload_n dX9_text_58 rfl <| sd_vc tX9_step (fun _ _ => rfl) rfl mwX9_step mvX9_step tw_634 (by decide) dX9_text_59 <| (sd_lp (fun K h => sX9_text_62 h) fu)
def bX9_text_45 (K39 : Kt Int32) : Kt Int32 := o_ald 0 <| o_gR 8 3 <| o_ild 2 <| o_psh (.int 0) <| o_sI <| o_inc 2 1 <| K39
set_option maxRecDepth 100000 in
theorem sX9_text_45 {K39 : Kt Int32} (h39 : Sd pX9_text ev_i 39 K39) : Sd pX9_text ev_i 45 (bX9_text_45 K39) := sd_aload_n dX9_text_45 rfl <| sd_gR flX9_16 dX9_text_46 <| sd_iload_n dX9_text_49 rfl <| sd_iconst dX9_text_50 rfl <| sd_sI dX9_text_51 <| sd_iinc dX9_text_52 rfl (by decide) <| (sd_goto (tgt := 39) dX9_text_55 (by decide) h39)
def bX9_text_39 (K39 : Kt Int32) : Kt Int32 := o_ild 2 <| o_psh (.int 74) <| o_cge (o_fg 2 bX9_text_58) <| (bX9_text_45 K39)
set_option maxRecDepth 100000 in
theorem sX9_text_39 {K39 : Kt Int32} (h39 : Sd pX9_text ev_i 39 K39) : Sd pX9_text ev_i 39 (bX9_text_39 K39) := sd_iload_n dX9_text_39 rfl <| sd_bipush dX9_text_40 rfl <| sd_cge (tgt := 58) dX9_text_42 (by decide) (sd_fg (i := 2) sX9_text_58) <| (sX9_text_45 h39)
def bX9_text_0 : Kt Int32 := o_ald 0 <| o_psh (.int 0) <| o_pI 8 12 <| o_ald 0 <| o_psh (.int 0) <| o_pI 8 14 <| o_ald 0 <| o_psh (.int 0) <| o_pI 8 4 <| o_ald 0 <| o_psh (.int 0) <| o_pI 8 5 <| o_ald 0 <| o_psh (.int 0) <| o_pZ 8 6 <| o_ald 0 <| o_psh (.int 0) <| o_pI 8 7 <| o_ald 0 <| o_psh (.int (-1)) <| o_pI 8 8 <| o_psh (.int 0) <| o_ist 1 <| o_psh (.int 0) <| o_ist 2 <| (o_lp (bX9_text_39) fu)
set_option maxRecDepth 100000 in
theorem sX9_text_0 : Sd pX9_text ev_i 0 (bX9_text_0) := sd_aload_n dX9_text_0 rfl <| sd_iconst dX9_text_1 rfl <| sd_pI fpX9_66 dX9_text_2 <| sd_aload_n dX9_text_5 rfl <| sd_iconst dX9_text_6 rfl <| sd_pI fpX9_78 dX9_text_7 <| sd_aload_n dX9_text_10 rfl <| sd_iconst dX9_text_11 rfl <| sd_pI fpX9_117 dX9_text_12 <| sd_aload_n dX9_text_15 rfl <| sd_iconst dX9_text_16 rfl <| sd_pI fpX9_110 dX9_text_17 <| sd_aload_n dX9_text_20 rfl <| sd_iconst dX9_text_21 rfl <| sd_pZ fpX9_141 dX9_text_22 <| sd_aload_n dX9_text_25 rfl <| sd_iconst dX9_text_26 rfl <| sd_pI fpX9_120 dX9_text_27 <| sd_aload_n dX9_text_30 rfl <| sd_iconst dX9_text_31 rfl <| sd_pI fpX9_107 dX9_text_32 <| sd_iconst dX9_text_35 rfl <| sd_istore_n dX9_text_36 rfl (by decide) <| sd_iconst dX9_text_37 rfl <| sd_istore_n dX9_text_38 rfl (by decide) <| (sd_lp (fun K h => sX9_text_39 h) fu)
def fX9_text : Mt Int32 := mk_f 3 bX9_text_0
theorem tX9_text : Ct ev_i yX9_text cX9_text 3 (some .int) 7 155 fX9_text := ct_of (by decide +kernel) sX9_text_0
abbrev pX9_fault : Px := (cX9_fault, 1, RX9, "fault", (some .int), 0, 0, fun _ => True)
def bX9_fault_0 : Kt Int32 := o_ald 0 <| o_gI 8 11 <| o_rI
set_option maxRecDepth 100000 in
theorem sX9_fault_0 : Sd pX9_fault ev_i 0 (bX9_fault_0) := sd_aload_n dX9_fault_0 rfl <| sd_gI flX9_151 dX9_fault_1 <| (sd_rI rfl dX9_fault_4)
def fX9_fault : Mt Int32 := mk_f 1 bX9_fault_0
theorem tX9_fault : Ct ev_i yX9_fault cX9_fault 1 (some .int) 0 0 fX9_fault := ct_of (by decide +kernel) sX9_fault_0
abbrev pX9_isOne : Px := (cX9_isOne, 2, RX9, "isOne", (some .boolean), 1, 25, fun _ => True)
def bX9_isOne_0 : Kt Int32 := o_ild 1 <| o_i2l <| o_psh (.long 0) <| o_ald 0 <| o_gI 8 2 <| o_psh (.int 1) <| o_i2 o_sub <| o_i2l <| o_sc ev_i 3 fX9_in <| o_rZ
set_option maxRecDepth 100000 in
theorem sX9_isOne_0 : Sd pX9_isOne ev_i 0 (bX9_isOne_0) := sd_iload_n dX9_isOne_0 rfl <| sd_i2l dX9_isOne_1 <| sd_lconst dX9_isOne_2 rfl <| sd_aload_n dX9_isOne_3 rfl <| sd_gI flX9_154 dX9_isOne_4 <| sd_iconst dX9_isOne_7 rfl <| sd_isub dX9_isOne_8 <| sd_i2l dX9_isOne_9 <| sd_sc tX9_in (fun _ _ => rfl) mwX9_in mvX9_in tw_611 (by decide) dX9_isOne_10 <| (sd_rZ rfl dX9_isOne_13)
def fX9_isOne : Mt Int32 := mk_f 2 bX9_isOne_0
theorem tX9_isOne : Ct ev_i yX9_isOne cX9_isOne 2 (some .boolean) 1 25 fX9_isOne := ct_of (by decide +kernel) sX9_isOne_0
abbrev pX9_isHour : Px := (cX9_isHour, 1, RX9, "isHour", (some .boolean), 1, 25, fun _ => True)
def bX9_isHour_0 : Kt Int32 := o_ild 0 <| o_i2l <| o_psh (.long 0) <| o_psh (.long 9) <| o_sc ev_i 3 fX9_in <| o_rZ
set_option maxRecDepth 100000 in
theorem sX9_isHour_0 : Sd pX9_isHour ev_i 0 (bX9_isHour_0) := sd_iload_n dX9_isHour_0 rfl <| sd_i2l dX9_isHour_1 <| sd_lconst dX9_isHour_2 rfl <| sd_ldc2 tw_680 dX9_isHour_3 <| sd_sc tX9_in (fun _ _ => rfl) mwX9_in mvX9_in tw_611 (by decide) dX9_isHour_6 <| (sd_rZ rfl dX9_isHour_9)
def fX9_isHour : Mt Int32 := mk_f 1 bX9_isHour_0
theorem tX9_isHour : Ct ev_i yX9_isHour cX9_isHour 1 (some .boolean) 1 25 fX9_isHour := ct_of (by decide +kernel) sX9_isHour_0
abbrev pX9_isThing : Px := (cX9_isThing, 1, RX9, "isThing", (some .boolean), 1, 25, fun _ => True)
def bX9_isThing_0 : Kt Int32 := o_ild 0 <| o_i2l <| o_psh (.long 0) <| o_psh (.long 2) <| o_sc ev_i 3 fX9_in <| o_rZ
set_option maxRecDepth 100000 in
theorem sX9_isThing_0 : Sd pX9_isThing ev_i 0 (bX9_isThing_0) := sd_iload_n dX9_isThing_0 rfl <| sd_i2l dX9_isThing_1 <| sd_lconst dX9_isThing_2 rfl <| sd_ldc2 tw_681 dX9_isThing_3 <| sd_sc tX9_in (fun _ _ => rfl) mwX9_in mvX9_in tw_611 (by decide) dX9_isThing_6 <| (sd_rZ rfl dX9_isThing_9)
def fX9_isThing : Mt Int32 := mk_f 1 bX9_isThing_0
theorem tX9_isThing : Ct ev_i yX9_isThing cX9_isThing 1 (some .boolean) 1 25 fX9_isThing := ct_of (by decide +kernel) sX9_isThing_0
abbrev pX9_hasIt : Px := (cX9_hasIt, 2, RX9, "hasIt", (some .int), 0, 0, fun _ => True)
def bX9_hasIt_0 : Kt Int32 := o_ald 0 <| o_gR 8 0 <| o_psh (.int 26) <| o_ild 1 <| o_i2 o_add <| o_aI <| o_psh (.int 1) <| o_i2 o_sub <| o_rI
set_option maxRecDepth 100000 in
theorem sX9_hasIt_0 : Sd pX9_hasIt ev_i 0 (bX9_hasIt_0) := sd_aload_n dX9_hasIt_0 rfl <| sd_gR flX9_7 dX9_hasIt_1 <| sd_bipush dX9_hasIt_4 rfl <| sd_iload_n dX9_hasIt_6 rfl <| sd_iadd dX9_hasIt_7 <| sd_aI dX9_hasIt_8 <| sd_iconst dX9_hasIt_9 rfl <| sd_isub dX9_hasIt_10 <| (sd_rI rfl dX9_hasIt_11)
def fX9_hasIt : Mt Int32 := mk_f 2 bX9_hasIt_0
theorem tX9_hasIt : Ct ev_i yX9_hasIt cX9_hasIt 2 (some .int) 0 0 fX9_hasIt := ct_of (by decide +kernel) sX9_hasIt_0
