abbrev pX8_feed : Px := (cX8_feed, 2, RX8, "feed", (some .int), 3, 68, fun _ => True)
def bX8_feed_12 : Kt Int32 := o_ald 0 <| o_gR 7 4 <| o_ild 1 <| o_psh (.int 0) <| o_psh (.int 0) <| o_psh (.int 0) <| o_vc ev_i 5 5 fX6_add <| o_rI
set_option maxRecDepth 100000 in
theorem sX8_feed_12 : Sd pX8_feed ev_i 12 (bX8_feed_12) := sd_aload_n dX8_feed_12 rfl <| sd_gR flX8_33 dX8_feed_13 <| sd_iload_n dX8_feed_16 rfl <| sd_iconst dX8_feed_17 rfl <| sd_iconst dX8_feed_18 rfl <| sd_iconst dX8_feed_19 rfl <| sd_vc tX6_add (fun _ _ => rfl) rfl mwX6_add mvX6_add tw_404 (by decide) dX8_feed_20 <| (sd_rI rfl dX8_feed_23)
def bX8_feed_10 : Kt Int32 := o_psh (.int (-1)) <| o_rI
set_option maxRecDepth 100000 in
theorem sX8_feed_10 : Sd pX8_feed ev_i 10 (bX8_feed_10) := sd_iconst dX8_feed_10 rfl <| (sd_rI rfl dX8_feed_11)
def bX8_feed_4 : Kt Int32 := o_ild 1 <| o_psh (.int 127) <| o_cle bX8_feed_12 <| (o_fg 0 (o_fg 1 bX8_feed_10))
set_option maxRecDepth 100000 in
theorem sX8_feed_4 : Sd pX8_feed ev_i 4 (bX8_feed_4) := sd_iload_n dX8_feed_4 rfl <| sd_bipush dX8_feed_5 rfl <| sd_cle (tgt := 12) dX8_feed_7 (by decide) sX8_feed_12 <| (sd_fg (i := 0) (sd_fg (i := 1) sX8_feed_10))
def bX8_feed_0 : Kt Int32 := o_ild 1 <| o_zlt (o_fg 0 (o_fg 1 bX8_feed_10)) <| bX8_feed_4
set_option maxRecDepth 100000 in
theorem sX8_feed_0 : Sd pX8_feed ev_i 0 (bX8_feed_0) := sd_iload_n dX8_feed_0 rfl <| sd_zlt (tgt := 10) dX8_feed_1 (by decide) (sd_fg (i := 0) (sd_fg (i := 1) sX8_feed_10)) <| sX8_feed_4
def fX8_feed : Mt Int32 := mk_f 2 bX8_feed_0
theorem tX8_feed : Ct ev_i yX8_feed cX8_feed 2 (some .int) 3 68 fX8_feed := ct_of (by decide +kernel) sX8_feed_0
abbrev pX8_end : Px := (cX8_end, 2, RX8, "end", (some .int), 1, 22, fun _ => True)
def bX8_end_0 : Kt Int32 := o_ald 0 <| o_gR 7 4 <| o_ild 1 <| o_vc ev_i 5 2 fX6_cutTo <| o_rI
set_option maxRecDepth 100000 in
theorem sX8_end_0 : Sd pX8_end ev_i 0 (bX8_end_0) := sd_aload_n dX8_end_0 rfl <| sd_gR flX8_33 dX8_end_1 <| sd_iload_n dX8_end_4 rfl <| sd_vc tX6_cutTo (fun _ _ => rfl) rfl mwX6_cutTo mvX6_cutTo tw_408 (by decide) dX8_end_5 <| (sd_rI rfl dX8_end_8)
def fX8_end : Mt Int32 := mk_f 2 bX8_end_0
theorem tX8_end : Ct ev_i yX8_end cX8_end 2 (some .int) 1 22 fX8_end := ct_of (by decide +kernel) sX8_end_0
abbrev pX8_text : Px := (cX8_text, 2, RX8, "text", (some .int), 7, 150, fun _ => True)
def bX8_text_88 : Kt Int32 := o_ald 0 <| o_gR 7 5 <| o_gI 4 2 <| o_rI
set_option maxRecDepth 100000 in
theorem sX8_text_88 : Sd pX8_text ev_i 88 (bX8_text_88) := sd_aload_n dX8_text_88 rfl <| sd_gR flX8_41 dX8_text_89 <| sd_gI flX8_108 dX8_text_92 <| (sd_rI rfl dX8_text_95)
def bX8_text_75 (K70 : Kt Int32) : Kt Int32 := o_ald 0 <| o_gR 7 2 <| o_ild 1 <| o_psh (.int 0) <| o_sZ <| o_inc 1 1 <| K70
set_option maxRecDepth 100000 in
theorem sX8_text_75 {K70 : Kt Int32} (h70 : Sd pX8_text ev_i 70 K70) : Sd pX8_text ev_i 75 (bX8_text_75 K70) := sd_aload_n dX8_text_75 rfl <| sd_gR flX8_20 dX8_text_76 <| sd_iload_n dX8_text_79 rfl <| sd_iconst dX8_text_80 rfl <| sd_sZ dX8_text_81 <| sd_iinc dX8_text_82 rfl (by decide) <| (sd_goto (tgt := 70) dX8_text_85 (by decide) h70)
def bX8_text_70 (K70 : Kt Int32) : Kt Int32 := o_ild 1 <| o_psh (.int 2) <| o_cge (o_fg 1 bX8_text_88) <| (bX8_text_75 K70)
set_option maxRecDepth 100000 in
theorem sX8_text_70 {K70 : Kt Int32} (h70 : Sd pX8_text ev_i 70 K70) : Sd pX8_text ev_i 70 (bX8_text_70 K70) := sd_iload_n dX8_text_70 rfl <| sd_iconst dX8_text_71 rfl <| sd_cge (tgt := 88) dX8_text_72 (by decide) (sd_fg (i := 1) sX8_text_88) <| (sX8_text_75 h70)
def bX8_text_45 : Kt Int32 := o_ald 0 <| o_gR 7 0 <| o_ald 0 <| o_gR 7 5 <| o_gR 4 0 <| o_vc ev_v 1 2 fX1_copyFrom <| o_ald 0 <| o_gR 7 3 <| o_psh (.int 0) <| o_vc ev_i 5 2 fX6_cutTo <| o_pop <| o_psh (.int 0) <| o_ist 1 <| (o_lp (bX8_text_70) fu)
set_option maxRecDepth 100000 in
theorem sX8_text_45 : Sd pX8_text ev_i 45 (bX8_text_45) := sd_aload_n dX8_text_45 rfl <| sd_gR flX8_10 dX8_text_46 <| sd_aload_n dX8_text_49 rfl <| sd_gR flX8_41 dX8_text_50 <| sd_gR flX8_101 dX8_text_53 <| sd_vc tX1_copyFrom (fun _ _ => rfl) rfl mwX1_copyFrom mvX1_copyFrom tw_420 (by decide) dX8_text_56 <| sd_aload_n dX8_text_59 rfl <| sd_gR flX8_29 dX8_text_60 <| sd_iconst dX8_text_63 rfl <| sd_vc tX6_cutTo (fun _ _ => rfl) rfl mwX6_cutTo mvX6_cutTo tw_408 (by decide) dX8_text_64 <| sd_pop dX8_text_67 <| sd_iconst dX8_text_68 rfl <| sd_istore_n dX8_text_69 rfl (by decide) <| (sd_lp (fun K h => sX8_text_70 h) fu)
def bX8_text_34 : Kt Int32 := o_psh (.int (-10)) <| o_ald 0 <| o_gR 7 5 <| o_gI 4 4 <| o_i2 o_sub <| o_rI
set_option maxRecDepth 100000 in
theorem sX8_text_34 : Sd pX8_text ev_i 34 (bX8_text_34) := sd_bipush dX8_text_34 rfl <| sd_aload_n dX8_text_36 rfl <| sd_gR flX8_41 dX8_text_37 <| sd_gI flX8_98 dX8_text_40 <| sd_isub dX8_text_43 <| (sd_rI rfl dX8_text_44)
def bX8_text_0 : Kt Int32 := o_ald 0 <| o_gR 7 5 <| o_vc ev_v 4 1 fX5_readTape <| o_ald 0 <| o_gR 7 4 <| o_psh (.int 0) <| o_vc ev_i 5 2 fX6_cutTo <| o_pop <| o_ald 0 <| o_ald 0 <| o_gR 7 5 <| o_gI 4 3 <| o_pI 7 12 <| o_ald 0 <| o_gI 7 12 <| o_zeq bX8_text_45 <| bX8_text_34
set_option maxRecDepth 100000 in
theorem sX8_text_0 : Sd pX8_text ev_i 0 (bX8_text_0) := sd_aload_n dX8_text_0 rfl <| sd_gR flX8_41 dX8_text_1 <| sd_vc tX5_readTape (fun _ _ => rfl) rfl mwX5_readTape mvX5_readTape tw_412 (by decide) dX8_text_4 <| sd_aload_n dX8_text_7 rfl <| sd_gR flX8_33 dX8_text_8 <| sd_iconst dX8_text_11 rfl <| sd_vc tX6_cutTo (fun _ _ => rfl) rfl mwX6_cutTo mvX6_cutTo tw_408 (by decide) dX8_text_12 <| sd_pop dX8_text_15 <| sd_aload_n dX8_text_16 rfl <| sd_aload_n dX8_text_17 rfl <| sd_gR flX8_41 dX8_text_18 <| sd_gI flX8_91 dX8_text_21 <| sd_pI fpX8_95 dX8_text_24 <| sd_aload_n dX8_text_27 rfl <| sd_gI flX8_95 dX8_text_28 <| sd_zeq (tgt := 45) dX8_text_31 (by decide) sX8_text_45 <| sX8_text_34
def fX8_text : Mt Int32 := mk_f 2 bX8_text_0
theorem tX8_text : Ct ev_i yX8_text cX8_text 2 (some .int) 7 150 fX8_text := ct_of (by decide +kernel) sX8_text_0
abbrev pX8_fault : Px := (cX8_fault, 1, RX8, "fault", (some .int), 0, 0, fun _ => True)
def bX8_fault_0 : Kt Int32 := o_ald 0 <| o_gI 7 12 <| o_rI
set_option maxRecDepth 100000 in
theorem sX8_fault_0 : Sd pX8_fault ev_i 0 (bX8_fault_0) := sd_aload_n dX8_fault_0 rfl <| sd_gI flX8_95 dX8_fault_1 <| (sd_rI rfl dX8_fault_4)
def fX8_fault : Mt Int32 := mk_f 1 bX8_fault_0
theorem tX8_fault : Ct ev_i yX8_fault cX8_fault 1 (some .int) 0 0 fX8_fault := ct_of (by decide +kernel) sX8_fault_0
abbrev pX8_rule : Px := (cX8_rule, 2, RX8, "rule", (some .int), 4, 92, fun _ => True)
def bX8_rule_118 : Kt Int32 := o_psh (.int (-1)) <| o_rI
set_option maxRecDepth 100000 in
theorem sX8_rule_118 : Sd pX8_rule ev_i 118 (bX8_rule_118) := sd_iconst dX8_rule_118 rfl <| (sd_rI rfl dX8_rule_119)
def bX8_rule_92 : Kt Int32 := o_ald 0 <| o_gR 7 7 <| o_ald 0 <| o_gR 7 0 <| o_ald 0 <| o_gR 7 0 <| o_gR 1 5 <| o_vc ev_v 6 3 fX7_look <| o_ald 0 <| o_gR 7 7 <| o_vc ev_i 6 1 fX7_hoursSeen <| o_rI
set_option maxRecDepth 100000 in
theorem sX8_rule_92 : Sd pX8_rule ev_i 92 (bX8_rule_92) := sd_aload_n dX8_rule_92 rfl <| sd_gR flX8_54 dX8_rule_93 <| sd_aload_n dX8_rule_96 rfl <| sd_gR flX8_10 dX8_rule_97 <| sd_aload_n dX8_rule_100 rfl <| sd_gR flX8_10 dX8_rule_101 <| sd_gR flX8_130 dX8_rule_104 <| sd_vc tX7_look (fun _ _ => rfl) rfl mwX7_look mvX7_look tw_435 (by decide) dX8_rule_107 <| sd_aload_n dX8_rule_110 rfl <| sd_gR flX8_54 dX8_rule_111 <| sd_vc tX7_hoursSeen (fun _ _ => rfl) rfl mwX7_hoursSeen mvX7_hoursSeen tw_439 (by decide) dX8_rule_114 <| (sd_rI rfl dX8_rule_117)
def bX8_rule_84 : Kt Int32 := o_ald 0 <| o_gR 7 0 <| o_vc ev_i 1 1 fX1_hoursHeld <| o_rI
set_option maxRecDepth 100000 in
theorem sX8_rule_84 : Sd pX8_rule ev_i 84 (bX8_rule_84) := sd_aload_n dX8_rule_84 rfl <| sd_gR flX8_10 dX8_rule_85 <| sd_vc tX1_hoursHeld (fun _ _ => rfl) rfl mwX1_hoursHeld mvX1_hoursHeld tw_430 (by decide) dX8_rule_88 <| (sd_rI rfl dX8_rule_91)
def bX8_rule_73 : Kt Int32 := o_ald 0 <| o_gR 7 0 <| o_gR 1 3 <| o_gI 5 3 <| o_rI
set_option maxRecDepth 100000 in
theorem sX8_rule_73 : Sd pX8_rule ev_i 73 (bX8_rule_73) := sd_aload_n dX8_rule_73 rfl <| sd_gR flX8_10 dX8_rule_74 <| sd_gR flX8_123 dX8_rule_77 <| sd_gI flX8_114 dX8_rule_80 <| (sd_rI rfl dX8_rule_83)
def bX8_rule_62 : Kt Int32 := o_ald 0 <| o_gR 7 0 <| o_gR 1 2 <| o_gI 5 3 <| o_rI
set_option maxRecDepth 100000 in
theorem sX8_rule_62 : Sd pX8_rule ev_i 62 (bX8_rule_62) := sd_aload_n dX8_rule_62 rfl <| sd_gR flX8_10 dX8_rule_63 <| sd_gR flX8_120 dX8_rule_66 <| sd_gI flX8_114 dX8_rule_69 <| (sd_rI rfl dX8_rule_72)
def bX8_rule_51 : Kt Int32 := o_ald 0 <| o_gR 7 0 <| o_gR 1 1 <| o_gI 5 3 <| o_rI
set_option maxRecDepth 100000 in
theorem sX8_rule_51 : Sd pX8_rule ev_i 51 (bX8_rule_51) := sd_aload_n dX8_rule_51 rfl <| sd_gR flX8_10 dX8_rule_52 <| sd_gR flX8_117 dX8_rule_55 <| sd_gI flX8_114 dX8_rule_58 <| (sd_rI rfl dX8_rule_61)
def bX8_rule_40 : Kt Int32 := o_ald 0 <| o_gR 7 0 <| o_gR 1 0 <| o_gI 5 3 <| o_rI
set_option maxRecDepth 100000 in
theorem sX8_rule_40 : Sd pX8_rule ev_i 40 (bX8_rule_40) := sd_aload_n dX8_rule_40 rfl <| sd_gR flX8_10 dX8_rule_41 <| sd_gR flX8_111 dX8_rule_44 <| sd_gI flX8_114 dX8_rule_47 <| (sd_rI rfl dX8_rule_50)
def bX8_rule_0 : Kt Int32 := o_ild 1 <| o_sw [(0, (o_fg 1 bX8_rule_40)), (1, (o_fg 1 bX8_rule_51)), (2, (o_fg 1 bX8_rule_62)), (3, (o_fg 1 bX8_rule_73)), (4, (o_fg 1 bX8_rule_84)), (5, (o_fg 1 bX8_rule_92))] (o_fg 0 (o_fg 1 bX8_rule_118))
set_option maxRecDepth 100000 in
theorem sX8_rule_0 : Sd pX8_rule ev_i 0 (bX8_rule_0) := sd_iload_n dX8_rule_0 rfl <| (sd_tsw (td := 118) dX8_rule_1 (by decide) rfl (sd_fg (i := 0) (sd_fg (i := 1) sX8_rule_118)) ⟨⟨rfl, 40, by decide, (sd_fg (i := 1) sX8_rule_40)⟩, ⟨rfl, 51, by decide, (sd_fg (i := 1) sX8_rule_51)⟩, ⟨rfl, 62, by decide, (sd_fg (i := 1) sX8_rule_62)⟩, ⟨rfl, 73, by decide, (sd_fg (i := 1) sX8_rule_73)⟩, ⟨rfl, 84, by decide, (sd_fg (i := 1) sX8_rule_84)⟩, ⟨rfl, 92, by decide, (sd_fg (i := 1) sX8_rule_92)⟩, trivial⟩)
def fX8_rule : Mt Int32 := mk_f 2 bX8_rule_0
theorem tX8_rule : Ct ev_i yX8_rule cX8_rule 2 (some .int) 4 92 fX8_rule := ct_of (by decide +kernel) sX8_rule_0
abbrev pX8_one : Px := (cX8_one, 3, RX8, "one", (some .int), 4, 92, fun _ => True)
def bX8_one_111 : Kt Int32 := o_psh (.int (-1)) <| o_rI
set_option maxRecDepth 100000 in
theorem sX8_one_111 : Sd pX8_one ev_i 111 (bX8_one_111) := sd_iconst dX8_one_111 rfl <| (sd_rI rfl dX8_one_112)
def bX8_one_84 : Kt Int32 := o_ald 0 <| o_gR 7 7 <| o_ald 0 <| o_gR 7 0 <| o_ald 0 <| o_gR 7 0 <| o_gR 1 5 <| o_vc ev_v 6 3 fX7_look <| o_ald 0 <| o_gR 7 7 <| o_ild 1 <| o_vc ev_i 6 2 fX7_hoursOf <| o_rI
set_option maxRecDepth 100000 in
theorem sX8_one_84 : Sd pX8_one ev_i 84 (bX8_one_84) := sd_aload_n dX8_one_84 rfl <| sd_gR flX8_54 dX8_one_85 <| sd_aload_n dX8_one_88 rfl <| sd_gR flX8_10 dX8_one_89 <| sd_aload_n dX8_one_92 rfl <| sd_gR flX8_10 dX8_one_93 <| sd_gR flX8_130 dX8_one_96 <| sd_vc tX7_look (fun _ _ => rfl) rfl mwX7_look mvX7_look tw_435 (by decide) dX8_one_99 <| sd_aload_n dX8_one_102 rfl <| sd_gR flX8_54 dX8_one_103 <| sd_iload_n dX8_one_106 rfl <| sd_vc tX7_hoursOf (fun _ _ => rfl) rfl mwX7_hoursOf mvX7_hoursOf tw_448 (by decide) dX8_one_107 <| (sd_rI rfl dX8_one_110)
def bX8_one_75 : Kt Int32 := o_ald 0 <| o_gR 7 0 <| o_ild 1 <| o_vc ev_i 1 2 fX1_hoursHeldBy <| o_rI
set_option maxRecDepth 100000 in
theorem sX8_one_75 : Sd pX8_one ev_i 75 (bX8_one_75) := sd_aload_n dX8_one_75 rfl <| sd_gR flX8_10 dX8_one_76 <| sd_iload_n dX8_one_79 rfl <| sd_vc tX1_hoursHeldBy (fun _ _ => rfl) rfl mwX1_hoursHeldBy mvX1_hoursHeldBy tw_447 (by decide) dX8_one_80 <| (sd_rI rfl dX8_one_83)
def bX8_one_66 : Kt Int32 := o_ald 0 <| o_gR 7 0 <| o_ild 1 <| o_vc ev_i 1 2 fX1_keepsOf <| o_rI
set_option maxRecDepth 100000 in
theorem sX8_one_66 : Sd pX8_one ev_i 66 (bX8_one_66) := sd_aload_n dX8_one_66 rfl <| sd_gR flX8_10 dX8_one_67 <| sd_iload_n dX8_one_70 rfl <| sd_vc tX1_keepsOf (fun _ _ => rfl) rfl mwX1_keepsOf mvX1_keepsOf tw_443 (by decide) dX8_one_71 <| (sd_rI rfl dX8_one_74)
def bX8_one_57 : Kt Int32 := o_ald 0 <| o_gR 7 0 <| o_ild 1 <| o_vc ev_i 1 2 fX1_postOf <| o_rI
set_option maxRecDepth 100000 in
theorem sX8_one_57 : Sd pX8_one ev_i 57 (bX8_one_57) := sd_aload_n dX8_one_57 rfl <| sd_gR flX8_10 dX8_one_58 <| sd_iload_n dX8_one_61 rfl <| sd_vc tX1_postOf (fun _ _ => rfl) rfl mwX1_postOf mvX1_postOf tw_442 (by decide) dX8_one_62 <| (sd_rI rfl dX8_one_65)
def bX8_one_48 : Kt Int32 := o_ald 0 <| o_gR 7 0 <| o_ild 1 <| o_vc ev_i 1 2 fX1_kindOf <| o_rI
set_option maxRecDepth 100000 in
theorem sX8_one_48 : Sd pX8_one ev_i 48 (bX8_one_48) := sd_aload_n dX8_one_48 rfl <| sd_gR flX8_10 dX8_one_49 <| sd_iload_n dX8_one_52 rfl <| sd_vc tX1_kindOf (fun _ _ => rfl) rfl mwX1_kindOf mvX1_kindOf tw_441 (by decide) dX8_one_53 <| (sd_rI rfl dX8_one_56)
def bX8_one_13 : Kt Int32 := o_ild 2 <| o_sw [(0, (o_fg 2 bX8_one_48)), (1, (o_fg 2 bX8_one_57)), (2, (o_fg 2 bX8_one_66)), (3, (o_fg 2 bX8_one_75)), (4, (o_fg 2 bX8_one_84))] (o_fg 0 (o_fg 1 (o_fg 2 bX8_one_111)))
set_option maxRecDepth 100000 in
theorem sX8_one_13 : Sd pX8_one ev_i 13 (bX8_one_13) := sd_iload_n dX8_one_13 rfl <| (sd_tsw (td := 111) dX8_one_14 (by decide) rfl (sd_fg (i := 0) (sd_fg (i := 1) (sd_fg (i := 2) sX8_one_111))) ⟨⟨rfl, 48, by decide, (sd_fg (i := 2) sX8_one_48)⟩, ⟨rfl, 57, by decide, (sd_fg (i := 2) sX8_one_57)⟩, ⟨rfl, 66, by decide, (sd_fg (i := 2) sX8_one_66)⟩, ⟨rfl, 75, by decide, (sd_fg (i := 2) sX8_one_75)⟩, ⟨rfl, 84, by decide, (sd_fg (i := 2) sX8_one_84)⟩, trivial⟩)
def bX8_one_11 : Kt Int32 := o_psh (.int (-1)) <| o_rI
set_option maxRecDepth 100000 in
theorem sX8_one_11 : Sd pX8_one ev_i 11 (bX8_one_11) := sd_iconst dX8_one_11 rfl <| (sd_rI rfl dX8_one_12)
def bX8_one_0 : Kt Int32 := o_ald 0 <| o_gR 7 0 <| o_ild 1 <| o_vc ev_i 1 2 fX1_isOne <| o_zne bX8_one_13 <| (o_fg 0 (o_fg 1 (o_fg 2 bX8_one_11)))
set_option maxRecDepth 100000 in
theorem sX8_one_0 : Sd pX8_one ev_i 0 (bX8_one_0) := sd_aload_n dX8_one_0 rfl <| sd_gR flX8_10 dX8_one_1 <| sd_iload_n dX8_one_4 rfl <| sd_vc tX1_isOne (fun _ _ => rfl) rfl mwX1_isOne mvX1_isOne tw_440 (by decide) dX8_one_5 <| sd_zne (tgt := 13) dX8_one_8 (by decide) sX8_one_13 <| (sd_fg (i := 0) (sd_fg (i := 1) (sd_fg (i := 2) sX8_one_11)))
def fX8_one : Mt Int32 := mk_f 3 bX8_one_0
theorem tX8_one : Ct ev_i yX8_one cX8_one 3 (some .int) 4 92 fX8_one := ct_of (by decide +kernel) sX8_one_0
abbrev pX8_isThing : Px := (cX8_isThing, 1, RX8, "isThing", (some .boolean), 0, 0, fun _ => True)
def bX8_isThing_14 : Kt Int32 := o_rZ
set_option maxRecDepth 100000 in
theorem sX8_isThing_14 : Sd pX8_isThing ev_i 14 (bX8_isThing_14) := (sd_rZ rfl dX8_isThing_14)
def bX8_isThing_13 : Kt Int32 := o_psh (.int 0) <| bX8_isThing_14
set_option maxRecDepth 100000 in
theorem sX8_isThing_13 : Sd pX8_isThing ev_i 13 (bX8_isThing_13) := sd_iconst dX8_isThing_13 rfl <| sX8_isThing_14
def bX8_isThing_9 : Kt Int32 := o_psh (.int 1) <| bX8_isThing_14
set_option maxRecDepth 100000 in
theorem sX8_isThing_9 : Sd pX8_isThing ev_i 9 (bX8_isThing_9) := sd_iconst dX8_isThing_9 rfl <| (sd_goto (tgt := 14) dX8_isThing_10 (by decide) sX8_isThing_14)
def bX8_isThing_4 : Kt Int32 := o_ild 0 <| o_psh (.int 3) <| o_cge (o_fg 0 bX8_isThing_13) <| (o_fg 0 bX8_isThing_9)
set_option maxRecDepth 100000 in
theorem sX8_isThing_4 : Sd pX8_isThing ev_i 4 (bX8_isThing_4) := sd_iload_n dX8_isThing_4 rfl <| sd_iconst dX8_isThing_5 rfl <| sd_cge (tgt := 13) dX8_isThing_6 (by decide) (sd_fg (i := 0) sX8_isThing_13) <| (sd_fg (i := 0) sX8_isThing_9)
def bX8_isThing_0 : Kt Int32 := o_ild 0 <| o_zlt (o_fg 0 bX8_isThing_13) <| bX8_isThing_4
set_option maxRecDepth 100000 in
theorem sX8_isThing_0 : Sd pX8_isThing ev_i 0 (bX8_isThing_0) := sd_iload_n dX8_isThing_0 rfl <| sd_zlt (tgt := 13) dX8_isThing_1 (by decide) (sd_fg (i := 0) sX8_isThing_13) <| sX8_isThing_4
def fX8_isThing : Mt Int32 := mk_f 1 bX8_isThing_0
theorem tX8_isThing : Ct ev_i yX8_isThing cX8_isThing 1 (some .boolean) 0 0 fX8_isThing := ct_of (by decide +kernel) sX8_isThing_0
abbrev pX8_isHour : Px := (cX8_isHour, 1, RX8, "isHour", (some .boolean), 0, 0, fun _ => True)
def bX8_isHour_15 : Kt Int32 := o_rZ
set_option maxRecDepth 100000 in
theorem sX8_isHour_15 : Sd pX8_isHour ev_i 15 (bX8_isHour_15) := (sd_rZ rfl dX8_isHour_15)
def bX8_isHour_14 : Kt Int32 := o_psh (.int 0) <| bX8_isHour_15
set_option maxRecDepth 100000 in
theorem sX8_isHour_14 : Sd pX8_isHour ev_i 14 (bX8_isHour_14) := sd_iconst dX8_isHour_14 rfl <| sX8_isHour_15
def bX8_isHour_10 : Kt Int32 := o_psh (.int 1) <| bX8_isHour_15
set_option maxRecDepth 100000 in
theorem sX8_isHour_10 : Sd pX8_isHour ev_i 10 (bX8_isHour_10) := sd_iconst dX8_isHour_10 rfl <| (sd_goto (tgt := 15) dX8_isHour_11 (by decide) sX8_isHour_15)
def bX8_isHour_4 : Kt Int32 := o_ild 0 <| o_psh (.int 10) <| o_cge (o_fg 0 bX8_isHour_14) <| (o_fg 0 bX8_isHour_10)
set_option maxRecDepth 100000 in
theorem sX8_isHour_4 : Sd pX8_isHour ev_i 4 (bX8_isHour_4) := sd_iload_n dX8_isHour_4 rfl <| sd_bipush dX8_isHour_5 rfl <| sd_cge (tgt := 14) dX8_isHour_7 (by decide) (sd_fg (i := 0) sX8_isHour_14) <| (sd_fg (i := 0) sX8_isHour_10)
def bX8_isHour_0 : Kt Int32 := o_ild 0 <| o_zlt (o_fg 0 bX8_isHour_14) <| bX8_isHour_4
set_option maxRecDepth 100000 in
theorem sX8_isHour_0 : Sd pX8_isHour ev_i 0 (bX8_isHour_0) := sd_iload_n dX8_isHour_0 rfl <| sd_zlt (tgt := 14) dX8_isHour_1 (by decide) (sd_fg (i := 0) sX8_isHour_14) <| sX8_isHour_4
def fX8_isHour : Mt Int32 := mk_f 1 bX8_isHour_0
theorem tX8_isHour : Ct ev_i yX8_isHour cX8_isHour 1 (some .boolean) 0 0 fX8_isHour := ct_of (by decide +kernel) sX8_isHour_0
abbrev pX8_thing : Px := (cX8_thing, 3, RX8, "thing", (some .int), 2, 49, fun _ => True)
def bX8_thing_22 : Kt Int32 := o_ald 0 <| o_gR 7 0 <| o_ild 1 <| o_ild 2 <| o_vc ev_i 1 3 fX1_valueBehind <| o_rI
set_option maxRecDepth 100000 in
theorem sX8_thing_22 : Sd pX8_thing ev_i 22 (bX8_thing_22) := sd_aload_n dX8_thing_22 rfl <| sd_gR flX8_10 dX8_thing_23 <| sd_iload_n dX8_thing_26 rfl <| sd_iload_n dX8_thing_27 rfl <| sd_vc tX1_valueBehind (fun _ _ => rfl) rfl mwX1_valueBehind mvX1_valueBehind tw_456 (by decide) dX8_thing_28 <| (sd_rI rfl dX8_thing_31)
def bX8_thing_20 : Kt Int32 := o_psh (.int (-1)) <| o_rI
set_option maxRecDepth 100000 in
theorem sX8_thing_20 : Sd pX8_thing ev_i 20 (bX8_thing_20) := sd_iconst dX8_thing_20 rfl <| (sd_rI rfl dX8_thing_21)
def bX8_thing_13 : Kt Int32 := o_ild 2 <| o_sc ev_i 1 fX8_isHour <| o_zne bX8_thing_22 <| (o_fg 0 (o_fg 1 (o_fg 2 bX8_thing_20)))
set_option maxRecDepth 100000 in
theorem sX8_thing_13 : Sd pX8_thing ev_i 13 (bX8_thing_13) := sd_iload_n dX8_thing_13 rfl <| sd_sc tX8_isHour (fun _ _ => rfl) mwX8_isHour mvX8_isHour tw_455 (by decide) dX8_thing_14 <| sd_zne (tgt := 22) dX8_thing_17 (by decide) sX8_thing_22 <| (sd_fg (i := 0) (sd_fg (i := 1) (sd_fg (i := 2) sX8_thing_20)))
def bX8_thing_7 : Kt Int32 := o_ild 2 <| o_psh (.int (-4)) <| o_ceq bX8_thing_22 <| bX8_thing_13
set_option maxRecDepth 100000 in
theorem sX8_thing_7 : Sd pX8_thing ev_i 7 (bX8_thing_7) := sd_iload_n dX8_thing_7 rfl <| sd_bipush dX8_thing_8 rfl <| sd_ceq (tgt := 22) dX8_thing_10 (by decide) sX8_thing_22 <| sX8_thing_13
def bX8_thing_0 : Kt Int32 := o_ild 1 <| o_sc ev_i 1 fX8_isThing <| o_zeq (o_fg 0 (o_fg 1 (o_fg 2 bX8_thing_20))) <| bX8_thing_7
set_option maxRecDepth 100000 in
theorem sX8_thing_0 : Sd pX8_thing ev_i 0 (bX8_thing_0) := sd_iload_n dX8_thing_0 rfl <| sd_sc tX8_isThing (fun _ _ => rfl) mwX8_isThing mvX8_isThing tw_452 (by decide) dX8_thing_1 <| sd_zeq (tgt := 20) dX8_thing_4 (by decide) (sd_fg (i := 0) (sd_fg (i := 1) (sd_fg (i := 2) sX8_thing_20))) <| sX8_thing_7
def fX8_thing : Mt Int32 := mk_f 3 bX8_thing_0
theorem tX8_thing : Ct ev_i yX8_thing cX8_thing 3 (some .int) 2 49 fX8_thing := ct_of (by decide +kernel) sX8_thing_0
abbrev pX8_rota : Px := (cX8_rota, 2, RX8, "rota", (some .int), 1, 20, fun _ => True)
def bX8_rota_20 : Kt Int32 := o_rI
set_option maxRecDepth 100000 in
theorem sX8_rota_20 : Sd pX8_rota ev_i 20 (bX8_rota_20) := (sd_rI rfl dX8_rota_20)
def bX8_rota_19 : Kt Int32 := o_psh (.int (-1)) <| bX8_rota_20
set_option maxRecDepth 100000 in
theorem sX8_rota_19 : Sd pX8_rota ev_i 19 (bX8_rota_19) := sd_iconst dX8_rota_19 rfl <| sX8_rota_20
def bX8_rota_7 : Kt Int32 := o_ald 0 <| o_gR 7 0 <| o_gR 1 5 <| o_ild 1 <| o_aI <| (o_fg 0 (o_fg 1 bX8_rota_20))
set_option maxRecDepth 100000 in
theorem sX8_rota_7 : Sd pX8_rota ev_i 7 (bX8_rota_7) := sd_aload_n dX8_rota_7 rfl <| sd_gR flX8_10 dX8_rota_8 <| sd_gR flX8_130 dX8_rota_11 <| sd_iload_n dX8_rota_14 rfl <| sd_aI dX8_rota_15 <| (sd_goto (tgt := 20) dX8_rota_16 (by decide) (sd_fg (i := 0) (sd_fg (i := 1) sX8_rota_20)))
def bX8_rota_0 : Kt Int32 := o_ild 1 <| o_sc ev_i 1 fX8_isHour <| o_zeq (o_fg 0 (o_fg 1 bX8_rota_19)) <| bX8_rota_7
set_option maxRecDepth 100000 in
theorem sX8_rota_0 : Sd pX8_rota ev_i 0 (bX8_rota_0) := sd_iload_n dX8_rota_0 rfl <| sd_sc tX8_isHour (fun _ _ => rfl) mwX8_isHour mvX8_isHour tw_455 (by decide) dX8_rota_1 <| sd_zeq (tgt := 19) dX8_rota_4 (by decide) (sd_fg (i := 0) (sd_fg (i := 1) sX8_rota_19)) <| sX8_rota_7
def fX8_rota : Mt Int32 := mk_f 2 bX8_rota_0
theorem tX8_rota : Ct ev_i yX8_rota cX8_rota 2 (some .int) 1 20 fX8_rota := ct_of (by decide +kernel) sX8_rota_0
abbrev pX8_turn : Px := (cX8_turn, 3, RX8, "turn", (some .int), 1, 23, fun _ => True)
def bX8_turn_0 : Kt Int32 := o_ald 0 <| o_gR 7 0 <| o_gR 1 1 <| o_ild 1 <| o_ild 2 <| o_vc ev_i 5 3 fX6_at <| o_rI
set_option maxRecDepth 100000 in
theorem sX8_turn_0 : Sd pX8_turn ev_i 0 (bX8_turn_0) := sd_aload_n dX8_turn_0 rfl <| sd_gR flX8_10 dX8_turn_1 <| sd_gR flX8_117 dX8_turn_4 <| sd_iload_n dX8_turn_7 rfl <| sd_iload_n dX8_turn_8 rfl <| sd_vc tX6_at (fun _ _ => rfl) rfl mwX6_at mvX6_at tw_457 (by decide) dX8_turn_9 <| (sd_rI rfl dX8_turn_12)
def fX8_turn : Mt Int32 := mk_f 3 bX8_turn_0
theorem tX8_turn : Ct ev_i yX8_turn cX8_turn 3 (some .int) 1 23 fX8_turn := ct_of (by decide +kernel) sX8_turn_0
abbrev pX8_work : Px := (cX8_work, 3, RX8, "work", (some .int), 4, 92, fun _ => True)
def bX8_work_72 : Kt Int32 := o_rI
set_option maxRecDepth 100000 in
theorem sX8_work_72 : Sd pX8_work ev_i 72 (bX8_work_72) := (sd_rI rfl dX8_work_72)
def bX8_work_71 : Kt Int32 := o_psh (.int 0) <| bX8_work_72
set_option maxRecDepth 100000 in
theorem sX8_work_71 : Sd pX8_work ev_i 71 (bX8_work_71) := sd_iconst dX8_work_71 rfl <| sX8_work_72
def bX8_work_67 : Kt Int32 := o_psh (.int 1) <| bX8_work_72
set_option maxRecDepth 100000 in
theorem sX8_work_67 : Sd pX8_work ev_i 67 (bX8_work_67) := sd_iconst dX8_work_67 rfl <| (sd_goto (tgt := 72) dX8_work_68 (by decide) sX8_work_72)
def bX8_work_34 : Kt Int32 := o_ald 0 <| o_gR 7 7 <| o_ald 0 <| o_gR 7 0 <| o_ald 0 <| o_gR 7 0 <| o_gR 1 5 <| o_vc ev_v 6 3 fX7_look <| o_ald 0 <| o_gR 7 7 <| o_ald 0 <| o_gR 7 0 <| o_ild 1 <| o_vc ev_i 6 3 fX7_isDone <| o_zeq (o_fg 0 (o_fg 1 bX8_work_71)) <| (o_fg 0 (o_fg 1 bX8_work_67))
set_option maxRecDepth 100000 in
theorem sX8_work_34 : Sd pX8_work ev_i 34 (bX8_work_34) := sd_aload_n dX8_work_34 rfl <| sd_gR flX8_54 dX8_work_35 <| sd_aload_n dX8_work_38 rfl <| sd_gR flX8_10 dX8_work_39 <| sd_aload_n dX8_work_42 rfl <| sd_gR flX8_10 dX8_work_43 <| sd_gR flX8_130 dX8_work_46 <| sd_vc tX7_look (fun _ _ => rfl) rfl mwX7_look mvX7_look tw_435 (by decide) dX8_work_49 <| sd_aload_n dX8_work_52 rfl <| sd_gR flX8_54 dX8_work_53 <| sd_aload_n dX8_work_56 rfl <| sd_gR flX8_10 dX8_work_57 <| sd_iload_n dX8_work_60 rfl <| sd_vc tX7_isDone (fun _ _ => rfl) rfl mwX7_isDone mvX7_isDone tw_459 (by decide) dX8_work_61 <| sd_zeq (tgt := 71) dX8_work_64 (by decide) (sd_fg (i := 0) (sd_fg (i := 1) sX8_work_71)) <| (sd_fg (i := 0) (sd_fg (i := 1) sX8_work_67))
def bX8_work_32 : Kt Int32 := o_psh (.int (-1)) <| o_rI
set_option maxRecDepth 100000 in
theorem sX8_work_32 : Sd pX8_work ev_i 32 (bX8_work_32) := sd_iconst dX8_work_32 rfl <| (sd_rI rfl dX8_work_33)
def bX8_work_18 : Kt Int32 := o_ald 0 <| o_gR 7 0 <| o_gR 1 2 <| o_ild 1 <| o_vc ev_i 5 2 fX6_has <| o_zne bX8_work_34 <| (o_fg 0 (o_fg 1 bX8_work_32))
set_option maxRecDepth 100000 in
theorem sX8_work_18 : Sd pX8_work ev_i 18 (bX8_work_18) := sd_aload_n dX8_work_18 rfl <| sd_gR flX8_10 dX8_work_19 <| sd_gR flX8_120 dX8_work_22 <| sd_iload_n dX8_work_25 rfl <| sd_vc tX6_has (fun _ _ => rfl) rfl mwX6_has mvX6_has tw_458 (by decide) dX8_work_26 <| sd_zne (tgt := 34) dX8_work_29 (by decide) sX8_work_34 <| (sd_fg (i := 0) (sd_fg (i := 1) sX8_work_32))
def bX8_work_5 : Kt Int32 := o_ald 0 <| o_gR 7 0 <| o_gR 1 2 <| o_ild 1 <| o_ild 2 <| o_vc ev_i 5 3 fX6_at <| o_rI
set_option maxRecDepth 100000 in
theorem sX8_work_5 : Sd pX8_work ev_i 5 (bX8_work_5) := sd_aload_n dX8_work_5 rfl <| sd_gR flX8_10 dX8_work_6 <| sd_gR flX8_120 dX8_work_9 <| sd_iload_n dX8_work_12 rfl <| sd_iload_n dX8_work_13 rfl <| sd_vc tX6_at (fun _ _ => rfl) rfl mwX6_at mvX6_at tw_457 (by decide) dX8_work_14 <| (sd_rI rfl dX8_work_17)
def bX8_work_0 : Kt Int32 := o_ild 2 <| o_psh (.int 4) <| o_ceq (o_fg 2 bX8_work_18) <| bX8_work_5
set_option maxRecDepth 100000 in
theorem sX8_work_0 : Sd pX8_work ev_i 0 (bX8_work_0) := sd_iload_n dX8_work_0 rfl <| sd_iconst dX8_work_1 rfl <| sd_ceq (tgt := 18) dX8_work_2 (by decide) (sd_fg (i := 2) sX8_work_18) <| sX8_work_5
def fX8_work : Mt Int32 := mk_f 3 bX8_work_0
theorem tX8_work : Ct ev_i yX8_work cX8_work 3 (some .int) 4 92 fX8_work := ct_of (by decide +kernel) sX8_work_0
abbrev pX8_telling : Px := (cX8_telling, 3, RX8, "telling", (some .int), 1, 23, fun _ => True)
def bX8_telling_0 : Kt Int32 := o_ald 0 <| o_gR 7 0 <| o_gR 1 3 <| o_ild 1 <| o_ild 2 <| o_vc ev_i 5 3 fX6_at <| o_rI
set_option maxRecDepth 100000 in
theorem sX8_telling_0 : Sd pX8_telling ev_i 0 (bX8_telling_0) := sd_aload_n dX8_telling_0 rfl <| sd_gR flX8_10 dX8_telling_1 <| sd_gR flX8_123 dX8_telling_4 <| sd_iload_n dX8_telling_7 rfl <| sd_iload_n dX8_telling_8 rfl <| sd_vc tX6_at (fun _ _ => rfl) rfl mwX6_at mvX6_at tw_457 (by decide) dX8_telling_9 <| (sd_rI rfl dX8_telling_12)
def fX8_telling : Mt Int32 := mk_f 3 bX8_telling_0
theorem tX8_telling : Ct ev_i yX8_telling cX8_telling 3 (some .int) 1 23 fX8_telling := ct_of (by decide +kernel) sX8_telling_0
abbrev pX8_isFlag : Px := (cX8_isFlag, 1, RX8, "isFlag", (some .boolean), 0, 0, fun _ => True)
def bX8_isFlag_14 : Kt Int32 := o_rZ
set_option maxRecDepth 100000 in
theorem sX8_isFlag_14 : Sd pX8_isFlag ev_i 14 (bX8_isFlag_14) := (sd_rZ rfl dX8_isFlag_14)
def bX8_isFlag_13 : Kt Int32 := o_psh (.int 0) <| bX8_isFlag_14
set_option maxRecDepth 100000 in
theorem sX8_isFlag_13 : Sd pX8_isFlag ev_i 13 (bX8_isFlag_13) := sd_iconst dX8_isFlag_13 rfl <| sX8_isFlag_14
def bX8_isFlag_9 : Kt Int32 := o_psh (.int 1) <| bX8_isFlag_14
set_option maxRecDepth 100000 in
theorem sX8_isFlag_9 : Sd pX8_isFlag ev_i 9 (bX8_isFlag_9) := sd_iconst dX8_isFlag_9 rfl <| (sd_goto (tgt := 14) dX8_isFlag_10 (by decide) sX8_isFlag_14)
def bX8_isFlag_4 : Kt Int32 := o_ild 0 <| o_psh (.int 1) <| o_cne (o_fg 0 bX8_isFlag_13) <| (o_fg 0 bX8_isFlag_9)
set_option maxRecDepth 100000 in
theorem sX8_isFlag_4 : Sd pX8_isFlag ev_i 4 (bX8_isFlag_4) := sd_iload_n dX8_isFlag_4 rfl <| sd_iconst dX8_isFlag_5 rfl <| sd_cne (tgt := 13) dX8_isFlag_6 (by decide) (sd_fg (i := 0) sX8_isFlag_13) <| (sd_fg (i := 0) sX8_isFlag_9)
def bX8_isFlag_0 : Kt Int32 := o_ild 0 <| o_zeq (o_fg 0 bX8_isFlag_9) <| bX8_isFlag_4
set_option maxRecDepth 100000 in
theorem sX8_isFlag_0 : Sd pX8_isFlag ev_i 0 (bX8_isFlag_0) := sd_iload_n dX8_isFlag_0 rfl <| sd_zeq (tgt := 9) dX8_isFlag_1 (by decide) (sd_fg (i := 0) sX8_isFlag_9) <| sX8_isFlag_4
def fX8_isFlag : Mt Int32 := mk_f 1 bX8_isFlag_0
theorem tX8_isFlag : Ct ev_i yX8_isFlag cX8_isFlag 1 (some .boolean) 0 0 fX8_isFlag := ct_of (by decide +kernel) sX8_isFlag_0
abbrev pX8_alter : Px := (cX8_alter, 5, RX8, "alter", (some .int), 2, 44, fun _ => True)
def bX8_alter_37 : Kt Int32 := o_ald 0 <| o_gR 7 0 <| o_gR 1 0 <| o_ild 1 <| o_ild 2 <| o_vc ev_i 5 3 fX6_at <| o_ist 4 <| o_ald 0 <| o_gR 7 0 <| o_gR 1 0 <| o_ild 1 <| o_ild 2 <| o_ild 3 <| o_vc ev_v 5 4 fX6_put <| o_ild 4 <| o_rI
set_option maxRecDepth 100000 in
theorem sX8_alter_37 : Sd pX8_alter ev_i 37 (bX8_alter_37) := sd_aload_n dX8_alter_37 rfl <| sd_gR flX8_10 dX8_alter_38 <| sd_gR flX8_111 dX8_alter_41 <| sd_iload_n dX8_alter_44 rfl <| sd_iload_n dX8_alter_45 rfl <| sd_vc tX6_at (fun _ _ => rfl) rfl mwX6_at mvX6_at tw_457 (by decide) dX8_alter_46 <| sd_istore dX8_alter_49 (by decide) <| sd_aload_n dX8_alter_51 rfl <| sd_gR flX8_10 dX8_alter_52 <| sd_gR flX8_111 dX8_alter_55 <| sd_iload_n dX8_alter_58 rfl <| sd_iload_n dX8_alter_59 rfl <| sd_iload_n dX8_alter_60 rfl <| sd_vc tX6_put (fun _ _ => rfl) rfl mwX6_put mvX6_put tw_463 (by decide) dX8_alter_61 <| sd_iload dX8_alter_64 <| (sd_rI rfl dX8_alter_66)
def bX8_alter_35 : Kt Int32 := o_psh (.int (-1)) <| o_rI
set_option maxRecDepth 100000 in
theorem sX8_alter_35 : Sd pX8_alter ev_i 35 (bX8_alter_35) := sd_iconst dX8_alter_35 rfl <| (sd_rI rfl dX8_alter_36)
def bX8_alter_32 : Kt Int32 := o_cle bX8_alter_37 <| (o_fg 0 (o_fg 1 (o_fg 2 (o_fg 3 bX8_alter_35))))
set_option maxRecDepth 100000 in
theorem sX8_alter_32 : Sd pX8_alter ev_i 32 (bX8_alter_32) := sd_cle (tgt := 37) dX8_alter_32 (by decide) sX8_alter_37 <| (sd_fg (i := 0) (sd_fg (i := 1) (sd_fg (i := 2) (sd_fg (i := 3) sX8_alter_35))))
def bX8_alter_31 : Kt Int32 := o_psh (.int 2) <| bX8_alter_32
set_option maxRecDepth 100000 in
theorem sX8_alter_31 : Sd pX8_alter ev_i 31 (bX8_alter_31) := sd_iconst dX8_alter_31 rfl <| sX8_alter_32
def bX8_alter_27 : Kt Int32 := o_psh (.int 3) <| bX8_alter_32
set_option maxRecDepth 100000 in
theorem sX8_alter_27 : Sd pX8_alter ev_i 27 (bX8_alter_27) := sd_iconst dX8_alter_27 rfl <| (sd_goto (tgt := 32) dX8_alter_28 (by decide) sX8_alter_32)
def bX8_alter_22 : Kt Int32 := o_ild 3 <| o_ild 2 <| o_zne bX8_alter_31 <| bX8_alter_27
set_option maxRecDepth 100000 in
theorem sX8_alter_22 : Sd pX8_alter ev_i 22 (bX8_alter_22) := sd_iload_n dX8_alter_22 rfl <| sd_iload_n dX8_alter_23 rfl <| sd_zne (tgt := 31) dX8_alter_24 (by decide) sX8_alter_31 <| sX8_alter_27
def bX8_alter_18 : Kt Int32 := o_ild 3 <| o_zlt (o_fg 0 (o_fg 1 (o_fg 2 (o_fg 3 bX8_alter_35)))) <| bX8_alter_22
set_option maxRecDepth 100000 in
theorem sX8_alter_18 : Sd pX8_alter ev_i 18 (bX8_alter_18) := sd_iload_n dX8_alter_18 rfl <| sd_zlt (tgt := 35) dX8_alter_19 (by decide) (sd_fg (i := 0) (sd_fg (i := 1) (sd_fg (i := 2) (sd_fg (i := 3) sX8_alter_35)))) <| sX8_alter_22
def bX8_alter_11 : Kt Int32 := o_ild 2 <| o_sc ev_i 1 fX8_isFlag <| o_zeq (o_fg 0 (o_fg 1 (o_fg 2 (o_fg 3 bX8_alter_35)))) <| bX8_alter_18
set_option maxRecDepth 100000 in
theorem sX8_alter_11 : Sd pX8_alter ev_i 11 (bX8_alter_11) := sd_iload_n dX8_alter_11 rfl <| sd_sc tX8_isFlag (fun _ _ => rfl) mwX8_isFlag mvX8_isFlag tw_462 (by decide) dX8_alter_12 <| sd_zeq (tgt := 35) dX8_alter_15 (by decide) (sd_fg (i := 0) (sd_fg (i := 1) (sd_fg (i := 2) (sd_fg (i := 3) sX8_alter_35)))) <| sX8_alter_18
def bX8_alter_0 : Kt Int32 := o_ald 0 <| o_gR 7 0 <| o_ild 1 <| o_vc ev_i 1 2 fX1_isOne <| o_zeq (o_fg 0 (o_fg 1 (o_fg 2 (o_fg 3 bX8_alter_35)))) <| bX8_alter_11
set_option maxRecDepth 100000 in
theorem sX8_alter_0 : Sd pX8_alter ev_i 0 (bX8_alter_0) := sd_aload_n dX8_alter_0 rfl <| sd_gR flX8_10 dX8_alter_1 <| sd_iload_n dX8_alter_4 rfl <| sd_vc tX1_isOne (fun _ _ => rfl) rfl mwX1_isOne mvX1_isOne tw_440 (by decide) dX8_alter_5 <| sd_zeq (tgt := 35) dX8_alter_8 (by decide) (sd_fg (i := 0) (sd_fg (i := 1) (sd_fg (i := 2) (sd_fg (i := 3) sX8_alter_35)))) <| sX8_alter_11
def fX8_alter : Mt Int32 := mk_f 5 bX8_alter_0
theorem tX8_alter : Ct ev_i yX8_alter cX8_alter 5 (some .int) 2 44 fX8_alter := ct_of (by decide +kernel) sX8_alter_0
abbrev pX8_isValue : Px := (cX8_isValue, 1, RX8, "isValue", (some .boolean), 0, 0, fun _ => True)
def bX8_isValue_15 : Kt Int32 := o_rZ
set_option maxRecDepth 100000 in
theorem sX8_isValue_15 : Sd pX8_isValue ev_i 15 (bX8_isValue_15) := (sd_rZ rfl dX8_isValue_15)
def bX8_isValue_14 : Kt Int32 := o_psh (.int 0) <| bX8_isValue_15
set_option maxRecDepth 100000 in
theorem sX8_isValue_14 : Sd pX8_isValue ev_i 14 (bX8_isValue_14) := sd_iconst dX8_isValue_14 rfl <| sX8_isValue_15
def bX8_isValue_10 : Kt Int32 := o_psh (.int 1) <| bX8_isValue_15
set_option maxRecDepth 100000 in
theorem sX8_isValue_10 : Sd pX8_isValue ev_i 10 (bX8_isValue_10) := sd_iconst dX8_isValue_10 rfl <| (sd_goto (tgt := 15) dX8_isValue_11 (by decide) sX8_isValue_15)
def bX8_isValue_4 : Kt Int32 := o_ild 0 <| o_psh (.int 9) <| o_cgt (o_fg 0 bX8_isValue_14) <| (o_fg 0 bX8_isValue_10)
set_option maxRecDepth 100000 in
theorem sX8_isValue_4 : Sd pX8_isValue ev_i 4 (bX8_isValue_4) := sd_iload_n dX8_isValue_4 rfl <| sd_bipush dX8_isValue_5 rfl <| sd_cgt (tgt := 14) dX8_isValue_7 (by decide) (sd_fg (i := 0) sX8_isValue_14) <| (sd_fg (i := 0) sX8_isValue_10)
def bX8_isValue_0 : Kt Int32 := o_ild 0 <| o_zlt (o_fg 0 bX8_isValue_14) <| bX8_isValue_4
set_option maxRecDepth 100000 in
theorem sX8_isValue_0 : Sd pX8_isValue ev_i 0 (bX8_isValue_0) := sd_iload_n dX8_isValue_0 rfl <| sd_zlt (tgt := 14) dX8_isValue_1 (by decide) (sd_fg (i := 0) sX8_isValue_14) <| sX8_isValue_4
def fX8_isValue : Mt Int32 := mk_f 1 bX8_isValue_0
theorem tX8_isValue : Ct ev_i yX8_isValue cX8_isValue 1 (some .boolean) 0 0 fX8_isValue := ct_of (by decide +kernel) sX8_isValue_0
abbrev pX8_paint : Px := (cX8_paint, 4, RX8, "paint", (some .int), 1, 20, fun _ => True)
def bX8_paint_16 : Kt Int32 := o_ald 0 <| o_gR 7 0 <| o_gR 1 4 <| o_ild 1 <| o_aI <| o_ist 3 <| o_ald 0 <| o_gR 7 0 <| o_gR 1 4 <| o_ild 1 <| o_ild 2 <| o_sI <| o_ild 3 <| o_rI
set_option maxRecDepth 100000 in
theorem sX8_paint_16 : Sd pX8_paint ev_i 16 (bX8_paint_16) := sd_aload_n dX8_paint_16 rfl <| sd_gR flX8_10 dX8_paint_17 <| sd_gR flX8_189 dX8_paint_20 <| sd_iload_n dX8_paint_23 rfl <| sd_aI dX8_paint_24 <| sd_istore_n dX8_paint_25 rfl (by decide) <| sd_aload_n dX8_paint_26 rfl <| sd_gR flX8_10 dX8_paint_27 <| sd_gR flX8_189 dX8_paint_30 <| sd_iload_n dX8_paint_33 rfl <| sd_iload_n dX8_paint_34 rfl <| sd_sI dX8_paint_35 <| sd_iload_n dX8_paint_36 rfl <| (sd_rI rfl dX8_paint_37)
def bX8_paint_14 : Kt Int32 := o_psh (.int (-1)) <| o_rI
set_option maxRecDepth 100000 in
theorem sX8_paint_14 : Sd pX8_paint ev_i 14 (bX8_paint_14) := sd_iconst dX8_paint_14 rfl <| (sd_rI rfl dX8_paint_15)
def bX8_paint_7 : Kt Int32 := o_ild 2 <| o_sc ev_i 1 fX8_isValue <| o_zne bX8_paint_16 <| (o_fg 0 (o_fg 1 (o_fg 2 bX8_paint_14)))
set_option maxRecDepth 100000 in
theorem sX8_paint_7 : Sd pX8_paint ev_i 7 (bX8_paint_7) := sd_iload_n dX8_paint_7 rfl <| sd_sc tX8_isValue (fun _ _ => rfl) mwX8_isValue mvX8_isValue tw_466 (by decide) dX8_paint_8 <| sd_zne (tgt := 16) dX8_paint_11 (by decide) sX8_paint_16 <| (sd_fg (i := 0) (sd_fg (i := 1) (sd_fg (i := 2) sX8_paint_14)))
def bX8_paint_0 : Kt Int32 := o_ild 1 <| o_sc ev_i 1 fX8_isThing <| o_zeq (o_fg 0 (o_fg 1 (o_fg 2 bX8_paint_14))) <| bX8_paint_7
set_option maxRecDepth 100000 in
theorem sX8_paint_0 : Sd pX8_paint ev_i 0 (bX8_paint_0) := sd_iload_n dX8_paint_0 rfl <| sd_sc tX8_isThing (fun _ _ => rfl) mwX8_isThing mvX8_isThing tw_452 (by decide) dX8_paint_1 <| sd_zeq (tgt := 14) dX8_paint_4 (by decide) (sd_fg (i := 0) (sd_fg (i := 1) (sd_fg (i := 2) sX8_paint_14))) <| sX8_paint_7
def fX8_paint : Mt Int32 := mk_f 4 bX8_paint_0
theorem tX8_paint : Ct ev_i yX8_paint cX8_paint 4 (some .int) 1 20 fX8_paint := ct_of (by decide +kernel) sX8_paint_0
abbrev pX8_isShift : Px := (cX8_isShift, 3, RX8, "isShift", (some .boolean), 2, 42, fun _ => True)
def bX8_isShift_29 : Kt Int32 := o_rZ
set_option maxRecDepth 100000 in
theorem sX8_isShift_29 : Sd pX8_isShift ev_i 29 (bX8_isShift_29) := (sd_rZ rfl dX8_isShift_29)
def bX8_isShift_28 : Kt Int32 := o_psh (.int 0) <| bX8_isShift_29
set_option maxRecDepth 100000 in
theorem sX8_isShift_28 : Sd pX8_isShift ev_i 28 (bX8_isShift_28) := sd_iconst dX8_isShift_28 rfl <| sX8_isShift_29
def bX8_isShift_24 : Kt Int32 := o_psh (.int 1) <| bX8_isShift_29
set_option maxRecDepth 100000 in
theorem sX8_isShift_24 : Sd pX8_isShift ev_i 24 (bX8_isShift_24) := sd_iconst dX8_isShift_24 rfl <| (sd_goto (tgt := 29) dX8_isShift_25 (by decide) sX8_isShift_29)
def bX8_isShift_13 : Kt Int32 := o_ald 0 <| o_gR 7 0 <| o_ild 2 <| o_vc ev_i 1 2 fX1_isOne <| o_zeq (o_fg 0 (o_fg 2 bX8_isShift_28)) <| (o_fg 0 (o_fg 2 bX8_isShift_24))
set_option maxRecDepth 100000 in
theorem sX8_isShift_13 : Sd pX8_isShift ev_i 13 (bX8_isShift_13) := sd_aload_n dX8_isShift_13 rfl <| sd_gR flX8_10 dX8_isShift_14 <| sd_iload_n dX8_isShift_17 rfl <| sd_vc tX1_isOne (fun _ _ => rfl) rfl mwX1_isOne mvX1_isOne tw_440 (by decide) dX8_isShift_18 <| sd_zeq (tgt := 28) dX8_isShift_21 (by decide) (sd_fg (i := 0) (sd_fg (i := 2) sX8_isShift_28)) <| (sd_fg (i := 0) (sd_fg (i := 2) sX8_isShift_24))
def bX8_isShift_7 : Kt Int32 := o_ild 2 <| o_psh (.int (-4)) <| o_ceq (o_fg 0 (o_fg 2 bX8_isShift_24)) <| bX8_isShift_13
set_option maxRecDepth 100000 in
theorem sX8_isShift_7 : Sd pX8_isShift ev_i 7 (bX8_isShift_7) := sd_iload_n dX8_isShift_7 rfl <| sd_bipush dX8_isShift_8 rfl <| sd_ceq (tgt := 24) dX8_isShift_10 (by decide) (sd_fg (i := 0) (sd_fg (i := 2) sX8_isShift_24)) <| sX8_isShift_13
def bX8_isShift_0 : Kt Int32 := o_ild 1 <| o_sc ev_i 1 fX8_isHour <| o_zeq (o_fg 0 (o_fg 1 (o_fg 2 bX8_isShift_28))) <| (o_fg 1 bX8_isShift_7)
set_option maxRecDepth 100000 in
theorem sX8_isShift_0 : Sd pX8_isShift ev_i 0 (bX8_isShift_0) := sd_iload_n dX8_isShift_0 rfl <| sd_sc tX8_isHour (fun _ _ => rfl) mwX8_isHour mvX8_isHour tw_455 (by decide) dX8_isShift_1 <| sd_zeq (tgt := 28) dX8_isShift_4 (by decide) (sd_fg (i := 0) (sd_fg (i := 1) (sd_fg (i := 2) sX8_isShift_28))) <| (sd_fg (i := 1) sX8_isShift_7)
def fX8_isShift : Mt Int32 := mk_f 3 bX8_isShift_0
theorem tX8_isShift : Ct ev_i yX8_isShift cX8_isShift 3 (some .boolean) 2 42 fX8_isShift := ct_of (by decide +kernel) sX8_isShift_0
abbrev pX8_shift : Px := (cX8_shift, 4, RX8, "shift", (some .int), 3, 64, fun _ => True)
def bX8_shift_11 : Kt Int32 := o_ald 0 <| o_gR 7 0 <| o_gR 1 5 <| o_ild 1 <| o_aI <| o_ist 3 <| o_ald 0 <| o_gR 7 0 <| o_gR 1 5 <| o_ild 1 <| o_ild 2 <| o_sI <| o_ild 3 <| o_rI
set_option maxRecDepth 100000 in
theorem sX8_shift_11 : Sd pX8_shift ev_i 11 (bX8_shift_11) := sd_aload_n dX8_shift_11 rfl <| sd_gR flX8_10 dX8_shift_12 <| sd_gR flX8_130 dX8_shift_15 <| sd_iload_n dX8_shift_18 rfl <| sd_aI dX8_shift_19 <| sd_istore_n dX8_shift_20 rfl (by decide) <| sd_aload_n dX8_shift_21 rfl <| sd_gR flX8_10 dX8_shift_22 <| sd_gR flX8_130 dX8_shift_25 <| sd_iload_n dX8_shift_28 rfl <| sd_iload_n dX8_shift_29 rfl <| sd_sI dX8_shift_30 <| sd_iload_n dX8_shift_31 rfl <| (sd_rI rfl dX8_shift_32)
def bX8_shift_9 : Kt Int32 := o_psh (.int (-1)) <| o_rI
set_option maxRecDepth 100000 in
theorem sX8_shift_9 : Sd pX8_shift ev_i 9 (bX8_shift_9) := sd_iconst dX8_shift_9 rfl <| (sd_rI rfl dX8_shift_10)
def bX8_shift_0 : Kt Int32 := o_ald 0 <| o_ild 1 <| o_ild 2 <| o_vc ev_i 7 3 fX8_isShift <| o_zne bX8_shift_11 <| (o_fg 0 (o_fg 1 (o_fg 2 bX8_shift_9)))
set_option maxRecDepth 100000 in
theorem sX8_shift_0 : Sd pX8_shift ev_i 0 (bX8_shift_0) := sd_aload_n dX8_shift_0 rfl <| sd_iload_n dX8_shift_1 rfl <| sd_iload_n dX8_shift_2 rfl <| sd_vc tX8_isShift (fun _ _ => rfl) rfl mwX8_isShift mvX8_isShift tw_471 (by decide) dX8_shift_3 <| sd_zne (tgt := 11) dX8_shift_6 (by decide) sX8_shift_11 <| (sd_fg (i := 0) (sd_fg (i := 1) (sd_fg (i := 2) sX8_shift_9)))
def fX8_shift : Mt Int32 := mk_f 4 bX8_shift_0
theorem tX8_shift : Ct ev_i yX8_shift cX8_shift 4 (some .int) 3 64 fX8_shift := ct_of (by decide +kernel) sX8_shift_0
abbrev pX8_assign : Px := (cX8_assign, 5, RX8, "assign", (some .int), 3, 68, fun _ => True)
def bX8_assign_45 : Kt Int32 := o_ald 0 <| o_gR 7 0 <| o_gR 1 2 <| o_ild 1 <| o_ild 2 <| o_ild 3 <| o_ild 4 <| o_vc ev_i 5 5 fX6_add <| o_rI
set_option maxRecDepth 100000 in
theorem sX8_assign_45 : Sd pX8_assign ev_i 45 (bX8_assign_45) := sd_aload_n dX8_assign_45 rfl <| sd_gR flX8_10 dX8_assign_46 <| sd_gR flX8_120 dX8_assign_49 <| sd_iload_n dX8_assign_52 rfl <| sd_iload_n dX8_assign_53 rfl <| sd_iload_n dX8_assign_54 rfl <| sd_iload dX8_assign_55 <| sd_vc tX6_add (fun _ _ => rfl) rfl mwX6_add mvX6_add tw_404 (by decide) dX8_assign_57 <| (sd_rI rfl dX8_assign_60)
def bX8_assign_43 : Kt Int32 := o_psh (.int (-1)) <| o_rI
set_option maxRecDepth 100000 in
theorem sX8_assign_43 : Sd pX8_assign ev_i 43 (bX8_assign_43) := sd_iconst dX8_assign_43 rfl <| (sd_rI rfl dX8_assign_44)
def bX8_assign_36 : Kt Int32 := o_ild 4 <| o_psh (.int 9) <| o_cle bX8_assign_45 <| (o_fg 0 (o_fg 1 (o_fg 2 (o_fg 3 (o_fg 4 bX8_assign_43)))))
set_option maxRecDepth 100000 in
theorem sX8_assign_36 : Sd pX8_assign ev_i 36 (bX8_assign_36) := sd_iload dX8_assign_36 <| sd_bipush dX8_assign_38 rfl <| sd_cle (tgt := 45) dX8_assign_40 (by decide) sX8_assign_45 <| (sd_fg (i := 0) (sd_fg (i := 1) (sd_fg (i := 2) (sd_fg (i := 3) (sd_fg (i := 4) sX8_assign_43)))))
def bX8_assign_30 : Kt Int32 := o_ild 4 <| o_psh (.int 1) <| o_clt (o_fg 0 (o_fg 1 (o_fg 2 (o_fg 3 (o_fg 4 bX8_assign_43))))) <| bX8_assign_36
set_option maxRecDepth 100000 in
theorem sX8_assign_30 : Sd pX8_assign ev_i 30 (bX8_assign_30) := sd_iload dX8_assign_30 <| sd_iconst dX8_assign_32 rfl <| sd_clt (tgt := 43) dX8_assign_33 (by decide) (sd_fg (i := 0) (sd_fg (i := 1) (sd_fg (i := 2) (sd_fg (i := 3) (sd_fg (i := 4) sX8_assign_43))))) <| sX8_assign_36
def bX8_assign_25 : Kt Int32 := o_ild 3 <| o_ild 2 <| o_clt (o_fg 0 (o_fg 1 (o_fg 2 (o_fg 3 (o_fg 4 bX8_assign_43))))) <| bX8_assign_30
set_option maxRecDepth 100000 in
theorem sX8_assign_25 : Sd pX8_assign ev_i 25 (bX8_assign_25) := sd_iload_n dX8_assign_25 rfl <| sd_iload_n dX8_assign_26 rfl <| sd_clt (tgt := 43) dX8_assign_27 (by decide) (sd_fg (i := 0) (sd_fg (i := 1) (sd_fg (i := 2) (sd_fg (i := 3) (sd_fg (i := 4) sX8_assign_43))))) <| sX8_assign_30
def bX8_assign_18 : Kt Int32 := o_ild 3 <| o_sc ev_i 1 fX8_isHour <| o_zeq (o_fg 0 (o_fg 1 (o_fg 2 (o_fg 3 (o_fg 4 bX8_assign_43))))) <| bX8_assign_25
set_option maxRecDepth 100000 in
theorem sX8_assign_18 : Sd pX8_assign ev_i 18 (bX8_assign_18) := sd_iload_n dX8_assign_18 rfl <| sd_sc tX8_isHour (fun _ _ => rfl) mwX8_isHour mvX8_isHour tw_455 (by decide) dX8_assign_19 <| sd_zeq (tgt := 43) dX8_assign_22 (by decide) (sd_fg (i := 0) (sd_fg (i := 1) (sd_fg (i := 2) (sd_fg (i := 3) (sd_fg (i := 4) sX8_assign_43))))) <| sX8_assign_25
def bX8_assign_11 : Kt Int32 := o_ild 2 <| o_sc ev_i 1 fX8_isHour <| o_zeq (o_fg 0 (o_fg 1 (o_fg 2 (o_fg 3 (o_fg 4 bX8_assign_43))))) <| bX8_assign_18
set_option maxRecDepth 100000 in
theorem sX8_assign_11 : Sd pX8_assign ev_i 11 (bX8_assign_11) := sd_iload_n dX8_assign_11 rfl <| sd_sc tX8_isHour (fun _ _ => rfl) mwX8_isHour mvX8_isHour tw_455 (by decide) dX8_assign_12 <| sd_zeq (tgt := 43) dX8_assign_15 (by decide) (sd_fg (i := 0) (sd_fg (i := 1) (sd_fg (i := 2) (sd_fg (i := 3) (sd_fg (i := 4) sX8_assign_43))))) <| sX8_assign_18
def bX8_assign_0 : Kt Int32 := o_ald 0 <| o_gR 7 0 <| o_ild 1 <| o_vc ev_i 1 2 fX1_isOne <| o_zeq (o_fg 0 (o_fg 1 (o_fg 2 (o_fg 3 (o_fg 4 bX8_assign_43))))) <| bX8_assign_11
set_option maxRecDepth 100000 in
theorem sX8_assign_0 : Sd pX8_assign ev_i 0 (bX8_assign_0) := sd_aload_n dX8_assign_0 rfl <| sd_gR flX8_10 dX8_assign_1 <| sd_iload_n dX8_assign_4 rfl <| sd_vc tX1_isOne (fun _ _ => rfl) rfl mwX1_isOne mvX1_isOne tw_440 (by decide) dX8_assign_5 <| sd_zeq (tgt := 43) dX8_assign_8 (by decide) (sd_fg (i := 0) (sd_fg (i := 1) (sd_fg (i := 2) (sd_fg (i := 3) (sd_fg (i := 4) sX8_assign_43))))) <| sX8_assign_11
def fX8_assign : Mt Int32 := mk_f 5 bX8_assign_0
theorem tX8_assign : Ct ev_i yX8_assign cX8_assign 5 (some .int) 3 68 fX8_assign := ct_of (by decide +kernel) sX8_assign_0
abbrev pX8_change : Px := (cX8_change, 4, RX8, "change", (some .int), 3, 68, fun _ => True)
def bX8_change_23 : Kt Int32 := o_ald 0 <| o_gR 7 0 <| o_gR 1 1 <| o_ild 1 <| o_ild 2 <| o_ild 3 <| o_psh (.int 0) <| o_vc ev_i 5 5 fX6_add <| o_rI
set_option maxRecDepth 100000 in
theorem sX8_change_23 : Sd pX8_change ev_i 23 (bX8_change_23) := sd_aload_n dX8_change_23 rfl <| sd_gR flX8_10 dX8_change_24 <| sd_gR flX8_117 dX8_change_27 <| sd_iload_n dX8_change_30 rfl <| sd_iload_n dX8_change_31 rfl <| sd_iload_n dX8_change_32 rfl <| sd_iconst dX8_change_33 rfl <| sd_vc tX6_add (fun _ _ => rfl) rfl mwX6_add mvX6_add tw_404 (by decide) dX8_change_34 <| (sd_rI rfl dX8_change_37)
def bX8_change_21 : Kt Int32 := o_psh (.int (-1)) <| o_rI
set_option maxRecDepth 100000 in
theorem sX8_change_21 : Sd pX8_change ev_i 21 (bX8_change_21) := sd_iconst dX8_change_21 rfl <| (sd_rI rfl dX8_change_22)
def bX8_change_14 : Kt Int32 := o_ild 3 <| o_sc ev_i 1 fX8_isValue <| o_zne bX8_change_23 <| (o_fg 0 (o_fg 1 (o_fg 2 (o_fg 3 bX8_change_21))))
set_option maxRecDepth 100000 in
theorem sX8_change_14 : Sd pX8_change ev_i 14 (bX8_change_14) := sd_iload_n dX8_change_14 rfl <| sd_sc tX8_isValue (fun _ _ => rfl) mwX8_isValue mvX8_isValue tw_466 (by decide) dX8_change_15 <| sd_zne (tgt := 23) dX8_change_18 (by decide) sX8_change_23 <| (sd_fg (i := 0) (sd_fg (i := 1) (sd_fg (i := 2) (sd_fg (i := 3) sX8_change_21))))
def bX8_change_7 : Kt Int32 := o_ild 2 <| o_sc ev_i 1 fX8_isThing <| o_zeq (o_fg 0 (o_fg 1 (o_fg 2 (o_fg 3 bX8_change_21)))) <| bX8_change_14
set_option maxRecDepth 100000 in
theorem sX8_change_7 : Sd pX8_change ev_i 7 (bX8_change_7) := sd_iload_n dX8_change_7 rfl <| sd_sc tX8_isThing (fun _ _ => rfl) mwX8_isThing mvX8_isThing tw_452 (by decide) dX8_change_8 <| sd_zeq (tgt := 21) dX8_change_11 (by decide) (sd_fg (i := 0) (sd_fg (i := 1) (sd_fg (i := 2) (sd_fg (i := 3) sX8_change_21)))) <| sX8_change_14
def bX8_change_0 : Kt Int32 := o_ild 1 <| o_sc ev_i 1 fX8_isHour <| o_zeq (o_fg 0 (o_fg 1 (o_fg 2 (o_fg 3 bX8_change_21)))) <| bX8_change_7
set_option maxRecDepth 100000 in
theorem sX8_change_0 : Sd pX8_change ev_i 0 (bX8_change_0) := sd_iload_n dX8_change_0 rfl <| sd_sc tX8_isHour (fun _ _ => rfl) mwX8_isHour mvX8_isHour tw_455 (by decide) dX8_change_1 <| sd_zeq (tgt := 21) dX8_change_4 (by decide) (sd_fg (i := 0) (sd_fg (i := 1) (sd_fg (i := 2) (sd_fg (i := 3) sX8_change_21)))) <| sX8_change_7
def fX8_change : Mt Int32 := mk_f 4 bX8_change_0
theorem tX8_change : Ct ev_i yX8_change cX8_change 4 (some .int) 3 68 fX8_change := ct_of (by decide +kernel) sX8_change_0
abbrev pX8_tell : Px := (cX8_tell, 5, RX8, "tell", (some .int), 3, 68, fun _ => True)
def bX8_tell_44 : Kt Int32 := o_ald 0 <| o_gR 7 0 <| o_gR 1 3 <| o_ild 1 <| o_ild 2 <| o_ild 3 <| o_ild 4 <| o_vc ev_i 5 5 fX6_add <| o_rI
set_option maxRecDepth 100000 in
theorem sX8_tell_44 : Sd pX8_tell ev_i 44 (bX8_tell_44) := sd_aload_n dX8_tell_44 rfl <| sd_gR flX8_10 dX8_tell_45 <| sd_gR flX8_123 dX8_tell_48 <| sd_iload_n dX8_tell_51 rfl <| sd_iload_n dX8_tell_52 rfl <| sd_iload_n dX8_tell_53 rfl <| sd_iload dX8_tell_54 <| sd_vc tX6_add (fun _ _ => rfl) rfl mwX6_add mvX6_add tw_404 (by decide) dX8_tell_56 <| (sd_rI rfl dX8_tell_59)
def bX8_tell_42 : Kt Int32 := o_psh (.int (-1)) <| o_rI
set_option maxRecDepth 100000 in
theorem sX8_tell_42 : Sd pX8_tell ev_i 42 (bX8_tell_42) := sd_iconst dX8_tell_42 rfl <| (sd_rI rfl dX8_tell_43)
def bX8_tell_34 : Kt Int32 := o_ild 4 <| o_sc ev_i 1 fX8_isThing <| o_zne bX8_tell_44 <| (o_fg 0 (o_fg 1 (o_fg 2 (o_fg 3 (o_fg 4 bX8_tell_42)))))
set_option maxRecDepth 100000 in
theorem sX8_tell_34 : Sd pX8_tell ev_i 34 (bX8_tell_34) := sd_iload dX8_tell_34 <| sd_sc tX8_isThing (fun _ _ => rfl) mwX8_isThing mvX8_isThing tw_452 (by decide) dX8_tell_36 <| sd_zne (tgt := 44) dX8_tell_39 (by decide) sX8_tell_44 <| (sd_fg (i := 0) (sd_fg (i := 1) (sd_fg (i := 2) (sd_fg (i := 3) (sd_fg (i := 4) sX8_tell_42)))))
def bX8_tell_29 : Kt Int32 := o_ild 2 <| o_ild 3 <| o_ceq (o_fg 0 (o_fg 1 (o_fg 2 (o_fg 3 (o_fg 4 bX8_tell_42))))) <| bX8_tell_34
set_option maxRecDepth 100000 in
theorem sX8_tell_29 : Sd pX8_tell ev_i 29 (bX8_tell_29) := sd_iload_n dX8_tell_29 rfl <| sd_iload_n dX8_tell_30 rfl <| sd_ceq (tgt := 42) dX8_tell_31 (by decide) (sd_fg (i := 0) (sd_fg (i := 1) (sd_fg (i := 2) (sd_fg (i := 3) (sd_fg (i := 4) sX8_tell_42))))) <| sX8_tell_34
def bX8_tell_18 : Kt Int32 := o_ald 0 <| o_gR 7 0 <| o_ild 3 <| o_vc ev_i 1 2 fX1_isOne <| o_zeq (o_fg 0 (o_fg 1 (o_fg 2 (o_fg 3 (o_fg 4 bX8_tell_42))))) <| bX8_tell_29
set_option maxRecDepth 100000 in
theorem sX8_tell_18 : Sd pX8_tell ev_i 18 (bX8_tell_18) := sd_aload_n dX8_tell_18 rfl <| sd_gR flX8_10 dX8_tell_19 <| sd_iload_n dX8_tell_22 rfl <| sd_vc tX1_isOne (fun _ _ => rfl) rfl mwX1_isOne mvX1_isOne tw_440 (by decide) dX8_tell_23 <| sd_zeq (tgt := 42) dX8_tell_26 (by decide) (sd_fg (i := 0) (sd_fg (i := 1) (sd_fg (i := 2) (sd_fg (i := 3) (sd_fg (i := 4) sX8_tell_42))))) <| sX8_tell_29
def bX8_tell_7 : Kt Int32 := o_ald 0 <| o_gR 7 0 <| o_ild 2 <| o_vc ev_i 1 2 fX1_isOne <| o_zeq (o_fg 0 (o_fg 1 (o_fg 2 (o_fg 3 (o_fg 4 bX8_tell_42))))) <| bX8_tell_18
set_option maxRecDepth 100000 in
theorem sX8_tell_7 : Sd pX8_tell ev_i 7 (bX8_tell_7) := sd_aload_n dX8_tell_7 rfl <| sd_gR flX8_10 dX8_tell_8 <| sd_iload_n dX8_tell_11 rfl <| sd_vc tX1_isOne (fun _ _ => rfl) rfl mwX1_isOne mvX1_isOne tw_440 (by decide) dX8_tell_12 <| sd_zeq (tgt := 42) dX8_tell_15 (by decide) (sd_fg (i := 0) (sd_fg (i := 1) (sd_fg (i := 2) (sd_fg (i := 3) (sd_fg (i := 4) sX8_tell_42))))) <| sX8_tell_18
def bX8_tell_0 : Kt Int32 := o_ild 1 <| o_sc ev_i 1 fX8_isHour <| o_zeq (o_fg 0 (o_fg 1 (o_fg 2 (o_fg 3 (o_fg 4 bX8_tell_42))))) <| bX8_tell_7
set_option maxRecDepth 100000 in
theorem sX8_tell_0 : Sd pX8_tell ev_i 0 (bX8_tell_0) := sd_iload_n dX8_tell_0 rfl <| sd_sc tX8_isHour (fun _ _ => rfl) mwX8_isHour mvX8_isHour tw_455 (by decide) dX8_tell_1 <| sd_zeq (tgt := 42) dX8_tell_4 (by decide) (sd_fg (i := 0) (sd_fg (i := 1) (sd_fg (i := 2) (sd_fg (i := 3) (sd_fg (i := 4) sX8_tell_42))))) <| sX8_tell_7
def fX8_tell : Mt Int32 := mk_f 5 bX8_tell_0
theorem tX8_tell : Ct ev_i yX8_tell cX8_tell 5 (some .int) 3 68 fX8_tell := ct_of (by decide +kernel) sX8_tell_0
abbrev pX8_drop : Px := (cX8_drop, 3, RX8, "drop", (some .int), 1, 22, fun _ => True)
def bX8_drop_64 : Kt Int32 := o_psh (.int (-1)) <| o_rI
set_option maxRecDepth 100000 in
theorem sX8_drop_64 : Sd pX8_drop ev_i 64 (bX8_drop_64) := sd_iconst dX8_drop_64 rfl <| (sd_rI rfl dX8_drop_65)
def bX8_drop_52 : Kt Int32 := o_ald 0 <| o_gR 7 0 <| o_gR 1 3 <| o_ild 2 <| o_vc ev_i 5 2 fX6_cutTo <| o_rI
set_option maxRecDepth 100000 in
theorem sX8_drop_52 : Sd pX8_drop ev_i 52 (bX8_drop_52) := sd_aload_n dX8_drop_52 rfl <| sd_gR flX8_10 dX8_drop_53 <| sd_gR flX8_123 dX8_drop_56 <| sd_iload_n dX8_drop_59 rfl <| sd_vc tX6_cutTo (fun _ _ => rfl) rfl mwX6_cutTo mvX6_cutTo tw_408 (by decide) dX8_drop_60 <| (sd_rI rfl dX8_drop_63)
def bX8_drop_40 : Kt Int32 := o_ald 0 <| o_gR 7 0 <| o_gR 1 2 <| o_ild 2 <| o_vc ev_i 5 2 fX6_cutTo <| o_rI
set_option maxRecDepth 100000 in
theorem sX8_drop_40 : Sd pX8_drop ev_i 40 (bX8_drop_40) := sd_aload_n dX8_drop_40 rfl <| sd_gR flX8_10 dX8_drop_41 <| sd_gR flX8_120 dX8_drop_44 <| sd_iload_n dX8_drop_47 rfl <| sd_vc tX6_cutTo (fun _ _ => rfl) rfl mwX6_cutTo mvX6_cutTo tw_408 (by decide) dX8_drop_48 <| (sd_rI rfl dX8_drop_51)
def bX8_drop_28 : Kt Int32 := o_ald 0 <| o_gR 7 0 <| o_gR 1 1 <| o_ild 2 <| o_vc ev_i 5 2 fX6_cutTo <| o_rI
set_option maxRecDepth 100000 in
theorem sX8_drop_28 : Sd pX8_drop ev_i 28 (bX8_drop_28) := sd_aload_n dX8_drop_28 rfl <| sd_gR flX8_10 dX8_drop_29 <| sd_gR flX8_117 dX8_drop_32 <| sd_iload_n dX8_drop_35 rfl <| sd_vc tX6_cutTo (fun _ _ => rfl) rfl mwX6_cutTo mvX6_cutTo tw_408 (by decide) dX8_drop_36 <| (sd_rI rfl dX8_drop_39)
def bX8_drop_0 : Kt Int32 := o_ild 1 <| o_sw [(1, (o_fg 1 bX8_drop_28)), (2, (o_fg 1 bX8_drop_40)), (3, (o_fg 1 bX8_drop_52))] (o_fg 0 (o_fg 1 (o_fg 2 bX8_drop_64)))
set_option maxRecDepth 100000 in
theorem sX8_drop_0 : Sd pX8_drop ev_i 0 (bX8_drop_0) := sd_iload_n dX8_drop_0 rfl <| (sd_tsw (td := 64) dX8_drop_1 (by decide) rfl (sd_fg (i := 0) (sd_fg (i := 1) (sd_fg (i := 2) sX8_drop_64))) ⟨⟨rfl, 28, by decide, (sd_fg (i := 1) sX8_drop_28)⟩, ⟨rfl, 40, by decide, (sd_fg (i := 1) sX8_drop_40)⟩, ⟨rfl, 52, by decide, (sd_fg (i := 1) sX8_drop_52)⟩, trivial⟩)
def fX8_drop : Mt Int32 := mk_f 3 bX8_drop_0
theorem tX8_drop : Ct ev_i yX8_drop cX8_drop 3 (some .int) 1 22 fX8_drop := ct_of (by decide +kernel) sX8_drop_0
abbrev pX8_sees : Px := (cX8_sees, 2, RX8, "sees", (some .int), 3, 68, fun _ => True)
def bX8_sees_26 : Kt Int32 := o_rI
set_option maxRecDepth 100000 in
theorem sX8_sees_26 : Sd pX8_sees ev_i 26 (bX8_sees_26) := (sd_rI rfl dX8_sees_26)
def bX8_sees_25 : Kt Int32 := o_psh (.int (-1)) <| bX8_sees_26
set_option maxRecDepth 100000 in
theorem sX8_sees_25 : Sd pX8_sees ev_i 25 (bX8_sees_25) := sd_iconst dX8_sees_25 rfl <| sX8_sees_26
def bX8_sees_7 : Kt Int32 := o_ald 0 <| o_gR 7 0 <| o_ald 0 <| o_gR 7 0 <| o_gR 1 5 <| o_ild 1 <| o_sc ev_i 3 fX7_seerIn <| (o_fg 0 (o_fg 1 bX8_sees_26))
set_option maxRecDepth 100000 in
theorem sX8_sees_7 : Sd pX8_sees ev_i 7 (bX8_sees_7) := sd_aload_n dX8_sees_7 rfl <| sd_gR flX8_10 dX8_sees_8 <| sd_aload_n dX8_sees_11 rfl <| sd_gR flX8_10 dX8_sees_12 <| sd_gR flX8_130 dX8_sees_15 <| sd_iload_n dX8_sees_18 rfl <| sd_sc tX7_seerIn (fun _ _ => rfl) mwX7_seerIn mvX7_seerIn tw_472 (by decide) dX8_sees_19 <| (sd_goto (tgt := 26) dX8_sees_22 (by decide) (sd_fg (i := 0) (sd_fg (i := 1) sX8_sees_26)))
def bX8_sees_0 : Kt Int32 := o_ild 1 <| o_sc ev_i 1 fX8_isHour <| o_zeq (o_fg 0 (o_fg 1 bX8_sees_25)) <| bX8_sees_7
set_option maxRecDepth 100000 in
theorem sX8_sees_0 : Sd pX8_sees ev_i 0 (bX8_sees_0) := sd_iload_n dX8_sees_0 rfl <| sd_sc tX8_isHour (fun _ _ => rfl) mwX8_isHour mvX8_isHour tw_455 (by decide) dX8_sees_1 <| sd_zeq (tgt := 25) dX8_sees_4 (by decide) (sd_fg (i := 0) (sd_fg (i := 1) sX8_sees_25)) <| sX8_sees_7
def fX8_sees : Mt Int32 := mk_f 2 bX8_sees_0
theorem tX8_sees : Ct ev_i yX8_sees cX8_sees 2 (some .int) 3 68 fX8_sees := ct_of (by decide +kernel) sX8_sees_0
abbrev pX8_belief : Px := (cX8_belief, 5, RX8, "belief", (some .int), 5, 117, fun _ => True)
def bX8_belief_81 : Kt Int32 := o_rI
set_option maxRecDepth 100000 in
theorem sX8_belief_81 : Sd pX8_belief ev_i 81 (bX8_belief_81) := (sd_rI rfl dX8_belief_81)
def bX8_belief_71 : Kt Int32 := o_ald 0 <| o_gR 7 8 <| o_ild 1 <| o_ild 2 <| o_ild 3 <| o_vc ev_i 0 4 fX0_ageOf <| (o_fg 0 (o_fg 1 (o_fg 2 (o_fg 3 bX8_belief_81))))
set_option maxRecDepth 100000 in
theorem sX8_belief_71 : Sd pX8_belief ev_i 71 (bX8_belief_71) := sd_aload_n dX8_belief_71 rfl <| sd_gR flX8_61 dX8_belief_72 <| sd_iload_n dX8_belief_75 rfl <| sd_iload_n dX8_belief_76 rfl <| sd_iload_n dX8_belief_77 rfl <| sd_vc tX0_ageOf (fun _ _ => rfl) rfl mwX0_ageOf mvX0_ageOf tw_478 (by decide) dX8_belief_78 <| (sd_fg (i := 0) (sd_fg (i := 1) (sd_fg (i := 2) (sd_fg (i := 3) sX8_belief_81))))
def bX8_belief_58 : Kt Int32 := o_ald 0 <| o_gR 7 8 <| o_ild 1 <| o_ild 2 <| o_ild 3 <| o_vc ev_i 0 4 fX0_valueOf <| (o_fg 0 (o_fg 1 (o_fg 2 (o_fg 3 bX8_belief_81))))
set_option maxRecDepth 100000 in
theorem sX8_belief_58 : Sd pX8_belief ev_i 58 (bX8_belief_58) := sd_aload_n dX8_belief_58 rfl <| sd_gR flX8_61 dX8_belief_59 <| sd_iload_n dX8_belief_62 rfl <| sd_iload_n dX8_belief_63 rfl <| sd_iload_n dX8_belief_64 rfl <| sd_vc tX0_valueOf (fun _ _ => rfl) rfl mwX0_valueOf mvX0_valueOf tw_477 (by decide) dX8_belief_65 <| (sd_goto (tgt := 81) dX8_belief_68 (by decide) (sd_fg (i := 0) (sd_fg (i := 1) (sd_fg (i := 2) (sd_fg (i := 3) sX8_belief_81)))))
def bX8_belief_35 : Kt Int32 := o_ald 0 <| o_gR 7 8 <| o_ald 0 <| o_gR 7 0 <| o_ald 0 <| o_gR 7 0 <| o_gR 1 5 <| o_vc ev_v 0 3 fX0_live <| o_ild 4 <| o_zne (o_fg 4 bX8_belief_71) <| (o_fg 4 bX8_belief_58)
set_option maxRecDepth 100000 in
theorem sX8_belief_35 : Sd pX8_belief ev_i 35 (bX8_belief_35) := sd_aload_n dX8_belief_35 rfl <| sd_gR flX8_61 dX8_belief_36 <| sd_aload_n dX8_belief_39 rfl <| sd_gR flX8_10 dX8_belief_40 <| sd_aload_n dX8_belief_43 rfl <| sd_gR flX8_10 dX8_belief_44 <| sd_gR flX8_130 dX8_belief_47 <| sd_vc tX0_live (fun _ _ => rfl) rfl mwX0_live mvX0_live tw_476 (by decide) dX8_belief_50 <| sd_iload dX8_belief_53 <| sd_zne (tgt := 71) dX8_belief_55 (by decide) (sd_fg (i := 4) sX8_belief_71) <| (sd_fg (i := 4) sX8_belief_58)
def bX8_belief_33 : Kt Int32 := o_psh (.int (-1)) <| o_rI
set_option maxRecDepth 100000 in
theorem sX8_belief_33 : Sd pX8_belief ev_i 33 (bX8_belief_33) := sd_iconst dX8_belief_33 rfl <| (sd_rI rfl dX8_belief_34)
def bX8_belief_25 : Kt Int32 := o_ild 4 <| o_sc ev_i 1 fX8_isFlag <| o_zne bX8_belief_35 <| (o_fg 0 (o_fg 1 (o_fg 2 (o_fg 3 (o_fg 4 bX8_belief_33)))))
set_option maxRecDepth 100000 in
theorem sX8_belief_25 : Sd pX8_belief ev_i 25 (bX8_belief_25) := sd_iload dX8_belief_25 <| sd_sc tX8_isFlag (fun _ _ => rfl) mwX8_isFlag mvX8_isFlag tw_462 (by decide) dX8_belief_27 <| sd_zne (tgt := 35) dX8_belief_30 (by decide) sX8_belief_35 <| (sd_fg (i := 0) (sd_fg (i := 1) (sd_fg (i := 2) (sd_fg (i := 3) (sd_fg (i := 4) sX8_belief_33)))))
def bX8_belief_18 : Kt Int32 := o_ild 3 <| o_sc ev_i 1 fX8_isHour <| o_zeq (o_fg 0 (o_fg 1 (o_fg 2 (o_fg 3 (o_fg 4 bX8_belief_33))))) <| bX8_belief_25
set_option maxRecDepth 100000 in
theorem sX8_belief_18 : Sd pX8_belief ev_i 18 (bX8_belief_18) := sd_iload_n dX8_belief_18 rfl <| sd_sc tX8_isHour (fun _ _ => rfl) mwX8_isHour mvX8_isHour tw_455 (by decide) dX8_belief_19 <| sd_zeq (tgt := 33) dX8_belief_22 (by decide) (sd_fg (i := 0) (sd_fg (i := 1) (sd_fg (i := 2) (sd_fg (i := 3) (sd_fg (i := 4) sX8_belief_33))))) <| sX8_belief_25
def bX8_belief_11 : Kt Int32 := o_ild 2 <| o_sc ev_i 1 fX8_isThing <| o_zeq (o_fg 0 (o_fg 1 (o_fg 2 (o_fg 3 (o_fg 4 bX8_belief_33))))) <| bX8_belief_18
set_option maxRecDepth 100000 in
theorem sX8_belief_11 : Sd pX8_belief ev_i 11 (bX8_belief_11) := sd_iload_n dX8_belief_11 rfl <| sd_sc tX8_isThing (fun _ _ => rfl) mwX8_isThing mvX8_isThing tw_452 (by decide) dX8_belief_12 <| sd_zeq (tgt := 33) dX8_belief_15 (by decide) (sd_fg (i := 0) (sd_fg (i := 1) (sd_fg (i := 2) (sd_fg (i := 3) (sd_fg (i := 4) sX8_belief_33))))) <| sX8_belief_18
def bX8_belief_0 : Kt Int32 := o_ald 0 <| o_gR 7 0 <| o_ild 1 <| o_vc ev_i 1 2 fX1_isOne <| o_zeq (o_fg 0 (o_fg 1 (o_fg 2 (o_fg 3 (o_fg 4 bX8_belief_33))))) <| bX8_belief_11
set_option maxRecDepth 100000 in
theorem sX8_belief_0 : Sd pX8_belief ev_i 0 (bX8_belief_0) := sd_aload_n dX8_belief_0 rfl <| sd_gR flX8_10 dX8_belief_1 <| sd_iload_n dX8_belief_4 rfl <| sd_vc tX1_isOne (fun _ _ => rfl) rfl mwX1_isOne mvX1_isOne tw_440 (by decide) dX8_belief_5 <| sd_zeq (tgt := 33) dX8_belief_8 (by decide) (sd_fg (i := 0) (sd_fg (i := 1) (sd_fg (i := 2) (sd_fg (i := 3) (sd_fg (i := 4) sX8_belief_33))))) <| sX8_belief_11
def fX8_belief : Mt Int32 := mk_f 5 bX8_belief_0
theorem tX8_belief : Ct ev_i yX8_belief cX8_belief 5 (some .int) 5 117 fX8_belief := ct_of (by decide +kernel) sX8_belief_0
abbrev pX8_right : Px := (cX8_right, 4, RX8, "right", (some .int), 5, 117, fun _ => True)
def bX8_right_74 : Kt Int32 := o_rI
set_option maxRecDepth 100000 in
theorem sX8_right_74 : Sd pX8_right ev_i 74 (bX8_right_74) := (sd_rI rfl dX8_right_74)
def bX8_right_61 : Kt Int32 := o_ald 0 <| o_gR 7 8 <| o_ald 0 <| o_gR 7 0 <| o_ild 1 <| o_ild 2 <| o_vc ev_i 0 4 fX0_wrongOnes <| (o_fg 0 (o_fg 1 (o_fg 2 bX8_right_74)))
set_option maxRecDepth 100000 in
theorem sX8_right_61 : Sd pX8_right ev_i 61 (bX8_right_61) := sd_aload_n dX8_right_61 rfl <| sd_gR flX8_61 dX8_right_62 <| sd_aload_n dX8_right_65 rfl <| sd_gR flX8_10 dX8_right_66 <| sd_iload_n dX8_right_69 rfl <| sd_iload_n dX8_right_70 rfl <| sd_vc tX0_wrongOnes (fun _ _ => rfl) rfl mwX0_wrongOnes mvX0_wrongOnes tw_486 (by decide) dX8_right_71 <| (sd_fg (i := 0) (sd_fg (i := 1) (sd_fg (i := 2) sX8_right_74)))
def bX8_right_45 : Kt Int32 := o_ald 0 <| o_gR 7 8 <| o_ald 0 <| o_gR 7 0 <| o_ild 1 <| o_ild 2 <| o_vc ev_i 0 4 fX0_rightOnes <| (o_fg 0 (o_fg 1 (o_fg 2 bX8_right_74)))
set_option maxRecDepth 100000 in
theorem sX8_right_45 : Sd pX8_right ev_i 45 (bX8_right_45) := sd_aload_n dX8_right_45 rfl <| sd_gR flX8_61 dX8_right_46 <| sd_aload_n dX8_right_49 rfl <| sd_gR flX8_10 dX8_right_50 <| sd_iload_n dX8_right_53 rfl <| sd_iload_n dX8_right_54 rfl <| sd_vc tX0_rightOnes (fun _ _ => rfl) rfl mwX0_rightOnes mvX0_rightOnes tw_482 (by decide) dX8_right_55 <| (sd_goto (tgt := 74) dX8_right_58 (by decide) (sd_fg (i := 0) (sd_fg (i := 1) (sd_fg (i := 2) sX8_right_74))))
def bX8_right_23 : Kt Int32 := o_ald 0 <| o_gR 7 8 <| o_ald 0 <| o_gR 7 0 <| o_ald 0 <| o_gR 7 0 <| o_gR 1 5 <| o_vc ev_v 0 3 fX0_live <| o_ild 3 <| o_zne (o_fg 3 bX8_right_61) <| (o_fg 3 bX8_right_45)
set_option maxRecDepth 100000 in
theorem sX8_right_23 : Sd pX8_right ev_i 23 (bX8_right_23) := sd_aload_n dX8_right_23 rfl <| sd_gR flX8_61 dX8_right_24 <| sd_aload_n dX8_right_27 rfl <| sd_gR flX8_10 dX8_right_28 <| sd_aload_n dX8_right_31 rfl <| sd_gR flX8_10 dX8_right_32 <| sd_gR flX8_130 dX8_right_35 <| sd_vc tX0_live (fun _ _ => rfl) rfl mwX0_live mvX0_live tw_476 (by decide) dX8_right_38 <| sd_iload_n dX8_right_41 rfl <| sd_zne (tgt := 61) dX8_right_42 (by decide) (sd_fg (i := 3) sX8_right_61) <| (sd_fg (i := 3) sX8_right_45)
def bX8_right_21 : Kt Int32 := o_psh (.int (-1)) <| o_rI
set_option maxRecDepth 100000 in
theorem sX8_right_21 : Sd pX8_right ev_i 21 (bX8_right_21) := sd_iconst dX8_right_21 rfl <| (sd_rI rfl dX8_right_22)
def bX8_right_14 : Kt Int32 := o_ild 3 <| o_sc ev_i 1 fX8_isFlag <| o_zne bX8_right_23 <| (o_fg 0 (o_fg 1 (o_fg 2 (o_fg 3 bX8_right_21))))
set_option maxRecDepth 100000 in
theorem sX8_right_14 : Sd pX8_right ev_i 14 (bX8_right_14) := sd_iload_n dX8_right_14 rfl <| sd_sc tX8_isFlag (fun _ _ => rfl) mwX8_isFlag mvX8_isFlag tw_462 (by decide) dX8_right_15 <| sd_zne (tgt := 23) dX8_right_18 (by decide) sX8_right_23 <| (sd_fg (i := 0) (sd_fg (i := 1) (sd_fg (i := 2) (sd_fg (i := 3) sX8_right_21))))
def bX8_right_7 : Kt Int32 := o_ild 2 <| o_sc ev_i 1 fX8_isHour <| o_zeq (o_fg 0 (o_fg 1 (o_fg 2 (o_fg 3 bX8_right_21)))) <| bX8_right_14
set_option maxRecDepth 100000 in
theorem sX8_right_7 : Sd pX8_right ev_i 7 (bX8_right_7) := sd_iload_n dX8_right_7 rfl <| sd_sc tX8_isHour (fun _ _ => rfl) mwX8_isHour mvX8_isHour tw_455 (by decide) dX8_right_8 <| sd_zeq (tgt := 21) dX8_right_11 (by decide) (sd_fg (i := 0) (sd_fg (i := 1) (sd_fg (i := 2) (sd_fg (i := 3) sX8_right_21)))) <| sX8_right_14
def bX8_right_0 : Kt Int32 := o_ild 1 <| o_sc ev_i 1 fX8_isThing <| o_zeq (o_fg 0 (o_fg 1 (o_fg 2 (o_fg 3 bX8_right_21)))) <| bX8_right_7
set_option maxRecDepth 100000 in
theorem sX8_right_0 : Sd pX8_right ev_i 0 (bX8_right_0) := sd_iload_n dX8_right_0 rfl <| sd_sc tX8_isThing (fun _ _ => rfl) mwX8_isThing mvX8_isThing tw_452 (by decide) dX8_right_1 <| sd_zeq (tgt := 21) dX8_right_4 (by decide) (sd_fg (i := 0) (sd_fg (i := 1) (sd_fg (i := 2) (sd_fg (i := 3) sX8_right_21)))) <| sX8_right_7
def fX8_right : Mt Int32 := mk_f 4 bX8_right_0
theorem tX8_right : Ct ev_i yX8_right cX8_right 4 (some .int) 5 117 fX8_right := ct_of (by decide +kernel) sX8_right_0
abbrev pX8_wrong : Px := (cX8_wrong, 4, RX8, "wrong", (some .int), 5, 117, fun _ => True)
def bX8_wrong_74 : Kt Int32 := o_psh (.int (-4)) <| o_rI
set_option maxRecDepth 100000 in
theorem sX8_wrong_74 : Sd pX8_wrong ev_i 74 (bX8_wrong_74) := sd_bipush dX8_wrong_74 rfl <| (sd_rI rfl dX8_wrong_76)
def bX8_wrong_68 (K40 : Kt Int32) : Kt Int32 := o_inc 3 1 <| K40
set_option maxRecDepth 100000 in
theorem sX8_wrong_68 {K40 : Kt Int32} (h40 : Sd pX8_wrong ev_i 40 K40) : Sd pX8_wrong ev_i 68 (bX8_wrong_68 K40) := sd_iinc dX8_wrong_68 rfl (by decide) <| (sd_goto (tgt := 40) dX8_wrong_71 (by decide) h40)
def bX8_wrong_66 (K40 : Kt Int32) : Kt Int32 := o_ild 3 <| o_rI
set_option maxRecDepth 100000 in
theorem sX8_wrong_66 {K40 : Kt Int32} (h40 : Sd pX8_wrong ev_i 40 K40) : Sd pX8_wrong ev_i 66 (bX8_wrong_66 K40) := sd_iload_n dX8_wrong_66 rfl <| (sd_rI rfl dX8_wrong_67)
def bX8_wrong_46 (K40 : Kt Int32) : Kt Int32 := o_ald 0 <| o_gR 7 8 <| o_ald 0 <| o_gR 7 0 <| o_ild 2 <| o_ild 3 <| o_vc ev_i 0 4 fX0_wrongOnes <| o_psh (.int 1) <| o_ild 1 <| o_i2 o_shl <| o_i2 o_and <| o_zeq (bX8_wrong_68 K40) <| (o_fg 0 (o_fg 1 (o_fg 2 (bX8_wrong_66 K40))))
set_option maxRecDepth 100000 in
theorem sX8_wrong_46 {K40 : Kt Int32} (h40 : Sd pX8_wrong ev_i 40 K40) : Sd pX8_wrong ev_i 46 (bX8_wrong_46 K40) := sd_aload_n dX8_wrong_46 rfl <| sd_gR flX8_61 dX8_wrong_47 <| sd_aload_n dX8_wrong_50 rfl <| sd_gR flX8_10 dX8_wrong_51 <| sd_iload_n dX8_wrong_54 rfl <| sd_iload_n dX8_wrong_55 rfl <| sd_vc tX0_wrongOnes (fun _ _ => rfl) rfl mwX0_wrongOnes mvX0_wrongOnes tw_486 (by decide) dX8_wrong_56 <| sd_iconst dX8_wrong_59 rfl <| sd_iload_n dX8_wrong_60 rfl <| sd_ishl dX8_wrong_61 <| sd_iand dX8_wrong_62 <| sd_zeq (tgt := 68) dX8_wrong_63 (by decide) (sX8_wrong_68 h40) <| (sd_fg (i := 0) (sd_fg (i := 1) (sd_fg (i := 2) (sX8_wrong_66 h40))))
def bX8_wrong_40 (K40 : Kt Int32) : Kt Int32 := o_ild 3 <| o_psh (.int 10) <| o_cge (o_fg 0 (o_fg 1 (o_fg 2 (o_fg 3 bX8_wrong_74)))) <| (bX8_wrong_46 K40)
set_option maxRecDepth 100000 in
theorem sX8_wrong_40 {K40 : Kt Int32} (h40 : Sd pX8_wrong ev_i 40 K40) : Sd pX8_wrong ev_i 40 (bX8_wrong_40 K40) := sd_iload_n dX8_wrong_40 rfl <| sd_bipush dX8_wrong_41 rfl <| sd_cge (tgt := 74) dX8_wrong_43 (by decide) (sd_fg (i := 0) (sd_fg (i := 1) (sd_fg (i := 2) (sd_fg (i := 3) sX8_wrong_74)))) <| (sX8_wrong_46 h40)
def bX8_wrong_20 : Kt Int32 := o_ald 0 <| o_gR 7 8 <| o_ald 0 <| o_gR 7 0 <| o_ald 0 <| o_gR 7 0 <| o_gR 1 5 <| o_vc ev_v 0 3 fX0_live <| o_psh (.int 0) <| o_ist 3 <| (o_lp (bX8_wrong_40) fu)
set_option maxRecDepth 100000 in
theorem sX8_wrong_20 : Sd pX8_wrong ev_i 20 (bX8_wrong_20) := sd_aload_n dX8_wrong_20 rfl <| sd_gR flX8_61 dX8_wrong_21 <| sd_aload_n dX8_wrong_24 rfl <| sd_gR flX8_10 dX8_wrong_25 <| sd_aload_n dX8_wrong_28 rfl <| sd_gR flX8_10 dX8_wrong_29 <| sd_gR flX8_130 dX8_wrong_32 <| sd_vc tX0_live (fun _ _ => rfl) rfl mwX0_live mvX0_live tw_476 (by decide) dX8_wrong_35 <| sd_iconst dX8_wrong_38 rfl <| sd_istore_n dX8_wrong_39 rfl (by decide) <| (sd_lp (fun K h => sX8_wrong_40 h) fu)
def bX8_wrong_18 : Kt Int32 := o_psh (.int (-1)) <| o_rI
set_option maxRecDepth 100000 in
theorem sX8_wrong_18 : Sd pX8_wrong ev_i 18 (bX8_wrong_18) := sd_iconst dX8_wrong_18 rfl <| (sd_rI rfl dX8_wrong_19)
def bX8_wrong_11 : Kt Int32 := o_ild 2 <| o_sc ev_i 1 fX8_isThing <| o_zne bX8_wrong_20 <| (o_fg 0 (o_fg 1 (o_fg 2 bX8_wrong_18)))
set_option maxRecDepth 100000 in
theorem sX8_wrong_11 : Sd pX8_wrong ev_i 11 (bX8_wrong_11) := sd_iload_n dX8_wrong_11 rfl <| sd_sc tX8_isThing (fun _ _ => rfl) mwX8_isThing mvX8_isThing tw_452 (by decide) dX8_wrong_12 <| sd_zne (tgt := 20) dX8_wrong_15 (by decide) sX8_wrong_20 <| (sd_fg (i := 0) (sd_fg (i := 1) (sd_fg (i := 2) sX8_wrong_18)))
def bX8_wrong_0 : Kt Int32 := o_ald 0 <| o_gR 7 0 <| o_ild 1 <| o_vc ev_i 1 2 fX1_isOne <| o_zeq (o_fg 0 (o_fg 1 (o_fg 2 bX8_wrong_18))) <| bX8_wrong_11
set_option maxRecDepth 100000 in
theorem sX8_wrong_0 : Sd pX8_wrong ev_i 0 (bX8_wrong_0) := sd_aload_n dX8_wrong_0 rfl <| sd_gR flX8_10 dX8_wrong_1 <| sd_iload_n dX8_wrong_4 rfl <| sd_vc tX1_isOne (fun _ _ => rfl) rfl mwX1_isOne mvX1_isOne tw_440 (by decide) dX8_wrong_5 <| sd_zeq (tgt := 18) dX8_wrong_8 (by decide) (sd_fg (i := 0) (sd_fg (i := 1) (sd_fg (i := 2) sX8_wrong_18))) <| sX8_wrong_11
def fX8_wrong : Mt Int32 := mk_f 4 bX8_wrong_0
theorem tX8_wrong : Ct ev_i yX8_wrong cX8_wrong 4 (some .int) 5 117 fX8_wrong := ct_of (by decide +kernel) sX8_wrong_0
abbrev pX8_done : Px := (cX8_done, 2, RX8, "done", (some .int), 4, 92, fun _ => True)
def bX8_done_56 : Kt Int32 := o_rI
set_option maxRecDepth 100000 in
theorem sX8_done_56 : Sd pX8_done ev_i 56 (bX8_done_56) := (sd_rI rfl dX8_done_56)
def bX8_done_45 : Kt Int32 := o_ald 0 <| o_gR 7 7 <| o_ald 0 <| o_gR 7 0 <| o_vc ev_i 6 2 fX7_doneWorth <| (o_fg 0 bX8_done_56)
set_option maxRecDepth 100000 in
theorem sX8_done_45 : Sd pX8_done ev_i 45 (bX8_done_45) := sd_aload_n dX8_done_45 rfl <| sd_gR flX8_54 dX8_done_46 <| sd_aload_n dX8_done_49 rfl <| sd_gR flX8_10 dX8_done_50 <| sd_vc tX7_doneWorth (fun _ _ => rfl) rfl mwX7_doneWorth mvX7_doneWorth tw_494 (by decide) dX8_done_53 <| (sd_fg (i := 0) sX8_done_56)
def bX8_done_31 : Kt Int32 := o_ald 0 <| o_gR 7 7 <| o_ald 0 <| o_gR 7 0 <| o_vc ev_i 6 2 fX7_donePieces <| (o_fg 0 bX8_done_56)
set_option maxRecDepth 100000 in
theorem sX8_done_31 : Sd pX8_done ev_i 31 (bX8_done_31) := sd_aload_n dX8_done_31 rfl <| sd_gR flX8_54 dX8_done_32 <| sd_aload_n dX8_done_35 rfl <| sd_gR flX8_10 dX8_done_36 <| sd_vc tX7_donePieces (fun _ _ => rfl) rfl mwX7_donePieces mvX7_donePieces tw_490 (by decide) dX8_done_39 <| (sd_goto (tgt := 56) dX8_done_42 (by decide) (sd_fg (i := 0) sX8_done_56))
def bX8_done_9 : Kt Int32 := o_ald 0 <| o_gR 7 7 <| o_ald 0 <| o_gR 7 0 <| o_ald 0 <| o_gR 7 0 <| o_gR 1 5 <| o_vc ev_v 6 3 fX7_look <| o_ild 1 <| o_zne (o_fg 1 bX8_done_45) <| (o_fg 1 bX8_done_31)
set_option maxRecDepth 100000 in
theorem sX8_done_9 : Sd pX8_done ev_i 9 (bX8_done_9) := sd_aload_n dX8_done_9 rfl <| sd_gR flX8_54 dX8_done_10 <| sd_aload_n dX8_done_13 rfl <| sd_gR flX8_10 dX8_done_14 <| sd_aload_n dX8_done_17 rfl <| sd_gR flX8_10 dX8_done_18 <| sd_gR flX8_130 dX8_done_21 <| sd_vc tX7_look (fun _ _ => rfl) rfl mwX7_look mvX7_look tw_435 (by decide) dX8_done_24 <| sd_iload_n dX8_done_27 rfl <| sd_zne (tgt := 45) dX8_done_28 (by decide) (sd_fg (i := 1) sX8_done_45) <| (sd_fg (i := 1) sX8_done_31)
def bX8_done_7 : Kt Int32 := o_psh (.int (-1)) <| o_rI
set_option maxRecDepth 100000 in
theorem sX8_done_7 : Sd pX8_done ev_i 7 (bX8_done_7) := sd_iconst dX8_done_7 rfl <| (sd_rI rfl dX8_done_8)
def bX8_done_0 : Kt Int32 := o_ild 1 <| o_sc ev_i 1 fX8_isFlag <| o_zne bX8_done_9 <| (o_fg 0 (o_fg 1 bX8_done_7))
set_option maxRecDepth 100000 in
theorem sX8_done_0 : Sd pX8_done ev_i 0 (bX8_done_0) := sd_iload_n dX8_done_0 rfl <| sd_sc tX8_isFlag (fun _ _ => rfl) mwX8_isFlag mvX8_isFlag tw_462 (by decide) dX8_done_1 <| sd_zne (tgt := 9) dX8_done_4 (by decide) sX8_done_9 <| (sd_fg (i := 0) (sd_fg (i := 1) sX8_done_7))
def fX8_done : Mt Int32 := mk_f 2 bX8_done_0
theorem tX8_done : Ct ev_i yX8_done cX8_done 2 (some .int) 4 92 fX8_done := ct_of (by decide +kernel) sX8_done_0
abbrev pX8_best : Px := (cX8_best, 2, RX8, "best", (some .int), 5, 125, fun _ => True)
def bX8_best_55 : Kt Int32 := o_rI
set_option maxRecDepth 100000 in
theorem sX8_best_55 : Sd pX8_best ev_i 55 (bX8_best_55) := (sd_rI rfl dX8_best_55)
def bX8_best_43 : Kt Int32 := o_ald 0 <| o_gR 7 9 <| o_gR 3 2 <| o_ild 1 <| o_psh (.int 10) <| o_i2 o_sub <| o_aI <| (o_fg 0 (o_fg 1 bX8_best_55))
set_option maxRecDepth 100000 in
theorem sX8_best_43 : Sd pX8_best ev_i 43 (bX8_best_43) := sd_aload_n dX8_best_43 rfl <| sd_gR flX8_68 dX8_best_44 <| sd_gR flX8_230 dX8_best_47 <| sd_iload_n dX8_best_50 rfl <| sd_bipush dX8_best_51 rfl <| sd_isub dX8_best_53 <| sd_aI dX8_best_54 <| (sd_fg (i := 0) (sd_fg (i := 1) sX8_best_55))
def bX8_best_33 : Kt Int32 := o_ald 0 <| o_gR 7 9 <| o_gI 3 6 <| (o_fg 0 bX8_best_55)
set_option maxRecDepth 100000 in
theorem sX8_best_33 : Sd pX8_best ev_i 33 (bX8_best_33) := sd_aload_n dX8_best_33 rfl <| sd_gR flX8_68 dX8_best_34 <| sd_gI flX8_227 dX8_best_37 <| (sd_goto (tgt := 55) dX8_best_40 (by decide) (sd_fg (i := 0) sX8_best_55))
def bX8_best_18 : Kt Int32 := o_ald 0 <| o_gR 7 9 <| o_ald 0 <| o_gR 7 0 <| o_vc ev_v 3 2 fX4_planFor <| o_ild 1 <| o_zne bX8_best_43 <| (o_fg 1 bX8_best_33)
set_option maxRecDepth 100000 in
theorem sX8_best_18 : Sd pX8_best ev_i 18 (bX8_best_18) := sd_aload_n dX8_best_18 rfl <| sd_gR flX8_68 dX8_best_19 <| sd_aload_n dX8_best_22 rfl <| sd_gR flX8_10 dX8_best_23 <| sd_vc tX4_planFor (fun _ _ => rfl) rfl mwX4_planFor mvX4_planFor tw_498 (by decide) dX8_best_26 <| sd_iload_n dX8_best_29 rfl <| sd_zne (tgt := 43) dX8_best_30 (by decide) sX8_best_43 <| (sd_fg (i := 1) sX8_best_33)
def bX8_best_16 : Kt Int32 := o_psh (.int (-1)) <| o_rI
set_option maxRecDepth 100000 in
theorem sX8_best_16 : Sd pX8_best ev_i 16 (bX8_best_16) := sd_iconst dX8_best_16 rfl <| (sd_rI rfl dX8_best_17)
def bX8_best_10 : Kt Int32 := o_ild 1 <| o_psh (.int 20) <| o_clt bX8_best_18 <| (o_fg 0 (o_fg 1 bX8_best_16))
set_option maxRecDepth 100000 in
theorem sX8_best_10 : Sd pX8_best ev_i 10 (bX8_best_10) := sd_iload_n dX8_best_10 rfl <| sd_bipush dX8_best_11 rfl <| sd_clt (tgt := 18) dX8_best_13 (by decide) sX8_best_18 <| (sd_fg (i := 0) (sd_fg (i := 1) sX8_best_16))
def bX8_best_4 : Kt Int32 := o_ild 1 <| o_psh (.int 10) <| o_clt (o_fg 0 (o_fg 1 bX8_best_16)) <| bX8_best_10
set_option maxRecDepth 100000 in
theorem sX8_best_4 : Sd pX8_best ev_i 4 (bX8_best_4) := sd_iload_n dX8_best_4 rfl <| sd_bipush dX8_best_5 rfl <| sd_clt (tgt := 16) dX8_best_7 (by decide) (sd_fg (i := 0) (sd_fg (i := 1) sX8_best_16)) <| sX8_best_10
def bX8_best_0 : Kt Int32 := o_ild 1 <| o_zeq bX8_best_18 <| bX8_best_4
set_option maxRecDepth 100000 in
theorem sX8_best_0 : Sd pX8_best ev_i 0 (bX8_best_0) := sd_iload_n dX8_best_0 rfl <| sd_zeq (tgt := 18) dX8_best_1 (by decide) sX8_best_18 <| sX8_best_4
def fX8_best : Mt Int32 := mk_f 2 bX8_best_0
theorem tX8_best : Ct ev_i yX8_best cX8_best 2 (some .int) 5 125 fX8_best := ct_of (by decide +kernel) sX8_best_0
abbrev pX8_worthBy : Px := (cX8_worthBy, 2, RX8, "worthBy", (some .int), 4, 92, fun _ => True)
def bX8_worthBy_0 : Kt Int32 := o_ald 0 <| o_gR 7 7 <| o_ald 0 <| o_gR 7 0 <| o_ald 1 <| o_vc ev_v 6 3 fX7_look <| o_ald 0 <| o_gR 7 7 <| o_ald 0 <| o_gR 7 0 <| o_vc ev_i 6 2 fX7_doneWorth <| o_rI
set_option maxRecDepth 100000 in
theorem sX8_worthBy_0 : Sd pX8_worthBy ev_i 0 (bX8_worthBy_0) := sd_aload_n dX8_worthBy_0 rfl <| sd_gR flX8_54 dX8_worthBy_1 <| sd_aload_n dX8_worthBy_4 rfl <| sd_gR flX8_10 dX8_worthBy_5 <| sd_aload_n dX8_worthBy_8 rfl <| sd_vc tX7_look (fun _ _ => rfl) rfl mwX7_look mvX7_look tw_435 (by decide) dX8_worthBy_9 <| sd_aload_n dX8_worthBy_12 rfl <| sd_gR flX8_54 dX8_worthBy_13 <| sd_aload_n dX8_worthBy_16 rfl <| sd_gR flX8_10 dX8_worthBy_17 <| sd_vc tX7_doneWorth (fun _ _ => rfl) rfl mwX7_doneWorth mvX7_doneWorth tw_494 (by decide) dX8_worthBy_20 <| (sd_rI rfl dX8_worthBy_23)
def fX8_worthBy : Mt Int32 := mk_f 2 bX8_worthBy_0
theorem tX8_worthBy : Ct ev_i yX8_worthBy cX8_worthBy 2 (some .int) 4 92 fX8_worthBy := ct_of (by decide +kernel) sX8_worthBy_0
abbrev pX8_takeTrial : Px := (cX8_takeTrial, 1, RX8, "takeTrial", none, 1, 26, fun _ => True)
def bX8_takeTrial_0 : Kt Unit := o_ald 0 <| o_gR 7 0 <| o_gR 1 5 <| o_psh (.int 0) <| o_ald 0 <| o_gR 7 10 <| o_psh (.int 0) <| o_psh (.int 10) <| o_cpy <| o_rV
set_option maxRecDepth 100000 in
theorem sX8_takeTrial_0 : Sd pX8_takeTrial ev_v 0 (bX8_takeTrial_0) := sd_aload_n dX8_takeTrial_0 rfl <| sd_gR flX8_10 dX8_takeTrial_1 <| sd_gR flX8_130 dX8_takeTrial_4 <| sd_iconst dX8_takeTrial_7 rfl <| sd_aload_n dX8_takeTrial_8 rfl <| sd_gR flX8_72 dX8_takeTrial_9 <| sd_iconst dX8_takeTrial_12 rfl <| sd_bipush dX8_takeTrial_13 rfl <| sd_cpy ⟨tw_501, tw_53, tw_54, tw_55⟩ (by decide) dX8_takeTrial_15 <| (sd_rV rfl dX8_takeTrial_18)
def fX8_takeTrial : Mt Unit := mk_f 1 bX8_takeTrial_0
theorem tX8_takeTrial : Ct ev_v yX8_takeTrial cX8_takeTrial 1 none 1 26 fX8_takeTrial := ct_of (by decide +kernel) sX8_takeTrial_0
abbrev pX8_worthSwapped : Px := (cX8_worthSwapped, 3, RX8, "worthSwapped", (some .int), 5, 113, fun _ => True)
def bX8_worthSwapped_0 : Kt Int32 := o_ald 0 <| o_vc ev_v 7 1 fX8_takeTrial <| o_ald 0 <| o_gR 7 10 <| o_ild 1 <| o_ald 0 <| o_gR 7 0 <| o_gR 1 5 <| o_ild 2 <| o_aI <| o_sI <| o_ald 0 <| o_gR 7 10 <| o_ild 2 <| o_ald 0 <| o_gR 7 0 <| o_gR 1 5 <| o_ild 1 <| o_aI <| o_sI <| o_ald 0 <| o_ald 0 <| o_gR 7 10 <| o_vc ev_i 7 2 fX8_worthBy <| o_rI
set_option maxRecDepth 100000 in
theorem sX8_worthSwapped_0 : Sd pX8_worthSwapped ev_i 0 (bX8_worthSwapped_0) := sd_aload_n dX8_worthSwapped_0 rfl <| sd_vc tX8_takeTrial (fun _ _ => rfl) rfl mwX8_takeTrial mvX8_takeTrial tw_505 (by decide) dX8_worthSwapped_1 <| sd_aload_n dX8_worthSwapped_4 rfl <| sd_gR flX8_72 dX8_worthSwapped_5 <| sd_iload_n dX8_worthSwapped_8 rfl <| sd_aload_n dX8_worthSwapped_9 rfl <| sd_gR flX8_10 dX8_worthSwapped_10 <| sd_gR flX8_130 dX8_worthSwapped_13 <| sd_iload_n dX8_worthSwapped_16 rfl <| sd_aI dX8_worthSwapped_17 <| sd_sI dX8_worthSwapped_18 <| sd_aload_n dX8_worthSwapped_19 rfl <| sd_gR flX8_72 dX8_worthSwapped_20 <| sd_iload_n dX8_worthSwapped_23 rfl <| sd_aload_n dX8_worthSwapped_24 rfl <| sd_gR flX8_10 dX8_worthSwapped_25 <| sd_gR flX8_130 dX8_worthSwapped_28 <| sd_iload_n dX8_worthSwapped_31 rfl <| sd_aI dX8_worthSwapped_32 <| sd_sI dX8_worthSwapped_33 <| sd_aload_n dX8_worthSwapped_34 rfl <| sd_aload_n dX8_worthSwapped_35 rfl <| sd_gR flX8_72 dX8_worthSwapped_36 <| sd_vc tX8_worthBy (fun _ _ => rfl) rfl mwX8_worthBy mvX8_worthBy tw_509 (by decide) dX8_worthSwapped_39 <| (sd_rI rfl dX8_worthSwapped_42)
def fX8_worthSwapped : Mt Int32 := mk_f 3 bX8_worthSwapped_0
theorem tX8_worthSwapped : Ct ev_i yX8_worthSwapped cX8_worthSwapped 3 (some .int) 5 113 fX8_worthSwapped := ct_of (by decide +kernel) sX8_worthSwapped_0
abbrev pX8_swap : Px := (cX8_swap, 7, RX8, "swap", (some .int), 6, 135, fun _ => True)
def bX8_swap_102 : Kt Int32 := o_rI
set_option maxRecDepth 100000 in
theorem sX8_swap_102 : Sd pX8_swap ev_i 102 (bX8_swap_102) := (sd_rI rfl dX8_swap_102)
def bX8_swap_101 : Kt Int32 := o_ild 2 <| (o_fg 2 bX8_swap_102)
set_option maxRecDepth 100000 in
theorem sX8_swap_101 : Sd pX8_swap ev_i 101 (bX8_swap_101) := sd_iload_n dX8_swap_101 rfl <| (sd_fg (i := 2) sX8_swap_102)
def bX8_swap_97 : Kt Int32 := o_ild 3 <| (o_fg 3 bX8_swap_102)
set_option maxRecDepth 100000 in
theorem sX8_swap_97 : Sd pX8_swap ev_i 97 (bX8_swap_97) := sd_iload_n dX8_swap_97 rfl <| (sd_goto (tgt := 102) dX8_swap_98 (by decide) (sd_fg (i := 3) sX8_swap_102))
def bX8_swap_93 : Kt Int32 := o_ild 1 <| o_zne (o_fg 1 (o_fg 3 bX8_swap_101)) <| (o_fg 1 (o_fg 2 bX8_swap_97))
set_option maxRecDepth 100000 in
theorem sX8_swap_93 : Sd pX8_swap ev_i 93 (bX8_swap_93) := sd_iload_n dX8_swap_93 rfl <| sd_zne (tgt := 101) dX8_swap_94 (by decide) (sd_fg (i := 1) (sd_fg (i := 3) sX8_swap_101)) <| (sd_fg (i := 1) (sd_fg (i := 2) sX8_swap_97))
def bX8_swap_87 : Kt Int32 := o_ild 3 <| o_psh (.int (-4)) <| o_ceq (o_fg 1 (o_fg 2 bX8_swap_97)) <| bX8_swap_93
set_option maxRecDepth 100000 in
theorem sX8_swap_87 : Sd pX8_swap ev_i 87 (bX8_swap_87) := sd_iload_n dX8_swap_87 rfl <| sd_bipush dX8_swap_88 rfl <| sd_ceq (tgt := 97) dX8_swap_90 (by decide) (sd_fg (i := 1) (sd_fg (i := 2) sX8_swap_97)) <| sX8_swap_93
def bX8_swap_81 (K27 : Kt Int32) : Kt Int32 := o_inc 4 1 <| K27
set_option maxRecDepth 100000 in
theorem sX8_swap_81 {K27 : Kt Int32} (h27 : Sd pX8_swap ev_i 27 K27) : Sd pX8_swap ev_i 81 (bX8_swap_81 K27) := sd_iinc dX8_swap_81 rfl (by decide) <| (sd_goto (tgt := 27) dX8_swap_84 (by decide) h27)
def bX8_swap_75 (K27 : Kt Int32) (K40 : Kt Int32) : Kt Int32 := o_inc 5 1 <| K40
set_option maxRecDepth 100000 in
theorem sX8_swap_75 {K27 : Kt Int32} (h27 : Sd pX8_swap ev_i 27 K27) {K40 : Kt Int32} (h40 : Sd pX8_swap ev_i 40 K40) : Sd pX8_swap ev_i 75 (bX8_swap_75 K27 K40) := sd_iinc dX8_swap_75 rfl (by decide) <| (sd_goto (tgt := 40) dX8_swap_78 (by decide) h40)
def bX8_swap_63 (K27 : Kt Int32) (K40 : Kt Int32) : Kt Int32 := o_ild 6 <| o_ist 2 <| o_psh (.int 10) <| o_ild 4 <| o_i2 o_mul <| o_ild 5 <| o_i2 o_add <| o_ist 3 <| (o_fg 6 (bX8_swap_75 K27 K40))
set_option maxRecDepth 100000 in
theorem sX8_swap_63 {K27 : Kt Int32} (h27 : Sd pX8_swap ev_i 27 K27) {K40 : Kt Int32} (h40 : Sd pX8_swap ev_i 40 K40) : Sd pX8_swap ev_i 63 (bX8_swap_63 K27 K40) := sd_iload dX8_swap_63 <| sd_istore_n dX8_swap_65 rfl (by decide) <| sd_bipush dX8_swap_66 rfl <| sd_iload dX8_swap_68 <| sd_imul dX8_swap_70 <| sd_iload dX8_swap_71 <| sd_iadd dX8_swap_73 <| sd_istore_n dX8_swap_74 rfl (by decide) <| (sd_fg (i := 6) (sX8_swap_75 h27 h40))
def bX8_swap_47 (K27 : Kt Int32) (K40 : Kt Int32) : Kt Int32 := o_ald 0 <| o_ild 4 <| o_ild 5 <| o_vc ev_i 7 3 fX8_worthSwapped <| o_ist 6 <| o_ild 6 <| o_ild 2 <| o_cle (o_fg 6 (bX8_swap_75 K27 K40)) <| (o_fg 2 (o_fg 3 (bX8_swap_63 K27 K40)))
set_option maxRecDepth 100000 in
theorem sX8_swap_47 {K27 : Kt Int32} (h27 : Sd pX8_swap ev_i 27 K27) {K40 : Kt Int32} (h40 : Sd pX8_swap ev_i 40 K40) : Sd pX8_swap ev_i 47 (bX8_swap_47 K27 K40) := sd_aload_n dX8_swap_47 rfl <| sd_iload dX8_swap_48 <| sd_iload dX8_swap_50 <| sd_vc tX8_worthSwapped (fun _ _ => rfl) rfl mwX8_worthSwapped mvX8_worthSwapped tw_513 (by decide) dX8_swap_52 <| sd_istore dX8_swap_55 (by decide) <| sd_iload dX8_swap_57 <| sd_iload_n dX8_swap_59 rfl <| sd_cle (tgt := 75) dX8_swap_60 (by decide) (sd_fg (i := 6) (sX8_swap_75 h27 h40)) <| (sd_fg (i := 2) (sd_fg (i := 3) (sX8_swap_63 h27 h40)))
def bX8_swap_40 (K27 : Kt Int32) (K40 : Kt Int32) : Kt Int32 := o_ild 5 <| o_psh (.int 10) <| o_cge (o_fg 5 (bX8_swap_81 K27)) <| (bX8_swap_47 K27 K40)
set_option maxRecDepth 100000 in
theorem sX8_swap_40 {K27 : Kt Int32} (h27 : Sd pX8_swap ev_i 27 K27) {K40 : Kt Int32} (h40 : Sd pX8_swap ev_i 40 K40) : Sd pX8_swap ev_i 40 (bX8_swap_40 K27 K40) := sd_iload dX8_swap_40 <| sd_bipush dX8_swap_42 rfl <| sd_cge (tgt := 81) dX8_swap_44 (by decide) (sd_fg (i := 5) (sX8_swap_81 h27)) <| (sX8_swap_47 h27 h40)
def bX8_swap_34 (K27 : Kt Int32) : Kt Int32 := o_ild 4 <| o_psh (.int 1) <| o_i2 o_add <| o_ist 5 <| (o_lp (bX8_swap_40 K27) fu)
set_option maxRecDepth 100000 in
theorem sX8_swap_34 {K27 : Kt Int32} (h27 : Sd pX8_swap ev_i 27 K27) : Sd pX8_swap ev_i 34 (bX8_swap_34 K27) := sd_iload dX8_swap_34 <| sd_iconst dX8_swap_36 rfl <| sd_iadd dX8_swap_37 <| sd_istore dX8_swap_38 (by decide) <| (sd_lp (fun K h => sX8_swap_40 h27 h) fu)
def bX8_swap_27 (K27 : Kt Int32) : Kt Int32 := o_ild 4 <| o_psh (.int 10) <| o_cge (o_fg 0 (o_fg 4 bX8_swap_87)) <| (bX8_swap_34 K27)
set_option maxRecDepth 100000 in
theorem sX8_swap_27 {K27 : Kt Int32} (h27 : Sd pX8_swap ev_i 27 K27) : Sd pX8_swap ev_i 27 (bX8_swap_27 K27) := sd_iload dX8_swap_27 <| sd_bipush dX8_swap_29 rfl <| sd_cge (tgt := 87) dX8_swap_31 (by decide) (sd_fg (i := 0) (sd_fg (i := 4) sX8_swap_87)) <| (sX8_swap_34 h27)
def bX8_swap_9 : Kt Int32 := o_ald 0 <| o_ald 0 <| o_gR 7 0 <| o_gR 1 5 <| o_vc ev_i 7 2 fX8_worthBy <| o_ist 2 <| o_psh (.int (-4)) <| o_ist 3 <| o_psh (.int 0) <| o_ist 4 <| (o_lp (bX8_swap_27) fu)
set_option maxRecDepth 100000 in
theorem sX8_swap_9 : Sd pX8_swap ev_i 9 (bX8_swap_9) := sd_aload_n dX8_swap_9 rfl <| sd_aload_n dX8_swap_10 rfl <| sd_gR flX8_10 dX8_swap_11 <| sd_gR flX8_130 dX8_swap_14 <| sd_vc tX8_worthBy (fun _ _ => rfl) rfl mwX8_worthBy mvX8_worthBy tw_509 (by decide) dX8_swap_17 <| sd_istore_n dX8_swap_20 rfl (by decide) <| sd_bipush dX8_swap_21 rfl <| sd_istore_n dX8_swap_23 rfl (by decide) <| sd_iconst dX8_swap_24 rfl <| sd_istore dX8_swap_25 (by decide) <| (sd_lp (fun K h => sX8_swap_27 h) fu)
def bX8_swap_7 : Kt Int32 := o_psh (.int (-1)) <| o_rI
set_option maxRecDepth 100000 in
theorem sX8_swap_7 : Sd pX8_swap ev_i 7 (bX8_swap_7) := sd_iconst dX8_swap_7 rfl <| (sd_rI rfl dX8_swap_8)
def bX8_swap_0 : Kt Int32 := o_ild 1 <| o_sc ev_i 1 fX8_isFlag <| o_zne bX8_swap_9 <| (o_fg 0 (o_fg 1 bX8_swap_7))
set_option maxRecDepth 100000 in
theorem sX8_swap_0 : Sd pX8_swap ev_i 0 (bX8_swap_0) := sd_iload_n dX8_swap_0 rfl <| sd_sc tX8_isFlag (fun _ _ => rfl) mwX8_isFlag mvX8_isFlag tw_462 (by decide) dX8_swap_1 <| sd_zne (tgt := 9) dX8_swap_4 (by decide) sX8_swap_9 <| (sd_fg (i := 0) (sd_fg (i := 1) sX8_swap_7))
def fX8_swap : Mt Int32 := mk_f 7 bX8_swap_0
theorem tX8_swap : Ct ev_i yX8_swap cX8_swap 7 (some .int) 6 135 fX8_swap := ct_of (by decide +kernel) sX8_swap_0
abbrev pX8_worthGiven : Px := (cX8_worthGiven, 3, RX8, "worthGiven", (some .int), 5, 113, fun _ => True)
def bX8_worthGiven_0 : Kt Int32 := o_ald 0 <| o_vc ev_v 7 1 fX8_takeTrial <| o_ald 0 <| o_gR 7 10 <| o_ild 1 <| o_ild 2 <| o_sI <| o_ald 0 <| o_ald 0 <| o_gR 7 10 <| o_vc ev_i 7 2 fX8_worthBy <| o_rI
set_option maxRecDepth 100000 in
theorem sX8_worthGiven_0 : Sd pX8_worthGiven ev_i 0 (bX8_worthGiven_0) := sd_aload_n dX8_worthGiven_0 rfl <| sd_vc tX8_takeTrial (fun _ _ => rfl) rfl mwX8_takeTrial mvX8_takeTrial tw_505 (by decide) dX8_worthGiven_1 <| sd_aload_n dX8_worthGiven_4 rfl <| sd_gR flX8_72 dX8_worthGiven_5 <| sd_iload_n dX8_worthGiven_8 rfl <| sd_iload_n dX8_worthGiven_9 rfl <| sd_sI dX8_worthGiven_10 <| sd_aload_n dX8_worthGiven_11 rfl <| sd_aload_n dX8_worthGiven_12 rfl <| sd_gR flX8_72 dX8_worthGiven_13 <| sd_vc tX8_worthBy (fun _ _ => rfl) rfl mwX8_worthBy mvX8_worthBy tw_509 (by decide) dX8_worthGiven_16 <| (sd_rI rfl dX8_worthGiven_19)
def fX8_worthGiven : Mt Int32 := mk_f 3 bX8_worthGiven_0
theorem tX8_worthGiven : Ct ev_i yX8_worthGiven cX8_worthGiven 3 (some .int) 5 113 fX8_worthGiven := ct_of (by decide +kernel) sX8_worthGiven_0
abbrev pX8_give : Px := (cX8_give, 7, RX8, "give", (some .int), 6, 135, fun _ => True)
def bX8_give_107 : Kt Int32 := o_rI
set_option maxRecDepth 100000 in
theorem sX8_give_107 : Sd pX8_give ev_i 107 (bX8_give_107) := (sd_rI rfl dX8_give_107)
def bX8_give_106 : Kt Int32 := o_ild 2 <| (o_fg 2 bX8_give_107)
set_option maxRecDepth 100000 in
theorem sX8_give_106 : Sd pX8_give ev_i 106 (bX8_give_106) := sd_iload_n dX8_give_106 rfl <| (sd_fg (i := 2) sX8_give_107)
def bX8_give_102 : Kt Int32 := o_ild 3 <| (o_fg 3 bX8_give_107)
set_option maxRecDepth 100000 in
theorem sX8_give_102 : Sd pX8_give ev_i 102 (bX8_give_102) := sd_iload_n dX8_give_102 rfl <| (sd_goto (tgt := 107) dX8_give_103 (by decide) (sd_fg (i := 3) sX8_give_107))
def bX8_give_98 : Kt Int32 := o_ild 1 <| o_zne (o_fg 1 (o_fg 3 bX8_give_106)) <| (o_fg 1 (o_fg 2 bX8_give_102))
set_option maxRecDepth 100000 in
theorem sX8_give_98 : Sd pX8_give ev_i 98 (bX8_give_98) := sd_iload_n dX8_give_98 rfl <| sd_zne (tgt := 106) dX8_give_99 (by decide) (sd_fg (i := 1) (sd_fg (i := 3) sX8_give_106)) <| (sd_fg (i := 1) (sd_fg (i := 2) sX8_give_102))
def bX8_give_92 : Kt Int32 := o_ild 3 <| o_psh (.int (-4)) <| o_ceq (o_fg 1 (o_fg 2 bX8_give_102)) <| bX8_give_98
set_option maxRecDepth 100000 in
theorem sX8_give_92 : Sd pX8_give ev_i 92 (bX8_give_92) := sd_iload_n dX8_give_92 rfl <| sd_bipush dX8_give_93 rfl <| sd_ceq (tgt := 102) dX8_give_95 (by decide) (sd_fg (i := 1) (sd_fg (i := 2) sX8_give_102)) <| sX8_give_98
def bX8_give_86 (K27 : Kt Int32) : Kt Int32 := o_inc 4 1 <| K27
set_option maxRecDepth 100000 in
theorem sX8_give_86 {K27 : Kt Int32} (h27 : Sd pX8_give ev_i 27 K27) : Sd pX8_give ev_i 86 (bX8_give_86 K27) := sd_iinc dX8_give_86 rfl (by decide) <| (sd_goto (tgt := 27) dX8_give_89 (by decide) h27)
def bX8_give_80 (K27 : Kt Int32) (K37 : Kt Int32) : Kt Int32 := o_inc 5 1 <| K37
set_option maxRecDepth 100000 in
theorem sX8_give_80 {K27 : Kt Int32} (h27 : Sd pX8_give ev_i 27 K27) {K37 : Kt Int32} (h37 : Sd pX8_give ev_i 37 K37) : Sd pX8_give ev_i 80 (bX8_give_80 K27 K37) := sd_iinc dX8_give_80 rfl (by decide) <| (sd_goto (tgt := 37) dX8_give_83 (by decide) h37)
def bX8_give_68 (K27 : Kt Int32) (K37 : Kt Int32) : Kt Int32 := o_ild 6 <| o_ist 2 <| o_psh (.int 10) <| o_ild 4 <| o_i2 o_mul <| o_ild 5 <| o_i2 o_add <| o_ist 3 <| (o_fg 6 (bX8_give_80 K27 K37))
set_option maxRecDepth 100000 in
theorem sX8_give_68 {K27 : Kt Int32} (h27 : Sd pX8_give ev_i 27 K27) {K37 : Kt Int32} (h37 : Sd pX8_give ev_i 37 K37) : Sd pX8_give ev_i 68 (bX8_give_68 K27 K37) := sd_iload dX8_give_68 <| sd_istore_n dX8_give_70 rfl (by decide) <| sd_bipush dX8_give_71 rfl <| sd_iload dX8_give_73 <| sd_imul dX8_give_75 <| sd_iload dX8_give_76 <| sd_iadd dX8_give_78 <| sd_istore_n dX8_give_79 rfl (by decide) <| (sd_fg (i := 6) (sX8_give_80 h27 h37))
def bX8_give_52 (K27 : Kt Int32) (K37 : Kt Int32) : Kt Int32 := o_ald 0 <| o_ild 4 <| o_ild 5 <| o_vc ev_i 7 3 fX8_worthGiven <| o_ist 6 <| o_ild 6 <| o_ild 2 <| o_cle (o_fg 6 (bX8_give_80 K27 K37)) <| (o_fg 2 (o_fg 3 (bX8_give_68 K27 K37)))
set_option maxRecDepth 100000 in
theorem sX8_give_52 {K27 : Kt Int32} (h27 : Sd pX8_give ev_i 27 K27) {K37 : Kt Int32} (h37 : Sd pX8_give ev_i 37 K37) : Sd pX8_give ev_i 52 (bX8_give_52 K27 K37) := sd_aload_n dX8_give_52 rfl <| sd_iload dX8_give_53 <| sd_iload dX8_give_55 <| sd_vc tX8_worthGiven (fun _ _ => rfl) rfl mwX8_worthGiven mvX8_worthGiven tw_517 (by decide) dX8_give_57 <| sd_istore dX8_give_60 (by decide) <| sd_iload dX8_give_62 <| sd_iload_n dX8_give_64 rfl <| sd_cle (tgt := 80) dX8_give_65 (by decide) (sd_fg (i := 6) (sX8_give_80 h27 h37)) <| (sd_fg (i := 2) (sd_fg (i := 3) (sX8_give_68 h27 h37)))
def bX8_give_37 (K27 : Kt Int32) (K37 : Kt Int32) : Kt Int32 := o_ild 5 <| o_ald 0 <| o_gR 7 0 <| o_gR 1 0 <| o_gI 5 3 <| o_cge (o_fg 5 (bX8_give_86 K27)) <| (bX8_give_52 K27 K37)
set_option maxRecDepth 100000 in
theorem sX8_give_37 {K27 : Kt Int32} (h27 : Sd pX8_give ev_i 27 K27) {K37 : Kt Int32} (h37 : Sd pX8_give ev_i 37 K37) : Sd pX8_give ev_i 37 (bX8_give_37 K27 K37) := sd_iload dX8_give_37 <| sd_aload_n dX8_give_39 rfl <| sd_gR flX8_10 dX8_give_40 <| sd_gR flX8_111 dX8_give_43 <| sd_gI flX8_114 dX8_give_46 <| sd_cge (tgt := 86) dX8_give_49 (by decide) (sd_fg (i := 5) (sX8_give_86 h27)) <| (sX8_give_52 h27 h37)
def bX8_give_34 (K27 : Kt Int32) : Kt Int32 := o_psh (.int 0) <| o_ist 5 <| (o_lp (bX8_give_37 K27) fu)
set_option maxRecDepth 100000 in
theorem sX8_give_34 {K27 : Kt Int32} (h27 : Sd pX8_give ev_i 27 K27) : Sd pX8_give ev_i 34 (bX8_give_34 K27) := sd_iconst dX8_give_34 rfl <| sd_istore dX8_give_35 (by decide) <| (sd_lp (fun K h => sX8_give_37 h27 h) fu)
def bX8_give_27 (K27 : Kt Int32) : Kt Int32 := o_ild 4 <| o_psh (.int 10) <| o_cge (o_fg 0 (o_fg 4 bX8_give_92)) <| (bX8_give_34 K27)
set_option maxRecDepth 100000 in
theorem sX8_give_27 {K27 : Kt Int32} (h27 : Sd pX8_give ev_i 27 K27) : Sd pX8_give ev_i 27 (bX8_give_27 K27) := sd_iload dX8_give_27 <| sd_bipush dX8_give_29 rfl <| sd_cge (tgt := 92) dX8_give_31 (by decide) (sd_fg (i := 0) (sd_fg (i := 4) sX8_give_92)) <| (sX8_give_34 h27)
def bX8_give_9 : Kt Int32 := o_ald 0 <| o_ald 0 <| o_gR 7 0 <| o_gR 1 5 <| o_vc ev_i 7 2 fX8_worthBy <| o_ist 2 <| o_psh (.int (-4)) <| o_ist 3 <| o_psh (.int 0) <| o_ist 4 <| (o_lp (bX8_give_27) fu)
set_option maxRecDepth 100000 in
theorem sX8_give_9 : Sd pX8_give ev_i 9 (bX8_give_9) := sd_aload_n dX8_give_9 rfl <| sd_aload_n dX8_give_10 rfl <| sd_gR flX8_10 dX8_give_11 <| sd_gR flX8_130 dX8_give_14 <| sd_vc tX8_worthBy (fun _ _ => rfl) rfl mwX8_worthBy mvX8_worthBy tw_509 (by decide) dX8_give_17 <| sd_istore_n dX8_give_20 rfl (by decide) <| sd_bipush dX8_give_21 rfl <| sd_istore_n dX8_give_23 rfl (by decide) <| sd_iconst dX8_give_24 rfl <| sd_istore dX8_give_25 (by decide) <| (sd_lp (fun K h => sX8_give_27 h) fu)
def bX8_give_7 : Kt Int32 := o_psh (.int (-1)) <| o_rI
set_option maxRecDepth 100000 in
theorem sX8_give_7 : Sd pX8_give ev_i 7 (bX8_give_7) := sd_iconst dX8_give_7 rfl <| (sd_rI rfl dX8_give_8)
def bX8_give_0 : Kt Int32 := o_ild 1 <| o_sc ev_i 1 fX8_isFlag <| o_zne bX8_give_9 <| (o_fg 0 (o_fg 1 bX8_give_7))
set_option maxRecDepth 100000 in
theorem sX8_give_0 : Sd pX8_give ev_i 0 (bX8_give_0) := sd_iload_n dX8_give_0 rfl <| sd_sc tX8_isFlag (fun _ _ => rfl) mwX8_isFlag mvX8_isFlag tw_462 (by decide) dX8_give_1 <| sd_zne (tgt := 9) dX8_give_4 (by decide) sX8_give_9 <| (sd_fg (i := 0) (sd_fg (i := 1) sX8_give_7))
def fX8_give : Mt Int32 := mk_f 7 bX8_give_0
theorem tX8_give : Ct ev_i yX8_give cX8_give 7 (some .int) 6 135 fX8_give := ct_of (by decide +kernel) sX8_give_0
abbrev pX8_mend : Px := (cX8_mend, 3, RX8, "mend", (some .int), 5, 117, fun _ => True)
def bX8_mend_79 : Kt Int32 := o_rI
set_option maxRecDepth 100000 in
theorem sX8_mend_79 : Sd pX8_mend ev_i 79 (bX8_mend_79) := (sd_rI rfl dX8_mend_79)
def bX8_mend_67 : Kt Int32 := o_ald 0 <| o_gR 7 0 <| o_gR 1 0 <| o_gI 5 3 <| o_ild 2 <| o_i2 o_sub <| (o_fg 0 (o_fg 2 bX8_mend_79))
set_option maxRecDepth 100000 in
theorem sX8_mend_67 : Sd pX8_mend ev_i 67 (bX8_mend_67) := sd_aload_n dX8_mend_67 rfl <| sd_gR flX8_10 dX8_mend_68 <| sd_gR flX8_111 dX8_mend_71 <| sd_gI flX8_114 dX8_mend_74 <| sd_iload_n dX8_mend_77 rfl <| sd_isub dX8_mend_78 <| (sd_fg (i := 0) (sd_fg (i := 2) sX8_mend_79))
def bX8_mend_62 : Kt Int32 := o_psh (.int (-4)) <| bX8_mend_79
set_option maxRecDepth 100000 in
theorem sX8_mend_62 : Sd pX8_mend ev_i 62 (bX8_mend_62) := sd_bipush dX8_mend_62 rfl <| (sd_goto (tgt := 79) dX8_mend_64 (by decide) sX8_mend_79)
def bX8_mend_49 : Kt Int32 := o_ald 0 <| o_gR 7 0 <| o_gR 1 0 <| o_gI 5 3 <| o_zle bX8_mend_67 <| (o_fg 0 (o_fg 2 bX8_mend_62))
set_option maxRecDepth 100000 in
theorem sX8_mend_49 : Sd pX8_mend ev_i 49 (bX8_mend_49) := sd_aload_n dX8_mend_49 rfl <| sd_gR flX8_10 dX8_mend_50 <| sd_gR flX8_111 dX8_mend_53 <| sd_gI flX8_114 dX8_mend_56 <| sd_zle (tgt := 67) dX8_mend_59 (by decide) sX8_mend_67 <| (sd_fg (i := 0) (sd_fg (i := 2) sX8_mend_62))
def bX8_mend_9 : Kt Int32 := o_ald 0 <| o_gR 7 8 <| o_ald 0 <| o_gR 7 0 <| o_ald 0 <| o_gR 7 0 <| o_gR 1 5 <| o_vc ev_v 0 3 fX0_live <| o_ald 0 <| o_gR 7 8 <| o_ald 0 <| o_gR 7 0 <| o_ild 1 <| o_psh (.int 9) <| o_vc ev_i 0 4 fX0_rightOnes <| o_sc ev_i 1 fJ6_bitCount_0f7a4 <| o_ist 2 <| o_ild 2 <| o_zne (o_fg 1 bX8_mend_67) <| (o_fg 1 bX8_mend_49)
set_option maxRecDepth 100000 in
theorem sX8_mend_9 : Sd pX8_mend ev_i 9 (bX8_mend_9) := sd_aload_n dX8_mend_9 rfl <| sd_gR flX8_61 dX8_mend_10 <| sd_aload_n dX8_mend_13 rfl <| sd_gR flX8_10 dX8_mend_14 <| sd_aload_n dX8_mend_17 rfl <| sd_gR flX8_10 dX8_mend_18 <| sd_gR flX8_130 dX8_mend_21 <| sd_vc tX0_live (fun _ _ => rfl) rfl mwX0_live mvX0_live tw_476 (by decide) dX8_mend_24 <| sd_aload_n dX8_mend_27 rfl <| sd_gR flX8_61 dX8_mend_28 <| sd_aload_n dX8_mend_31 rfl <| sd_gR flX8_10 dX8_mend_32 <| sd_iload_n dX8_mend_35 rfl <| sd_bipush dX8_mend_36 rfl <| sd_vc tX0_rightOnes (fun _ _ => rfl) rfl mwX0_rightOnes mvX0_rightOnes tw_482 (by decide) dX8_mend_38 <| sd_sc tJ6_bitCount_0f7a4 (fun _ _ => rfl) mwJ6_bitCount_0f7a4 mvJ6_bitCount_0f7a4 tw_521 (by decide) dX8_mend_41 <| sd_istore_n dX8_mend_44 rfl (by decide) <| sd_iload_n dX8_mend_45 rfl <| sd_zne (tgt := 67) dX8_mend_46 (by decide) (sd_fg (i := 1) sX8_mend_67) <| (sd_fg (i := 1) sX8_mend_49)
def bX8_mend_7 : Kt Int32 := o_psh (.int (-1)) <| o_rI
set_option maxRecDepth 100000 in
theorem sX8_mend_7 : Sd pX8_mend ev_i 7 (bX8_mend_7) := sd_iconst dX8_mend_7 rfl <| (sd_rI rfl dX8_mend_8)
def bX8_mend_0 : Kt Int32 := o_ild 1 <| o_sc ev_i 1 fX8_isThing <| o_zne bX8_mend_9 <| (o_fg 0 (o_fg 1 bX8_mend_7))
set_option maxRecDepth 100000 in
theorem sX8_mend_0 : Sd pX8_mend ev_i 0 (bX8_mend_0) := sd_iload_n dX8_mend_0 rfl <| sd_sc tX8_isThing (fun _ _ => rfl) mwX8_isThing mvX8_isThing tw_452 (by decide) dX8_mend_1 <| sd_zne (tgt := 9) dX8_mend_4 (by decide) sX8_mend_9 <| (sd_fg (i := 0) (sd_fg (i := 1) sX8_mend_7))
def fX8_mend : Mt Int32 := mk_f 3 bX8_mend_0
theorem tX8_mend : Ct ev_i yX8_mend cX8_mend 3 (some .int) 5 117 fX8_mend := ct_of (by decide +kernel) sX8_mend_0
abbrev pX8_luck : Px := (cX8_luck, 4, RX8, "luck", (some .long), 4, 92, fun _ => True)
def bX8_luck_35 : Kt Int64 := o_ald 0 <| o_gR 7 7 <| o_ald 0 <| o_gR 7 0 <| o_ald 0 <| o_gR 7 0 <| o_gR 1 5 <| o_vc ev_v 6 3 fX7_look <| o_ild 1 <| o_ald 0 <| o_gR 7 7 <| o_ald 0 <| o_gR 7 0 <| o_ild 2 <| o_vc ev_i 6 3 fX7_chancesOf <| o_sc ev_l 2 fX2_shareMet <| o_ild 3 <| o_sc ev_l 2 fX2_part <| o_rL
set_option maxRecDepth 100000 in
theorem sX8_luck_35 : Sd pX8_luck ev_l 35 (bX8_luck_35) := sd_aload_n dX8_luck_35 rfl <| sd_gR flX8_54 dX8_luck_36 <| sd_aload_n dX8_luck_39 rfl <| sd_gR flX8_10 dX8_luck_40 <| sd_aload_n dX8_luck_43 rfl <| sd_gR flX8_10 dX8_luck_44 <| sd_gR flX8_130 dX8_luck_47 <| sd_vc tX7_look (fun _ _ => rfl) rfl mwX7_look mvX7_look tw_435 (by decide) dX8_luck_50 <| sd_iload_n dX8_luck_53 rfl <| sd_aload_n dX8_luck_54 rfl <| sd_gR flX8_54 dX8_luck_55 <| sd_aload_n dX8_luck_58 rfl <| sd_gR flX8_10 dX8_luck_59 <| sd_iload_n dX8_luck_62 rfl <| sd_vc tX7_chancesOf (fun _ _ => rfl) rfl mwX7_chancesOf mvX7_chancesOf tw_526 (by decide) dX8_luck_63 <| sd_sc tX2_shareMet (fun _ _ => rfl) mwX2_shareMet mvX2_shareMet tw_529 (by decide) dX8_luck_66 <| sd_iload_n dX8_luck_69 rfl <| sd_sc tX2_part (fun _ _ => rfl) mwX2_part mvX2_part tw_532 (by decide) dX8_luck_70 <| (sd_rL rfl dX8_luck_73)
def bX8_luck_31 : Kt Int64 := o_psh (.long (-1)) <| o_rL
set_option maxRecDepth 100000 in
theorem sX8_luck_31 : Sd pX8_luck ev_l 31 (bX8_luck_31) := sd_ldc2 tw_522 dX8_luck_31 <| (sd_rL rfl dX8_luck_34)
def bX8_luck_24 : Kt Int64 := o_ild 3 <| o_sc ev_i 1 fX8_isFlag <| o_zne bX8_luck_35 <| (o_fg 0 (o_fg 1 (o_fg 2 (o_fg 3 bX8_luck_31))))
set_option maxRecDepth 100000 in
theorem sX8_luck_24 : Sd pX8_luck ev_l 24 (bX8_luck_24) := sd_iload_n dX8_luck_24 rfl <| sd_sc tX8_isFlag (fun _ _ => rfl) mwX8_isFlag mvX8_isFlag tw_462 (by decide) dX8_luck_25 <| sd_zne (tgt := 35) dX8_luck_28 (by decide) sX8_luck_35 <| (sd_fg (i := 0) (sd_fg (i := 1) (sd_fg (i := 2) (sd_fg (i := 3) sX8_luck_31))))
def bX8_luck_10 : Kt Int64 := o_ald 0 <| o_gR 7 0 <| o_gR 1 2 <| o_ild 2 <| o_vc ev_i 5 2 fX6_has <| o_zeq (o_fg 0 (o_fg 1 (o_fg 2 (o_fg 3 bX8_luck_31)))) <| bX8_luck_24
set_option maxRecDepth 100000 in
theorem sX8_luck_10 : Sd pX8_luck ev_l 10 (bX8_luck_10) := sd_aload_n dX8_luck_10 rfl <| sd_gR flX8_10 dX8_luck_11 <| sd_gR flX8_120 dX8_luck_14 <| sd_iload_n dX8_luck_17 rfl <| sd_vc tX6_has (fun _ _ => rfl) rfl mwX6_has mvX6_has tw_458 (by decide) dX8_luck_18 <| sd_zeq (tgt := 31) dX8_luck_21 (by decide) (sd_fg (i := 0) (sd_fg (i := 1) (sd_fg (i := 2) (sd_fg (i := 3) sX8_luck_31)))) <| sX8_luck_24
def bX8_luck_4 : Kt Int64 := o_ild 1 <| o_psh (.int 10) <| o_cgt (o_fg 0 (o_fg 1 (o_fg 2 (o_fg 3 bX8_luck_31)))) <| bX8_luck_10
set_option maxRecDepth 100000 in
theorem sX8_luck_4 : Sd pX8_luck ev_l 4 (bX8_luck_4) := sd_iload_n dX8_luck_4 rfl <| sd_bipush dX8_luck_5 rfl <| sd_cgt (tgt := 31) dX8_luck_7 (by decide) (sd_fg (i := 0) (sd_fg (i := 1) (sd_fg (i := 2) (sd_fg (i := 3) sX8_luck_31)))) <| sX8_luck_10
def bX8_luck_0 : Kt Int64 := o_ild 1 <| o_zlt (o_fg 0 (o_fg 1 (o_fg 2 (o_fg 3 bX8_luck_31)))) <| bX8_luck_4
set_option maxRecDepth 100000 in
theorem sX8_luck_0 : Sd pX8_luck ev_l 0 (bX8_luck_0) := sd_iload_n dX8_luck_0 rfl <| sd_zlt (tgt := 31) dX8_luck_1 (by decide) (sd_fg (i := 0) (sd_fg (i := 1) (sd_fg (i := 2) (sd_fg (i := 3) sX8_luck_31)))) <| sX8_luck_4
def fX8_luck : Mt Int64 := mk_f 4 bX8_luck_0
theorem tX8_luck : Ct ev_l yX8_luck cX8_luck 4 (some .long) 4 92 fX8_luck := ct_of (by decide +kernel) sX8_luck_0
abbrev pX8_mean : Px := (cX8_mean, 6, RX8, "mean", (some .long), 4, 92, fun _ => True)
def bX8_mean_96 : Kt Int64 := o_lld 3 <| o_ild 2 <| o_sc ev_l 2 fX2_part <| o_rL
set_option maxRecDepth 100000 in
theorem sX8_mean_96 : Sd pX8_mean ev_l 96 (bX8_mean_96) := sd_lload_n dX8_mean_96 rfl <| sd_iload_n dX8_mean_97 rfl <| sd_sc tX2_part (fun _ _ => rfl) mwX2_part mvX2_part tw_532 (by decide) dX8_mean_98 <| (sd_rL rfl dX8_mean_101)
def bX8_mean_59 (K44 : Kt Int64) : Kt Int64 := o_lld 3 <| o_ald 0 <| o_gR 7 0 <| o_ild 5 <| o_vc ev_i 1 2 fX1_worthOf <| o_i2l <| o_ild 1 <| o_ald 0 <| o_gR 7 7 <| o_ald 0 <| o_gR 7 0 <| o_ild 5 <| o_vc ev_i 6 3 fX7_chancesOf <| o_sc ev_l 2 fX2_shareMet <| o_l2 o_lmul <| o_l2 o_ladd <| o_lst 3 <| o_inc 5 1 <| K44
set_option maxRecDepth 100000 in
theorem sX8_mean_59 {K44 : Kt Int64} (h44 : Sd pX8_mean ev_l 44 K44) : Sd pX8_mean ev_l 59 (bX8_mean_59 K44) := sd_lload_n dX8_mean_59 rfl <| sd_aload_n dX8_mean_60 rfl <| sd_gR flX8_10 dX8_mean_61 <| sd_iload dX8_mean_64 <| sd_vc tX1_worthOf (fun _ _ => rfl) rfl mwX1_worthOf mvX1_worthOf tw_533 (by decide) dX8_mean_66 <| sd_i2l dX8_mean_69 <| sd_iload_n dX8_mean_70 rfl <| sd_aload_n dX8_mean_71 rfl <| sd_gR flX8_54 dX8_mean_72 <| sd_aload_n dX8_mean_75 rfl <| sd_gR flX8_10 dX8_mean_76 <| sd_iload dX8_mean_79 <| sd_vc tX7_chancesOf (fun _ _ => rfl) rfl mwX7_chancesOf mvX7_chancesOf tw_526 (by decide) dX8_mean_81 <| sd_sc tX2_shareMet (fun _ _ => rfl) mwX2_shareMet mvX2_shareMet tw_529 (by decide) dX8_mean_84 <| sd_lmul dX8_mean_87 <| sd_ladd dX8_mean_88 <| sd_lstore_n dX8_mean_89 rfl (by decide) <| sd_iinc dX8_mean_90 rfl (by decide) <| (sd_goto (tgt := 44) dX8_mean_93 (by decide) h44)
def bX8_mean_44 (K44 : Kt Int64) : Kt Int64 := o_ild 5 <| o_ald 0 <| o_gR 7 0 <| o_gR 1 2 <| o_gI 5 3 <| o_cge (o_fg 0 (o_fg 1 (o_fg 5 bX8_mean_96))) <| (bX8_mean_59 K44)
set_option maxRecDepth 100000 in
theorem sX8_mean_44 {K44 : Kt Int64} (h44 : Sd pX8_mean ev_l 44 K44) : Sd pX8_mean ev_l 44 (bX8_mean_44 K44) := sd_iload dX8_mean_44 <| sd_aload_n dX8_mean_46 rfl <| sd_gR flX8_10 dX8_mean_47 <| sd_gR flX8_120 dX8_mean_50 <| sd_gI flX8_114 dX8_mean_53 <| sd_cge (tgt := 96) dX8_mean_56 (by decide) (sd_fg (i := 0) (sd_fg (i := 1) (sd_fg (i := 5) sX8_mean_96))) <| (sX8_mean_59 h44)
def bX8_mean_21 : Kt Int64 := o_ald 0 <| o_gR 7 7 <| o_ald 0 <| o_gR 7 0 <| o_ald 0 <| o_gR 7 0 <| o_gR 1 5 <| o_vc ev_v 6 3 fX7_look <| o_psh (.long 0) <| o_lst 3 <| o_psh (.int 0) <| o_ist 5 <| (o_lp (bX8_mean_44) fu)
set_option maxRecDepth 100000 in
theorem sX8_mean_21 : Sd pX8_mean ev_l 21 (bX8_mean_21) := sd_aload_n dX8_mean_21 rfl <| sd_gR flX8_54 dX8_mean_22 <| sd_aload_n dX8_mean_25 rfl <| sd_gR flX8_10 dX8_mean_26 <| sd_aload_n dX8_mean_29 rfl <| sd_gR flX8_10 dX8_mean_30 <| sd_gR flX8_130 dX8_mean_33 <| sd_vc tX7_look (fun _ _ => rfl) rfl mwX7_look mvX7_look tw_435 (by decide) dX8_mean_36 <| sd_lconst dX8_mean_39 rfl <| sd_lstore_n dX8_mean_40 rfl (by decide) <| sd_iconst dX8_mean_41 rfl <| sd_istore dX8_mean_42 (by decide) <| (sd_lp (fun K h => sX8_mean_44 h) fu)
def bX8_mean_17 : Kt Int64 := o_psh (.long (-1)) <| o_rL
set_option maxRecDepth 100000 in
theorem sX8_mean_17 : Sd pX8_mean ev_l 17 (bX8_mean_17) := sd_ldc2 tw_522 dX8_mean_17 <| (sd_rL rfl dX8_mean_20)
def bX8_mean_10 : Kt Int64 := o_ild 2 <| o_sc ev_i 1 fX8_isFlag <| o_zne bX8_mean_21 <| (o_fg 0 (o_fg 1 (o_fg 2 bX8_mean_17)))
set_option maxRecDepth 100000 in
theorem sX8_mean_10 : Sd pX8_mean ev_l 10 (bX8_mean_10) := sd_iload_n dX8_mean_10 rfl <| sd_sc tX8_isFlag (fun _ _ => rfl) mwX8_isFlag mvX8_isFlag tw_462 (by decide) dX8_mean_11 <| sd_zne (tgt := 21) dX8_mean_14 (by decide) sX8_mean_21 <| (sd_fg (i := 0) (sd_fg (i := 1) (sd_fg (i := 2) sX8_mean_17)))
def bX8_mean_4 : Kt Int64 := o_ild 1 <| o_psh (.int 10) <| o_cgt (o_fg 0 (o_fg 1 (o_fg 2 bX8_mean_17))) <| bX8_mean_10
set_option maxRecDepth 100000 in
theorem sX8_mean_4 : Sd pX8_mean ev_l 4 (bX8_mean_4) := sd_iload_n dX8_mean_4 rfl <| sd_bipush dX8_mean_5 rfl <| sd_cgt (tgt := 17) dX8_mean_7 (by decide) (sd_fg (i := 0) (sd_fg (i := 1) (sd_fg (i := 2) sX8_mean_17))) <| sX8_mean_10
def bX8_mean_0 : Kt Int64 := o_ild 1 <| o_zlt (o_fg 0 (o_fg 1 (o_fg 2 bX8_mean_17))) <| bX8_mean_4
set_option maxRecDepth 100000 in
theorem sX8_mean_0 : Sd pX8_mean ev_l 0 (bX8_mean_0) := sd_iload_n dX8_mean_0 rfl <| sd_zlt (tgt := 17) dX8_mean_1 (by decide) (sd_fg (i := 0) (sd_fg (i := 1) (sd_fg (i := 2) sX8_mean_17))) <| sX8_mean_4
def fX8_mean : Mt Int64 := mk_f 6 bX8_mean_0
theorem tX8_mean : Ct ev_l yX8_mean cX8_mean 6 (some .long) 4 92 fX8_mean := ct_of (by decide +kernel) sX8_mean_0
