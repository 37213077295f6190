abbrev pX9_change : Px := (cX9_change, 5, RX9, "change", (some .int), 2, 45, fun _ => True)
def bX9_change_102 : Kt Int32 := o_rI
set_option maxRecDepth 100000 in
theorem sX9_change_102 : Sd pX9_change ev_i 102 (bX9_change_102) := (sd_rI rfl dX9_change_102)
def bX9_change_42 : Kt Int32 := o_psh (.int 13) <| o_psh (.int 3) <| o_ald 0 <| o_gR 8 0 <| o_psh (.int 25) <| o_aI <| o_i2 o_mul <| o_i2 o_add <| o_ist 4 <| o_ald 0 <| o_gR 8 0 <| o_ild 4 <| o_ild 1 <| o_sI <| o_ald 0 <| o_gR 8 0 <| o_ild 4 <| o_psh (.int 1) <| o_i2 o_add <| o_ild 2 <| o_sI <| o_ald 0 <| o_gR 8 0 <| o_ild 4 <| o_psh (.int 2) <| o_i2 o_add <| o_ild 3 <| o_sI <| o_ald 0 <| o_gR 8 0 <| o_psh (.int 25) <| o_du2 <| o_aI <| o_psh (.int 1) <| o_i2 o_add <| o_sI <| o_ald 0 <| o_gR 8 0 <| o_psh (.int 25) <| o_aI <| (o_fg 0 (o_fg 1 (o_fg 2 (o_fg 3 (o_fg 4 bX9_change_102)))))
set_option maxRecDepth 100000 in
theorem sX9_change_42 : Sd pX9_change ev_i 42 (bX9_change_42) := sd_bipush dX9_change_42 rfl <| sd_iconst dX9_change_44 rfl <| sd_aload_n dX9_change_45 rfl <| sd_gR flX9_7 dX9_change_46 <| sd_bipush dX9_change_49 rfl <| sd_aI dX9_change_51 <| sd_imul dX9_change_52 <| sd_iadd dX9_change_53 <| sd_istore dX9_change_54 (by decide) <| sd_aload_n dX9_change_56 rfl <| sd_gR flX9_7 dX9_change_57 <| sd_iload dX9_change_60 <| sd_iload_n dX9_change_62 rfl <| sd_sI dX9_change_63 <| sd_aload_n dX9_change_64 rfl <| sd_gR flX9_7 dX9_change_65 <| sd_iload dX9_change_68 <| sd_iconst dX9_change_70 rfl <| sd_iadd dX9_change_71 <| sd_iload_n dX9_change_72 rfl <| sd_sI dX9_change_73 <| sd_aload_n dX9_change_74 rfl <| sd_gR flX9_7 dX9_change_75 <| sd_iload dX9_change_78 <| sd_iconst dX9_change_80 rfl <| sd_iadd dX9_change_81 <| sd_iload_n dX9_change_82 rfl <| sd_sI dX9_change_83 <| sd_aload_n dX9_change_84 rfl <| sd_gR flX9_7 dX9_change_85 <| sd_bipush dX9_change_88 rfl <| sd_dup2 dX9_change_90 <| sd_aI dX9_change_91 <| sd_iconst dX9_change_92 rfl <| sd_iadd dX9_change_93 <| sd_sI dX9_change_94 <| sd_aload_n dX9_change_95 rfl <| sd_gR flX9_7 dX9_change_96 <| sd_bipush dX9_change_99 rfl <| sd_aI dX9_change_101 <| (sd_fg (i := 0) (sd_fg (i := 1) (sd_fg (i := 2) (sd_fg (i := 3) (sd_fg (i := 4) sX9_change_102)))))
def bX9_change_39 : Kt Int32 := o_psh (.int (-3)) <| o_rI
set_option maxRecDepth 100000 in
theorem sX9_change_39 : Sd pX9_change ev_i 39 (bX9_change_39) := sd_bipush dX9_change_39 rfl <| (sd_rI rfl dX9_change_41)
def bX9_change_28 : Kt Int32 := o_ald 0 <| o_gR 8 0 <| o_psh (.int 25) <| o_aI <| o_psh (.int 4) <| o_cne bX9_change_42 <| (o_fg 0 (o_fg 1 (o_fg 2 (o_fg 3 bX9_change_39))))
set_option maxRecDepth 100000 in
theorem sX9_change_28 : Sd pX9_change ev_i 28 (bX9_change_28) := sd_aload_n dX9_change_28 rfl <| sd_gR flX9_7 dX9_change_29 <| sd_bipush dX9_change_32 rfl <| sd_aI dX9_change_34 <| sd_iconst dX9_change_35 rfl <| sd_cne (tgt := 42) dX9_change_36 (by decide) sX9_change_42 <| (sd_fg (i := 0) (sd_fg (i := 1) (sd_fg (i := 2) (sd_fg (i := 3) sX9_change_39))))
def bX9_change_26 : Kt Int32 := o_psh (.int (-1)) <| o_rI
set_option maxRecDepth 100000 in
theorem sX9_change_26 : Sd pX9_change ev_i 26 (bX9_change_26) := sd_iconst dX9_change_26 rfl <| (sd_rI rfl dX9_change_27)
def bX9_change_14 : Kt Int32 := o_ild 3 <| o_i2l <| o_psh (.long 0) <| o_psh (.long 9) <| o_sc ev_i 3 fX9_in <| o_zne bX9_change_28 <| (o_fg 0 (o_fg 1 (o_fg 2 (o_fg 3 bX9_change_26))))
set_option maxRecDepth 100000 in
theorem sX9_change_14 : Sd pX9_change ev_i 14 (bX9_change_14) := sd_iload_n dX9_change_14 rfl <| sd_i2l dX9_change_15 <| sd_lconst dX9_change_16 rfl <| sd_ldc2 tw_680 dX9_change_17 <| sd_sc tX9_in (fun _ _ => rfl) mwX9_in mvX9_in tw_611 (by decide) dX9_change_20 <| sd_zne (tgt := 28) dX9_change_23 (by decide) sX9_change_28 <| (sd_fg (i := 0) (sd_fg (i := 1) (sd_fg (i := 2) (sd_fg (i := 3) sX9_change_26))))
def bX9_change_7 : Kt Int32 := o_ild 2 <| o_sc ev_i 1 fX9_isThing <| o_zeq (o_fg 0 (o_fg 1 (o_fg 2 (o_fg 3 bX9_change_26)))) <| bX9_change_14
set_option maxRecDepth 100000 in
theorem sX9_change_7 : Sd pX9_change ev_i 7 (bX9_change_7) := sd_iload_n dX9_change_7 rfl <| sd_sc tX9_isThing (fun _ _ => rfl) mwX9_isThing mvX9_isThing tw_720 (by decide) dX9_change_8 <| sd_zeq (tgt := 26) dX9_change_11 (by decide) (sd_fg (i := 0) (sd_fg (i := 1) (sd_fg (i := 2) (sd_fg (i := 3) sX9_change_26)))) <| sX9_change_14
def bX9_change_0 : Kt Int32 := o_ild 1 <| o_sc ev_i 1 fX9_isHour <| o_zeq (o_fg 0 (o_fg 1 (o_fg 2 (o_fg 3 bX9_change_26)))) <| bX9_change_7
set_option maxRecDepth 100000 in
theorem sX9_change_0 : Sd pX9_change ev_i 0 (bX9_change_0) := sd_iload_n dX9_change_0 rfl <| sd_sc tX9_isHour (fun _ _ => rfl) mwX9_isHour mvX9_isHour tw_723 (by decide) dX9_change_1 <| sd_zeq (tgt := 26) dX9_change_4 (by decide) (sd_fg (i := 0) (sd_fg (i := 1) (sd_fg (i := 2) (sd_fg (i := 3) sX9_change_26)))) <| sX9_change_7
def fX9_change : Mt Int32 := mk_f 5 bX9_change_0
theorem tX9_change : Ct ev_i yX9_change cX9_change 5 (some .int) 2 45 fX9_change := ct_of (by decide +kernel) sX9_change_0
abbrev pX9_tell : Px := (cX9_tell, 6, RX9, "tell", (some .int), 2, 46, fun _ => True)
def bX9_tell_113 : Kt Int32 := o_psh (.int 1) <| o_i2 o_add <| o_sI <| o_ald 0 <| o_gR 8 0 <| o_psh (.int 73) <| o_aI <| o_rI
set_option maxRecDepth 100000 in
theorem sX9_tell_113 : Sd pX9_tell ev_i 113 (bX9_tell_113) := sd_iconst dX9_tell_113 rfl <| sd_iadd dX9_tell_114 <| sd_sI dX9_tell_115 <| sd_aload_n dX9_tell_116 rfl <| sd_gR flX9_7 dX9_tell_117 <| sd_bipush dX9_tell_120 rfl <| sd_aI dX9_tell_122 <| (sd_rI rfl dX9_tell_123)
def bX9_tell_52 : Kt Int32 := o_psh (.int 57) <| o_psh (.int 4) <| o_ald 0 <| o_gR 8 0 <| o_psh (.int 73) <| o_aI <| o_i2 o_mul <| o_i2 o_add <| o_ist 5 <| o_ald 0 <| o_gR 8 0 <| o_ild 5 <| o_ild 1 <| o_sI <| o_ald 0 <| o_gR 8 0 <| o_ild 5 <| o_psh (.int 1) <| o_i2 o_add <| o_ild 2 <| o_sI <| o_ald 0 <| o_gR 8 0 <| o_ild 5 <| o_psh (.int 2) <| o_i2 o_add <| o_ild 3 <| o_sI <| o_ald 0 <| o_gR 8 0 <| o_ild 5 <| o_psh (.int 3) <| o_i2 o_add <| o_ild 4 <| o_sI <| o_ald 0 <| o_gR 8 0 <| o_psh (.int 73) <| o_du2 <| o_aI <| (o_fg 1 (o_fg 2 (o_fg 3 (o_fg 4 (o_fg 5 bX9_tell_113)))))
set_option maxRecDepth 100000 in
theorem sX9_tell_52 : Sd pX9_tell ev_i 52 (bX9_tell_52) := sd_bipush dX9_tell_52 rfl <| sd_iconst dX9_tell_54 rfl <| sd_aload_n dX9_tell_55 rfl <| sd_gR flX9_7 dX9_tell_56 <| sd_bipush dX9_tell_59 rfl <| sd_aI dX9_tell_61 <| sd_imul dX9_tell_62 <| sd_iadd dX9_tell_63 <| sd_istore dX9_tell_64 (by decide) <| sd_aload_n dX9_tell_66 rfl <| sd_gR flX9_7 dX9_tell_67 <| sd_iload dX9_tell_70 <| sd_iload_n dX9_tell_72 rfl <| sd_sI dX9_tell_73 <| sd_aload_n dX9_tell_74 rfl <| sd_gR flX9_7 dX9_tell_75 <| sd_iload dX9_tell_78 <| sd_iconst dX9_tell_80 rfl <| sd_iadd dX9_tell_81 <| sd_iload_n dX9_tell_82 rfl <| sd_sI dX9_tell_83 <| sd_aload_n dX9_tell_84 rfl <| sd_gR flX9_7 dX9_tell_85 <| sd_iload dX9_tell_88 <| sd_iconst dX9_tell_90 rfl <| sd_iadd dX9_tell_91 <| sd_iload_n dX9_tell_92 rfl <| sd_sI dX9_tell_93 <| sd_aload_n dX9_tell_94 rfl <| sd_gR flX9_7 dX9_tell_95 <| sd_iload dX9_tell_98 <| sd_iconst dX9_tell_100 rfl <| sd_iadd dX9_tell_101 <| sd_iload dX9_tell_102 <| sd_sI dX9_tell_104 <| sd_aload_n dX9_tell_105 rfl <| sd_gR flX9_7 dX9_tell_106 <| sd_bipush dX9_tell_109 rfl <| sd_dup2 dX9_tell_111 <| sd_aI dX9_tell_112 <| (sd_fg (i := 1) (sd_fg (i := 2) (sd_fg (i := 3) (sd_fg (i := 4) (sd_fg (i := 5) sX9_tell_113)))))
def bX9_tell_49 : Kt Int32 := o_psh (.int (-3)) <| o_rI
set_option maxRecDepth 100000 in
theorem sX9_tell_49 : Sd pX9_tell ev_i 49 (bX9_tell_49) := sd_bipush dX9_tell_49 rfl <| (sd_rI rfl dX9_tell_51)
def bX9_tell_38 : Kt Int32 := o_ald 0 <| o_gR 8 0 <| o_psh (.int 73) <| o_aI <| o_psh (.int 4) <| o_cne bX9_tell_52 <| (o_fg 0 (o_fg 1 (o_fg 2 (o_fg 3 (o_fg 4 bX9_tell_49)))))
set_option maxRecDepth 100000 in
theorem sX9_tell_38 : Sd pX9_tell ev_i 38 (bX9_tell_38) := sd_aload_n dX9_tell_38 rfl <| sd_gR flX9_7 dX9_tell_39 <| sd_bipush dX9_tell_42 rfl <| sd_aI dX9_tell_44 <| sd_iconst dX9_tell_45 rfl <| sd_cne (tgt := 52) dX9_tell_46 (by decide) sX9_tell_52 <| (sd_fg (i := 0) (sd_fg (i := 1) (sd_fg (i := 2) (sd_fg (i := 3) (sd_fg (i := 4) sX9_tell_49)))))
def bX9_tell_36 : Kt Int32 := o_psh (.int (-1)) <| o_rI
set_option maxRecDepth 100000 in
theorem sX9_tell_36 : Sd pX9_tell ev_i 36 (bX9_tell_36) := sd_iconst dX9_tell_36 rfl <| (sd_rI rfl dX9_tell_37)
def bX9_tell_28 : Kt Int32 := o_ild 4 <| o_sc ev_i 1 fX9_isThing <| o_zne bX9_tell_38 <| (o_fg 0 (o_fg 1 (o_fg 2 (o_fg 3 (o_fg 4 bX9_tell_36)))))
set_option maxRecDepth 100000 in
theorem sX9_tell_28 : Sd pX9_tell ev_i 28 (bX9_tell_28) := sd_iload dX9_tell_28 <| sd_sc tX9_isThing (fun _ _ => rfl) mwX9_isThing mvX9_isThing tw_720 (by decide) dX9_tell_30 <| sd_zne (tgt := 38) dX9_tell_33 (by decide) sX9_tell_38 <| (sd_fg (i := 0) (sd_fg (i := 1) (sd_fg (i := 2) (sd_fg (i := 3) (sd_fg (i := 4) sX9_tell_36)))))
def bX9_tell_23 : Kt Int32 := o_ild 2 <| o_ild 3 <| o_ceq (o_fg 0 (o_fg 1 (o_fg 2 (o_fg 3 (o_fg 4 bX9_tell_36))))) <| bX9_tell_28
set_option maxRecDepth 100000 in
theorem sX9_tell_23 : Sd pX9_tell ev_i 23 (bX9_tell_23) := sd_iload_n dX9_tell_23 rfl <| sd_iload_n dX9_tell_24 rfl <| sd_ceq (tgt := 36) dX9_tell_25 (by decide) (sd_fg (i := 0) (sd_fg (i := 1) (sd_fg (i := 2) (sd_fg (i := 3) (sd_fg (i := 4) sX9_tell_36))))) <| sX9_tell_28
def bX9_tell_15 : Kt Int32 := o_ald 0 <| o_ild 3 <| o_vc ev_i 8 2 fX9_isOne <| o_zeq (o_fg 0 (o_fg 1 (o_fg 2 (o_fg 3 (o_fg 4 bX9_tell_36))))) <| bX9_tell_23
set_option maxRecDepth 100000 in
theorem sX9_tell_15 : Sd pX9_tell ev_i 15 (bX9_tell_15) := sd_aload_n dX9_tell_15 rfl <| sd_iload_n dX9_tell_16 rfl <| sd_vc tX9_isOne (fun _ _ => rfl) rfl mwX9_isOne mvX9_isOne tw_717 (by decide) dX9_tell_17 <| sd_zeq (tgt := 36) dX9_tell_20 (by decide) (sd_fg (i := 0) (sd_fg (i := 1) (sd_fg (i := 2) (sd_fg (i := 3) (sd_fg (i := 4) sX9_tell_36))))) <| sX9_tell_23
def bX9_tell_7 : Kt Int32 := o_ald 0 <| o_ild 2 <| o_vc ev_i 8 2 fX9_isOne <| o_zeq (o_fg 0 (o_fg 1 (o_fg 2 (o_fg 3 (o_fg 4 bX9_tell_36))))) <| bX9_tell_15
set_option maxRecDepth 100000 in
theorem sX9_tell_7 : Sd pX9_tell ev_i 7 (bX9_tell_7) := sd_aload_n dX9_tell_7 rfl <| sd_iload_n dX9_tell_8 rfl <| sd_vc tX9_isOne (fun _ _ => rfl) rfl mwX9_isOne mvX9_isOne tw_717 (by decide) dX9_tell_9 <| sd_zeq (tgt := 36) dX9_tell_12 (by decide) (sd_fg (i := 0) (sd_fg (i := 1) (sd_fg (i := 2) (sd_fg (i := 3) (sd_fg (i := 4) sX9_tell_36))))) <| sX9_tell_15
def bX9_tell_0 : Kt Int32 := o_ild 1 <| o_sc ev_i 1 fX9_isHour <| o_zeq (o_fg 0 (o_fg 1 (o_fg 2 (o_fg 3 (o_fg 4 bX9_tell_36))))) <| bX9_tell_7
set_option maxRecDepth 100000 in
theorem sX9_tell_0 : Sd pX9_tell ev_i 0 (bX9_tell_0) := sd_iload_n dX9_tell_0 rfl <| sd_sc tX9_isHour (fun _ _ => rfl) mwX9_isHour mvX9_isHour tw_723 (by decide) dX9_tell_1 <| sd_zeq (tgt := 36) dX9_tell_4 (by decide) (sd_fg (i := 0) (sd_fg (i := 1) (sd_fg (i := 2) (sd_fg (i := 3) (sd_fg (i := 4) sX9_tell_36))))) <| sX9_tell_7
def fX9_tell : Mt Int32 := mk_f 6 bX9_tell_0
theorem tX9_tell : Ct ev_i yX9_tell cX9_tell 6 (some .int) 2 46 fX9_tell := ct_of (by decide +kernel) sX9_tell_0
abbrev pX9_drop : Px := (cX9_drop, 4, RX9, "drop", (some .int), 1, 25, fun _ => True)
def bX9_drop_57 : Kt Int32 := o_ild 3 <| o_ild 2 <| o_vc ev_i 8 4 fX9_puts <| o_rI
set_option maxRecDepth 100000 in
theorem sX9_drop_57 : Sd pX9_drop ev_i 57 (bX9_drop_57) := sd_iload_n dX9_drop_57 rfl <| sd_iload_n dX9_drop_58 rfl <| sd_vc tX9_puts (fun _ _ => rfl) rfl mwX9_puts mvX9_puts tw_744 (by decide) dX9_drop_59 <| (sd_rI rfl dX9_drop_62)
def bX9_drop_56 : Kt Int32 := o_psh (.int 0) <| bX9_drop_57
set_option maxRecDepth 100000 in
theorem sX9_drop_56 : Sd pX9_drop ev_i 56 (bX9_drop_56) := sd_iconst dX9_drop_56 rfl <| sX9_drop_57
def bX9_drop_52 : Kt Int32 := o_psh (.int 1) <| bX9_drop_57
set_option maxRecDepth 100000 in
theorem sX9_drop_52 : Sd pX9_drop ev_i 52 (bX9_drop_52) := sd_iconst dX9_drop_52 rfl <| (sd_goto (tgt := 57) dX9_drop_53 (by decide) sX9_drop_57)
def bX9_drop_36 : Kt Int32 := o_ild 2 <| o_i2l <| o_psh (.long 0) <| o_ald 0 <| o_gR 8 0 <| o_ild 3 <| o_aI <| o_i2l <| o_sc ev_i 3 fX9_in <| o_zeq (o_fg 0 bX9_drop_56) <| (o_fg 0 bX9_drop_52)
set_option maxRecDepth 100000 in
theorem sX9_drop_36 : Sd pX9_drop ev_i 36 (bX9_drop_36) := sd_iload_n dX9_drop_36 rfl <| sd_i2l dX9_drop_37 <| sd_lconst dX9_drop_38 rfl <| sd_aload_n dX9_drop_39 rfl <| sd_gR flX9_7 dX9_drop_40 <| sd_iload_n dX9_drop_43 rfl <| sd_aI dX9_drop_44 <| sd_i2l dX9_drop_45 <| sd_sc tX9_in (fun _ _ => rfl) mwX9_in mvX9_in tw_611 (by decide) dX9_drop_46 <| sd_zeq (tgt := 56) dX9_drop_49 (by decide) (sd_fg (i := 0) sX9_drop_56) <| (sd_fg (i := 0) sX9_drop_52)
def bX9_drop_22 : Kt Int32 := o_ist 3 <| o_ald 0 <| o_ild 1 <| o_i2l <| o_psh (.long 1) <| o_psh (.long 3) <| o_sc ev_i 3 fX9_in <| o_zeq (o_fg 0 (o_fg 1 bX9_drop_56)) <| (o_fg 1 bX9_drop_36)
set_option maxRecDepth 100000 in
theorem sX9_drop_22 : Sd pX9_drop ev_i 22 (bX9_drop_22) := sd_istore_n dX9_drop_22 rfl (by decide) <| sd_aload_n dX9_drop_23 rfl <| sd_iload_n dX9_drop_24 rfl <| sd_i2l dX9_drop_25 <| sd_lconst dX9_drop_26 rfl <| sd_ldc2 tw_740 dX9_drop_27 <| sd_sc tX9_in (fun _ _ => rfl) mwX9_in mvX9_in tw_611 (by decide) dX9_drop_30 <| sd_zeq (tgt := 56) dX9_drop_33 (by decide) (sd_fg (i := 0) (sd_fg (i := 1) sX9_drop_56)) <| (sd_fg (i := 1) sX9_drop_36)
def bX9_drop_20 : Kt Int32 := o_psh (.int 73) <| bX9_drop_22
set_option maxRecDepth 100000 in
theorem sX9_drop_20 : Sd pX9_drop ev_i 20 (bX9_drop_20) := sd_bipush dX9_drop_20 rfl <| sX9_drop_22
def bX9_drop_15 : Kt Int32 := o_psh (.int 56) <| bX9_drop_22
set_option maxRecDepth 100000 in
theorem sX9_drop_15 : Sd pX9_drop ev_i 15 (bX9_drop_15) := sd_bipush dX9_drop_15 rfl <| (sd_goto (tgt := 22) dX9_drop_17 (by decide) sX9_drop_22)
def bX9_drop_10 : Kt Int32 := o_ild 1 <| o_psh (.int 2) <| o_cne bX9_drop_20 <| bX9_drop_15
set_option maxRecDepth 100000 in
theorem sX9_drop_10 : Sd pX9_drop ev_i 10 (bX9_drop_10) := sd_iload_n dX9_drop_10 rfl <| sd_iconst dX9_drop_11 rfl <| sd_cne (tgt := 20) dX9_drop_12 (by decide) sX9_drop_20 <| sX9_drop_15
def bX9_drop_5 : Kt Int32 := o_psh (.int 25) <| bX9_drop_22
set_option maxRecDepth 100000 in
theorem sX9_drop_5 : Sd pX9_drop ev_i 5 (bX9_drop_5) := sd_bipush dX9_drop_5 rfl <| (sd_goto (tgt := 22) dX9_drop_7 (by decide) sX9_drop_22)
def bX9_drop_0 : Kt Int32 := o_ild 1 <| o_psh (.int 1) <| o_cne bX9_drop_10 <| bX9_drop_5
set_option maxRecDepth 100000 in
theorem sX9_drop_0 : Sd pX9_drop ev_i 0 (bX9_drop_0) := sd_iload_n dX9_drop_0 rfl <| sd_iconst dX9_drop_1 rfl <| sd_cne (tgt := 10) dX9_drop_2 (by decide) sX9_drop_10 <| sX9_drop_5
def fX9_drop : Mt Int32 := mk_f 4 bX9_drop_0
theorem tX9_drop : Ct ev_i yX9_drop cX9_drop 4 (some .int) 1 25 fX9_drop := ct_of (by decide +kernel) sX9_drop_0
abbrev pX9_sees : Px := (cX9_sees, 2, RX9, "sees", (some .int), 3, 67, fun _ => True)
def bX9_sees_29 : Kt Int32 := o_rI
set_option maxRecDepth 100000 in
theorem sX9_sees_29 : Sd pX9_sees ev_i 29 (bX9_sees_29) := (sd_rI rfl dX9_sees_29)
def bX9_sees_27 : Kt Int32 := o_psh (.int (-4)) <| bX9_sees_29
set_option maxRecDepth 100000 in
theorem sX9_sees_27 : Sd pX9_sees ev_i 27 (bX9_sees_27) := sd_bipush dX9_sees_27 rfl <| sX9_sees_29
def bX9_sees_19 : Kt Int32 := o_ald 0 <| o_ild 1 <| o_vc ev_i 8 2 fX9_hasIt <| (o_fg 0 (o_fg 1 bX9_sees_29))
set_option maxRecDepth 100000 in
theorem sX9_sees_19 : Sd pX9_sees ev_i 19 (bX9_sees_19) := sd_aload_n dX9_sees_19 rfl <| sd_iload_n dX9_sees_20 rfl <| sd_vc tX9_hasIt (fun _ _ => rfl) rfl mwX9_hasIt mvX9_hasIt tw_689 (by decide) dX9_sees_21 <| (sd_goto (tgt := 29) dX9_sees_24 (by decide) (sd_fg (i := 0) (sd_fg (i := 1) sX9_sees_29)))
def bX9_sees_11 : Kt Int32 := o_ald 0 <| o_ild 1 <| o_vc ev_i 8 2 fX9_doesSee <| o_zeq (o_fg 0 (o_fg 1 bX9_sees_27)) <| bX9_sees_19
set_option maxRecDepth 100000 in
theorem sX9_sees_11 : Sd pX9_sees ev_i 11 (bX9_sees_11) := sd_aload_n dX9_sees_11 rfl <| sd_iload_n dX9_sees_12 rfl <| sd_vc tX9_doesSee (fun _ _ => rfl) rfl mwX9_doesSee mvX9_doesSee tw_697 (by decide) dX9_sees_13 <| sd_zeq (tgt := 27) dX9_sees_16 (by decide) (sd_fg (i := 0) (sd_fg (i := 1) sX9_sees_27)) <| sX9_sees_19
def bX9_sees_7 : Kt Int32 := o_psh (.int (-1)) <| bX9_sees_29
set_option maxRecDepth 100000 in
theorem sX9_sees_7 : Sd pX9_sees ev_i 7 (bX9_sees_7) := sd_iconst dX9_sees_7 rfl <| (sd_goto (tgt := 29) dX9_sees_8 (by decide) sX9_sees_29)
def bX9_sees_0 : Kt Int32 := o_ild 1 <| o_sc ev_i 1 fX9_isHour <| o_zne bX9_sees_11 <| (o_fg 0 (o_fg 1 bX9_sees_7))
set_option maxRecDepth 100000 in
theorem sX9_sees_0 : Sd pX9_sees ev_i 0 (bX9_sees_0) := sd_iload_n dX9_sees_0 rfl <| sd_sc tX9_isHour (fun _ _ => rfl) mwX9_isHour mvX9_isHour tw_723 (by decide) dX9_sees_1 <| sd_zne (tgt := 11) dX9_sees_4 (by decide) sX9_sees_11 <| (sd_fg (i := 0) (sd_fg (i := 1) sX9_sees_7))
def fX9_sees : Mt Int32 := mk_f 2 bX9_sees_0
theorem tX9_sees : Ct ev_i yX9_sees cX9_sees 2 (some .int) 3 67 fX9_sees := ct_of (by decide +kernel) sX9_sees_0
abbrev pX9_belief : Px := (cX9_belief, 6, RX9, "belief", (some .int), 4, 91, fun _ => True)
def bX9_belief_85 : Kt Int32 := o_rI
set_option maxRecDepth 100000 in
theorem sX9_belief_85 : Sd pX9_belief ev_i 85 (bX9_belief_85) := (sd_rI rfl dX9_belief_85)
def bX9_belief_78 : Kt Int32 := o_ald 0 <| o_gR 8 21 <| o_ild 5 <| o_aI <| (o_fg 0 (o_fg 5 bX9_belief_85))
set_option maxRecDepth 100000 in
theorem sX9_belief_78 : Sd pX9_belief ev_i 78 (bX9_belief_78) := sd_aload_n dX9_belief_78 rfl <| sd_gR flX9_31 dX9_belief_79 <| sd_iload dX9_belief_82 <| sd_aI dX9_belief_84 <| (sd_fg (i := 0) (sd_fg (i := 5) sX9_belief_85))
def bX9_belief_68 : Kt Int32 := o_ald 0 <| o_gR 8 20 <| o_ild 5 <| o_aI <| (o_fg 0 (o_fg 5 bX9_belief_85))
set_option maxRecDepth 100000 in
theorem sX9_belief_68 : Sd pX9_belief ev_i 68 (bX9_belief_68) := sd_aload_n dX9_belief_68 rfl <| sd_gR flX9_28 dX9_belief_69 <| sd_iload dX9_belief_72 <| sd_aI dX9_belief_74 <| (sd_goto (tgt := 85) dX9_belief_75 (by decide) (sd_fg (i := 0) (sd_fg (i := 5) sX9_belief_85)))
def bX9_belief_63 : Kt Int32 := o_ild 4 <| o_zne (o_fg 4 bX9_belief_78) <| (o_fg 4 bX9_belief_68)
set_option maxRecDepth 100000 in
theorem sX9_belief_63 : Sd pX9_belief ev_i 63 (bX9_belief_63) := sd_iload dX9_belief_63 <| sd_zne (tgt := 78) dX9_belief_65 (by decide) (sd_fg (i := 4) sX9_belief_78) <| (sd_fg (i := 4) sX9_belief_68)
def bX9_belief_35 : Kt Int32 := o_ald 0 <| o_vc ev_v 8 1 fX9_hoursGo <| o_psh (.int 15) <| o_ild 3 <| o_i2 o_mul <| o_psh (.int 3) <| o_ild 1 <| o_i2 o_mul <| o_i2 o_add <| o_ild 2 <| o_i2 o_add <| o_ist 5 <| o_ald 0 <| o_gR 8 20 <| o_ild 5 <| o_aI <| o_psh (.int (-4)) <| o_ceq (o_fg 1 (o_fg 2 (o_fg 3 (o_fg 4 bX9_belief_68)))) <| (o_fg 1 (o_fg 2 (o_fg 3 bX9_belief_63)))
set_option maxRecDepth 100000 in
theorem sX9_belief_35 : Sd pX9_belief ev_i 35 (bX9_belief_35) := sd_aload_n dX9_belief_35 rfl <| sd_vc tX9_hoursGo (fun _ _ => rfl) rfl mwX9_hoursGo mvX9_hoursGo tw_752 (by decide) dX9_belief_36 <| sd_bipush dX9_belief_39 rfl <| sd_iload_n dX9_belief_41 rfl <| sd_imul dX9_belief_42 <| sd_iconst dX9_belief_43 rfl <| sd_iload_n dX9_belief_44 rfl <| sd_imul dX9_belief_45 <| sd_iadd dX9_belief_46 <| sd_iload_n dX9_belief_47 rfl <| sd_iadd dX9_belief_48 <| sd_istore dX9_belief_49 (by decide) <| sd_aload_n dX9_belief_51 rfl <| sd_gR flX9_28 dX9_belief_52 <| sd_iload dX9_belief_55 <| sd_aI dX9_belief_57 <| sd_bipush dX9_belief_58 rfl <| sd_ceq (tgt := 68) dX9_belief_60 (by decide) (sd_fg (i := 1) (sd_fg (i := 2) (sd_fg (i := 3) (sd_fg (i := 4) sX9_belief_68)))) <| (sd_fg (i := 1) (sd_fg (i := 2) (sd_fg (i := 3) sX9_belief_63)))
def bX9_belief_33 : Kt Int32 := o_psh (.int (-1)) <| o_rI
set_option maxRecDepth 100000 in
theorem sX9_belief_33 : Sd pX9_belief ev_i 33 (bX9_belief_33) := sd_iconst dX9_belief_33 rfl <| (sd_rI rfl dX9_belief_34)
def bX9_belief_22 : Kt Int32 := o_ild 4 <| o_i2l <| o_psh (.long 0) <| o_psh (.long 1) <| o_sc ev_i 3 fX9_in <| o_zne bX9_belief_35 <| (o_fg 0 (o_fg 1 (o_fg 2 (o_fg 3 (o_fg 4 bX9_belief_33)))))
set_option maxRecDepth 100000 in
theorem sX9_belief_22 : Sd pX9_belief ev_i 22 (bX9_belief_22) := sd_iload dX9_belief_22 <| sd_i2l dX9_belief_24 <| sd_lconst dX9_belief_25 rfl <| sd_lconst dX9_belief_26 rfl <| sd_sc tX9_in (fun _ _ => rfl) mwX9_in mvX9_in tw_611 (by decide) dX9_belief_27 <| sd_zne (tgt := 35) dX9_belief_30 (by decide) sX9_belief_35 <| (sd_fg (i := 0) (sd_fg (i := 1) (sd_fg (i := 2) (sd_fg (i := 3) (sd_fg (i := 4) sX9_belief_33)))))
def bX9_belief_15 : Kt Int32 := o_ild 3 <| o_sc ev_i 1 fX9_isHour <| o_zeq (o_fg 0 (o_fg 1 (o_fg 2 (o_fg 3 (o_fg 4 bX9_belief_33))))) <| bX9_belief_22
set_option maxRecDepth 100000 in
theorem sX9_belief_15 : Sd pX9_belief ev_i 15 (bX9_belief_15) := sd_iload_n dX9_belief_15 rfl <| sd_sc tX9_isHour (fun _ _ => rfl) mwX9_isHour mvX9_isHour tw_723 (by decide) dX9_belief_16 <| sd_zeq (tgt := 33) dX9_belief_19 (by decide) (sd_fg (i := 0) (sd_fg (i := 1) (sd_fg (i := 2) (sd_fg (i := 3) (sd_fg (i := 4) sX9_belief_33))))) <| sX9_belief_22
def bX9_belief_8 : Kt Int32 := o_ild 2 <| o_sc ev_i 1 fX9_isThing <| o_zeq (o_fg 0 (o_fg 1 (o_fg 2 (o_fg 3 (o_fg 4 bX9_belief_33))))) <| bX9_belief_15
set_option maxRecDepth 100000 in
theorem sX9_belief_8 : Sd pX9_belief ev_i 8 (bX9_belief_8) := sd_iload_n dX9_belief_8 rfl <| sd_sc tX9_isThing (fun _ _ => rfl) mwX9_isThing mvX9_isThing tw_720 (by decide) dX9_belief_9 <| sd_zeq (tgt := 33) dX9_belief_12 (by decide) (sd_fg (i := 0) (sd_fg (i := 1) (sd_fg (i := 2) (sd_fg (i := 3) (sd_fg (i := 4) sX9_belief_33))))) <| sX9_belief_15
def bX9_belief_0 : Kt Int32 := o_ald 0 <| o_ild 1 <| o_vc ev_i 8 2 fX9_isOne <| o_zeq (o_fg 0 (o_fg 1 (o_fg 2 (o_fg 3 (o_fg 4 bX9_belief_33))))) <| bX9_belief_8
set_option maxRecDepth 100000 in
theorem sX9_belief_0 : Sd pX9_belief ev_i 0 (bX9_belief_0) := sd_aload_n dX9_belief_0 rfl <| sd_iload_n dX9_belief_1 rfl <| sd_vc tX9_isOne (fun _ _ => rfl) rfl mwX9_isOne mvX9_isOne tw_717 (by decide) dX9_belief_2 <| sd_zeq (tgt := 33) dX9_belief_5 (by decide) (sd_fg (i := 0) (sd_fg (i := 1) (sd_fg (i := 2) (sd_fg (i := 3) (sd_fg (i := 4) sX9_belief_33))))) <| sX9_belief_8
def fX9_belief : Mt Int32 := mk_f 6 bX9_belief_0
theorem tX9_belief : Ct ev_i yX9_belief cX9_belief 6 (some .int) 4 91 fX9_belief := ct_of (by decide +kernel) sX9_belief_0
abbrev pX9_rightOf : Px := (cX9_rightOf, 8, RX9, "rightOf", (some .int), 1, 26, fun _ => True)
def bX9_rightOf_91 : Kt Int32 := o_ild 4 <| o_rI
set_option maxRecDepth 100000 in
theorem sX9_rightOf_91 : Sd pX9_rightOf ev_i 91 (bX9_rightOf_91) := sd_iload dX9_rightOf_91 <| (sd_rI rfl dX9_rightOf_93)
def bX9_rightOf_82 (K14 : Kt Int32) : Kt Int32 := o_i2 o_or <| o_ist 4 <| o_inc 6 1 <| K14
set_option maxRecDepth 100000 in
theorem sX9_rightOf_82 {K14 : Kt Int32} (h14 : Sd pX9_rightOf ev_i 14 K14) : Sd pX9_rightOf ev_i 82 (bX9_rightOf_82 K14) := sd_ior dX9_rightOf_82 <| sd_istore dX9_rightOf_83 (by decide) <| sd_iinc dX9_rightOf_85 rfl (by decide) <| (sd_goto (tgt := 14) dX9_rightOf_88 (by decide) h14)
def bX9_rightOf_81 (K14 : Kt Int32) : Kt Int32 := o_psh (.int 0) <| (bX9_rightOf_82 K14)
set_option maxRecDepth 100000 in
theorem sX9_rightOf_81 {K14 : Kt Int32} (h14 : Sd pX9_rightOf ev_i 14 K14) : Sd pX9_rightOf ev_i 81 (bX9_rightOf_81 K14) := sd_iconst dX9_rightOf_81 rfl <| (sX9_rightOf_82 h14)
def bX9_rightOf_74 (K14 : Kt Int32) : Kt Int32 := o_psh (.int 1) <| o_ild 6 <| o_i2 o_shl <| (bX9_rightOf_82 K14)
set_option maxRecDepth 100000 in
theorem sX9_rightOf_74 {K14 : Kt Int32} (h14 : Sd pX9_rightOf ev_i 14 K14) : Sd pX9_rightOf ev_i 74 (bX9_rightOf_74 K14) := sd_iconst dX9_rightOf_74 rfl <| sd_iload dX9_rightOf_75 <| sd_ishl dX9_rightOf_77 <| (sd_goto (tgt := 82) dX9_rightOf_78 (by decide) (sX9_rightOf_82 h14))
def bX9_rightOf_71 (K14 : Kt Int32) : Kt Int32 := o_cne (bX9_rightOf_81 K14) <| (bX9_rightOf_74 K14)
set_option maxRecDepth 100000 in
theorem sX9_rightOf_71 {K14 : Kt Int32} (h14 : Sd pX9_rightOf ev_i 14 K14) : Sd pX9_rightOf ev_i 71 (bX9_rightOf_71 K14) := sd_cne (tgt := 81) dX9_rightOf_71 (by decide) (sX9_rightOf_81 h14) <| (sX9_rightOf_74 h14)
def bX9_rightOf_70 (K14 : Kt Int32) : Kt Int32 := o_psh (.int 0) <| (bX9_rightOf_71 K14)
set_option maxRecDepth 100000 in
theorem sX9_rightOf_70 {K14 : Kt Int32} (h14 : Sd pX9_rightOf ev_i 14 K14) : Sd pX9_rightOf ev_i 70 (bX9_rightOf_70 K14) := sd_iconst dX9_rightOf_70 rfl <| (sX9_rightOf_71 h14)
def bX9_rightOf_66 (K14 : Kt Int32) : Kt Int32 := o_psh (.int 1) <| (bX9_rightOf_71 K14)
set_option maxRecDepth 100000 in
theorem sX9_rightOf_66 {K14 : Kt Int32} (h14 : Sd pX9_rightOf ev_i 14 K14) : Sd pX9_rightOf ev_i 66 (bX9_rightOf_66 K14) := sd_iconst dX9_rightOf_66 rfl <| (sd_goto (tgt := 71) dX9_rightOf_67 (by decide) (sX9_rightOf_71 h14))
def bX9_rightOf_62 (K14 : Kt Int32) : Kt Int32 := o_ild 3 <| o_zne (bX9_rightOf_70 K14) <| (bX9_rightOf_66 K14)
set_option maxRecDepth 100000 in
theorem sX9_rightOf_62 {K14 : Kt Int32} (h14 : Sd pX9_rightOf ev_i 14 K14) : Sd pX9_rightOf ev_i 62 (bX9_rightOf_62 K14) := sd_iload_n dX9_rightOf_62 rfl <| sd_zne (tgt := 70) dX9_rightOf_63 (by decide) (sX9_rightOf_70 h14) <| (sX9_rightOf_66 h14)
def bX9_rightOf_61 (K14 : Kt Int32) : Kt Int32 := o_psh (.int 0) <| (bX9_rightOf_62 K14)
set_option maxRecDepth 100000 in
theorem sX9_rightOf_61 {K14 : Kt Int32} (h14 : Sd pX9_rightOf ev_i 14 K14) : Sd pX9_rightOf ev_i 61 (bX9_rightOf_61 K14) := sd_iconst dX9_rightOf_61 rfl <| (sX9_rightOf_62 h14)
def bX9_rightOf_57 (K14 : Kt Int32) : Kt Int32 := o_psh (.int 1) <| (bX9_rightOf_62 K14)
set_option maxRecDepth 100000 in
theorem sX9_rightOf_57 {K14 : Kt Int32} (h14 : Sd pX9_rightOf ev_i 14 K14) : Sd pX9_rightOf ev_i 57 (bX9_rightOf_57 K14) := sd_iconst dX9_rightOf_57 rfl <| (sd_goto (tgt := 62) dX9_rightOf_58 (by decide) (sX9_rightOf_62 h14))
def bX9_rightOf_50 (K14 : Kt Int32) : Kt Int32 := o_ild 7 <| o_ild 5 <| o_cne (o_fg 7 (bX9_rightOf_61 K14)) <| (o_fg 7 (bX9_rightOf_57 K14))
set_option maxRecDepth 100000 in
theorem sX9_rightOf_50 {K14 : Kt Int32} (h14 : Sd pX9_rightOf ev_i 14 K14) : Sd pX9_rightOf ev_i 50 (bX9_rightOf_50 K14) := sd_iload dX9_rightOf_50 <| sd_iload dX9_rightOf_52 <| sd_cne (tgt := 61) dX9_rightOf_54 (by decide) (sd_fg (i := 7) (sX9_rightOf_61 h14)) <| (sd_fg (i := 7) (sX9_rightOf_57 h14))
def bX9_rightOf_23 (K14 : Kt Int32) : Kt Int32 := o_ald 0 <| o_gR 8 20 <| o_psh (.int 15) <| o_ild 2 <| o_i2 o_mul <| o_psh (.int 3) <| o_ild 6 <| o_i2 o_mul <| o_i2 o_add <| o_ild 1 <| o_i2 o_add <| o_aI <| o_ist 7 <| o_ild 4 <| o_ild 7 <| o_psh (.int (-4)) <| o_ceq (o_fg 4 (o_fg 7 (bX9_rightOf_81 K14))) <| (o_fg 4 (bX9_rightOf_50 K14))
set_option maxRecDepth 100000 in
theorem sX9_rightOf_23 {K14 : Kt Int32} (h14 : Sd pX9_rightOf ev_i 14 K14) : Sd pX9_rightOf ev_i 23 (bX9_rightOf_23 K14) := sd_aload_n dX9_rightOf_23 rfl <| sd_gR flX9_28 dX9_rightOf_24 <| sd_bipush dX9_rightOf_27 rfl <| sd_iload_n dX9_rightOf_29 rfl <| sd_imul dX9_rightOf_30 <| sd_iconst dX9_rightOf_31 rfl <| sd_iload dX9_rightOf_32 <| sd_imul dX9_rightOf_34 <| sd_iadd dX9_rightOf_35 <| sd_iload_n dX9_rightOf_36 rfl <| sd_iadd dX9_rightOf_37 <| sd_aI dX9_rightOf_38 <| sd_istore dX9_rightOf_39 (by decide) <| sd_iload dX9_rightOf_41 <| sd_iload dX9_rightOf_43 <| sd_bipush dX9_rightOf_45 rfl <| sd_ceq (tgt := 81) dX9_rightOf_47 (by decide) (sd_fg (i := 4) (sd_fg (i := 7) (sX9_rightOf_81 h14))) <| (sd_fg (i := 4) (sX9_rightOf_50 h14))
def bX9_rightOf_14 (K14 : Kt Int32) : Kt Int32 := o_ild 6 <| o_ald 0 <| o_gI 8 2 <| o_cge (o_fg 0 (o_fg 1 (o_fg 2 (o_fg 3 (o_fg 5 (o_fg 6 bX9_rightOf_91)))))) <| (bX9_rightOf_23 K14)
set_option maxRecDepth 100000 in
theorem sX9_rightOf_14 {K14 : Kt Int32} (h14 : Sd pX9_rightOf ev_i 14 K14) : Sd pX9_rightOf ev_i 14 (bX9_rightOf_14 K14) := sd_iload dX9_rightOf_14 <| sd_aload_n dX9_rightOf_16 rfl <| sd_gI flX9_154 dX9_rightOf_17 <| sd_cge (tgt := 91) dX9_rightOf_20 (by decide) (sd_fg (i := 0) (sd_fg (i := 1) (sd_fg (i := 2) (sd_fg (i := 3) (sd_fg (i := 5) (sd_fg (i := 6) sX9_rightOf_91)))))) <| (sX9_rightOf_23 h14)
def bX9_rightOf_0 : Kt Int32 := o_psh (.int 0) <| o_ist 4 <| o_ald 0 <| o_ild 1 <| o_ild 2 <| o_vc ev_i 8 3 fX9_valueAt <| o_ist 5 <| o_psh (.int 0) <| o_ist 6 <| (o_lp (bX9_rightOf_14) fu)
set_option maxRecDepth 100000 in
theorem sX9_rightOf_0 : Sd pX9_rightOf ev_i 0 (bX9_rightOf_0) := sd_iconst dX9_rightOf_0 rfl <| sd_istore dX9_rightOf_1 (by decide) <| sd_aload_n dX9_rightOf_3 rfl <| sd_iload_n dX9_rightOf_4 rfl <| sd_iload_n dX9_rightOf_5 rfl <| sd_vc tX9_valueAt (fun _ _ => rfl) rfl mwX9_valueAt mvX9_valueAt tw_701 (by decide) dX9_rightOf_6 <| sd_istore dX9_rightOf_9 (by decide) <| sd_iconst dX9_rightOf_11 rfl <| sd_istore dX9_rightOf_12 (by decide) <| (sd_lp (fun K h => sX9_rightOf_14 h) fu)
def fX9_rightOf : Mt Int32 := mk_f 8 bX9_rightOf_0
theorem tX9_rightOf : Ct ev_i yX9_rightOf cX9_rightOf 8 (some .int) 1 26 fX9_rightOf := ct_of (by decide +kernel) sX9_rightOf_0
abbrev pX9_right : Px := (cX9_right, 4, RX9, "right", (some .int), 4, 91, fun _ => True)
def bX9_right_26 : Kt Int32 := o_ald 0 <| o_vc ev_v 8 1 fX9_hoursGo <| o_ald 0 <| o_ild 1 <| o_ild 2 <| o_ild 3 <| o_vc ev_i 8 4 fX9_rightOf <| o_rI
set_option maxRecDepth 100000 in
theorem sX9_right_26 : Sd pX9_right ev_i 26 (bX9_right_26) := sd_aload_n dX9_right_26 rfl <| sd_vc tX9_hoursGo (fun _ _ => rfl) rfl mwX9_hoursGo mvX9_hoursGo tw_752 (by decide) dX9_right_27 <| sd_aload_n dX9_right_30 rfl <| sd_iload_n dX9_right_31 rfl <| sd_iload_n dX9_right_32 rfl <| sd_iload_n dX9_right_33 rfl <| sd_vc tX9_rightOf (fun _ _ => rfl) rfl mwX9_rightOf mvX9_rightOf tw_756 (by decide) dX9_right_34 <| (sd_rI rfl dX9_right_37)
def bX9_right_24 : Kt Int32 := o_psh (.int (-1)) <| o_rI
set_option maxRecDepth 100000 in
theorem sX9_right_24 : Sd pX9_right ev_i 24 (bX9_right_24) := sd_iconst dX9_right_24 rfl <| (sd_rI rfl dX9_right_25)
def bX9_right_14 : Kt Int32 := o_ild 3 <| o_i2l <| o_psh (.long 0) <| o_psh (.long 1) <| o_sc ev_i 3 fX9_in <| o_zne bX9_right_26 <| (o_fg 0 (o_fg 1 (o_fg 2 (o_fg 3 bX9_right_24))))
set_option maxRecDepth 100000 in
theorem sX9_right_14 : Sd pX9_right ev_i 14 (bX9_right_14) := sd_iload_n dX9_right_14 rfl <| sd_i2l dX9_right_15 <| sd_lconst dX9_right_16 rfl <| sd_lconst dX9_right_17 rfl <| sd_sc tX9_in (fun _ _ => rfl) mwX9_in mvX9_in tw_611 (by decide) dX9_right_18 <| sd_zne (tgt := 26) dX9_right_21 (by decide) sX9_right_26 <| (sd_fg (i := 0) (sd_fg (i := 1) (sd_fg (i := 2) (sd_fg (i := 3) sX9_right_24))))
def bX9_right_7 : Kt Int32 := o_ild 2 <| o_sc ev_i 1 fX9_isHour <| o_zeq (o_fg 0 (o_fg 1 (o_fg 2 (o_fg 3 bX9_right_24)))) <| bX9_right_14
set_option maxRecDepth 100000 in
theorem sX9_right_7 : Sd pX9_right ev_i 7 (bX9_right_7) := sd_iload_n dX9_right_7 rfl <| sd_sc tX9_isHour (fun _ _ => rfl) mwX9_isHour mvX9_isHour tw_723 (by decide) dX9_right_8 <| sd_zeq (tgt := 24) dX9_right_11 (by decide) (sd_fg (i := 0) (sd_fg (i := 1) (sd_fg (i := 2) (sd_fg (i := 3) sX9_right_24)))) <| sX9_right_14
def bX9_right_0 : Kt Int32 := o_ild 1 <| o_sc ev_i 1 fX9_isThing <| o_zeq (o_fg 0 (o_fg 1 (o_fg 2 (o_fg 3 bX9_right_24)))) <| bX9_right_7
set_option maxRecDepth 100000 in
theorem sX9_right_0 : Sd pX9_right ev_i 0 (bX9_right_0) := sd_iload_n dX9_right_0 rfl <| sd_sc tX9_isThing (fun _ _ => rfl) mwX9_isThing mvX9_isThing tw_720 (by decide) dX9_right_1 <| sd_zeq (tgt := 24) dX9_right_4 (by decide) (sd_fg (i := 0) (sd_fg (i := 1) (sd_fg (i := 2) (sd_fg (i := 3) sX9_right_24)))) <| sX9_right_7
def fX9_right : Mt Int32 := mk_f 4 bX9_right_0
theorem tX9_right : Ct ev_i yX9_right cX9_right 4 (some .int) 4 91 fX9_right := ct_of (by decide +kernel) sX9_right_0
abbrev pX9_wrong : Px := (cX9_wrong, 4, RX9, "wrong", (some .int), 4, 91, fun _ => True)
def bX9_wrong_52 : Kt Int32 := o_psh (.int (-4)) <| o_rI
set_option maxRecDepth 100000 in
theorem sX9_wrong_52 : Sd pX9_wrong ev_i 52 (bX9_wrong_52) := sd_bipush dX9_wrong_52 rfl <| (sd_rI rfl dX9_wrong_54)
def bX9_wrong_46 (K23 : Kt Int32) : Kt Int32 := o_inc 3 1 <| K23
set_option maxRecDepth 100000 in
theorem sX9_wrong_46 {K23 : Kt Int32} (h23 : Sd pX9_wrong ev_i 23 K23) : Sd pX9_wrong ev_i 46 (bX9_wrong_46 K23) := sd_iinc dX9_wrong_46 rfl (by decide) <| (sd_goto (tgt := 23) dX9_wrong_49 (by decide) h23)
def bX9_wrong_44 (K23 : Kt Int32) : Kt Int32 := o_ild 3 <| o_rI
set_option maxRecDepth 100000 in
theorem sX9_wrong_44 {K23 : Kt Int32} (h23 : Sd pX9_wrong ev_i 23 K23) : Sd pX9_wrong ev_i 44 (bX9_wrong_44 K23) := sd_iload_n dX9_wrong_44 rfl <| (sd_rI rfl dX9_wrong_45)
def bX9_wrong_29 (K23 : Kt Int32) : Kt Int32 := o_ald 0 <| o_ild 2 <| o_ild 3 <| o_psh (.int 1) <| o_vc ev_i 8 4 fX9_rightOf <| o_ild 1 <| o_i2 o_shr <| o_psh (.int 1) <| o_i2 o_and <| o_psh (.int 1) <| o_cne (bX9_wrong_46 K23) <| (o_fg 0 (o_fg 1 (o_fg 2 (bX9_wrong_44 K23))))
set_option maxRecDepth 100000 in
theorem sX9_wrong_29 {K23 : Kt Int32} (h23 : Sd pX9_wrong ev_i 23 K23) : Sd pX9_wrong ev_i 29 (bX9_wrong_29 K23) := sd_aload_n dX9_wrong_29 rfl <| sd_iload_n dX9_wrong_30 rfl <| sd_iload_n dX9_wrong_31 rfl <| sd_iconst dX9_wrong_32 rfl <| sd_vc tX9_rightOf (fun _ _ => rfl) rfl mwX9_rightOf mvX9_rightOf tw_756 (by decide) dX9_wrong_33 <| sd_iload_n dX9_wrong_36 rfl <| sd_ishr dX9_wrong_37 <| sd_iconst dX9_wrong_38 rfl <| sd_iand dX9_wrong_39 <| sd_iconst dX9_wrong_40 rfl <| sd_cne (tgt := 46) dX9_wrong_41 (by decide) (sX9_wrong_46 h23) <| (sd_fg (i := 0) (sd_fg (i := 1) (sd_fg (i := 2) (sX9_wrong_44 h23))))
def bX9_wrong_23 (K23 : Kt Int32) : Kt Int32 := o_ild 3 <| o_psh (.int 10) <| o_cge (o_fg 0 (o_fg 1 (o_fg 2 (o_fg 3 bX9_wrong_52)))) <| (bX9_wrong_29 K23)
set_option maxRecDepth 100000 in
theorem sX9_wrong_23 {K23 : Kt Int32} (h23 : Sd pX9_wrong ev_i 23 K23) : Sd pX9_wrong ev_i 23 (bX9_wrong_23 K23) := sd_iload_n dX9_wrong_23 rfl <| sd_bipush dX9_wrong_24 rfl <| sd_cge (tgt := 52) dX9_wrong_26 (by decide) (sd_fg (i := 0) (sd_fg (i := 1) (sd_fg (i := 2) (sd_fg (i := 3) sX9_wrong_52)))) <| (sX9_wrong_29 h23)
def bX9_wrong_17 : Kt Int32 := o_ald 0 <| o_vc ev_v 8 1 fX9_hoursGo <| o_psh (.int 0) <| o_ist 3 <| (o_lp (bX9_wrong_23) fu)
set_option maxRecDepth 100000 in
theorem sX9_wrong_17 : Sd pX9_wrong ev_i 17 (bX9_wrong_17) := sd_aload_n dX9_wrong_17 rfl <| sd_vc tX9_hoursGo (fun _ _ => rfl) rfl mwX9_hoursGo mvX9_hoursGo tw_752 (by decide) dX9_wrong_18 <| sd_iconst dX9_wrong_21 rfl <| sd_istore_n dX9_wrong_22 rfl (by decide) <| (sd_lp (fun K h => sX9_wrong_23 h) fu)
def bX9_wrong_15 : Kt Int32 := o_psh (.int (-1)) <| o_rI
set_option maxRecDepth 100000 in
theorem sX9_wrong_15 : Sd pX9_wrong ev_i 15 (bX9_wrong_15) := sd_iconst dX9_wrong_15 rfl <| (sd_rI rfl dX9_wrong_16)
def bX9_wrong_8 : Kt Int32 := o_ild 2 <| o_sc ev_i 1 fX9_isThing <| o_zne bX9_wrong_17 <| (o_fg 0 (o_fg 1 (o_fg 2 bX9_wrong_15)))
set_option maxRecDepth 100000 in
theorem sX9_wrong_8 : Sd pX9_wrong ev_i 8 (bX9_wrong_8) := sd_iload_n dX9_wrong_8 rfl <| sd_sc tX9_isThing (fun _ _ => rfl) mwX9_isThing mvX9_isThing tw_720 (by decide) dX9_wrong_9 <| sd_zne (tgt := 17) dX9_wrong_12 (by decide) sX9_wrong_17 <| (sd_fg (i := 0) (sd_fg (i := 1) (sd_fg (i := 2) sX9_wrong_15)))
def bX9_wrong_0 : Kt Int32 := o_ald 0 <| o_ild 1 <| o_vc ev_i 8 2 fX9_isOne <| o_zeq (o_fg 0 (o_fg 1 (o_fg 2 bX9_wrong_15))) <| bX9_wrong_8
set_option maxRecDepth 100000 in
theorem sX9_wrong_0 : Sd pX9_wrong ev_i 0 (bX9_wrong_0) := sd_aload_n dX9_wrong_0 rfl <| sd_iload_n dX9_wrong_1 rfl <| sd_vc tX9_isOne (fun _ _ => rfl) rfl mwX9_isOne mvX9_isOne tw_717 (by decide) dX9_wrong_2 <| sd_zeq (tgt := 15) dX9_wrong_5 (by decide) (sd_fg (i := 0) (sd_fg (i := 1) (sd_fg (i := 2) sX9_wrong_15))) <| sX9_wrong_8
def fX9_wrong : Mt Int32 := mk_f 4 bX9_wrong_0
theorem tX9_wrong : Ct ev_i yX9_wrong cX9_wrong 4 (some .int) 4 91 fX9_wrong := ct_of (by decide +kernel) sX9_wrong_0
abbrev pX9_done : Px := (cX9_done, 3, RX9, "done", (some .int), 4, 89, fun _ => True)
def bX9_done_31 : Kt Int32 := o_rI
set_option maxRecDepth 100000 in
theorem sX9_done_31 : Sd pX9_done ev_i 31 (bX9_done_31) := (sd_rI rfl dX9_done_31)
def bX9_done_30 : Kt Int32 := o_psh (.int (-1)) <| bX9_done_31
set_option maxRecDepth 100000 in
theorem sX9_done_30 : Sd pX9_done ev_i 30 (bX9_done_30) := sd_iconst dX9_done_30 rfl <| sX9_done_31
def bX9_done_22 : Kt Int32 := o_ald 0 <| o_ild 2 <| o_vc ev_i 8 2 fX9_worthOf <| (o_fg 0 (o_fg 2 bX9_done_31))
set_option maxRecDepth 100000 in
theorem sX9_done_22 : Sd pX9_done ev_i 22 (bX9_done_22) := sd_aload_n dX9_done_22 rfl <| sd_iload_n dX9_done_23 rfl <| sd_vc tX9_worthOf (fun _ _ => rfl) rfl mwX9_worthOf mvX9_worthOf tw_738 (by decide) dX9_done_24 <| (sd_goto (tgt := 31) dX9_done_27 (by decide) (sd_fg (i := 0) (sd_fg (i := 2) sX9_done_31)))
def bX9_done_17 : Kt Int32 := o_ild 1 <| o_psh (.int 1) <| o_cne (o_fg 0 (o_fg 1 (o_fg 2 bX9_done_30))) <| (o_fg 1 bX9_done_22)
set_option maxRecDepth 100000 in
theorem sX9_done_17 : Sd pX9_done ev_i 17 (bX9_done_17) := sd_iload_n dX9_done_17 rfl <| sd_iconst dX9_done_18 rfl <| sd_cne (tgt := 30) dX9_done_19 (by decide) (sd_fg (i := 0) (sd_fg (i := 1) (sd_fg (i := 2) sX9_done_30))) <| (sd_fg (i := 1) sX9_done_22)
def bX9_done_13 : Kt Int32 := o_ild 2 <| (o_fg 2 bX9_done_31)
set_option maxRecDepth 100000 in
theorem sX9_done_13 : Sd pX9_done ev_i 13 (bX9_done_13) := sd_iload_n dX9_done_13 rfl <| (sd_goto (tgt := 31) dX9_done_14 (by decide) (sd_fg (i := 2) sX9_done_31))
def bX9_done_0 : Kt Int32 := o_ald 0 <| o_ald 0 <| o_vc ev_i 8 1 fX9_seeing <| o_vc ev_i 8 2 fX9_doneBy <| o_ist 2 <| o_ild 1 <| o_zne bX9_done_17 <| (o_fg 0 (o_fg 1 bX9_done_13))
set_option maxRecDepth 100000 in
theorem sX9_done_0 : Sd pX9_done ev_i 0 (bX9_done_0) := sd_aload_n dX9_done_0 rfl <| sd_aload_n dX9_done_1 rfl <| sd_vc tX9_seeing (fun _ _ => rfl) rfl mwX9_seeing mvX9_seeing tw_713 (by decide) dX9_done_2 <| sd_vc tX9_doneBy (fun _ _ => rfl) rfl mwX9_doneBy mvX9_doneBy tw_734 (by decide) dX9_done_5 <| sd_istore_n dX9_done_8 rfl (by decide) <| sd_iload_n dX9_done_9 rfl <| sd_zne (tgt := 17) dX9_done_10 (by decide) sX9_done_17 <| (sd_fg (i := 0) (sd_fg (i := 1) sX9_done_13))
def fX9_done : Mt Int32 := mk_f 3 bX9_done_0
theorem tX9_done : Ct ev_i yX9_done cX9_done 3 (some .int) 4 89 fX9_done := ct_of (by decide +kernel) sX9_done_0
abbrev pX9_workIn : Px := (cX9_workIn, 6, RX9, "workIn", (some .int), 1, 25, fun _ => True)
def bX9_workIn_82 : Kt Int32 := o_ild 3 <| o_rI
set_option maxRecDepth 100000 in
theorem sX9_workIn_82 : Sd pX9_workIn ev_i 82 (bX9_workIn_82) := sd_iload_n dX9_workIn_82 rfl <| (sd_rI rfl dX9_workIn_83)
def bX9_workIn_74 (K5 : Kt Int32) : Kt Int32 := o_i2 o_or <| o_ist 3 <| o_inc 4 1 <| K5
set_option maxRecDepth 100000 in
theorem sX9_workIn_74 {K5 : Kt Int32} (h5 : Sd pX9_workIn ev_i 5 K5) : Sd pX9_workIn ev_i 74 (bX9_workIn_74 K5) := sd_ior dX9_workIn_74 <| sd_istore_n dX9_workIn_75 rfl (by decide) <| sd_iinc dX9_workIn_76 rfl (by decide) <| (sd_goto (tgt := 5) dX9_workIn_79 (by decide) h5)
def bX9_workIn_73 (K5 : Kt Int32) : Kt Int32 := o_psh (.int 0) <| (bX9_workIn_74 K5)
set_option maxRecDepth 100000 in
theorem sX9_workIn_73 {K5 : Kt Int32} (h5 : Sd pX9_workIn ev_i 5 K5) : Sd pX9_workIn ev_i 73 (bX9_workIn_73 K5) := sd_iconst dX9_workIn_73 rfl <| (sX9_workIn_74 h5)
def bX9_workIn_66 (K5 : Kt Int32) : Kt Int32 := o_psh (.int 1) <| o_ild 4 <| o_i2 o_shl <| (bX9_workIn_74 K5)
set_option maxRecDepth 100000 in
theorem sX9_workIn_66 {K5 : Kt Int32} (h5 : Sd pX9_workIn ev_i 5 K5) : Sd pX9_workIn ev_i 66 (bX9_workIn_66 K5) := sd_iconst dX9_workIn_66 rfl <| sd_iload dX9_workIn_67 <| sd_ishl dX9_workIn_69 <| (sd_goto (tgt := 74) dX9_workIn_70 (by decide) (sX9_workIn_74 h5))
def bX9_workIn_38 (K5 : Kt Int32) : Kt Int32 := o_ild 2 <| o_i2l <| o_ald 0 <| o_gR 8 0 <| o_ild 5 <| o_psh (.int 1) <| o_i2 o_add <| o_aI <| o_i2l <| o_ald 0 <| o_gR 8 0 <| o_ild 5 <| o_psh (.int 2) <| o_i2 o_add <| o_aI <| o_i2l <| o_sc ev_i 3 fX9_in <| o_zeq (o_fg 5 (bX9_workIn_73 K5)) <| (o_fg 5 (bX9_workIn_66 K5))
set_option maxRecDepth 100000 in
theorem sX9_workIn_38 {K5 : Kt Int32} (h5 : Sd pX9_workIn ev_i 5 K5) : Sd pX9_workIn ev_i 38 (bX9_workIn_38 K5) := sd_iload_n dX9_workIn_38 rfl <| sd_i2l dX9_workIn_39 <| sd_aload_n dX9_workIn_40 rfl <| sd_gR flX9_7 dX9_workIn_41 <| sd_iload dX9_workIn_44 <| sd_iconst dX9_workIn_46 rfl <| sd_iadd dX9_workIn_47 <| sd_aI dX9_workIn_48 <| sd_i2l dX9_workIn_49 <| sd_aload_n dX9_workIn_50 rfl <| sd_gR flX9_7 dX9_workIn_51 <| sd_iload dX9_workIn_54 <| sd_iconst dX9_workIn_56 rfl <| sd_iadd dX9_workIn_57 <| sd_aI dX9_workIn_58 <| sd_i2l dX9_workIn_59 <| sd_sc tX9_in (fun _ _ => rfl) mwX9_in mvX9_in tw_611 (by decide) dX9_workIn_60 <| sd_zeq (tgt := 73) dX9_workIn_63 (by decide) (sd_fg (i := 5) (sX9_workIn_73 h5)) <| (sd_fg (i := 5) (sX9_workIn_66 h5))
def bX9_workIn_17 (K5 : Kt Int32) : Kt Int32 := o_psh (.int 36) <| o_psh (.int 4) <| o_ild 4 <| o_i2 o_mul <| o_i2 o_add <| o_ist 5 <| o_ild 3 <| o_ald 0 <| o_gR 8 0 <| o_ild 5 <| o_aI <| o_ild 1 <| o_cne (o_fg 3 (o_fg 5 (bX9_workIn_73 K5))) <| (o_fg 3 (bX9_workIn_38 K5))
set_option maxRecDepth 100000 in
theorem sX9_workIn_17 {K5 : Kt Int32} (h5 : Sd pX9_workIn ev_i 5 K5) : Sd pX9_workIn ev_i 17 (bX9_workIn_17 K5) := sd_bipush dX9_workIn_17 rfl <| sd_iconst dX9_workIn_19 rfl <| sd_iload dX9_workIn_20 <| sd_imul dX9_workIn_22 <| sd_iadd dX9_workIn_23 <| sd_istore dX9_workIn_24 (by decide) <| sd_iload_n dX9_workIn_26 rfl <| sd_aload_n dX9_workIn_27 rfl <| sd_gR flX9_7 dX9_workIn_28 <| sd_iload dX9_workIn_31 <| sd_aI dX9_workIn_33 <| sd_iload_n dX9_workIn_34 rfl <| sd_cne (tgt := 73) dX9_workIn_35 (by decide) (sd_fg (i := 3) (sd_fg (i := 5) (sX9_workIn_73 h5))) <| (sd_fg (i := 3) (sX9_workIn_38 h5))
def bX9_workIn_5 (K5 : Kt Int32) : Kt Int32 := o_ild 4 <| o_ald 0 <| o_gR 8 0 <| o_psh (.int 56) <| o_aI <| o_cge (o_fg 0 (o_fg 1 (o_fg 2 (o_fg 4 bX9_workIn_82)))) <| (bX9_workIn_17 K5)
set_option maxRecDepth 100000 in
theorem sX9_workIn_5 {K5 : Kt Int32} (h5 : Sd pX9_workIn ev_i 5 K5) : Sd pX9_workIn ev_i 5 (bX9_workIn_5 K5) := sd_iload dX9_workIn_5 <| sd_aload_n dX9_workIn_7 rfl <| sd_gR flX9_7 dX9_workIn_8 <| sd_bipush dX9_workIn_11 rfl <| sd_aI dX9_workIn_13 <| sd_cge (tgt := 82) dX9_workIn_14 (by decide) (sd_fg (i := 0) (sd_fg (i := 1) (sd_fg (i := 2) (sd_fg (i := 4) sX9_workIn_82)))) <| (sX9_workIn_17 h5)
def bX9_workIn_0 : Kt Int32 := o_psh (.int 0) <| o_ist 3 <| o_psh (.int 0) <| o_ist 4 <| (o_lp (bX9_workIn_5) fu)
set_option maxRecDepth 100000 in
theorem sX9_workIn_0 : Sd pX9_workIn ev_i 0 (bX9_workIn_0) := sd_iconst dX9_workIn_0 rfl <| sd_istore_n dX9_workIn_1 rfl (by decide) <| sd_iconst dX9_workIn_2 rfl <| sd_istore dX9_workIn_3 (by decide) <| (sd_lp (fun K h => sX9_workIn_5 h) fu)
def fX9_workIn : Mt Int32 := mk_f 6 bX9_workIn_0
theorem tX9_workIn : Ct ev_i yX9_workIn cX9_workIn 6 (some .int) 1 25 fX9_workIn := ct_of (by decide +kernel) sX9_workIn_0
abbrev pX9_comesTo : Px := (cX9_comesTo, 6, RX9, "comesTo", (some .int), 2, 50, fun _ => True)
def bX9_comesTo_62 : Kt Int32 := o_i2 o_add <| o_rI
set_option maxRecDepth 100000 in
theorem sX9_comesTo_62 : Sd pX9_comesTo ev_i 62 (bX9_comesTo_62) := sd_iadd dX9_comesTo_62 <| (sd_rI rfl dX9_comesTo_63)
def bX9_comesTo_60 : Kt Int32 := o_ild 4 <| (o_fg 4 bX9_comesTo_62)
set_option maxRecDepth 100000 in
theorem sX9_comesTo_60 : Sd pX9_comesTo ev_i 60 (bX9_comesTo_60) := sd_iload dX9_comesTo_60 <| (sd_fg (i := 4) sX9_comesTo_62)
def bX9_comesTo_48 : Kt Int32 := o_ild 4 <| o_ald 0 <| o_ild 1 <| o_ild 2 <| o_vc ev_i 8 3 fX9_workIn <| o_i2 o_or <| (o_fg 0 (o_fg 1 (o_fg 2 (o_fg 4 bX9_comesTo_62))))
set_option maxRecDepth 100000 in
theorem sX9_comesTo_48 : Sd pX9_comesTo ev_i 48 (bX9_comesTo_48) := sd_iload dX9_comesTo_48 <| sd_aload_n dX9_comesTo_50 rfl <| sd_iload_n dX9_comesTo_51 rfl <| sd_iload_n dX9_comesTo_52 rfl <| sd_vc tX9_workIn (fun _ _ => rfl) rfl mwX9_workIn mvX9_workIn tw_760 (by decide) dX9_comesTo_53 <| sd_ior dX9_comesTo_56 <| (sd_goto (tgt := 62) dX9_comesTo_57 (by decide) (sd_fg (i := 0) (sd_fg (i := 1) (sd_fg (i := 2) (sd_fg (i := 4) sX9_comesTo_62)))))
def bX9_comesTo_29 : Kt Int32 := o_ist 5 <| o_psh (.int 192) <| o_ild 2 <| o_psh (.int 1) <| o_i2 o_add <| o_i2 o_mul <| o_psh (.int 32) <| o_ild 1 <| o_i2 o_mul <| o_i2 o_add <| o_ild 5 <| o_zeq (o_fg 0 (o_fg 1 (o_fg 2 (o_fg 5 bX9_comesTo_60)))) <| (o_fg 5 bX9_comesTo_48)
set_option maxRecDepth 100000 in
theorem sX9_comesTo_29 : Sd pX9_comesTo ev_i 29 (bX9_comesTo_29) := sd_istore dX9_comesTo_29 (by decide) <| sd_sipush dX9_comesTo_31 rfl <| sd_iload_n dX9_comesTo_34 rfl <| sd_iconst dX9_comesTo_35 rfl <| sd_iadd dX9_comesTo_36 <| sd_imul dX9_comesTo_37 <| sd_bipush dX9_comesTo_38 rfl <| sd_iload_n dX9_comesTo_40 rfl <| sd_imul dX9_comesTo_41 <| sd_iadd dX9_comesTo_42 <| sd_iload dX9_comesTo_43 <| sd_zeq (tgt := 60) dX9_comesTo_45 (by decide) (sd_fg (i := 0) (sd_fg (i := 1) (sd_fg (i := 2) (sd_fg (i := 5) sX9_comesTo_60)))) <| (sd_fg (i := 5) sX9_comesTo_48)
def bX9_comesTo_28 : Kt Int32 := o_psh (.int 0) <| bX9_comesTo_29
set_option maxRecDepth 100000 in
theorem sX9_comesTo_28 : Sd pX9_comesTo ev_i 28 (bX9_comesTo_28) := sd_iconst dX9_comesTo_28 rfl <| sX9_comesTo_29
def bX9_comesTo_24 : Kt Int32 := o_psh (.int 1) <| bX9_comesTo_29
set_option maxRecDepth 100000 in
theorem sX9_comesTo_24 : Sd pX9_comesTo ev_i 24 (bX9_comesTo_24) := sd_iconst dX9_comesTo_24 rfl <| (sd_goto (tgt := 29) dX9_comesTo_25 (by decide) sX9_comesTo_29)
def bX9_comesTo_18 : Kt Int32 := o_vc ev_i 8 4 fX9_wouldSee <| o_zeq bX9_comesTo_28 <| bX9_comesTo_24
set_option maxRecDepth 100000 in
theorem sX9_comesTo_18 : Sd pX9_comesTo ev_i 18 (bX9_comesTo_18) := sd_vc tX9_wouldSee (fun _ _ => rfl) rfl mwX9_wouldSee mvX9_wouldSee tw_693 (by decide) dX9_comesTo_18 <| sd_zeq (tgt := 28) dX9_comesTo_21 (by decide) sX9_comesTo_28 <| sX9_comesTo_24
def bX9_comesTo_17 : Kt Int32 := o_ild 3 <| (o_fg 3 bX9_comesTo_18)
set_option maxRecDepth 100000 in
theorem sX9_comesTo_17 : Sd pX9_comesTo ev_i 17 (bX9_comesTo_17) := sd_iload_n dX9_comesTo_17 rfl <| (sd_fg (i := 3) sX9_comesTo_18)
def bX9_comesTo_13 : Kt Int32 := o_psh (.int (-1)) <| bX9_comesTo_18
set_option maxRecDepth 100000 in
theorem sX9_comesTo_13 : Sd pX9_comesTo ev_i 13 (bX9_comesTo_13) := sd_iconst dX9_comesTo_13 rfl <| (sd_goto (tgt := 18) dX9_comesTo_14 (by decide) sX9_comesTo_18)
def bX9_comesTo_5 : Kt Int32 := o_ald 0 <| o_ild 1 <| o_ild 2 <| o_ild 3 <| o_psh (.int 5) <| o_cne bX9_comesTo_17 <| (o_fg 3 bX9_comesTo_13)
set_option maxRecDepth 100000 in
theorem sX9_comesTo_5 : Sd pX9_comesTo ev_i 5 (bX9_comesTo_5) := sd_aload_n dX9_comesTo_5 rfl <| sd_iload_n dX9_comesTo_6 rfl <| sd_iload_n dX9_comesTo_7 rfl <| sd_iload_n dX9_comesTo_8 rfl <| sd_iconst dX9_comesTo_9 rfl <| sd_cne (tgt := 17) dX9_comesTo_10 (by decide) sX9_comesTo_17 <| (sd_fg (i := 3) sX9_comesTo_13)
def bX9_comesTo_0 : Kt Int32 := o_ild 1 <| o_psh (.int 5) <| o_cge (o_fg 3 bX9_comesTo_28) <| bX9_comesTo_5
set_option maxRecDepth 100000 in
theorem sX9_comesTo_0 : Sd pX9_comesTo ev_i 0 (bX9_comesTo_0) := sd_iload_n dX9_comesTo_0 rfl <| sd_iconst dX9_comesTo_1 rfl <| sd_cge (tgt := 28) dX9_comesTo_2 (by decide) (sd_fg (i := 3) sX9_comesTo_28) <| sX9_comesTo_5
def fX9_comesTo : Mt Int32 := mk_f 6 bX9_comesTo_0
theorem tX9_comesTo : Ct ev_i yX9_comesTo cX9_comesTo 6 (some .int) 2 50 fX9_comesTo := ct_of (by decide +kernel) sX9_comesTo_0
abbrev pX9_isChoice : Px := (cX9_isChoice, 2, RX9, "isChoice", (some .boolean), 2, 46, fun _ => True)
def bX9_isChoice_18 : Kt Int32 := o_rZ
set_option maxRecDepth 100000 in
theorem sX9_isChoice_18 : Sd pX9_isChoice ev_i 18 (bX9_isChoice_18) := (sd_rZ rfl dX9_isChoice_18)
def bX9_isChoice_17 : Kt Int32 := o_psh (.int 0) <| bX9_isChoice_18
set_option maxRecDepth 100000 in
theorem sX9_isChoice_17 : Sd pX9_isChoice ev_i 17 (bX9_isChoice_17) := sd_iconst dX9_isChoice_17 rfl <| sX9_isChoice_18
def bX9_isChoice_13 : Kt Int32 := o_psh (.int 1) <| bX9_isChoice_18
set_option maxRecDepth 100000 in
theorem sX9_isChoice_13 : Sd pX9_isChoice ev_i 13 (bX9_isChoice_13) := sd_iconst dX9_isChoice_13 rfl <| (sd_goto (tgt := 18) dX9_isChoice_14 (by decide) sX9_isChoice_18)
def bX9_isChoice_5 : Kt Int32 := o_ald 0 <| o_ild 1 <| o_vc ev_i 8 2 fX9_isOne <| o_zeq (o_fg 0 (o_fg 1 bX9_isChoice_17)) <| (o_fg 0 (o_fg 1 bX9_isChoice_13))
set_option maxRecDepth 100000 in
theorem sX9_isChoice_5 : Sd pX9_isChoice ev_i 5 (bX9_isChoice_5) := sd_aload_n dX9_isChoice_5 rfl <| sd_iload_n dX9_isChoice_6 rfl <| sd_vc tX9_isOne (fun _ _ => rfl) rfl mwX9_isOne mvX9_isOne tw_717 (by decide) dX9_isChoice_7 <| sd_zeq (tgt := 17) dX9_isChoice_10 (by decide) (sd_fg (i := 0) (sd_fg (i := 1) sX9_isChoice_17)) <| (sd_fg (i := 0) (sd_fg (i := 1) sX9_isChoice_13))
def bX9_isChoice_0 : Kt Int32 := o_ild 1 <| o_psh (.int 5) <| o_ceq (o_fg 0 (o_fg 1 bX9_isChoice_13)) <| bX9_isChoice_5
set_option maxRecDepth 100000 in
theorem sX9_isChoice_0 : Sd pX9_isChoice ev_i 0 (bX9_isChoice_0) := sd_iload_n dX9_isChoice_0 rfl <| sd_iconst dX9_isChoice_1 rfl <| sd_ceq (tgt := 13) dX9_isChoice_2 (by decide) (sd_fg (i := 0) (sd_fg (i := 1) sX9_isChoice_13)) <| sX9_isChoice_5
def fX9_isChoice : Mt Int32 := mk_f 2 bX9_isChoice_0
theorem tX9_isChoice : Ct ev_i yX9_isChoice cX9_isChoice 2 (some .boolean) 2 46 fX9_isChoice := ct_of (by decide +kernel) sX9_isChoice_0
abbrev pX9_laysMost : Px := (cX9_laysMost, 6, RX9, "laysMost", none, 3, 75, fun _ => True)
def bX9_laysMost_139 : Kt Unit := o_rV
set_option maxRecDepth 100000 in
theorem sX9_laysMost_139 : Sd pX9_laysMost ev_v 139 (bX9_laysMost_139) := (sd_rV rfl dX9_laysMost_139)
def bX9_laysMost_133 (K36 : Kt Unit) : Kt Unit := o_inc 1 (-1) <| K36
set_option maxRecDepth 100000 in
theorem sX9_laysMost_133 {K36 : Kt Unit} (h36 : Sd pX9_laysMost ev_v 36 K36) : Sd pX9_laysMost ev_v 133 (bX9_laysMost_133 K36) := sd_iinc dX9_laysMost_133 rfl (by decide) <| (sd_goto (tgt := 36) dX9_laysMost_136 (by decide) h36)
def bX9_laysMost_114 (K36 : Kt Unit) (K42 : Kt Unit) : Kt Unit := o_ald 0 <| o_gR 8 22 <| o_psh (.int 192) <| o_ild 1 <| o_i2 o_mul <| o_ild 2 <| o_i2 o_add <| o_ild 3 <| o_sI <| o_inc 2 1 <| (o_fg 3 K42)
set_option maxRecDepth 100000 in
theorem sX9_laysMost_114 {K36 : Kt Unit} (h36 : Sd pX9_laysMost ev_v 36 K36) {K42 : Kt Unit} (h42 : Sd pX9_laysMost ev_v 42 K42) : Sd pX9_laysMost ev_v 114 (bX9_laysMost_114 K36 K42) := sd_aload_n dX9_laysMost_114 rfl <| sd_gR flX9_34 dX9_laysMost_115 <| sd_sipush dX9_laysMost_118 rfl <| sd_iload_n dX9_laysMost_121 rfl <| sd_imul dX9_laysMost_122 <| sd_iload_n dX9_laysMost_123 rfl <| sd_iadd dX9_laysMost_124 <| sd_iload_n dX9_laysMost_125 rfl <| sd_sI dX9_laysMost_126 <| sd_iinc dX9_laysMost_127 rfl (by decide) <| (sd_goto (tgt := 42) dX9_laysMost_130 (by decide) (sd_fg (i := 3) h42))
def bX9_laysMost_107 (K36 : Kt Unit) (K42 : Kt Unit) (K54 : Kt Unit) : Kt Unit := o_ist 3 <| o_inc 4 1 <| K54
set_option maxRecDepth 100000 in
theorem sX9_laysMost_107 {K36 : Kt Unit} (h36 : Sd pX9_laysMost ev_v 36 K36) {K42 : Kt Unit} (h42 : Sd pX9_laysMost ev_v 42 K42) {K54 : Kt Unit} (h54 : Sd pX9_laysMost ev_v 54 K54) : Sd pX9_laysMost ev_v 107 (bX9_laysMost_107 K36 K42 K54) := sd_istore_n dX9_laysMost_107 rfl (by decide) <| sd_iinc dX9_laysMost_108 rfl (by decide) <| (sd_goto (tgt := 54) dX9_laysMost_111 (by decide) h54)
def bX9_laysMost_106 (K36 : Kt Unit) (K42 : Kt Unit) (K54 : Kt Unit) : Kt Unit := o_ild 3 <| (o_fg 3 (bX9_laysMost_107 K36 K42 K54))
set_option maxRecDepth 100000 in
theorem sX9_laysMost_106 {K36 : Kt Unit} (h36 : Sd pX9_laysMost ev_v 36 K36) {K42 : Kt Unit} (h42 : Sd pX9_laysMost ev_v 42 K42) {K54 : Kt Unit} (h54 : Sd pX9_laysMost ev_v 54 K54) : Sd pX9_laysMost ev_v 106 (bX9_laysMost_106 K36 K42 K54) := sd_iload_n dX9_laysMost_106 rfl <| (sd_fg (i := 3) (sX9_laysMost_107 h36 h42 h54))
def bX9_laysMost_101 (K36 : Kt Unit) (K42 : Kt Unit) (K54 : Kt Unit) : Kt Unit := o_ild 5 <| (o_fg 5 (bX9_laysMost_107 K36 K42 K54))
set_option maxRecDepth 100000 in
theorem sX9_laysMost_101 {K36 : Kt Unit} (h36 : Sd pX9_laysMost ev_v 36 K36) {K42 : Kt Unit} (h42 : Sd pX9_laysMost ev_v 42 K42) {K54 : Kt Unit} (h54 : Sd pX9_laysMost ev_v 54 K54) : Sd pX9_laysMost ev_v 101 (bX9_laysMost_101 K36 K42 K54) := sd_iload dX9_laysMost_101 <| (sd_goto (tgt := 107) dX9_laysMost_103 (by decide) (sd_fg (i := 5) (sX9_laysMost_107 h36 h42 h54)))
def bX9_laysMost_93 (K36 : Kt Unit) (K42 : Kt Unit) (K54 : Kt Unit) : Kt Unit := o_ist 5 <| o_ild 5 <| o_ild 3 <| o_cle (o_fg 5 (bX9_laysMost_106 K36 K42 K54)) <| (o_fg 3 (bX9_laysMost_101 K36 K42 K54))
set_option maxRecDepth 100000 in
theorem sX9_laysMost_93 {K36 : Kt Unit} (h36 : Sd pX9_laysMost ev_v 36 K36) {K42 : Kt Unit} (h42 : Sd pX9_laysMost ev_v 42 K42) {K54 : Kt Unit} (h54 : Sd pX9_laysMost ev_v 54 K54) : Sd pX9_laysMost ev_v 93 (bX9_laysMost_93 K36 K42 K54) := sd_istore dX9_laysMost_93 (by decide) <| sd_iload dX9_laysMost_95 <| sd_iload_n dX9_laysMost_97 rfl <| sd_cle (tgt := 106) dX9_laysMost_98 (by decide) (sd_fg (i := 5) (sX9_laysMost_106 h36 h42 h54)) <| (sd_fg (i := 3) (sX9_laysMost_101 h36 h42 h54))
def bX9_laysMost_92 (K36 : Kt Unit) (K42 : Kt Unit) (K54 : Kt Unit) : Kt Unit := o_psh (.int (-1)) <| (bX9_laysMost_93 K36 K42 K54)
set_option maxRecDepth 100000 in
theorem sX9_laysMost_92 {K36 : Kt Unit} (h36 : Sd pX9_laysMost ev_v 36 K36) {K42 : Kt Unit} (h42 : Sd pX9_laysMost ev_v 42 K42) {K54 : Kt Unit} (h54 : Sd pX9_laysMost ev_v 54 K54) : Sd pX9_laysMost ev_v 92 (bX9_laysMost_92 K36 K42 K54) := sd_iconst dX9_laysMost_92 rfl <| (sX9_laysMost_93 h36 h42 h54)
def bX9_laysMost_69 (K36 : Kt Unit) (K42 : Kt Unit) (K54 : Kt Unit) : Kt Unit := o_ald 0 <| o_gR 8 22 <| o_ald 0 <| o_ild 4 <| o_ild 1 <| o_ild 2 <| o_dvc 32 <| o_ild 2 <| o_rmc 32 <| o_vc ev_i 8 5 fX9_comesTo <| o_aI <| (bX9_laysMost_93 K36 K42 K54)
set_option maxRecDepth 100000 in
theorem sX9_laysMost_69 {K36 : Kt Unit} (h36 : Sd pX9_laysMost ev_v 36 K36) {K42 : Kt Unit} (h42 : Sd pX9_laysMost ev_v 42 K42) {K54 : Kt Unit} (h54 : Sd pX9_laysMost ev_v 54 K54) : Sd pX9_laysMost ev_v 69 (bX9_laysMost_69 K36 K42 K54) := sd_aload_n dX9_laysMost_69 rfl <| sd_gR flX9_34 dX9_laysMost_70 <| sd_aload_n dX9_laysMost_73 rfl <| sd_iload dX9_laysMost_74 <| sd_iload_n dX9_laysMost_76 rfl <| sd_iload_n dX9_laysMost_77 rfl <| sd_dvc (by decide) <| sd_bipush dX9_laysMost_78 rfl <| sd_idiv dX9_laysMost_80 <| sd_iload_n dX9_laysMost_81 rfl <| sd_rmc (by decide) <| sd_bipush dX9_laysMost_82 rfl <| sd_irem dX9_laysMost_84 <| sd_vc tX9_comesTo (fun _ _ => rfl) rfl mwX9_comesTo mvX9_comesTo tw_768 (by decide) dX9_laysMost_85 <| sd_aI dX9_laysMost_88 <| (sd_goto (tgt := 93) dX9_laysMost_89 (by decide) (sX9_laysMost_93 h36 h42 h54))
def bX9_laysMost_60 (K36 : Kt Unit) (K42 : Kt Unit) (K54 : Kt Unit) : Kt Unit := o_ald 0 <| o_ild 4 <| o_vc ev_i 8 2 fX9_isChoice <| o_zeq (bX9_laysMost_92 K36 K42 K54) <| (bX9_laysMost_69 K36 K42 K54)
set_option maxRecDepth 100000 in
theorem sX9_laysMost_60 {K36 : Kt Unit} (h36 : Sd pX9_laysMost ev_v 36 K36) {K42 : Kt Unit} (h42 : Sd pX9_laysMost ev_v 42 K42) {K54 : Kt Unit} (h54 : Sd pX9_laysMost ev_v 54 K54) : Sd pX9_laysMost ev_v 60 (bX9_laysMost_60 K36 K42 K54) := sd_aload_n dX9_laysMost_60 rfl <| sd_iload dX9_laysMost_61 <| sd_vc tX9_isChoice (fun _ _ => rfl) rfl mwX9_isChoice mvX9_isChoice tw_764 (by decide) dX9_laysMost_63 <| sd_zeq (tgt := 92) dX9_laysMost_66 (by decide) (sX9_laysMost_92 h36 h42 h54) <| (sX9_laysMost_69 h36 h42 h54)
def bX9_laysMost_54 (K36 : Kt Unit) (K42 : Kt Unit) (K54 : Kt Unit) : Kt Unit := o_ild 4 <| o_psh (.int 5) <| o_cgt (o_fg 4 (bX9_laysMost_114 K36 K42)) <| (bX9_laysMost_60 K36 K42 K54)
set_option maxRecDepth 100000 in
theorem sX9_laysMost_54 {K36 : Kt Unit} (h36 : Sd pX9_laysMost ev_v 36 K36) {K42 : Kt Unit} (h42 : Sd pX9_laysMost ev_v 42 K42) {K54 : Kt Unit} (h54 : Sd pX9_laysMost ev_v 54 K54) : Sd pX9_laysMost ev_v 54 (bX9_laysMost_54 K36 K42 K54) := sd_iload dX9_laysMost_54 <| sd_iconst dX9_laysMost_56 rfl <| sd_cgt (tgt := 114) dX9_laysMost_57 (by decide) (sd_fg (i := 4) (sX9_laysMost_114 h36 h42)) <| (sX9_laysMost_60 h36 h42 h54)
def bX9_laysMost_49 (K36 : Kt Unit) (K42 : Kt Unit) : Kt Unit := o_psh (.int (-1)) <| o_ist 3 <| o_psh (.int 0) <| o_ist 4 <| (o_lp (bX9_laysMost_54 K36 K42) fu)
set_option maxRecDepth 100000 in
theorem sX9_laysMost_49 {K36 : Kt Unit} (h36 : Sd pX9_laysMost ev_v 36 K36) {K42 : Kt Unit} (h42 : Sd pX9_laysMost ev_v 42 K42) : Sd pX9_laysMost ev_v 49 (bX9_laysMost_49 K36 K42) := sd_iconst dX9_laysMost_49 rfl <| sd_istore_n dX9_laysMost_50 rfl (by decide) <| sd_iconst dX9_laysMost_51 rfl <| sd_istore dX9_laysMost_52 (by decide) <| (sd_lp (fun K h => sX9_laysMost_54 h36 h42 h) fu)
def bX9_laysMost_42 (K36 : Kt Unit) (K42 : Kt Unit) : Kt Unit := o_ild 2 <| o_psh (.int 192) <| o_cge (o_fg 2 (bX9_laysMost_133 K36)) <| (bX9_laysMost_49 K36 K42)
set_option maxRecDepth 100000 in
theorem sX9_laysMost_42 {K36 : Kt Unit} (h36 : Sd pX9_laysMost ev_v 36 K36) {K42 : Kt Unit} (h42 : Sd pX9_laysMost ev_v 42 K42) : Sd pX9_laysMost ev_v 42 (bX9_laysMost_42 K36 K42) := sd_iload_n dX9_laysMost_42 rfl <| sd_sipush dX9_laysMost_43 rfl <| sd_cge (tgt := 133) dX9_laysMost_46 (by decide) (sd_fg (i := 2) (sX9_laysMost_133 h36)) <| (sX9_laysMost_49 h36 h42)
def bX9_laysMost_40 (K36 : Kt Unit) : Kt Unit := o_psh (.int 0) <| o_ist 2 <| (o_lp (bX9_laysMost_42 K36) fu)
set_option maxRecDepth 100000 in
theorem sX9_laysMost_40 {K36 : Kt Unit} (h36 : Sd pX9_laysMost ev_v 36 K36) : Sd pX9_laysMost ev_v 40 (bX9_laysMost_40 K36) := sd_iconst dX9_laysMost_40 rfl <| sd_istore_n dX9_laysMost_41 rfl (by decide) <| (sd_lp (fun K h => sX9_laysMost_42 h36 h) fu)
def bX9_laysMost_36 (K36 : Kt Unit) : Kt Unit := o_ild 1 <| o_zlt (o_fg 0 (o_fg 1 bX9_laysMost_139)) <| (bX9_laysMost_40 K36)
set_option maxRecDepth 100000 in
theorem sX9_laysMost_36 {K36 : Kt Unit} (h36 : Sd pX9_laysMost ev_v 36 K36) : Sd pX9_laysMost ev_v 36 (bX9_laysMost_36 K36) := sd_iload_n dX9_laysMost_36 rfl <| sd_zlt (tgt := 139) dX9_laysMost_37 (by decide) (sd_fg (i := 0) (sd_fg (i := 1) sX9_laysMost_139)) <| (sX9_laysMost_40 h36)
def bX9_laysMost_33 : Kt Unit := o_psh (.int 9) <| o_ist 1 <| (o_lp (bX9_laysMost_36) fu)
set_option maxRecDepth 100000 in
theorem sX9_laysMost_33 : Sd pX9_laysMost ev_v 33 (bX9_laysMost_33) := sd_bipush dX9_laysMost_33 rfl <| sd_istore_n dX9_laysMost_35 rfl (by decide) <| (sd_lp (fun K h => sX9_laysMost_36 h) fu)
def bX9_laysMost_9 (K2 : Kt Unit) : Kt Unit := o_ald 0 <| o_gR 8 22 <| o_psh (.int 1920) <| o_ild 1 <| o_i2 o_add <| o_ald 0 <| o_ild 1 <| o_rmc 32 <| o_vc ev_i 8 2 fX9_worthOf <| o_sI <| o_inc 1 1 <| K2
set_option maxRecDepth 100000 in
theorem sX9_laysMost_9 {K2 : Kt Unit} (h2 : Sd pX9_laysMost ev_v 2 K2) : Sd pX9_laysMost ev_v 9 (bX9_laysMost_9 K2) := sd_aload_n dX9_laysMost_9 rfl <| sd_gR flX9_34 dX9_laysMost_10 <| sd_sipush dX9_laysMost_13 rfl <| sd_iload_n dX9_laysMost_16 rfl <| sd_iadd dX9_laysMost_17 <| sd_aload_n dX9_laysMost_18 rfl <| sd_iload_n dX9_laysMost_19 rfl <| sd_rmc (by decide) <| sd_bipush dX9_laysMost_20 rfl <| sd_irem dX9_laysMost_22 <| sd_vc tX9_worthOf (fun _ _ => rfl) rfl mwX9_worthOf mvX9_worthOf tw_738 (by decide) dX9_laysMost_23 <| sd_sI dX9_laysMost_26 <| sd_iinc dX9_laysMost_27 rfl (by decide) <| (sd_goto (tgt := 2) dX9_laysMost_30 (by decide) h2)
def bX9_laysMost_2 (K2 : Kt Unit) : Kt Unit := o_ild 1 <| o_psh (.int 192) <| o_cge (o_fg 1 bX9_laysMost_33) <| (bX9_laysMost_9 K2)
set_option maxRecDepth 100000 in
theorem sX9_laysMost_2 {K2 : Kt Unit} (h2 : Sd pX9_laysMost ev_v 2 K2) : Sd pX9_laysMost ev_v 2 (bX9_laysMost_2 K2) := sd_iload_n dX9_laysMost_2 rfl <| sd_sipush dX9_laysMost_3 rfl <| sd_cge (tgt := 33) dX9_laysMost_6 (by decide) (sd_fg (i := 1) sX9_laysMost_33) <| (sX9_laysMost_9 h2)
def bX9_laysMost_0 : Kt Unit := o_psh (.int 0) <| o_ist 1 <| (o_lp (bX9_laysMost_2) fu)
set_option maxRecDepth 100000 in
theorem sX9_laysMost_0 : Sd pX9_laysMost ev_v 0 (bX9_laysMost_0) := sd_iconst dX9_laysMost_0 rfl <| sd_istore_n dX9_laysMost_1 rfl (by decide) <| (sd_lp (fun K h => sX9_laysMost_2 h) fu)
def fX9_laysMost : Mt Unit := mk_f 6 bX9_laysMost_0
theorem tX9_laysMost : Ct ev_v yX9_laysMost cX9_laysMost 6 none 3 75 fX9_laysMost := ct_of (by decide +kernel) sX9_laysMost_0
abbrev pX9_best : Px := (cX9_best, 8, RX9, "best", (some .int), 4, 100, fun _ => True)
def bX9_best_171 : Kt Int32 := o_rI
set_option maxRecDepth 100000 in
theorem sX9_best_171 : Sd pX9_best ev_i 171 (bX9_best_171) := (sd_rI rfl dX9_best_171)
def bX9_best_170 : Kt Int32 := o_ild 3 <| (o_fg 3 bX9_best_171)
set_option maxRecDepth 100000 in
theorem sX9_best_170 : Sd pX9_best ev_i 170 (bX9_best_170) := sd_iload_n dX9_best_170 rfl <| (sd_fg (i := 3) sX9_best_171)
def bX9_best_165 : Kt Int32 := o_psh (.int (-4)) <| bX9_best_171
set_option maxRecDepth 100000 in
theorem sX9_best_165 : Sd pX9_best ev_i 165 (bX9_best_165) := sd_bipush dX9_best_165 rfl <| (sd_goto (tgt := 171) dX9_best_167 (by decide) sX9_best_171)
def bX9_best_160 : Kt Int32 := o_ild 3 <| o_psh (.int 5) <| o_cne bX9_best_170 <| (o_fg 3 bX9_best_165)
set_option maxRecDepth 100000 in
theorem sX9_best_160 : Sd pX9_best ev_i 160 (bX9_best_160) := sd_iload_n dX9_best_160 rfl <| sd_iconst dX9_best_161 rfl <| sd_cne (tgt := 170) dX9_best_162 (by decide) sX9_best_170 <| (sd_fg (i := 3) sX9_best_165)
def bX9_best_151 : Kt Int32 := o_ald 0 <| o_gR 8 22 <| o_ild 2 <| o_aI <| (o_fg 0 (o_fg 2 bX9_best_171))
set_option maxRecDepth 100000 in
theorem sX9_best_151 : Sd pX9_best ev_i 151 (bX9_best_151) := sd_aload_n dX9_best_151 rfl <| sd_gR flX9_34 dX9_best_152 <| sd_iload_n dX9_best_155 rfl <| sd_aI dX9_best_156 <| (sd_goto (tgt := 171) dX9_best_157 (by decide) (sd_fg (i := 0) (sd_fg (i := 2) sX9_best_171)))
def bX9_best_147 : Kt Int32 := o_ild 1 <| o_zne (o_fg 0 (o_fg 1 (o_fg 2 bX9_best_160))) <| (o_fg 1 (o_fg 3 bX9_best_151))
set_option maxRecDepth 100000 in
theorem sX9_best_147 : Sd pX9_best ev_i 147 (bX9_best_147) := sd_iload_n dX9_best_147 rfl <| sd_zne (tgt := 160) dX9_best_148 (by decide) (sd_fg (i := 0) (sd_fg (i := 1) (sd_fg (i := 2) sX9_best_160))) <| (sd_fg (i := 1) (sd_fg (i := 3) sX9_best_151))
def bX9_best_120 (K33 : Kt Int32) : Kt Int32 := o_ild 5 <| o_ist 3 <| o_ald 0 <| o_ild 3 <| o_ild 4 <| o_ild 6 <| o_dvc 32 <| o_ild 6 <| o_rmc 32 <| o_vc ev_i 8 5 fX9_comesTo <| o_ist 2 <| o_inc 4 1 <| (o_fg 5 (o_fg 6 K33))
set_option maxRecDepth 100000 in
theorem sX9_best_120 {K33 : Kt Int32} (h33 : Sd pX9_best ev_i 33 K33) : Sd pX9_best ev_i 120 (bX9_best_120 K33) := sd_iload dX9_best_120 <| sd_istore_n dX9_best_122 rfl (by decide) <| sd_aload_n dX9_best_123 rfl <| sd_iload_n dX9_best_124 rfl <| sd_iload dX9_best_125 <| sd_iload dX9_best_127 <| sd_dvc (by decide) <| sd_bipush dX9_best_129 rfl <| sd_idiv dX9_best_131 <| sd_iload dX9_best_132 <| sd_rmc (by decide) <| sd_bipush dX9_best_134 rfl <| sd_irem dX9_best_136 <| sd_vc tX9_comesTo (fun _ _ => rfl) rfl mwX9_comesTo mvX9_comesTo tw_768 (by decide) dX9_best_137 <| sd_istore_n dX9_best_140 rfl (by decide) <| sd_iinc dX9_best_141 rfl (by decide) <| (sd_goto (tgt := 33) dX9_best_144 (by decide) (sd_fg (i := 5) (sd_fg (i := 6) h33)))
def bX9_best_112 (K33 : Kt Int32) (K59 : Kt Int32) : Kt Int32 := o_ist 5 <| o_inc 7 (-1) <| K59
set_option maxRecDepth 100000 in
theorem sX9_best_112 {K33 : Kt Int32} (h33 : Sd pX9_best ev_i 33 K33) {K59 : Kt Int32} (h59 : Sd pX9_best ev_i 59 K59) : Sd pX9_best ev_i 112 (bX9_best_112 K33 K59) := sd_istore dX9_best_112 (by decide) <| sd_iinc dX9_best_114 rfl (by decide) <| (sd_goto (tgt := 59) dX9_best_117 (by decide) h59)
def bX9_best_110 (K33 : Kt Int32) (K59 : Kt Int32) : Kt Int32 := o_ild 5 <| (o_fg 5 (bX9_best_112 K33 K59))
set_option maxRecDepth 100000 in
theorem sX9_best_110 {K33 : Kt Int32} (h33 : Sd pX9_best ev_i 33 K33) {K59 : Kt Int32} (h59 : Sd pX9_best ev_i 59 K59) : Sd pX9_best ev_i 110 (bX9_best_110 K33 K59) := sd_iload dX9_best_110 <| (sd_fg (i := 5) (sX9_best_112 h33 h59))
def bX9_best_105 (K33 : Kt Int32) (K59 : Kt Int32) : Kt Int32 := o_ild 7 <| (bX9_best_112 K33 K59)
set_option maxRecDepth 100000 in
theorem sX9_best_105 {K33 : Kt Int32} (h33 : Sd pX9_best ev_i 33 K33) {K59 : Kt Int32} (h59 : Sd pX9_best ev_i 59 K59) : Sd pX9_best ev_i 105 (bX9_best_105 K33 K59) := sd_iload dX9_best_105 <| (sd_goto (tgt := 112) dX9_best_107 (by decide) (sX9_best_112 h33 h59))
def bX9_best_73 (K33 : Kt Int32) (K59 : Kt Int32) : Kt Int32 := o_ald 0 <| o_gR 8 22 <| o_ald 0 <| o_ild 7 <| o_ild 4 <| o_ild 6 <| o_dvc 32 <| o_ild 6 <| o_rmc 32 <| o_vc ev_i 8 5 fX9_comesTo <| o_aI <| o_ald 0 <| o_gR 8 22 <| o_ild 2 <| o_aI <| o_cne (bX9_best_110 K33 K59) <| (o_fg 5 (bX9_best_105 K33 K59))
set_option maxRecDepth 100000 in
theorem sX9_best_73 {K33 : Kt Int32} (h33 : Sd pX9_best ev_i 33 K33) {K59 : Kt Int32} (h59 : Sd pX9_best ev_i 59 K59) : Sd pX9_best ev_i 73 (bX9_best_73 K33 K59) := sd_aload_n dX9_best_73 rfl <| sd_gR flX9_34 dX9_best_74 <| sd_aload_n dX9_best_77 rfl <| sd_iload dX9_best_78 <| sd_iload dX9_best_80 <| sd_iload dX9_best_82 <| sd_dvc (by decide) <| sd_bipush dX9_best_84 rfl <| sd_idiv dX9_best_86 <| sd_iload dX9_best_87 <| sd_rmc (by decide) <| sd_bipush dX9_best_89 rfl <| sd_irem dX9_best_91 <| sd_vc tX9_comesTo (fun _ _ => rfl) rfl mwX9_comesTo mvX9_comesTo tw_768 (by decide) dX9_best_92 <| sd_aI dX9_best_95 <| sd_aload_n dX9_best_96 rfl <| sd_gR flX9_34 dX9_best_97 <| sd_iload_n dX9_best_100 rfl <| sd_aI dX9_best_101 <| sd_cne (tgt := 110) dX9_best_102 (by decide) (sX9_best_110 h33 h59) <| (sd_fg (i := 5) (sX9_best_105 h33 h59))
def bX9_best_64 (K33 : Kt Int32) (K59 : Kt Int32) : Kt Int32 := o_ald 0 <| o_ild 7 <| o_vc ev_i 8 2 fX9_isChoice <| o_zeq (bX9_best_110 K33 K59) <| (bX9_best_73 K33 K59)
set_option maxRecDepth 100000 in
theorem sX9_best_64 {K33 : Kt Int32} (h33 : Sd pX9_best ev_i 33 K33) {K59 : Kt Int32} (h59 : Sd pX9_best ev_i 59 K59) : Sd pX9_best ev_i 64 (bX9_best_64 K33 K59) := sd_aload_n dX9_best_64 rfl <| sd_iload dX9_best_65 <| sd_vc tX9_isChoice (fun _ _ => rfl) rfl mwX9_isChoice mvX9_isChoice tw_764 (by decide) dX9_best_67 <| sd_zeq (tgt := 110) dX9_best_70 (by decide) (sX9_best_110 h33 h59) <| (sX9_best_73 h33 h59)
def bX9_best_59 (K33 : Kt Int32) (K59 : Kt Int32) : Kt Int32 := o_ild 7 <| o_zlt (o_fg 2 (o_fg 7 (bX9_best_120 K33))) <| (bX9_best_64 K33 K59)
set_option maxRecDepth 100000 in
theorem sX9_best_59 {K33 : Kt Int32} (h33 : Sd pX9_best ev_i 33 K33) {K59 : Kt Int32} (h59 : Sd pX9_best ev_i 59 K59) : Sd pX9_best ev_i 59 (bX9_best_59 K33 K59) := sd_iload dX9_best_59 <| sd_zlt (tgt := 120) dX9_best_61 (by decide) (sd_fg (i := 2) (sd_fg (i := 7) (sX9_best_120 h33))) <| (sX9_best_64 h33 h59)
def bX9_best_42 (K33 : Kt Int32) : Kt Int32 := o_psh (.int (-4)) <| o_ist 5 <| o_ild 2 <| o_psh (.int 192) <| o_ild 4 <| o_i2 o_mul <| o_i2 o_sub <| o_ist 6 <| o_psh (.int 5) <| o_ist 7 <| (o_lp (bX9_best_59 K33) fu)
set_option maxRecDepth 100000 in
theorem sX9_best_42 {K33 : Kt Int32} (h33 : Sd pX9_best ev_i 33 K33) : Sd pX9_best ev_i 42 (bX9_best_42 K33) := sd_bipush dX9_best_42 rfl <| sd_istore dX9_best_44 (by decide) <| sd_iload_n dX9_best_46 rfl <| sd_sipush dX9_best_47 rfl <| sd_iload dX9_best_50 <| sd_imul dX9_best_52 <| sd_isub dX9_best_53 <| sd_istore dX9_best_54 (by decide) <| sd_iconst dX9_best_56 rfl <| sd_istore dX9_best_57 (by decide) <| (sd_lp (fun K h => sX9_best_59 h33 h) fu)
def bX9_best_33 (K33 : Kt Int32) : Kt Int32 := o_ild 4 <| o_ild 1 <| o_psh (.int 9) <| o_i2 o_sub <| o_cge (o_fg 4 bX9_best_147) <| (o_fg 3 (bX9_best_42 K33))
set_option maxRecDepth 100000 in
theorem sX9_best_33 {K33 : Kt Int32} (h33 : Sd pX9_best ev_i 33 K33) : Sd pX9_best ev_i 33 (bX9_best_33 K33) := sd_iload dX9_best_33 <| sd_iload_n dX9_best_35 rfl <| sd_bipush dX9_best_36 rfl <| sd_isub dX9_best_38 <| sd_cge (tgt := 147) dX9_best_39 (by decide) (sd_fg (i := 4) sX9_best_147) <| (sd_fg (i := 3) (sX9_best_42 h33))
def bX9_best_20 : Kt Int32 := o_ald 0 <| o_vc ev_v 8 1 fX9_laysMost <| o_psh (.int 160) <| o_ist 2 <| o_psh (.int 5) <| o_ist 3 <| o_psh (.int 0) <| o_ist 4 <| (o_lp (bX9_best_33) fu)
set_option maxRecDepth 100000 in
theorem sX9_best_20 : Sd pX9_best ev_i 20 (bX9_best_20) := sd_aload_n dX9_best_20 rfl <| sd_vc tX9_laysMost (fun _ _ => rfl) rfl mwX9_laysMost mvX9_laysMost tw_774 (by decide) dX9_best_21 <| sd_sipush dX9_best_24 rfl <| sd_istore_n dX9_best_27 rfl (by decide) <| sd_iconst dX9_best_28 rfl <| sd_istore_n dX9_best_29 rfl (by decide) <| sd_iconst dX9_best_30 rfl <| sd_istore dX9_best_31 (by decide) <| (sd_lp (fun K h => sX9_best_33 h) fu)
def bX9_best_18 : Kt Int32 := o_psh (.int (-1)) <| o_rI
set_option maxRecDepth 100000 in
theorem sX9_best_18 : Sd pX9_best ev_i 18 (bX9_best_18) := sd_iconst dX9_best_18 rfl <| (sd_rI rfl dX9_best_19)
def bX9_best_4 : Kt Int32 := o_ild 1 <| o_i2l <| o_psh (.long 10) <| o_psh (.long 19) <| o_sc ev_i 3 fX9_in <| o_zne bX9_best_20 <| (o_fg 0 (o_fg 1 bX9_best_18))
set_option maxRecDepth 100000 in
theorem sX9_best_4 : Sd pX9_best ev_i 4 (bX9_best_4) := sd_iload_n dX9_best_4 rfl <| sd_i2l dX9_best_5 <| sd_ldc2 tw_769 dX9_best_6 <| sd_ldc2 tw_770 dX9_best_9 <| sd_sc tX9_in (fun _ _ => rfl) mwX9_in mvX9_in tw_611 (by decide) dX9_best_12 <| sd_zne (tgt := 20) dX9_best_15 (by decide) sX9_best_20 <| (sd_fg (i := 0) (sd_fg (i := 1) sX9_best_18))
def bX9_best_0 : Kt Int32 := o_ild 1 <| o_zeq bX9_best_20 <| bX9_best_4
set_option maxRecDepth 100000 in
theorem sX9_best_0 : Sd pX9_best ev_i 0 (bX9_best_0) := sd_iload_n dX9_best_0 rfl <| sd_zeq (tgt := 20) dX9_best_1 (by decide) sX9_best_20 <| sX9_best_4
def fX9_best : Mt Int32 := mk_f 8 bX9_best_0
theorem tX9_best : Ct ev_i yX9_best cX9_best 8 (some .int) 4 100 fX9_best := ct_of (by decide +kernel) sX9_best_0
abbrev pX9_swap : Px := (cX9_swap, 9, RX9, "swap", (some .int), 5, 109, fun _ => True)
def bX9_swap_180 : Kt Int32 := o_rI
set_option maxRecDepth 100000 in
theorem sX9_swap_180 : Sd pX9_swap ev_i 180 (bX9_swap_180) := (sd_rI rfl dX9_swap_180)
def bX9_swap_179 : Kt Int32 := o_ild 2 <| (o_fg 2 bX9_swap_180)
set_option maxRecDepth 100000 in
theorem sX9_swap_179 : Sd pX9_swap ev_i 179 (bX9_swap_179) := sd_iload_n dX9_swap_179 rfl <| (sd_fg (i := 2) sX9_swap_180)
def bX9_swap_175 : Kt Int32 := o_ild 3 <| (o_fg 3 bX9_swap_180)
set_option maxRecDepth 100000 in
theorem sX9_swap_175 : Sd pX9_swap ev_i 175 (bX9_swap_175) := sd_iload_n dX9_swap_175 rfl <| (sd_goto (tgt := 180) dX9_swap_176 (by decide) (sd_fg (i := 3) sX9_swap_180))
def bX9_swap_171 : Kt Int32 := o_ild 1 <| o_zne (o_fg 1 (o_fg 3 bX9_swap_179)) <| (o_fg 1 (o_fg 2 bX9_swap_175))
set_option maxRecDepth 100000 in
theorem sX9_swap_171 : Sd pX9_swap ev_i 171 (bX9_swap_171) := sd_iload_n dX9_swap_171 rfl <| sd_zne (tgt := 179) dX9_swap_172 (by decide) (sd_fg (i := 1) (sd_fg (i := 3) sX9_swap_179)) <| (sd_fg (i := 1) (sd_fg (i := 2) sX9_swap_175))
def bX9_swap_165 : Kt Int32 := o_ild 3 <| o_psh (.int (-4)) <| o_ceq (o_fg 1 (o_fg 2 bX9_swap_175)) <| bX9_swap_171
set_option maxRecDepth 100000 in
theorem sX9_swap_165 : Sd pX9_swap ev_i 165 (bX9_swap_165) := sd_iload_n dX9_swap_165 rfl <| sd_bipush dX9_swap_166 rfl <| sd_ceq (tgt := 175) dX9_swap_168 (by decide) (sd_fg (i := 1) (sd_fg (i := 2) sX9_swap_175)) <| sX9_swap_171
def bX9_swap_159 (K23 : Kt Int32) : Kt Int32 := o_inc 4 1 <| K23
set_option maxRecDepth 100000 in
theorem sX9_swap_159 {K23 : Kt Int32} (h23 : Sd pX9_swap ev_i 23 K23) : Sd pX9_swap ev_i 159 (bX9_swap_159 K23) := sd_iinc dX9_swap_159 rfl (by decide) <| (sd_goto (tgt := 23) dX9_swap_162 (by decide) h23)
def bX9_swap_152 (K23 : Kt Int32) (K36 : Kt Int32) : Kt Int32 := o_ist 2 <| o_inc 5 1 <| K36
set_option maxRecDepth 100000 in
theorem sX9_swap_152 {K23 : Kt Int32} (h23 : Sd pX9_swap ev_i 23 K23) {K36 : Kt Int32} (h36 : Sd pX9_swap ev_i 36 K36) : Sd pX9_swap ev_i 152 (bX9_swap_152 K23 K36) := sd_istore_n dX9_swap_152 rfl (by decide) <| sd_iinc dX9_swap_153 rfl (by decide) <| (sd_goto (tgt := 36) dX9_swap_156 (by decide) h36)
def bX9_swap_151 (K23 : Kt Int32) (K36 : Kt Int32) : Kt Int32 := o_ild 2 <| (o_fg 2 (bX9_swap_152 K23 K36))
set_option maxRecDepth 100000 in
theorem sX9_swap_151 {K23 : Kt Int32} (h23 : Sd pX9_swap ev_i 23 K23) {K36 : Kt Int32} (h36 : Sd pX9_swap ev_i 36 K36) : Sd pX9_swap ev_i 151 (bX9_swap_151 K23 K36) := sd_iload_n dX9_swap_151 rfl <| (sd_fg (i := 2) (sX9_swap_152 h23 h36))
def bX9_swap_146 (K23 : Kt Int32) (K36 : Kt Int32) : Kt Int32 := o_ild 8 <| (o_fg 8 (bX9_swap_152 K23 K36))
set_option maxRecDepth 100000 in
theorem sX9_swap_146 {K23 : Kt Int32} (h23 : Sd pX9_swap ev_i 23 K23) {K36 : Kt Int32} (h36 : Sd pX9_swap ev_i 36 K36) : Sd pX9_swap ev_i 146 (bX9_swap_146 K23 K36) := sd_iload dX9_swap_146 <| (sd_goto (tgt := 152) dX9_swap_148 (by decide) (sd_fg (i := 8) (sX9_swap_152 h23 h36)))
def bX9_swap_139 (K23 : Kt Int32) (K36 : Kt Int32) : Kt Int32 := o_ist 3 <| o_ild 8 <| o_ild 2 <| o_cle (o_fg 8 (bX9_swap_151 K23 K36)) <| (o_fg 2 (bX9_swap_146 K23 K36))
set_option maxRecDepth 100000 in
theorem sX9_swap_139 {K23 : Kt Int32} (h23 : Sd pX9_swap ev_i 23 K23) {K36 : Kt Int32} (h36 : Sd pX9_swap ev_i 36 K36) : Sd pX9_swap ev_i 139 (bX9_swap_139 K23 K36) := sd_istore_n dX9_swap_139 rfl (by decide) <| sd_iload dX9_swap_140 <| sd_iload_n dX9_swap_142 rfl <| sd_cle (tgt := 151) dX9_swap_143 (by decide) (sd_fg (i := 8) (sX9_swap_151 h23 h36)) <| (sd_fg (i := 2) (sX9_swap_146 h23 h36))
def bX9_swap_138 (K23 : Kt Int32) (K36 : Kt Int32) : Kt Int32 := o_ild 3 <| (o_fg 3 (bX9_swap_139 K23 K36))
set_option maxRecDepth 100000 in
theorem sX9_swap_138 {K23 : Kt Int32} (h23 : Sd pX9_swap ev_i 23 K23) {K36 : Kt Int32} (h36 : Sd pX9_swap ev_i 36 K36) : Sd pX9_swap ev_i 138 (bX9_swap_138 K23 K36) := sd_iload_n dX9_swap_138 rfl <| (sd_fg (i := 3) (sX9_swap_139 h23 h36))
def bX9_swap_127 (K23 : Kt Int32) (K36 : Kt Int32) : Kt Int32 := o_psh (.int 10) <| o_ild 4 <| o_i2 o_mul <| o_ild 5 <| o_i2 o_add <| (bX9_swap_139 K23 K36)
set_option maxRecDepth 100000 in
theorem sX9_swap_127 {K23 : Kt Int32} (h23 : Sd pX9_swap ev_i 23 K23) {K36 : Kt Int32} (h36 : Sd pX9_swap ev_i 36 K36) : Sd pX9_swap ev_i 127 (bX9_swap_127 K23 K36) := sd_bipush dX9_swap_127 rfl <| sd_iload dX9_swap_129 <| sd_imul dX9_swap_131 <| sd_iload dX9_swap_132 <| sd_iadd dX9_swap_134 <| (sd_goto (tgt := 139) dX9_swap_135 (by decide) (sX9_swap_139 h23 h36))
def bX9_swap_113 (K23 : Kt Int32) (K36 : Kt Int32) : Kt Int32 := o_psh (.int 26) <| o_ild 5 <| o_i2 o_add <| o_ild 7 <| o_sI <| o_ild 8 <| o_ild 2 <| o_cle (o_fg 7 (bX9_swap_138 K23 K36)) <| (o_fg 3 (o_fg 7 (bX9_swap_127 K23 K36)))
set_option maxRecDepth 100000 in
theorem sX9_swap_113 {K23 : Kt Int32} (h23 : Sd pX9_swap ev_i 23 K23) {K36 : Kt Int32} (h36 : Sd pX9_swap ev_i 36 K36) : Sd pX9_swap ev_i 113 (bX9_swap_113 K23 K36) := sd_bipush dX9_swap_113 rfl <| sd_iload dX9_swap_115 <| sd_iadd dX9_swap_117 <| sd_iload dX9_swap_118 <| sd_sI dX9_swap_120 <| sd_iload dX9_swap_121 <| sd_iload_n dX9_swap_123 rfl <| sd_cle (tgt := 138) dX9_swap_124 (by decide) (sd_fg (i := 7) (sX9_swap_138 h23 h36)) <| (sd_fg (i := 3) (sd_fg (i := 7) (sX9_swap_127 h23 h36)))
def bX9_swap_43 (K23 : Kt Int32) (K36 : Kt Int32) : Kt Int32 := o_ald 0 <| o_gR 8 0 <| o_psh (.int 26) <| o_ild 4 <| o_i2 o_add <| o_aI <| o_ist 6 <| o_ald 0 <| o_gR 8 0 <| o_psh (.int 26) <| o_ild 5 <| o_i2 o_add <| o_aI <| o_ist 7 <| o_ald 0 <| o_gR 8 0 <| o_psh (.int 26) <| o_ild 4 <| o_i2 o_add <| o_ild 7 <| o_sI <| o_ald 0 <| o_gR 8 0 <| o_psh (.int 26) <| o_ild 5 <| o_i2 o_add <| o_ild 6 <| o_sI <| o_ald 0 <| o_vc ev_i 8 1 fX9_worthNow <| o_ist 8 <| o_ald 0 <| o_gR 8 0 <| o_psh (.int 26) <| o_ild 4 <| o_i2 o_add <| o_ild 6 <| o_sI <| o_ald 0 <| o_gR 8 0 <| (o_fg 6 (bX9_swap_113 K23 K36))
set_option maxRecDepth 100000 in
theorem sX9_swap_43 {K23 : Kt Int32} (h23 : Sd pX9_swap ev_i 23 K23) {K36 : Kt Int32} (h36 : Sd pX9_swap ev_i 36 K36) : Sd pX9_swap ev_i 43 (bX9_swap_43 K23 K36) := sd_aload_n dX9_swap_43 rfl <| sd_gR flX9_7 dX9_swap_44 <| sd_bipush dX9_swap_47 rfl <| sd_iload dX9_swap_49 <| sd_iadd dX9_swap_51 <| sd_aI dX9_swap_52 <| sd_istore dX9_swap_53 (by decide) <| sd_aload_n dX9_swap_55 rfl <| sd_gR flX9_7 dX9_swap_56 <| sd_bipush dX9_swap_59 rfl <| sd_iload dX9_swap_61 <| sd_iadd dX9_swap_63 <| sd_aI dX9_swap_64 <| sd_istore dX9_swap_65 (by decide) <| sd_aload_n dX9_swap_67 rfl <| sd_gR flX9_7 dX9_swap_68 <| sd_bipush dX9_swap_71 rfl <| sd_iload dX9_swap_73 <| sd_iadd dX9_swap_75 <| sd_iload dX9_swap_76 <| sd_sI dX9_swap_78 <| sd_aload_n dX9_swap_79 rfl <| sd_gR flX9_7 dX9_swap_80 <| sd_bipush dX9_swap_83 rfl <| sd_iload dX9_swap_85 <| sd_iadd dX9_swap_87 <| sd_iload dX9_swap_88 <| sd_sI dX9_swap_90 <| sd_aload_n dX9_swap_91 rfl <| sd_vc tX9_worthNow (fun _ _ => rfl) rfl mwX9_worthNow mvX9_worthNow tw_778 (by decide) dX9_swap_92 <| sd_istore dX9_swap_95 (by decide) <| sd_aload_n dX9_swap_97 rfl <| sd_gR flX9_7 dX9_swap_98 <| sd_bipush dX9_swap_101 rfl <| sd_iload dX9_swap_103 <| sd_iadd dX9_swap_105 <| sd_iload dX9_swap_106 <| sd_sI dX9_swap_108 <| sd_aload_n dX9_swap_109 rfl <| sd_gR flX9_7 dX9_swap_110 <| (sd_fg (i := 6) (sX9_swap_113 h23 h36))
def bX9_swap_36 (K23 : Kt Int32) (K36 : Kt Int32) : Kt Int32 := o_ild 5 <| o_psh (.int 10) <| o_cge (o_fg 5 (bX9_swap_159 K23)) <| (bX9_swap_43 K23 K36)
set_option maxRecDepth 100000 in
theorem sX9_swap_36 {K23 : Kt Int32} (h23 : Sd pX9_swap ev_i 23 K23) {K36 : Kt Int32} (h36 : Sd pX9_swap ev_i 36 K36) : Sd pX9_swap ev_i 36 (bX9_swap_36 K23 K36) := sd_iload dX9_swap_36 <| sd_bipush dX9_swap_38 rfl <| sd_cge (tgt := 159) dX9_swap_40 (by decide) (sd_fg (i := 5) (sX9_swap_159 h23)) <| (sX9_swap_43 h23 h36)
def bX9_swap_30 (K23 : Kt Int32) : Kt Int32 := o_ild 4 <| o_psh (.int 1) <| o_i2 o_add <| o_ist 5 <| (o_lp (bX9_swap_36 K23) fu)
set_option maxRecDepth 100000 in
theorem sX9_swap_30 {K23 : Kt Int32} (h23 : Sd pX9_swap ev_i 23 K23) : Sd pX9_swap ev_i 30 (bX9_swap_30 K23) := sd_iload dX9_swap_30 <| sd_iconst dX9_swap_32 rfl <| sd_iadd dX9_swap_33 <| sd_istore dX9_swap_34 (by decide) <| (sd_lp (fun K h => sX9_swap_36 h23 h) fu)
def bX9_swap_23 (K23 : Kt Int32) : Kt Int32 := o_ild 4 <| o_psh (.int 10) <| o_cge (o_fg 0 (o_fg 4 bX9_swap_165)) <| (bX9_swap_30 K23)
set_option maxRecDepth 100000 in
theorem sX9_swap_23 {K23 : Kt Int32} (h23 : Sd pX9_swap ev_i 23 K23) : Sd pX9_swap ev_i 23 (bX9_swap_23 K23) := sd_iload dX9_swap_23 <| sd_bipush dX9_swap_25 rfl <| sd_cge (tgt := 165) dX9_swap_27 (by decide) (sd_fg (i := 0) (sd_fg (i := 4) sX9_swap_165)) <| (sX9_swap_30 h23)
def bX9_swap_12 : Kt Int32 := o_ald 0 <| o_vc ev_i 8 1 fX9_worthNow <| o_ist 2 <| o_psh (.int (-4)) <| o_ist 3 <| o_psh (.int 0) <| o_ist 4 <| (o_lp (bX9_swap_23) fu)
set_option maxRecDepth 100000 in
theorem sX9_swap_12 : Sd pX9_swap ev_i 12 (bX9_swap_12) := sd_aload_n dX9_swap_12 rfl <| sd_vc tX9_worthNow (fun _ _ => rfl) rfl mwX9_worthNow mvX9_worthNow tw_778 (by decide) dX9_swap_13 <| sd_istore_n dX9_swap_16 rfl (by decide) <| sd_bipush dX9_swap_17 rfl <| sd_istore_n dX9_swap_19 rfl (by decide) <| sd_iconst dX9_swap_20 rfl <| sd_istore dX9_swap_21 (by decide) <| (sd_lp (fun K h => sX9_swap_23 h) fu)
def bX9_swap_10 : Kt Int32 := o_psh (.int (-1)) <| o_rI
set_option maxRecDepth 100000 in
theorem sX9_swap_10 : Sd pX9_swap ev_i 10 (bX9_swap_10) := sd_iconst dX9_swap_10 rfl <| (sd_rI rfl dX9_swap_11)
def bX9_swap_0 : Kt Int32 := o_ild 1 <| o_i2l <| o_psh (.long 0) <| o_psh (.long 1) <| o_sc ev_i 3 fX9_in <| o_zne bX9_swap_12 <| (o_fg 0 (o_fg 1 bX9_swap_10))
set_option maxRecDepth 100000 in
theorem sX9_swap_0 : Sd pX9_swap ev_i 0 (bX9_swap_0) := sd_iload_n dX9_swap_0 rfl <| sd_i2l dX9_swap_1 <| sd_lconst dX9_swap_2 rfl <| sd_lconst dX9_swap_3 rfl <| sd_sc tX9_in (fun _ _ => rfl) mwX9_in mvX9_in tw_611 (by decide) dX9_swap_4 <| sd_zne (tgt := 12) dX9_swap_7 (by decide) sX9_swap_12 <| (sd_fg (i := 0) (sd_fg (i := 1) sX9_swap_10))
def fX9_swap : Mt Int32 := mk_f 9 bX9_swap_0
theorem tX9_swap : Ct ev_i yX9_swap cX9_swap 9 (some .int) 5 109 fX9_swap := ct_of (by decide +kernel) sX9_swap_0
abbrev pX9_give : Px := (cX9_give, 8, RX9, "give", (some .int), 5, 109, fun _ => True)
def bX9_give_145 : Kt Int32 := o_rI
set_option maxRecDepth 100000 in
theorem sX9_give_145 : Sd pX9_give ev_i 145 (bX9_give_145) := (sd_rI rfl dX9_give_145)
def bX9_give_144 : Kt Int32 := o_ild 2 <| (o_fg 2 bX9_give_145)
set_option maxRecDepth 100000 in
theorem sX9_give_144 : Sd pX9_give ev_i 144 (bX9_give_144) := sd_iload_n dX9_give_144 rfl <| (sd_fg (i := 2) sX9_give_145)
def bX9_give_140 : Kt Int32 := o_ild 3 <| (o_fg 3 bX9_give_145)
set_option maxRecDepth 100000 in
theorem sX9_give_140 : Sd pX9_give ev_i 140 (bX9_give_140) := sd_iload_n dX9_give_140 rfl <| (sd_goto (tgt := 145) dX9_give_141 (by decide) (sd_fg (i := 3) sX9_give_145))
def bX9_give_136 : Kt Int32 := o_ild 1 <| o_zne (o_fg 1 (o_fg 3 bX9_give_144)) <| (o_fg 1 (o_fg 2 bX9_give_140))
set_option maxRecDepth 100000 in
theorem sX9_give_136 : Sd pX9_give ev_i 136 (bX9_give_136) := sd_iload_n dX9_give_136 rfl <| sd_zne (tgt := 144) dX9_give_137 (by decide) (sd_fg (i := 1) (sd_fg (i := 3) sX9_give_144)) <| (sd_fg (i := 1) (sd_fg (i := 2) sX9_give_140))
def bX9_give_130 : Kt Int32 := o_ild 3 <| o_psh (.int (-4)) <| o_ceq (o_fg 1 (o_fg 2 bX9_give_140)) <| bX9_give_136
set_option maxRecDepth 100000 in
theorem sX9_give_130 : Sd pX9_give ev_i 130 (bX9_give_130) := sd_iload_n dX9_give_130 rfl <| sd_bipush dX9_give_131 rfl <| sd_ceq (tgt := 140) dX9_give_133 (by decide) (sd_fg (i := 1) (sd_fg (i := 2) sX9_give_140)) <| sX9_give_136
def bX9_give_112 (K23 : Kt Int32) : Kt Int32 := o_ald 0 <| o_gR 8 0 <| o_psh (.int 26) <| o_ild 4 <| o_i2 o_add <| o_ild 5 <| o_sI <| o_inc 4 1 <| (o_fg 5 K23)
set_option maxRecDepth 100000 in
theorem sX9_give_112 {K23 : Kt Int32} (h23 : Sd pX9_give ev_i 23 K23) : Sd pX9_give ev_i 112 (bX9_give_112 K23) := sd_aload_n dX9_give_112 rfl <| sd_gR flX9_7 dX9_give_113 <| sd_bipush dX9_give_116 rfl <| sd_iload dX9_give_118 <| sd_iadd dX9_give_120 <| sd_iload dX9_give_121 <| sd_sI dX9_give_123 <| sd_iinc dX9_give_124 rfl (by decide) <| (sd_goto (tgt := 23) dX9_give_127 (by decide) (sd_fg (i := 5) h23))
def bX9_give_105 (K23 : Kt Int32) (K45 : Kt Int32) : Kt Int32 := o_ist 2 <| o_inc 6 1 <| K45
set_option maxRecDepth 100000 in
theorem sX9_give_105 {K23 : Kt Int32} (h23 : Sd pX9_give ev_i 23 K23) {K45 : Kt Int32} (h45 : Sd pX9_give ev_i 45 K45) : Sd pX9_give ev_i 105 (bX9_give_105 K23 K45) := sd_istore_n dX9_give_105 rfl (by decide) <| sd_iinc dX9_give_106 rfl (by decide) <| (sd_goto (tgt := 45) dX9_give_109 (by decide) h45)
def bX9_give_104 (K23 : Kt Int32) (K45 : Kt Int32) : Kt Int32 := o_ild 2 <| (o_fg 2 (bX9_give_105 K23 K45))
set_option maxRecDepth 100000 in
theorem sX9_give_104 {K23 : Kt Int32} (h23 : Sd pX9_give ev_i 23 K23) {K45 : Kt Int32} (h45 : Sd pX9_give ev_i 45 K45) : Sd pX9_give ev_i 104 (bX9_give_104 K23 K45) := sd_iload_n dX9_give_104 rfl <| (sd_fg (i := 2) (sX9_give_105 h23 h45))
def bX9_give_99 (K23 : Kt Int32) (K45 : Kt Int32) : Kt Int32 := o_ild 7 <| (o_fg 7 (bX9_give_105 K23 K45))
set_option maxRecDepth 100000 in
theorem sX9_give_99 {K23 : Kt Int32} (h23 : Sd pX9_give ev_i 23 K23) {K45 : Kt Int32} (h45 : Sd pX9_give ev_i 45 K45) : Sd pX9_give ev_i 99 (bX9_give_99 K23 K45) := sd_iload dX9_give_99 <| (sd_goto (tgt := 105) dX9_give_101 (by decide) (sd_fg (i := 7) (sX9_give_105 h23 h45)))
def bX9_give_92 (K23 : Kt Int32) (K45 : Kt Int32) : Kt Int32 := o_ist 3 <| o_ild 7 <| o_ild 2 <| o_cle (o_fg 7 (bX9_give_104 K23 K45)) <| (o_fg 2 (bX9_give_99 K23 K45))
set_option maxRecDepth 100000 in
theorem sX9_give_92 {K23 : Kt Int32} (h23 : Sd pX9_give ev_i 23 K23) {K45 : Kt Int32} (h45 : Sd pX9_give ev_i 45 K45) : Sd pX9_give ev_i 92 (bX9_give_92 K23 K45) := sd_istore_n dX9_give_92 rfl (by decide) <| sd_iload dX9_give_93 <| sd_iload_n dX9_give_95 rfl <| sd_cle (tgt := 104) dX9_give_96 (by decide) (sd_fg (i := 7) (sX9_give_104 h23 h45)) <| (sd_fg (i := 2) (sX9_give_99 h23 h45))
def bX9_give_91 (K23 : Kt Int32) (K45 : Kt Int32) : Kt Int32 := o_ild 3 <| (o_fg 3 (bX9_give_92 K23 K45))
set_option maxRecDepth 100000 in
theorem sX9_give_91 {K23 : Kt Int32} (h23 : Sd pX9_give ev_i 23 K23) {K45 : Kt Int32} (h45 : Sd pX9_give ev_i 45 K45) : Sd pX9_give ev_i 91 (bX9_give_91 K23 K45) := sd_iload_n dX9_give_91 rfl <| (sd_fg (i := 3) (sX9_give_92 h23 h45))
def bX9_give_80 (K23 : Kt Int32) (K45 : Kt Int32) : Kt Int32 := o_psh (.int 10) <| o_ild 4 <| o_i2 o_mul <| o_ild 6 <| o_i2 o_add <| (bX9_give_92 K23 K45)
set_option maxRecDepth 100000 in
theorem sX9_give_80 {K23 : Kt Int32} (h23 : Sd pX9_give ev_i 23 K23) {K45 : Kt Int32} (h45 : Sd pX9_give ev_i 45 K45) : Sd pX9_give ev_i 80 (bX9_give_80 K23 K45) := sd_bipush dX9_give_80 rfl <| sd_iload dX9_give_82 <| sd_imul dX9_give_84 <| sd_iload dX9_give_85 <| sd_iadd dX9_give_87 <| (sd_goto (tgt := 92) dX9_give_88 (by decide) (sX9_give_92 h23 h45))
def bX9_give_54 (K23 : Kt Int32) (K45 : Kt Int32) : Kt Int32 := o_ald 0 <| o_gR 8 0 <| o_psh (.int 26) <| o_ild 4 <| o_i2 o_add <| o_ild 6 <| o_psh (.int 1) <| o_i2 o_add <| o_sI <| o_ald 0 <| o_vc ev_i 8 1 fX9_worthNow <| o_ist 7 <| o_ild 7 <| o_ild 2 <| o_cle (bX9_give_91 K23 K45) <| (o_fg 3 (bX9_give_80 K23 K45))
set_option maxRecDepth 100000 in
theorem sX9_give_54 {K23 : Kt Int32} (h23 : Sd pX9_give ev_i 23 K23) {K45 : Kt Int32} (h45 : Sd pX9_give ev_i 45 K45) : Sd pX9_give ev_i 54 (bX9_give_54 K23 K45) := sd_aload_n dX9_give_54 rfl <| sd_gR flX9_7 dX9_give_55 <| sd_bipush dX9_give_58 rfl <| sd_iload dX9_give_60 <| sd_iadd dX9_give_62 <| sd_iload dX9_give_63 <| sd_iconst dX9_give_65 rfl <| sd_iadd dX9_give_66 <| sd_sI dX9_give_67 <| sd_aload_n dX9_give_68 rfl <| sd_vc tX9_worthNow (fun _ _ => rfl) rfl mwX9_worthNow mvX9_worthNow tw_778 (by decide) dX9_give_69 <| sd_istore dX9_give_72 (by decide) <| sd_iload dX9_give_74 <| sd_iload_n dX9_give_76 rfl <| sd_cle (tgt := 91) dX9_give_77 (by decide) (sX9_give_91 h23 h45) <| (sd_fg (i := 3) (sX9_give_80 h23 h45))
def bX9_give_45 (K23 : Kt Int32) (K45 : Kt Int32) : Kt Int32 := o_ild 6 <| o_ald 0 <| o_gI 8 2 <| o_cge (o_fg 6 (bX9_give_112 K23)) <| (bX9_give_54 K23 K45)
set_option maxRecDepth 100000 in
theorem sX9_give_45 {K23 : Kt Int32} (h23 : Sd pX9_give ev_i 23 K23) {K45 : Kt Int32} (h45 : Sd pX9_give ev_i 45 K45) : Sd pX9_give ev_i 45 (bX9_give_45 K23 K45) := sd_iload dX9_give_45 <| sd_aload_n dX9_give_47 rfl <| sd_gI flX9_154 dX9_give_48 <| sd_cge (tgt := 112) dX9_give_51 (by decide) (sd_fg (i := 6) (sX9_give_112 h23)) <| (sX9_give_54 h23 h45)
def bX9_give_30 (K23 : Kt Int32) : Kt Int32 := o_ald 0 <| o_gR 8 0 <| o_psh (.int 26) <| o_ild 4 <| o_i2 o_add <| o_aI <| o_ist 5 <| o_psh (.int 0) <| o_ist 6 <| (o_lp (bX9_give_45 K23) fu)
set_option maxRecDepth 100000 in
theorem sX9_give_30 {K23 : Kt Int32} (h23 : Sd pX9_give ev_i 23 K23) : Sd pX9_give ev_i 30 (bX9_give_30 K23) := sd_aload_n dX9_give_30 rfl <| sd_gR flX9_7 dX9_give_31 <| sd_bipush dX9_give_34 rfl <| sd_iload dX9_give_36 <| sd_iadd dX9_give_38 <| sd_aI dX9_give_39 <| sd_istore dX9_give_40 (by decide) <| sd_iconst dX9_give_42 rfl <| sd_istore dX9_give_43 (by decide) <| (sd_lp (fun K h => sX9_give_45 h23 h) fu)
def bX9_give_23 (K23 : Kt Int32) : Kt Int32 := o_ild 4 <| o_psh (.int 10) <| o_cge (o_fg 0 (o_fg 4 bX9_give_130)) <| (bX9_give_30 K23)
set_option maxRecDepth 100000 in
theorem sX9_give_23 {K23 : Kt Int32} (h23 : Sd pX9_give ev_i 23 K23) : Sd pX9_give ev_i 23 (bX9_give_23 K23) := sd_iload dX9_give_23 <| sd_bipush dX9_give_25 rfl <| sd_cge (tgt := 130) dX9_give_27 (by decide) (sd_fg (i := 0) (sd_fg (i := 4) sX9_give_130)) <| (sX9_give_30 h23)
def bX9_give_12 : Kt Int32 := o_ald 0 <| o_vc ev_i 8 1 fX9_worthNow <| o_ist 2 <| o_psh (.int (-4)) <| o_ist 3 <| o_psh (.int 0) <| o_ist 4 <| (o_lp (bX9_give_23) fu)
set_option maxRecDepth 100000 in
theorem sX9_give_12 : Sd pX9_give ev_i 12 (bX9_give_12) := sd_aload_n dX9_give_12 rfl <| sd_vc tX9_worthNow (fun _ _ => rfl) rfl mwX9_worthNow mvX9_worthNow tw_778 (by decide) dX9_give_13 <| sd_istore_n dX9_give_16 rfl (by decide) <| sd_bipush dX9_give_17 rfl <| sd_istore_n dX9_give_19 rfl (by decide) <| sd_iconst dX9_give_20 rfl <| sd_istore dX9_give_21 (by decide) <| (sd_lp (fun K h => sX9_give_23 h) fu)
def bX9_give_10 : Kt Int32 := o_psh (.int (-1)) <| o_rI
set_option maxRecDepth 100000 in
theorem sX9_give_10 : Sd pX9_give ev_i 10 (bX9_give_10) := sd_iconst dX9_give_10 rfl <| (sd_rI rfl dX9_give_11)
def bX9_give_0 : Kt Int32 := o_ild 1 <| o_i2l <| o_psh (.long 0) <| o_psh (.long 1) <| o_sc ev_i 3 fX9_in <| o_zne bX9_give_12 <| (o_fg 0 (o_fg 1 bX9_give_10))
set_option maxRecDepth 100000 in
theorem sX9_give_0 : Sd pX9_give ev_i 0 (bX9_give_0) := sd_iload_n dX9_give_0 rfl <| sd_i2l dX9_give_1 <| sd_lconst dX9_give_2 rfl <| sd_lconst dX9_give_3 rfl <| sd_sc tX9_in (fun _ _ => rfl) mwX9_in mvX9_in tw_611 (by decide) dX9_give_4 <| sd_zne (tgt := 12) dX9_give_7 (by decide) sX9_give_12 <| (sd_fg (i := 0) (sd_fg (i := 1) sX9_give_10))
def fX9_give : Mt Int32 := mk_f 8 bX9_give_0
theorem tX9_give : Ct ev_i yX9_give cX9_give 8 (some .int) 5 109 fX9_give := ct_of (by decide +kernel) sX9_give_0
abbrev pX9_bitsOf : Px := (cX9_bitsOf, 3, RX9, "bitsOf", (some .int), 0, 0, fun _ => True)
def bX9_bitsOf_24 : Kt Int32 := o_ild 1 <| o_rI
set_option maxRecDepth 100000 in
theorem sX9_bitsOf_24 : Sd pX9_bitsOf ev_i 24 (bX9_bitsOf_24) := sd_iload_n dX9_bitsOf_24 rfl <| (sd_rI rfl dX9_bitsOf_25)
def bX9_bitsOf_10 (K4 : Kt Int32) : Kt Int32 := o_ild 1 <| o_ild 0 <| o_ild 2 <| o_i2 o_shr <| o_psh (.int 1) <| o_i2 o_and <| o_i2 o_add <| o_ist 1 <| o_inc 2 1 <| K4
set_option maxRecDepth 100000 in
theorem sX9_bitsOf_10 {K4 : Kt Int32} (h4 : Sd pX9_bitsOf ev_i 4 K4) : Sd pX9_bitsOf ev_i 10 (bX9_bitsOf_10 K4) := sd_iload_n dX9_bitsOf_10 rfl <| sd_iload_n dX9_bitsOf_11 rfl <| sd_iload_n dX9_bitsOf_12 rfl <| sd_ishr dX9_bitsOf_13 <| sd_iconst dX9_bitsOf_14 rfl <| sd_iand dX9_bitsOf_15 <| sd_iadd dX9_bitsOf_16 <| sd_istore_n dX9_bitsOf_17 rfl (by decide) <| sd_iinc dX9_bitsOf_18 rfl (by decide) <| (sd_goto (tgt := 4) dX9_bitsOf_21 (by decide) h4)
def bX9_bitsOf_4 (K4 : Kt Int32) : Kt Int32 := o_ild 2 <| o_psh (.int 10) <| o_cge (o_fg 0 (o_fg 2 bX9_bitsOf_24)) <| (bX9_bitsOf_10 K4)
set_option maxRecDepth 100000 in
theorem sX9_bitsOf_4 {K4 : Kt Int32} (h4 : Sd pX9_bitsOf ev_i 4 K4) : Sd pX9_bitsOf ev_i 4 (bX9_bitsOf_4 K4) := sd_iload_n dX9_bitsOf_4 rfl <| sd_bipush dX9_bitsOf_5 rfl <| sd_cge (tgt := 24) dX9_bitsOf_7 (by decide) (sd_fg (i := 0) (sd_fg (i := 2) sX9_bitsOf_24)) <| (sX9_bitsOf_10 h4)
def bX9_bitsOf_0 : Kt Int32 := o_psh (.int 0) <| o_ist 1 <| o_psh (.int 0) <| o_ist 2 <| (o_lp (bX9_bitsOf_4) fu)
set_option maxRecDepth 100000 in
theorem sX9_bitsOf_0 : Sd pX9_bitsOf ev_i 0 (bX9_bitsOf_0) := sd_iconst dX9_bitsOf_0 rfl <| sd_istore_n dX9_bitsOf_1 rfl (by decide) <| sd_iconst dX9_bitsOf_2 rfl <| sd_istore_n dX9_bitsOf_3 rfl (by decide) <| (sd_lp (fun K h => sX9_bitsOf_4 h) fu)
def fX9_bitsOf : Mt Int32 := mk_f 3 bX9_bitsOf_0
theorem tX9_bitsOf : Ct ev_i yX9_bitsOf cX9_bitsOf 3 (some .int) 0 0 fX9_bitsOf := ct_of (by decide +kernel) sX9_bitsOf_0
abbrev pX9_mend : Px := (cX9_mend, 3, RX9, "mend", (some .int), 4, 91, fun _ => True)
def bX9_mend_47 : Kt Int32 := o_rI
set_option maxRecDepth 100000 in
theorem sX9_mend_47 : Sd pX9_mend ev_i 47 (bX9_mend_47) := (sd_rI rfl dX9_mend_47)
def bX9_mend_41 : Kt Int32 := o_ald 0 <| o_gI 8 2 <| o_ild 2 <| o_i2 o_sub <| (o_fg 0 (o_fg 2 bX9_mend_47))
set_option maxRecDepth 100000 in
theorem sX9_mend_41 : Sd pX9_mend ev_i 41 (bX9_mend_41) := sd_aload_n dX9_mend_41 rfl <| sd_gI flX9_154 dX9_mend_42 <| sd_iload_n dX9_mend_45 rfl <| sd_isub dX9_mend_46 <| (sd_fg (i := 0) (sd_fg (i := 2) sX9_mend_47))
def bX9_mend_36 : Kt Int32 := o_psh (.int (-4)) <| bX9_mend_47
set_option maxRecDepth 100000 in
theorem sX9_mend_36 : Sd pX9_mend ev_i 36 (bX9_mend_36) := sd_bipush dX9_mend_36 rfl <| (sd_goto (tgt := 47) dX9_mend_38 (by decide) sX9_mend_47)
def bX9_mend_29 : Kt Int32 := o_ald 0 <| o_gI 8 2 <| o_zle bX9_mend_41 <| (o_fg 0 (o_fg 2 bX9_mend_36))
set_option maxRecDepth 100000 in
theorem sX9_mend_29 : Sd pX9_mend ev_i 29 (bX9_mend_29) := sd_aload_n dX9_mend_29 rfl <| sd_gI flX9_154 dX9_mend_30 <| sd_zle (tgt := 41) dX9_mend_33 (by decide) sX9_mend_41 <| (sd_fg (i := 0) (sd_fg (i := 2) sX9_mend_36))
def bX9_mend_9 : Kt Int32 := o_ald 0 <| o_vc ev_v 8 1 fX9_hoursGo <| o_ald 0 <| o_ild 1 <| o_psh (.int 9) <| o_psh (.int 0) <| o_vc ev_i 8 4 fX9_rightOf <| o_sc ev_i 1 fX9_bitsOf <| o_ist 2 <| o_ild 2 <| o_zne (o_fg 1 bX9_mend_41) <| (o_fg 1 bX9_mend_29)
set_option maxRecDepth 100000 in
theorem sX9_mend_9 : Sd pX9_mend ev_i 9 (bX9_mend_9) := sd_aload_n dX9_mend_9 rfl <| sd_vc tX9_hoursGo (fun _ _ => rfl) rfl mwX9_hoursGo mvX9_hoursGo tw_752 (by decide) dX9_mend_10 <| sd_aload_n dX9_mend_13 rfl <| sd_iload_n dX9_mend_14 rfl <| sd_bipush dX9_mend_15 rfl <| sd_iconst dX9_mend_17 rfl <| sd_vc tX9_rightOf (fun _ _ => rfl) rfl mwX9_rightOf mvX9_rightOf tw_756 (by decide) dX9_mend_18 <| sd_sc tX9_bitsOf (fun _ _ => rfl) mwX9_bitsOf mvX9_bitsOf tw_781 (by decide) dX9_mend_21 <| sd_istore_n dX9_mend_24 rfl (by decide) <| sd_iload_n dX9_mend_25 rfl <| sd_zne (tgt := 41) dX9_mend_26 (by decide) (sd_fg (i := 1) sX9_mend_41) <| (sd_fg (i := 1) sX9_mend_29)
def bX9_mend_7 : Kt Int32 := o_psh (.int (-1)) <| o_rI
set_option maxRecDepth 100000 in
theorem sX9_mend_7 : Sd pX9_mend ev_i 7 (bX9_mend_7) := sd_iconst dX9_mend_7 rfl <| (sd_rI rfl dX9_mend_8)
def bX9_mend_0 : Kt Int32 := o_ild 1 <| o_sc ev_i 1 fX9_isThing <| o_zne bX9_mend_9 <| (o_fg 0 (o_fg 1 bX9_mend_7))
set_option maxRecDepth 100000 in
theorem sX9_mend_0 : Sd pX9_mend ev_i 0 (bX9_mend_0) := sd_iload_n dX9_mend_0 rfl <| sd_sc tX9_isThing (fun _ _ => rfl) mwX9_isThing mvX9_isThing tw_720 (by decide) dX9_mend_1 <| sd_zne (tgt := 9) dX9_mend_4 (by decide) sX9_mend_9 <| (sd_fg (i := 0) (sd_fg (i := 1) sX9_mend_7))
def fX9_mend : Mt Int32 := mk_f 3 bX9_mend_0
theorem tX9_mend : Ct ev_i yX9_mend cX9_mend 3 (some .int) 4 91 fX9_mend := ct_of (by decide +kernel) sX9_mend_0
abbrev pX9_lowest : Px := (cX9_lowest, 11, RX9, "lowest", (some .long), 0, 0, fun _ => True)
def bX9_lowest_41 : Kt Int64 := o_lld 5 <| o_ldv <| o_rL
set_option maxRecDepth 100000 in
theorem sX9_lowest_41 : Sd pX9_lowest ev_l 41 (bX9_lowest_41) := sd_lload dX9_lowest_41 <| sd_ldiv dX9_lowest_43 <| (sd_rL rfl dX9_lowest_44)
def bX9_lowest_40 : Kt Int64 := o_lld 2 <| (o_fg 2 bX9_lowest_41)
set_option maxRecDepth 100000 in
theorem sX9_lowest_40 : Sd pX9_lowest ev_l 40 (bX9_lowest_40) := sd_lload_n dX9_lowest_40 rfl <| (sd_fg (i := 2) sX9_lowest_41)
def bX9_lowest_36 : Kt Int64 := o_lld 0 <| (o_fg 0 bX9_lowest_41)
set_option maxRecDepth 100000 in
theorem sX9_lowest_36 : Sd pX9_lowest ev_l 36 (bX9_lowest_36) := sd_lload_n dX9_lowest_36 rfl <| (sd_goto (tgt := 41) dX9_lowest_37 (by decide) (sd_fg (i := 0) sX9_lowest_41))
def bX9_lowest_31 : Kt Int64 := o_ild 4 <| o_zne (o_fg 0 (o_fg 4 bX9_lowest_40)) <| (o_fg 2 (o_fg 4 bX9_lowest_36))
set_option maxRecDepth 100000 in
theorem sX9_lowest_31 : Sd pX9_lowest ev_l 31 (bX9_lowest_31) := sd_iload dX9_lowest_31 <| sd_zne (tgt := 40) dX9_lowest_33 (by decide) (sd_fg (i := 0) (sd_fg (i := 4) sX9_lowest_40)) <| (sd_fg (i := 2) (sd_fg (i := 4) sX9_lowest_36))
def bX9_lowest_13 (K6 : Kt Int64) : Kt Int64 := o_lld 5 <| o_lld 7 <| o_lrm <| o_lst 9 <| o_lld 7 <| o_lst 5 <| o_lld 9 <| o_lst 7 <| (o_fg 9 K6)
set_option maxRecDepth 100000 in
theorem sX9_lowest_13 {K6 : Kt Int64} (h6 : Sd pX9_lowest ev_l 6 K6) : Sd pX9_lowest ev_l 13 (bX9_lowest_13 K6) := sd_lload dX9_lowest_13 <| sd_lload dX9_lowest_15 <| sd_lrem dX9_lowest_17 <| sd_lstore dX9_lowest_18 (by decide) <| sd_lload dX9_lowest_20 <| sd_lstore dX9_lowest_22 (by decide) <| sd_lload dX9_lowest_24 <| sd_lstore dX9_lowest_26 (by decide) <| (sd_goto (tgt := 6) dX9_lowest_28 (by decide) (sd_fg (i := 9) h6))
def bX9_lowest_6 (K6 : Kt Int64) : Kt Int64 := o_lld 7 <| o_psh (.long 0) <| o_lcm <| o_zeq (o_fg 7 bX9_lowest_31) <| (bX9_lowest_13 K6)
set_option maxRecDepth 100000 in
theorem sX9_lowest_6 {K6 : Kt Int64} (h6 : Sd pX9_lowest ev_l 6 K6) : Sd pX9_lowest ev_l 6 (bX9_lowest_6 K6) := sd_lload dX9_lowest_6 <| sd_lconst dX9_lowest_8 rfl <| sd_lcmp dX9_lowest_9 <| sd_zeq (tgt := 31) dX9_lowest_10 (by decide) (sd_fg (i := 7) sX9_lowest_31) <| (sX9_lowest_13 h6)
def bX9_lowest_0 : Kt Int64 := o_lld 0 <| o_lst 5 <| o_lld 2 <| o_lst 7 <| (o_lp (bX9_lowest_6) fu)
set_option maxRecDepth 100000 in
theorem sX9_lowest_0 : Sd pX9_lowest ev_l 0 (bX9_lowest_0) := sd_lload_n dX9_lowest_0 rfl <| sd_lstore dX9_lowest_1 (by decide) <| sd_lload_n dX9_lowest_3 rfl <| sd_lstore dX9_lowest_4 (by decide) <| (sd_lp (fun K h => sX9_lowest_6 h) fu)
def fX9_lowest : Mt Int64 := mk_f 11 bX9_lowest_0
theorem tX9_lowest : Ct ev_l yX9_lowest cX9_lowest 11 (some .long) 0 0 fX9_lowest := ct_of (by decide +kernel) sX9_lowest_0
abbrev pX9_isHandOver : Px := (cX9_isHandOver, 2, RX9, "isHandOver", (some .boolean), 1, 21, fun _ => True)
def bX9_isHandOver_32 : Kt Int32 := o_rZ
set_option maxRecDepth 100000 in
theorem sX9_isHandOver_32 : Sd pX9_isHandOver ev_i 32 (bX9_isHandOver_32) := (sd_rZ rfl dX9_isHandOver_32)
def bX9_isHandOver_31 : Kt Int32 := o_psh (.int 0) <| bX9_isHandOver_32
set_option maxRecDepth 100000 in
theorem sX9_isHandOver_31 : Sd pX9_isHandOver ev_i 31 (bX9_isHandOver_31) := sd_iconst dX9_isHandOver_31 rfl <| sX9_isHandOver_32
def bX9_isHandOver_27 : Kt Int32 := o_psh (.int 1) <| bX9_isHandOver_32
set_option maxRecDepth 100000 in
theorem sX9_isHandOver_27 : Sd pX9_isHandOver ev_i 27 (bX9_isHandOver_27) := sd_iconst dX9_isHandOver_27 rfl <| (sd_goto (tgt := 32) dX9_isHandOver_28 (by decide) sX9_isHandOver_32)
def bX9_isHandOver_12 : Kt Int32 := o_ald 0 <| o_ild 1 <| o_psh (.int 1) <| o_i2 o_sub <| o_vc ev_i 8 2 fX9_hasIt <| o_ald 0 <| o_ild 1 <| o_vc ev_i 8 2 fX9_hasIt <| o_ceq (o_fg 0 (o_fg 1 bX9_isHandOver_31)) <| (o_fg 0 (o_fg 1 bX9_isHandOver_27))
set_option maxRecDepth 100000 in
theorem sX9_isHandOver_12 : Sd pX9_isHandOver ev_i 12 (bX9_isHandOver_12) := sd_aload_n dX9_isHandOver_12 rfl <| sd_iload_n dX9_isHandOver_13 rfl <| sd_iconst dX9_isHandOver_14 rfl <| sd_isub dX9_isHandOver_15 <| sd_vc tX9_hasIt (fun _ _ => rfl) rfl mwX9_hasIt mvX9_hasIt tw_689 (by decide) dX9_isHandOver_16 <| sd_aload_n dX9_isHandOver_19 rfl <| sd_iload_n dX9_isHandOver_20 rfl <| sd_vc tX9_hasIt (fun _ _ => rfl) rfl mwX9_hasIt mvX9_hasIt tw_689 (by decide) dX9_isHandOver_21 <| sd_ceq (tgt := 31) dX9_isHandOver_24 (by decide) (sd_fg (i := 0) (sd_fg (i := 1) sX9_isHandOver_31)) <| (sd_fg (i := 0) (sd_fg (i := 1) sX9_isHandOver_27))
def bX9_isHandOver_8 : Kt Int32 := o_ild 1 <| o_zeq (o_fg 0 (o_fg 1 bX9_isHandOver_27)) <| bX9_isHandOver_12
set_option maxRecDepth 100000 in
theorem sX9_isHandOver_8 : Sd pX9_isHandOver ev_i 8 (bX9_isHandOver_8) := sd_iload_n dX9_isHandOver_8 rfl <| sd_zeq (tgt := 27) dX9_isHandOver_9 (by decide) (sd_fg (i := 0) (sd_fg (i := 1) sX9_isHandOver_27)) <| sX9_isHandOver_12
def bX9_isHandOver_0 : Kt Int32 := o_ald 0 <| o_ild 1 <| o_vc ev_i 8 2 fX9_hasIt <| o_zlt (o_fg 0 (o_fg 1 bX9_isHandOver_31)) <| bX9_isHandOver_8
set_option maxRecDepth 100000 in
theorem sX9_isHandOver_0 : Sd pX9_isHandOver ev_i 0 (bX9_isHandOver_0) := sd_aload_n dX9_isHandOver_0 rfl <| sd_iload_n dX9_isHandOver_1 rfl <| sd_vc tX9_hasIt (fun _ _ => rfl) rfl mwX9_hasIt mvX9_hasIt tw_689 (by decide) dX9_isHandOver_2 <| sd_zlt (tgt := 31) dX9_isHandOver_5 (by decide) (sd_fg (i := 0) (sd_fg (i := 1) sX9_isHandOver_31)) <| sX9_isHandOver_8
def fX9_isHandOver : Mt Int32 := mk_f 2 bX9_isHandOver_0
theorem tX9_isHandOver : Ct ev_i yX9_isHandOver cX9_isHandOver 2 (some .boolean) 1 21 fX9_isHandOver := ct_of (by decide +kernel) sX9_isHandOver_0
