abbrev pX9_torn : Px := (cX9_torn, 1, RX9, "torn", (some .int), 0, 0)
def bX9_torn_0 : Kt Int32 := o_ald 0 <| o_gI 8 31 <| o_rI
set_option maxRecDepth 100000 in
theorem sX9_torn_0 : Sd pX9_torn ev_i 0 (bX9_torn_0) := sd_aload_n dX9_torn_0 rfl <| sd_gI flX9_291 dX9_torn_1 <| (sd_rI rfl dX9_torn_4)
def fX9_torn : Mt Int32 := mk_f 1 bX9_torn_0
theorem tX9_torn : Ct ev_i yX9_torn cX9_torn 1 (some .int) 0 0 fX9_torn := ct_of (by decide +kernel) sX9_torn_0
abbrev pX9_count : Px := (cX9_count, 2, RX9, "count", (some .int), 4, 91)
def bX9_count_128 : Kt Int32 := o_psh (.int (-1)) <| o_rI
set_option maxRecDepth 100000 in
theorem sX9_count_128 : Sd pX9_count ev_i 128 (bX9_count_128) := sd_iconst dX9_count_128 rfl <| (sd_rI rfl dX9_count_129)
def bX9_count_110 : Kt Int32 := o_ald 0 <| o_psh (.int (-4)) <| o_psh (.int 0) <| o_vc ev_i 8 3 fX9_hoursOf <| o_ald 0 <| o_vc ev_i 8 1 fX9_seeing <| o_psh (.int (-1)) <| o_i2 o_xor <| o_i2 o_and <| o_sc ev_i 1 fX9_bitsOf <| o_rI
set_option maxRecDepth 100000 in
theorem sX9_count_110 : Sd pX9_count ev_i 110 (bX9_count_110) := sd_aload_n dX9_count_110 rfl <| sd_bipush dX9_count_111 rfl <| sd_iconst dX9_count_113 rfl <| sd_vc tX9_hoursOf (fun _ _ => rfl) rfl mwX9_hoursOf mvX9_hoursOf tw_709 (by decide) dX9_count_114 <| sd_aload_n dX9_count_117 rfl <| sd_vc tX9_seeing (fun _ _ => rfl) rfl mwX9_seeing mvX9_seeing tw_713 (by decide) dX9_count_118 <| sd_iconst dX9_count_121 rfl <| sd_ixor dX9_count_122 <| sd_iand dX9_count_123 <| sd_sc tX9_bitsOf (fun _ _ => rfl) mwX9_bitsOf mvX9_bitsOf tw_781 (by decide) dX9_count_124 <| (sd_rI rfl dX9_count_127)
def bX9_count_103 : Kt Int32 := o_ald 0 <| o_psh (.int 31) <| o_vc ev_i 8 2 fX9_worthOf <| o_rI
set_option maxRecDepth 100000 in
theorem sX9_count_103 : Sd pX9_count ev_i 103 (bX9_count_103) := sd_aload_n dX9_count_103 rfl <| sd_bipush dX9_count_104 rfl <| sd_vc tX9_worthOf (fun _ _ => rfl) rfl mwX9_worthOf mvX9_worthOf tw_738 (by decide) dX9_count_106 <| (sd_rI rfl dX9_count_109)
def bX9_count_102 : Kt Int32 := o_rI
set_option maxRecDepth 100000 in
theorem sX9_count_102 : Sd pX9_count ev_i 102 (bX9_count_102) := (sd_rI rfl dX9_count_102)
def bX9_count_96 : Kt Int32 := o_ald 0 <| o_gR 8 29 <| o_psh (.int 0) <| o_aI <| bX9_count_102
set_option maxRecDepth 100000 in
theorem sX9_count_96 : Sd pX9_count ev_i 96 (bX9_count_96) := sd_aload_n dX9_count_96 rfl <| sd_gR flX9_50 dX9_count_97 <| sd_iconst dX9_count_100 rfl <| sd_aI dX9_count_101 <| sX9_count_102
def bX9_count_91 : Kt Int32 := o_psh (.int (-4)) <| bX9_count_102
set_option maxRecDepth 100000 in
theorem sX9_count_91 : Sd pX9_count ev_i 91 (bX9_count_91) := sd_bipush dX9_count_91 rfl <| (sd_goto dX9_count_93 (by decide) sX9_count_102)
def bX9_count_80 : Kt Int32 := o_ald 0 <| o_gR 8 28 <| o_psh (.int 0) <| o_aI <| o_psh (.int (-4)) <| o_cne bX9_count_96 <| bX9_count_91
set_option maxRecDepth 100000 in
theorem sX9_count_80 : Sd pX9_count ev_i 80 (bX9_count_80) := sd_aload_n dX9_count_80 rfl <| sd_gR flX9_47 dX9_count_81 <| sd_iconst dX9_count_84 rfl <| sd_aI dX9_count_85 <| sd_bipush dX9_count_86 rfl <| sd_cne (tgt := 96) dX9_count_88 (by decide) sX9_count_96 <| sX9_count_91
def bX9_count_75 : Kt Int32 := o_ald 0 <| o_gI 8 10 <| o_rI
set_option maxRecDepth 100000 in
theorem sX9_count_75 : Sd pX9_count ev_i 75 (bX9_count_75) := sd_aload_n dX9_count_75 rfl <| sd_gI flX9_62 dX9_count_76 <| (sd_rI rfl dX9_count_79)
def bX9_count_73 : Kt Int32 := o_i2 o_add <| o_rI
set_option maxRecDepth 100000 in
theorem sX9_count_73 : Sd pX9_count ev_i 73 (bX9_count_73) := sd_iadd dX9_count_73 <| (sd_rI rfl dX9_count_74)
def bX9_count_72 : Kt Int32 := o_psh (.int 0) <| bX9_count_73
set_option maxRecDepth 100000 in
theorem sX9_count_72 : Sd pX9_count ev_i 72 (bX9_count_72) := sd_iconst dX9_count_72 rfl <| sX9_count_73
def bX9_count_68 : Kt Int32 := o_psh (.int 1) <| bX9_count_73
set_option maxRecDepth 100000 in
theorem sX9_count_68 : Sd pX9_count ev_i 68 (bX9_count_68) := sd_iconst dX9_count_68 rfl <| (sd_goto dX9_count_69 (by decide) sX9_count_73)
def bX9_count_59 : Kt Int32 := o_ald 0 <| o_gR 8 27 <| o_psh (.int 1) <| o_aZ <| o_zeq bX9_count_72 <| bX9_count_68
set_option maxRecDepth 100000 in
theorem sX9_count_59 : Sd pX9_count ev_i 59 (bX9_count_59) := sd_aload_n dX9_count_59 rfl <| sd_gR flX9_43 dX9_count_60 <| sd_iconst dX9_count_63 rfl <| sd_aZ dX9_count_64 <| sd_zeq (tgt := 72) dX9_count_65 (by decide) sX9_count_72 <| sX9_count_68
def bX9_count_58 : Kt Int32 := o_psh (.int 0) <| bX9_count_59
set_option maxRecDepth 100000 in
theorem sX9_count_58 : Sd pX9_count ev_i 58 (bX9_count_58) := sd_iconst dX9_count_58 rfl <| sX9_count_59
def bX9_count_54 : Kt Int32 := o_psh (.int 1) <| bX9_count_59
set_option maxRecDepth 100000 in
theorem sX9_count_54 : Sd pX9_count ev_i 54 (bX9_count_54) := sd_iconst dX9_count_54 rfl <| (sd_goto dX9_count_55 (by decide) sX9_count_59)
def bX9_count_45 : Kt Int32 := o_ald 0 <| o_gR 8 27 <| o_psh (.int 0) <| o_aZ <| o_zeq bX9_count_58 <| bX9_count_54
set_option maxRecDepth 100000 in
theorem sX9_count_45 : Sd pX9_count ev_i 45 (bX9_count_45) := sd_aload_n dX9_count_45 rfl <| sd_gR flX9_43 dX9_count_46 <| sd_iconst dX9_count_49 rfl <| sd_aZ dX9_count_50 <| sd_zeq (tgt := 58) dX9_count_51 (by decide) sX9_count_58 <| sX9_count_54
def bX9_count_40 : Kt Int32 := o_ald 0 <| o_gI 8 24 <| o_rI
set_option maxRecDepth 100000 in
theorem sX9_count_40 : Sd pX9_count ev_i 40 (bX9_count_40) := sd_aload_n dX9_count_40 rfl <| sd_gI flX9_157 dX9_count_41 <| (sd_rI rfl dX9_count_44)
def bX9_count_0 : Kt Int32 := o_ild 1 <| o_sw 0 5 [bX9_count_40, bX9_count_45, bX9_count_75, bX9_count_80, bX9_count_103, bX9_count_110] bX9_count_128
set_option maxRecDepth 100000 in
theorem sX9_count_0 : Sd pX9_count ev_i 0 (bX9_count_0) := sd_iload_n dX9_count_0 rfl <| (sd_tsw (td := 128) dX9_count_1 (by decide) sX9_count_128 ⟨⟨40, by decide, sX9_count_40⟩, ⟨45, by decide, sX9_count_45⟩, ⟨75, by decide, sX9_count_75⟩, ⟨80, by decide, sX9_count_80⟩, ⟨103, by decide, sX9_count_103⟩, ⟨110, by decide, sX9_count_110⟩, trivial⟩)
def fX9_count : Mt Int32 := mk_f 2 bX9_count_0
theorem tX9_count : Ct ev_i yX9_count cX9_count 2 (some .int) 4 91 fX9_count := ct_of (by decide +kernel) sX9_count_0
