abbrev pX4_takeFirst : Px := (cX4_takeFirst, 7, RX4, "takeFirst", none, 3, 77, fun _ => True)
def bX4_takeFirst_134 : Kt Unit := o_rV
set_option maxRecDepth 100000 in
theorem sX4_takeFirst_134 : Sd pX4_takeFirst ev_v 134 (bX4_takeFirst_134) := (sd_rV rfl dX4_takeFirst_134)
def bX4_takeFirst_112 (K32 : Kt Unit) : Kt Unit := o_sI <| o_ild 4 <| o_ald 0 <| o_gR 3 1 <| o_ild 6 <| o_aI <| o_i2 o_or <| o_ist 4 <| o_ild 6 <| o_ist 3 <| o_inc 5 1 <| (o_fg 6 K32)
set_option maxRecDepth 100000 in
theorem sX4_takeFirst_112 {K32 : Kt Unit} (h32 : Sd pX4_takeFirst ev_v 32 K32) : Sd pX4_takeFirst ev_v 112 (bX4_takeFirst_112 K32) := sd_sI dX4_takeFirst_112 <| sd_iload dX4_takeFirst_113 <| sd_aload_n dX4_takeFirst_115 rfl <| sd_gR flX4_15 dX4_takeFirst_116 <| sd_iload dX4_takeFirst_119 <| sd_aI dX4_takeFirst_121 <| sd_ior dX4_takeFirst_122 <| sd_istore dX4_takeFirst_123 (by decide) <| sd_iload dX4_takeFirst_125 <| sd_istore_n dX4_takeFirst_127 rfl (by decide) <| sd_iinc dX4_takeFirst_128 rfl (by decide) <| (sd_goto (tgt := 32) dX4_takeFirst_131 (by decide) (sd_fg (i := 6) h32))
def bX4_takeFirst_110 (K32 : Kt Unit) : Kt Unit := o_ild 6 <| (bX4_takeFirst_112 K32)
set_option maxRecDepth 100000 in
theorem sX4_takeFirst_110 {K32 : Kt Unit} (h32 : Sd pX4_takeFirst ev_v 32 K32) : Sd pX4_takeFirst ev_v 110 (bX4_takeFirst_110 K32) := sd_iload dX4_takeFirst_110 <| (sX4_takeFirst_112 h32)
def bX4_takeFirst_105 (K32 : Kt Unit) : Kt Unit := o_psh (.int (-4)) <| (bX4_takeFirst_112 K32)
set_option maxRecDepth 100000 in
theorem sX4_takeFirst_105 {K32 : Kt Unit} (h32 : Sd pX4_takeFirst ev_v 32 K32) : Sd pX4_takeFirst ev_v 105 (bX4_takeFirst_105 K32) := sd_bipush dX4_takeFirst_105 rfl <| (sd_goto (tgt := 112) dX4_takeFirst_107 (by decide) (sX4_takeFirst_112 h32))
def bX4_takeFirst_93 (K32 : Kt Unit) : Kt Unit := o_ald 0 <| o_gR 3 2 <| o_ild 5 <| o_ild 6 <| o_ild 2 <| o_cne (bX4_takeFirst_110 K32) <| (bX4_takeFirst_105 K32)
set_option maxRecDepth 100000 in
theorem sX4_takeFirst_93 {K32 : Kt Unit} (h32 : Sd pX4_takeFirst ev_v 32 K32) : Sd pX4_takeFirst ev_v 93 (bX4_takeFirst_93 K32) := sd_aload_n dX4_takeFirst_93 rfl <| sd_gR flX4_18 dX4_takeFirst_94 <| sd_iload dX4_takeFirst_97 <| sd_iload dX4_takeFirst_99 <| sd_iload_n dX4_takeFirst_101 rfl <| sd_cne (tgt := 110) dX4_takeFirst_102 (by decide) (sX4_takeFirst_110 h32) <| (sX4_takeFirst_105 h32)
def bX4_takeFirst_87 (K32 : Kt Unit) (K50 : Kt Unit) : Kt Unit := o_inc 6 1 <| K50
set_option maxRecDepth 100000 in
theorem sX4_takeFirst_87 {K32 : Kt Unit} (h32 : Sd pX4_takeFirst ev_v 32 K32) {K50 : Kt Unit} (h50 : Sd pX4_takeFirst ev_v 50 K50) : Sd pX4_takeFirst ev_v 87 (bX4_takeFirst_87 K32 K50) := sd_iinc dX4_takeFirst_87 rfl (by decide) <| (sd_goto (tgt := 50) dX4_takeFirst_90 (by decide) h50)
def bX4_takeFirst_56 (K32 : Kt Unit) (K50 : Kt Unit) : Kt Unit := o_ald 0 <| o_gR 3 0 <| o_ild 5 <| o_psh (.int 1) <| o_i2 o_add <| o_ild 6 <| o_ild 4 <| o_ald 0 <| o_gR 3 1 <| o_ild 6 <| o_aI <| o_i2 o_or <| o_sc ev_i 3 fX4_placeOf <| o_aI <| o_ald 0 <| o_gI 3 6 <| o_cge (bX4_takeFirst_93 K32) <| (bX4_takeFirst_87 K32 K50)
set_option maxRecDepth 100000 in
theorem sX4_takeFirst_56 {K32 : Kt Unit} (h32 : Sd pX4_takeFirst ev_v 32 K32) {K50 : Kt Unit} (h50 : Sd pX4_takeFirst ev_v 50 K50) : Sd pX4_takeFirst ev_v 56 (bX4_takeFirst_56 K32 K50) := sd_aload_n dX4_takeFirst_56 rfl <| sd_gR flX4_11 dX4_takeFirst_57 <| sd_iload dX4_takeFirst_60 <| sd_iconst dX4_takeFirst_62 rfl <| sd_iadd dX4_takeFirst_63 <| sd_iload dX4_takeFirst_64 <| sd_iload dX4_takeFirst_66 <| sd_aload_n dX4_takeFirst_68 rfl <| sd_gR flX4_15 dX4_takeFirst_69 <| sd_iload dX4_takeFirst_72 <| sd_aI dX4_takeFirst_74 <| sd_ior dX4_takeFirst_75 <| sd_sc tX4_placeOf (fun _ _ => rfl) mwX4_placeOf mvX4_placeOf tw_210 (by decide) dX4_takeFirst_76 <| sd_aI dX4_takeFirst_79 <| sd_aload_n dX4_takeFirst_80 rfl <| sd_gI flX4_107 dX4_takeFirst_81 <| sd_cge (tgt := 93) dX4_takeFirst_84 (by decide) (sX4_takeFirst_93 h32) <| (sX4_takeFirst_87 h32 h50)
def bX4_takeFirst_50 (K32 : Kt Unit) (K50 : Kt Unit) : Kt Unit := o_ild 6 <| o_ild 2 <| o_cge (bX4_takeFirst_93 K32) <| (bX4_takeFirst_56 K32 K50)
set_option maxRecDepth 100000 in
theorem sX4_takeFirst_50 {K32 : Kt Unit} (h32 : Sd pX4_takeFirst ev_v 32 K32) {K50 : Kt Unit} (h50 : Sd pX4_takeFirst ev_v 50 K50) : Sd pX4_takeFirst ev_v 50 (bX4_takeFirst_50 K32 K50) := sd_iload dX4_takeFirst_50 <| sd_iload_n dX4_takeFirst_52 rfl <| sd_cge (tgt := 93) dX4_takeFirst_53 (by decide) (sX4_takeFirst_93 h32) <| (sX4_takeFirst_56 h32 h50)
def bX4_takeFirst_39 (K32 : Kt Unit) : Kt Unit := o_ald 0 <| o_ald 1 <| o_ild 5 <| o_ild 3 <| o_vc ev_v 3 4 fX4_findGains <| o_psh (.int 0) <| o_ist 6 <| (o_fg 3 (o_lp (bX4_takeFirst_50 K32) fu))
set_option maxRecDepth 100000 in
theorem sX4_takeFirst_39 {K32 : Kt Unit} (h32 : Sd pX4_takeFirst ev_v 32 K32) : Sd pX4_takeFirst ev_v 39 (bX4_takeFirst_39 K32) := sd_aload_n dX4_takeFirst_39 rfl <| sd_aload_n dX4_takeFirst_40 rfl <| sd_iload dX4_takeFirst_41 <| sd_iload_n dX4_takeFirst_43 rfl <| sd_vc tX4_findGains (fun _ _ => rfl) rfl mwX4_findGains mvX4_findGains tw_225 (by decide) dX4_takeFirst_44 <| sd_iconst dX4_takeFirst_47 rfl <| sd_istore dX4_takeFirst_48 (by decide) <| (sd_fg (i := 3) (sd_lp (fun K h => sX4_takeFirst_50 h32 h) fu))
def bX4_takeFirst_32 (K32 : Kt Unit) : Kt Unit := o_ild 5 <| o_psh (.int 10) <| o_cge (o_fg 0 (o_fg 1 (o_fg 2 (o_fg 3 (o_fg 4 (o_fg 5 bX4_takeFirst_134)))))) <| (bX4_takeFirst_39 K32)
set_option maxRecDepth 100000 in
theorem sX4_takeFirst_32 {K32 : Kt Unit} (h32 : Sd pX4_takeFirst ev_v 32 K32) : Sd pX4_takeFirst ev_v 32 (bX4_takeFirst_32 K32) := sd_iload dX4_takeFirst_32 <| sd_bipush dX4_takeFirst_34 rfl <| sd_cge (tgt := 134) dX4_takeFirst_36 (by decide) (sd_fg (i := 0) (sd_fg (i := 1) (sd_fg (i := 2) (sd_fg (i := 3) (sd_fg (i := 4) (sd_fg (i := 5) sX4_takeFirst_134)))))) <| (sX4_takeFirst_39 h32)
def bX4_takeFirst_0 : Kt Unit := o_ald 1 <| o_gR 1 0 <| o_gI 5 3 <| o_ist 2 <| o_ild 2 <| o_ist 3 <| o_psh (.int 0) <| o_ist 4 <| o_ald 0 <| o_ald 0 <| o_gR 3 0 <| o_psh (.int 0) <| o_ild 3 <| o_ild 4 <| o_sc ev_i 3 fX4_placeOf <| o_aI <| o_pI 3 6 <| o_psh (.int 0) <| o_ist 5 <| (o_lp (bX4_takeFirst_32) fu)
set_option maxRecDepth 100000 in
theorem sX4_takeFirst_0 : Sd pX4_takeFirst ev_v 0 (bX4_takeFirst_0) := sd_aload_n dX4_takeFirst_0 rfl <| sd_gR flX4_37 dX4_takeFirst_1 <| sd_gI flX4_64 dX4_takeFirst_4 <| sd_istore_n dX4_takeFirst_7 rfl (by decide) <| sd_iload_n dX4_takeFirst_8 rfl <| sd_istore_n dX4_takeFirst_9 rfl (by decide) <| sd_iconst dX4_takeFirst_10 rfl <| sd_istore dX4_takeFirst_11 (by decide) <| sd_aload_n dX4_takeFirst_13 rfl <| sd_aload_n dX4_takeFirst_14 rfl <| sd_gR flX4_11 dX4_takeFirst_15 <| sd_iconst dX4_takeFirst_18 rfl <| sd_iload_n dX4_takeFirst_19 rfl <| sd_iload dX4_takeFirst_20 <| sd_sc tX4_placeOf (fun _ _ => rfl) mwX4_placeOf mvX4_placeOf tw_210 (by decide) dX4_takeFirst_22 <| sd_aI dX4_takeFirst_25 <| sd_pI fpX4_107 dX4_takeFirst_26 <| sd_iconst dX4_takeFirst_29 rfl <| sd_istore dX4_takeFirst_30 (by decide) <| (sd_lp (fun K h => sX4_takeFirst_32 h) fu)
def fX4_takeFirst : Mt Unit := mk_f 7 bX4_takeFirst_0
theorem tX4_takeFirst : Ct ev_v yX4_takeFirst cX4_takeFirst 7 none 3 77 fX4_takeFirst := ct_of (by decide +kernel) sX4_takeFirst_0
abbrev pX4_planFor : Px := (cX4_planFor, 3, RX4, "planFor", none, 4, 103, fun _ => True)
def bX4_planFor_87 : Kt Unit := o_ald 0 <| o_ald 1 <| o_vc ev_v 3 2 fX4_takeFirst <| o_rV
set_option maxRecDepth 100000 in
theorem sX4_planFor_87 : Sd pX4_planFor ev_v 87 (bX4_planFor_87) := sd_aload_n dX4_planFor_87 rfl <| sd_aload_n dX4_planFor_88 rfl <| sd_vc tX4_takeFirst (fun _ _ => rfl) rfl mwX4_takeFirst mvX4_takeFirst tw_248 (by decide) dX4_planFor_89 <| (sd_rV rfl dX4_planFor_92)
def bX4_planFor_75 (K71 : Kt Unit) : Kt Unit := o_ald 0 <| o_ald 1 <| o_ild 2 <| o_vc ev_v 3 3 fX4_fillHour <| o_inc 2 (-1) <| K71
set_option maxRecDepth 100000 in
theorem sX4_planFor_75 {K71 : Kt Unit} (h71 : Sd pX4_planFor ev_v 71 K71) : Sd pX4_planFor ev_v 75 (bX4_planFor_75 K71) := sd_aload_n dX4_planFor_75 rfl <| sd_aload_n dX4_planFor_76 rfl <| sd_iload_n dX4_planFor_77 rfl <| sd_vc tX4_fillHour (fun _ _ => rfl) rfl mwX4_fillHour mvX4_fillHour tw_244 (by decide) dX4_planFor_78 <| sd_iinc dX4_planFor_81 rfl (by decide) <| (sd_goto (tgt := 71) dX4_planFor_84 (by decide) h71)
def bX4_planFor_71 (K71 : Kt Unit) : Kt Unit := o_ild 2 <| o_zlt (o_fg 2 bX4_planFor_87) <| (bX4_planFor_75 K71)
set_option maxRecDepth 100000 in
theorem sX4_planFor_71 {K71 : Kt Unit} (h71 : Sd pX4_planFor ev_v 71 K71) : Sd pX4_planFor ev_v 71 (bX4_planFor_71 K71) := sd_iload_n dX4_planFor_71 rfl <| sd_zlt (tgt := 87) dX4_planFor_72 (by decide) (sd_fg (i := 2) sX4_planFor_87) <| (sX4_planFor_75 h71)
def bX4_planFor_36 : Kt Unit := o_ald 0 <| o_gR 3 3 <| o_ald 1 <| o_gR 1 0 <| o_vc ev_v 5 2 fX6_copyFrom <| o_ald 0 <| o_gR 3 4 <| o_ald 1 <| o_gR 1 2 <| o_vc ev_v 5 2 fX6_copyFrom <| o_ald 0 <| o_psh (.int 1) <| o_pZ 3 5 <| o_ald 0 <| o_ald 1 <| o_vc ev_v 3 2 fX4_fillEnd <| o_psh (.int 9) <| o_ist 2 <| (o_lp (bX4_planFor_71) fu)
set_option maxRecDepth 100000 in
theorem sX4_planFor_36 : Sd pX4_planFor ev_v 36 (bX4_planFor_36) := sd_aload_n dX4_planFor_36 rfl <| sd_gR flX4_26 dX4_planFor_37 <| sd_aload_n dX4_planFor_40 rfl <| sd_gR flX4_37 dX4_planFor_41 <| sd_vc tX6_copyFrom (fun _ _ => rfl) rfl mwX6_copyFrom mvX6_copyFrom tw_236 (by decide) dX4_planFor_44 <| sd_aload_n dX4_planFor_47 rfl <| sd_gR flX4_30 dX4_planFor_48 <| sd_aload_n dX4_planFor_51 rfl <| sd_gR flX4_46 dX4_planFor_52 <| sd_vc tX6_copyFrom (fun _ _ => rfl) rfl mwX6_copyFrom mvX6_copyFrom tw_236 (by decide) dX4_planFor_55 <| sd_aload_n dX4_planFor_58 rfl <| sd_iconst dX4_planFor_59 rfl <| sd_pZ fpX4_33 dX4_planFor_60 <| sd_aload_n dX4_planFor_63 rfl <| sd_aload_n dX4_planFor_64 rfl <| sd_vc tX4_fillEnd (fun _ _ => rfl) rfl mwX4_fillEnd mvX4_fillEnd tw_240 (by decide) dX4_planFor_65 <| sd_bipush dX4_planFor_68 rfl <| sd_istore_n dX4_planFor_70 rfl (by decide) <| (sd_lp (fun K h => sX4_planFor_71 h) fu)
def bX4_planFor_35 : Kt Unit := o_rV
set_option maxRecDepth 100000 in
theorem sX4_planFor_35 : Sd pX4_planFor ev_v 35 (bX4_planFor_35) := (sd_rV rfl dX4_planFor_35)
def bX4_planFor_21 : Kt Unit := o_ald 0 <| o_gR 3 4 <| o_ald 1 <| o_gR 1 2 <| o_vc ev_i 5 2 fX6_isLike <| o_zeq bX4_planFor_36 <| (o_fg 0 (o_fg 1 bX4_planFor_35))
set_option maxRecDepth 100000 in
theorem sX4_planFor_21 : Sd pX4_planFor ev_v 21 (bX4_planFor_21) := sd_aload_n dX4_planFor_21 rfl <| sd_gR flX4_30 dX4_planFor_22 <| sd_aload_n dX4_planFor_25 rfl <| sd_gR flX4_46 dX4_planFor_26 <| sd_vc tX6_isLike (fun _ _ => rfl) rfl mwX6_isLike mvX6_isLike tw_235 (by decide) dX4_planFor_29 <| sd_zeq (tgt := 36) dX4_planFor_32 (by decide) sX4_planFor_36 <| (sd_fg (i := 0) (sd_fg (i := 1) sX4_planFor_35))
def bX4_planFor_7 : Kt Unit := o_ald 0 <| o_gR 3 3 <| o_ald 1 <| o_gR 1 0 <| o_vc ev_i 5 2 fX6_isLike <| o_zeq bX4_planFor_36 <| bX4_planFor_21
set_option maxRecDepth 100000 in
theorem sX4_planFor_7 : Sd pX4_planFor ev_v 7 (bX4_planFor_7) := sd_aload_n dX4_planFor_7 rfl <| sd_gR flX4_26 dX4_planFor_8 <| sd_aload_n dX4_planFor_11 rfl <| sd_gR flX4_37 dX4_planFor_12 <| sd_vc tX6_isLike (fun _ _ => rfl) rfl mwX6_isLike mvX6_isLike tw_235 (by decide) dX4_planFor_15 <| sd_zeq (tgt := 36) dX4_planFor_18 (by decide) sX4_planFor_36 <| sX4_planFor_21
def bX4_planFor_0 : Kt Unit := o_ald 0 <| o_gI 3 5 <| o_zeq bX4_planFor_36 <| bX4_planFor_7
set_option maxRecDepth 100000 in
theorem sX4_planFor_0 : Sd pX4_planFor ev_v 0 (bX4_planFor_0) := sd_aload_n dX4_planFor_0 rfl <| sd_gI flX4_33 dX4_planFor_1 <| sd_zeq (tgt := 36) dX4_planFor_4 (by decide) sX4_planFor_36 <| sX4_planFor_7
def fX4_planFor : Mt Unit := mk_f 3 bX4_planFor_0
theorem tX4_planFor : Ct ev_v yX4_planFor cX4_planFor 3 none 4 103 fX4_planFor := ct_of (by decide +kernel) sX4_planFor_0
abbrev pX5_init : Px := (cX5_init, 2, RX5, "<init>", none, 3, 63, fun _ => True)
def bX5_init_0 : Kt Unit := o_ald 0 <| o_oin <| o_ald 0 <| o_new 1 [.null, .null, .null, .null, .null, .null] <| o_dup <| o_nc 1 fX1_init <| o_pR 4 0 <| o_ald 0 <| o_ald 1 <| o_pR 4 1 <| o_rV
set_option maxRecDepth 100000 in
theorem sX5_init_0 : Sd pX5_init ev_v 0 (bX5_init_0) := sd_aload_n dX5_init_0 rfl <| sd_oin ⟨tw_249, tw_29, tw_30⟩ (by decide) dX5_init_1 <| sd_aload_n dX5_init_4 rfl <| sd_new tyX1 rfl inTX1 tyX1_ok ⟨tw_250, tw_251, tw_87⟩ (by decide +kernel) rfl (fun _ => rfl) dX5_init_5 <| sd_dup dX5_init_8 <| sd_nc tX1_init mwX1_init rfl mvX1_init tw_254 (by decide) dX5_init_9 <| sd_pR rfl (Or.inl ⟨_, rfl⟩) fpX5_12 dX5_init_12 <| sd_aload_n dX5_init_15 rfl <| sd_aload_n dX5_init_16 rfl <| sd_pR rfl (Or.inl ⟨_, rfl⟩) fpX5_18 dX5_init_17 <| (sd_rV rfl dX5_init_20)
def fX5_init : Mt Unit := mk_f 2 bX5_init_0
theorem tX5_init : Ct ev_v yX5_init cX5_init 2 none 3 63 fX5_init := ct_of (by decide +kernel) sX5_init_0
abbrev pX5_isLetter : Px := (cX5_isLetter, 1, RX5, "isLetter", (some .boolean), 0, 0, fun _ => True)
def bX5_isLetter_17 : Kt Int32 := o_rZ
set_option maxRecDepth 100000 in
theorem sX5_isLetter_17 : Sd pX5_isLetter ev_i 17 (bX5_isLetter_17) := (sd_rZ rfl dX5_isLetter_17)
def bX5_isLetter_16 : Kt Int32 := o_psh (.int 0) <| bX5_isLetter_17
set_option maxRecDepth 100000 in
theorem sX5_isLetter_16 : Sd pX5_isLetter ev_i 16 (bX5_isLetter_16) := sd_iconst dX5_isLetter_16 rfl <| sX5_isLetter_17
def bX5_isLetter_12 : Kt Int32 := o_psh (.int 1) <| bX5_isLetter_17
set_option maxRecDepth 100000 in
theorem sX5_isLetter_12 : Sd pX5_isLetter ev_i 12 (bX5_isLetter_12) := sd_iconst dX5_isLetter_12 rfl <| (sd_goto (tgt := 17) dX5_isLetter_13 (by decide) sX5_isLetter_17)
def bX5_isLetter_6 : Kt Int32 := o_ild 0 <| o_psh (.int 122) <| o_cgt (o_fg 0 bX5_isLetter_16) <| (o_fg 0 bX5_isLetter_12)
set_option maxRecDepth 100000 in
theorem sX5_isLetter_6 : Sd pX5_isLetter ev_i 6 (bX5_isLetter_6) := sd_iload_n dX5_isLetter_6 rfl <| sd_bipush dX5_isLetter_7 rfl <| sd_cgt (tgt := 16) dX5_isLetter_9 (by decide) (sd_fg (i := 0) sX5_isLetter_16) <| (sd_fg (i := 0) sX5_isLetter_12)
def bX5_isLetter_0 : Kt Int32 := o_ild 0 <| o_psh (.int 97) <| o_clt (o_fg 0 bX5_isLetter_16) <| bX5_isLetter_6
set_option maxRecDepth 100000 in
theorem sX5_isLetter_0 : Sd pX5_isLetter ev_i 0 (bX5_isLetter_0) := sd_iload_n dX5_isLetter_0 rfl <| sd_bipush dX5_isLetter_1 rfl <| sd_clt (tgt := 16) dX5_isLetter_3 (by decide) (sd_fg (i := 0) sX5_isLetter_16) <| sX5_isLetter_6
def fX5_isLetter : Mt Int32 := mk_f 1 bX5_isLetter_0
theorem tX5_isLetter : Ct ev_i yX5_isLetter cX5_isLetter 1 (some .boolean) 0 0 fX5_isLetter := ct_of (by decide +kernel) sX5_isLetter_0
abbrev pX5_passLetters : Px := (cX5_passLetters, 1, RX5, "passLetters", none, 1, 23, fun _ => True)
def bX5_passLetters_45 : Kt Unit := o_rV
set_option maxRecDepth 100000 in
theorem sX5_passLetters_45 : Sd pX5_passLetters ev_v 45 (bX5_passLetters_45) := (sd_rV rfl dX5_passLetters_45)
def bX5_passLetters_32 (K0 : Kt Unit) : Kt Unit := o_ald 0 <| o_dup <| o_gI 4 7 <| o_psh (.int 1) <| o_i2 o_add <| o_pI 4 7 <| K0
set_option maxRecDepth 100000 in
theorem sX5_passLetters_32 {K0 : Kt Unit} (h0 : Sd pX5_passLetters ev_v 0 K0) : Sd pX5_passLetters ev_v 32 (bX5_passLetters_32 K0) := sd_aload_n dX5_passLetters_32 rfl <| sd_dup dX5_passLetters_33 <| sd_gI flX5_35 dX5_passLetters_34 <| sd_iconst dX5_passLetters_37 rfl <| sd_iadd dX5_passLetters_38 <| sd_pI fpX5_35 dX5_passLetters_39 <| (sd_goto (tgt := 0) dX5_passLetters_42 (by decide) h0)
def bX5_passLetters_14 (K0 : Kt Unit) : Kt Unit := o_ald 0 <| o_gR 4 1 <| o_ald 0 <| o_gI 4 7 <| o_psh (.int 0) <| o_vc ev_i 5 3 fX6_at <| o_sc ev_i 1 fX5_isLetter <| o_zeq (o_fg 0 bX5_passLetters_45) <| (bX5_passLetters_32 K0)
set_option maxRecDepth 100000 in
theorem sX5_passLetters_14 {K0 : Kt Unit} (h0 : Sd pX5_passLetters ev_v 0 K0) : Sd pX5_passLetters ev_v 14 (bX5_passLetters_14 K0) := sd_aload_n dX5_passLetters_14 rfl <| sd_gR flX5_18 dX5_passLetters_15 <| sd_aload_n dX5_passLetters_18 rfl <| sd_gI flX5_35 dX5_passLetters_19 <| sd_iconst dX5_passLetters_22 rfl <| sd_vc tX6_at (fun _ _ => rfl) rfl mwX6_at mvX6_at tw_259 (by decide) dX5_passLetters_23 <| sd_sc tX5_isLetter (fun _ _ => rfl) mwX5_isLetter mvX5_isLetter tw_263 (by decide) dX5_passLetters_26 <| sd_zeq (tgt := 45) dX5_passLetters_29 (by decide) (sd_fg (i := 0) sX5_passLetters_45) <| (sX5_passLetters_32 h0)
def bX5_passLetters_0 (K0 : Kt Unit) : Kt Unit := o_ald 0 <| o_gI 4 7 <| o_ald 0 <| o_gR 4 1 <| o_gI 5 3 <| o_cge (o_fg 0 bX5_passLetters_45) <| (bX5_passLetters_14 K0)
set_option maxRecDepth 100000 in
theorem sX5_passLetters_0 {K0 : Kt Unit} (h0 : Sd pX5_passLetters ev_v 0 K0) : Sd pX5_passLetters ev_v 0 (bX5_passLetters_0 K0) := sd_aload_n dX5_passLetters_0 rfl <| sd_gI flX5_35 dX5_passLetters_1 <| sd_aload_n dX5_passLetters_4 rfl <| sd_gR flX5_18 dX5_passLetters_5 <| sd_gI flX5_58 dX5_passLetters_8 <| sd_cge (tgt := 45) dX5_passLetters_11 (by decide) (sd_fg (i := 0) sX5_passLetters_45) <| (sX5_passLetters_14 h0)
def fX5_passLetters : Mt Unit := mk_f 1 (o_lp bX5_passLetters_0 fu)
theorem tX5_passLetters : Ct ev_v yX5_passLetters cX5_passLetters 1 none 1 23 fX5_passLetters := ct_of (by decide +kernel) (sd_lp (fun K h => sX5_passLetters_0 h) fu)
abbrev pX5_isFigure : Px := (cX5_isFigure, 1, RX5, "isFigure", (some .boolean), 0, 0, fun _ => True)
def bX5_isFigure_17 : Kt Int32 := o_rZ
set_option maxRecDepth 100000 in
theorem sX5_isFigure_17 : Sd pX5_isFigure ev_i 17 (bX5_isFigure_17) := (sd_rZ rfl dX5_isFigure_17)
def bX5_isFigure_16 : Kt Int32 := o_psh (.int 0) <| bX5_isFigure_17
set_option maxRecDepth 100000 in
theorem sX5_isFigure_16 : Sd pX5_isFigure ev_i 16 (bX5_isFigure_16) := sd_iconst dX5_isFigure_16 rfl <| sX5_isFigure_17
def bX5_isFigure_12 : Kt Int32 := o_psh (.int 1) <| bX5_isFigure_17
set_option maxRecDepth 100000 in
theorem sX5_isFigure_12 : Sd pX5_isFigure ev_i 12 (bX5_isFigure_12) := sd_iconst dX5_isFigure_12 rfl <| (sd_goto (tgt := 17) dX5_isFigure_13 (by decide) sX5_isFigure_17)
def bX5_isFigure_6 : Kt Int32 := o_ild 0 <| o_psh (.int 57) <| o_cgt (o_fg 0 bX5_isFigure_16) <| (o_fg 0 bX5_isFigure_12)
set_option maxRecDepth 100000 in
theorem sX5_isFigure_6 : Sd pX5_isFigure ev_i 6 (bX5_isFigure_6) := sd_iload_n dX5_isFigure_6 rfl <| sd_bipush dX5_isFigure_7 rfl <| sd_cgt (tgt := 16) dX5_isFigure_9 (by decide) (sd_fg (i := 0) sX5_isFigure_16) <| (sd_fg (i := 0) sX5_isFigure_12)
def bX5_isFigure_0 : Kt Int32 := o_ild 0 <| o_psh (.int 48) <| o_clt (o_fg 0 bX5_isFigure_16) <| bX5_isFigure_6
set_option maxRecDepth 100000 in
theorem sX5_isFigure_0 : Sd pX5_isFigure ev_i 0 (bX5_isFigure_0) := sd_iload_n dX5_isFigure_0 rfl <| sd_bipush dX5_isFigure_1 rfl <| sd_clt (tgt := 16) dX5_isFigure_3 (by decide) (sd_fg (i := 0) sX5_isFigure_16) <| sX5_isFigure_6
def fX5_isFigure : Mt Int32 := mk_f 1 bX5_isFigure_0
theorem tX5_isFigure : Ct ev_i yX5_isFigure cX5_isFigure 1 (some .boolean) 0 0 fX5_isFigure := ct_of (by decide +kernel) sX5_isFigure_0
abbrev pX5_meet : Px := (cX5_meet, 2, RX5, "meet", (some .boolean), 0, 0, fun _ => True)
def bX5_meet_0 : Kt Int32 := o_ald 0 <| o_ild 1 <| o_pI 4 3 <| o_ald 0 <| o_ald 0 <| o_gI 4 6 <| o_pI 4 4 <| o_psh (.int 0) <| o_rZ
set_option maxRecDepth 100000 in
theorem sX5_meet_0 : Sd pX5_meet ev_i 0 (bX5_meet_0) := sd_aload_n dX5_meet_0 rfl <| sd_iload_n dX5_meet_1 rfl <| sd_pI fpX5_29 dX5_meet_2 <| sd_aload_n dX5_meet_5 rfl <| sd_aload_n dX5_meet_6 rfl <| sd_gI flX5_63 dX5_meet_7 <| sd_pI fpX5_32 dX5_meet_10 <| sd_iconst dX5_meet_13 rfl <| (sd_rZ rfl dX5_meet_14)
def fX5_meet : Mt Int32 := mk_f 2 bX5_meet_0
theorem tX5_meet : Ct ev_i yX5_meet cX5_meet 2 (some .boolean) 0 0 fX5_meet := ct_of (by decide +kernel) sX5_meet_0
abbrev pX5_takeFigures : Px := (cX5_takeFigures, 1, RX5, "takeFigures", (some .boolean), 1, 23, fun _ => True)
def bX5_takeFigures_96 : Kt Int32 := o_psh (.int 1) <| o_rZ
set_option maxRecDepth 100000 in
theorem sX5_takeFigures_96 : Sd pX5_takeFigures ev_i 96 (bX5_takeFigures_96) := sd_iconst dX5_takeFigures_96 rfl <| (sd_rZ rfl dX5_takeFigures_97)
def bX5_takeFigures_56 (K5 : Kt Int32) : Kt Int32 := o_ald 0 <| o_ald 0 <| o_gI 4 8 <| o_psh (.int 10) <| o_i2 o_mul <| o_ald 0 <| o_gR 4 1 <| o_ald 0 <| o_gI 4 7 <| o_psh (.int 0) <| o_vc ev_i 5 3 fX6_at <| o_i2 o_add <| o_psh (.int 48) <| o_i2 o_sub <| o_pI 4 8 <| o_ald 0 <| o_dup <| o_gI 4 7 <| o_psh (.int 1) <| o_i2 o_add <| o_pI 4 7 <| K5
set_option maxRecDepth 100000 in
theorem sX5_takeFigures_56 {K5 : Kt Int32} (h5 : Sd pX5_takeFigures ev_i 5 K5) : Sd pX5_takeFigures ev_i 56 (bX5_takeFigures_56 K5) := sd_aload_n dX5_takeFigures_56 rfl <| sd_aload_n dX5_takeFigures_57 rfl <| sd_gI flX5_86 dX5_takeFigures_58 <| sd_bipush dX5_takeFigures_61 rfl <| sd_imul dX5_takeFigures_63 <| sd_aload_n dX5_takeFigures_64 rfl <| sd_gR flX5_18 dX5_takeFigures_65 <| sd_aload_n dX5_takeFigures_68 rfl <| sd_gI flX5_35 dX5_takeFigures_69 <| sd_iconst dX5_takeFigures_72 rfl <| sd_vc tX6_at (fun _ _ => rfl) rfl mwX6_at mvX6_at tw_259 (by decide) dX5_takeFigures_73 <| sd_iadd dX5_takeFigures_76 <| sd_bipush dX5_takeFigures_77 rfl <| sd_isub dX5_takeFigures_79 <| sd_pI fpX5_86 dX5_takeFigures_80 <| sd_aload_n dX5_takeFigures_83 rfl <| sd_dup dX5_takeFigures_84 <| sd_gI flX5_35 dX5_takeFigures_85 <| sd_iconst dX5_takeFigures_88 rfl <| sd_iadd dX5_takeFigures_89 <| sd_pI fpX5_35 dX5_takeFigures_90 <| (sd_goto (tgt := 5) dX5_takeFigures_93 (by decide) h5)
def bX5_takeFigures_50 (K5 : Kt Int32) : Kt Int32 := o_ald 0 <| o_psh (.int 1) <| o_vc ev_i 4 2 fX5_meet <| o_rZ
set_option maxRecDepth 100000 in
theorem sX5_takeFigures_50 {K5 : Kt Int32} (h5 : Sd pX5_takeFigures ev_i 5 K5) : Sd pX5_takeFigures ev_i 50 (bX5_takeFigures_50 K5) := sd_aload_n dX5_takeFigures_50 rfl <| sd_iconst dX5_takeFigures_51 rfl <| sd_vc tX5_meet (fun _ _ => rfl) rfl mwX5_meet mvX5_meet tw_274 (by decide) dX5_takeFigures_52 <| (sd_rZ rfl dX5_takeFigures_55)
def bX5_takeFigures_37 (K5 : Kt Int32) : Kt Int32 := o_ald 0 <| o_gI 4 7 <| o_ald 0 <| o_gI 4 6 <| o_i2 o_sub <| o_psh (.int 2) <| o_clt (bX5_takeFigures_56 K5) <| (bX5_takeFigures_50 K5)
set_option maxRecDepth 100000 in
theorem sX5_takeFigures_37 {K5 : Kt Int32} (h5 : Sd pX5_takeFigures ev_i 5 K5) : Sd pX5_takeFigures ev_i 37 (bX5_takeFigures_37 K5) := sd_aload_n dX5_takeFigures_37 rfl <| sd_gI flX5_35 dX5_takeFigures_38 <| sd_aload_n dX5_takeFigures_41 rfl <| sd_gI flX5_63 dX5_takeFigures_42 <| sd_isub dX5_takeFigures_45 <| sd_iconst dX5_takeFigures_46 rfl <| sd_clt (tgt := 56) dX5_takeFigures_47 (by decide) (sX5_takeFigures_56 h5) <| (sX5_takeFigures_50 h5)
def bX5_takeFigures_19 (K5 : Kt Int32) : Kt Int32 := o_ald 0 <| o_gR 4 1 <| o_ald 0 <| o_gI 4 7 <| o_psh (.int 0) <| o_vc ev_i 5 3 fX6_at <| o_sc ev_i 1 fX5_isFigure <| o_zeq (o_fg 0 bX5_takeFigures_96) <| (bX5_takeFigures_37 K5)
set_option maxRecDepth 100000 in
theorem sX5_takeFigures_19 {K5 : Kt Int32} (h5 : Sd pX5_takeFigures ev_i 5 K5) : Sd pX5_takeFigures ev_i 19 (bX5_takeFigures_19 K5) := sd_aload_n dX5_takeFigures_19 rfl <| sd_gR flX5_18 dX5_takeFigures_20 <| sd_aload_n dX5_takeFigures_23 rfl <| sd_gI flX5_35 dX5_takeFigures_24 <| sd_iconst dX5_takeFigures_27 rfl <| sd_vc tX6_at (fun _ _ => rfl) rfl mwX6_at mvX6_at tw_259 (by decide) dX5_takeFigures_28 <| sd_sc tX5_isFigure (fun _ _ => rfl) mwX5_isFigure mvX5_isFigure tw_270 (by decide) dX5_takeFigures_31 <| sd_zeq (tgt := 96) dX5_takeFigures_34 (by decide) (sd_fg (i := 0) sX5_takeFigures_96) <| (sX5_takeFigures_37 h5)
def bX5_takeFigures_5 (K5 : Kt Int32) : Kt Int32 := o_ald 0 <| o_gI 4 7 <| o_ald 0 <| o_gR 4 1 <| o_gI 5 3 <| o_cge (o_fg 0 bX5_takeFigures_96) <| (bX5_takeFigures_19 K5)
set_option maxRecDepth 100000 in
theorem sX5_takeFigures_5 {K5 : Kt Int32} (h5 : Sd pX5_takeFigures ev_i 5 K5) : Sd pX5_takeFigures ev_i 5 (bX5_takeFigures_5 K5) := sd_aload_n dX5_takeFigures_5 rfl <| sd_gI flX5_35 dX5_takeFigures_6 <| sd_aload_n dX5_takeFigures_9 rfl <| sd_gR flX5_18 dX5_takeFigures_10 <| sd_gI flX5_58 dX5_takeFigures_13 <| sd_cge (tgt := 96) dX5_takeFigures_16 (by decide) (sd_fg (i := 0) sX5_takeFigures_96) <| (sX5_takeFigures_19 h5)
def bX5_takeFigures_0 : Kt Int32 := o_ald 0 <| o_psh (.int 0) <| o_pI 4 8 <| (o_lp (bX5_takeFigures_5) fu)
set_option maxRecDepth 100000 in
theorem sX5_takeFigures_0 : Sd pX5_takeFigures ev_i 0 (bX5_takeFigures_0) := sd_aload_n dX5_takeFigures_0 rfl <| sd_iconst dX5_takeFigures_1 rfl <| sd_pI fpX5_86 dX5_takeFigures_2 <| (sd_lp (fun K h => sX5_takeFigures_5 h) fu)
def fX5_takeFigures : Mt Int32 := mk_f 1 bX5_takeFigures_0
theorem tX5_takeFigures : Ct ev_i yX5_takeFigures cX5_takeFigures 1 (some .boolean) 1 23 fX5_takeFigures := ct_of (by decide +kernel) sX5_takeFigures_0
abbrev pX5_takeToken : Px := (cX5_takeToken, 2, RX5, "takeToken", (some .boolean), 2, 43, fun _ => True)
def bX5_takeToken_153 : Kt Int32 := o_psh (.int 1) <| o_rZ
set_option maxRecDepth 100000 in
theorem sX5_takeToken_153 : Sd pX5_takeToken ev_i 153 (bX5_takeToken_153) := sd_iconst dX5_takeToken_153 rfl <| (sd_rZ rfl dX5_takeToken_154)
def bX5_takeToken_147 : Kt Int32 := o_ald 0 <| o_psh (.int 1) <| o_vc ev_i 4 2 fX5_meet <| o_rZ
set_option maxRecDepth 100000 in
theorem sX5_takeToken_147 : Sd pX5_takeToken ev_i 147 (bX5_takeToken_147) := sd_aload_n dX5_takeToken_147 rfl <| sd_iconst dX5_takeToken_148 rfl <| sd_vc tX5_meet (fun _ _ => rfl) rfl mwX5_meet mvX5_meet tw_274 (by decide) dX5_takeToken_149 <| (sd_rZ rfl dX5_takeToken_152)
def bX5_takeToken_129 : Kt Int32 := o_ald 0 <| o_psh (.int 3) <| o_pI 4 5 <| o_ald 0 <| o_dup <| o_gI 4 7 <| o_psh (.int 1) <| o_i2 o_add <| o_pI 4 7 <| (o_fg 0 bX5_takeToken_153)
set_option maxRecDepth 100000 in
theorem sX5_takeToken_129 : Sd pX5_takeToken ev_i 129 (bX5_takeToken_129) := sd_aload_n dX5_takeToken_129 rfl <| sd_iconst dX5_takeToken_130 rfl <| sd_pI fpX5_49 dX5_takeToken_131 <| sd_aload_n dX5_takeToken_134 rfl <| sd_dup dX5_takeToken_135 <| sd_gI flX5_35 dX5_takeToken_136 <| sd_iconst dX5_takeToken_139 rfl <| sd_iadd dX5_takeToken_140 <| sd_pI fpX5_35 dX5_takeToken_141 <| (sd_goto (tgt := 153) dX5_takeToken_144 (by decide) (sd_fg (i := 0) sX5_takeToken_153))
def bX5_takeToken_123 : Kt Int32 := o_ild 1 <| o_psh (.int 59) <| o_cne (o_fg 1 bX5_takeToken_147) <| (o_fg 1 bX5_takeToken_129)
set_option maxRecDepth 100000 in
theorem sX5_takeToken_123 : Sd pX5_takeToken ev_i 123 (bX5_takeToken_123) := sd_iload_n dX5_takeToken_123 rfl <| sd_bipush dX5_takeToken_124 rfl <| sd_cne (tgt := 147) dX5_takeToken_126 (by decide) (sd_fg (i := 1) sX5_takeToken_147) <| (sd_fg (i := 1) sX5_takeToken_129)
def bX5_takeToken_113 : Kt Int32 := o_ald 0 <| o_psh (.int 2) <| o_pI 4 5 <| o_ald 0 <| o_vc ev_i 4 1 fX5_takeFigures <| o_rZ
set_option maxRecDepth 100000 in
theorem sX5_takeToken_113 : Sd pX5_takeToken ev_i 113 (bX5_takeToken_113) := sd_aload_n dX5_takeToken_113 rfl <| sd_iconst dX5_takeToken_114 rfl <| sd_pI fpX5_49 dX5_takeToken_115 <| sd_aload_n dX5_takeToken_118 rfl <| sd_vc tX5_takeFigures (fun _ _ => rfl) rfl mwX5_takeFigures mvX5_takeFigures tw_283 (by decide) dX5_takeToken_119 <| (sd_rZ rfl dX5_takeToken_122)
def bX5_takeToken_106 : Kt Int32 := o_ild 1 <| o_sc ev_i 1 fX5_isFigure <| o_zeq bX5_takeToken_123 <| (o_fg 1 bX5_takeToken_113)
set_option maxRecDepth 100000 in
theorem sX5_takeToken_106 : Sd pX5_takeToken ev_i 106 (bX5_takeToken_106) := sd_iload_n dX5_takeToken_106 rfl <| sd_sc tX5_isFigure (fun _ _ => rfl) mwX5_isFigure mvX5_isFigure tw_270 (by decide) dX5_takeToken_107 <| sd_zeq (tgt := 123) dX5_takeToken_110 (by decide) sX5_takeToken_123 <| (sd_fg (i := 1) sX5_takeToken_113)
def bX5_takeToken_94 : Kt Int32 := o_ald 0 <| o_psh (.int 1) <| o_pI 4 5 <| o_ald 0 <| o_vc ev_v 4 1 fX5_passLetters <| (o_fg 0 bX5_takeToken_153)
set_option maxRecDepth 100000 in
theorem sX5_takeToken_94 : Sd pX5_takeToken ev_i 94 (bX5_takeToken_94) := sd_aload_n dX5_takeToken_94 rfl <| sd_iconst dX5_takeToken_95 rfl <| sd_pI fpX5_49 dX5_takeToken_96 <| sd_aload_n dX5_takeToken_99 rfl <| sd_vc tX5_passLetters (fun _ _ => rfl) rfl mwX5_passLetters mvX5_passLetters tw_279 (by decide) dX5_takeToken_100 <| (sd_goto (tgt := 153) dX5_takeToken_103 (by decide) (sd_fg (i := 0) sX5_takeToken_153))
def bX5_takeToken_87 : Kt Int32 := o_ild 1 <| o_sc ev_i 1 fX5_isLetter <| o_zeq bX5_takeToken_106 <| (o_fg 1 bX5_takeToken_94)
set_option maxRecDepth 100000 in
theorem sX5_takeToken_87 : Sd pX5_takeToken ev_i 87 (bX5_takeToken_87) := sd_iload_n dX5_takeToken_87 rfl <| sd_sc tX5_isLetter (fun _ _ => rfl) mwX5_isLetter mvX5_isLetter tw_263 (by decide) dX5_takeToken_88 <| sd_zeq (tgt := 106) dX5_takeToken_91 (by decide) sX5_takeToken_106 <| (sd_fg (i := 1) sX5_takeToken_94)
def bX5_takeToken_79 : Kt Int32 := o_ald 0 <| o_psh (.int 0) <| o_pI 4 5 <| (o_fg 0 bX5_takeToken_153)
set_option maxRecDepth 100000 in
theorem sX5_takeToken_79 : Sd pX5_takeToken ev_i 79 (bX5_takeToken_79) := sd_aload_n dX5_takeToken_79 rfl <| sd_iconst dX5_takeToken_80 rfl <| sd_pI fpX5_49 dX5_takeToken_81 <| (sd_goto (tgt := 153) dX5_takeToken_84 (by decide) (sd_fg (i := 0) sX5_takeToken_153))
def bX5_takeToken_44 : Kt Int32 := o_ald 0 <| o_ald 0 <| o_gI 4 7 <| o_pI 4 6 <| o_ald 0 <| o_gR 4 1 <| o_ald 0 <| o_gI 4 6 <| o_psh (.int 0) <| o_vc ev_i 5 3 fX6_at <| o_ist 1 <| o_ald 0 <| o_gI 4 6 <| o_ald 0 <| o_gR 4 1 <| o_gI 5 3 <| o_clt bX5_takeToken_87 <| (o_fg 1 bX5_takeToken_79)
set_option maxRecDepth 100000 in
theorem sX5_takeToken_44 : Sd pX5_takeToken ev_i 44 (bX5_takeToken_44) := sd_aload_n dX5_takeToken_44 rfl <| sd_aload_n dX5_takeToken_45 rfl <| sd_gI flX5_35 dX5_takeToken_46 <| sd_pI fpX5_63 dX5_takeToken_49 <| sd_aload_n dX5_takeToken_52 rfl <| sd_gR flX5_18 dX5_takeToken_53 <| sd_aload_n dX5_takeToken_56 rfl <| sd_gI flX5_63 dX5_takeToken_57 <| sd_iconst dX5_takeToken_60 rfl <| sd_vc tX6_at (fun _ _ => rfl) rfl mwX6_at mvX6_at tw_259 (by decide) dX5_takeToken_61 <| sd_istore_n dX5_takeToken_64 rfl (by decide) <| sd_aload_n dX5_takeToken_65 rfl <| sd_gI flX5_63 dX5_takeToken_66 <| sd_aload_n dX5_takeToken_69 rfl <| sd_gR flX5_18 dX5_takeToken_70 <| sd_gI flX5_58 dX5_takeToken_73 <| sd_clt (tgt := 87) dX5_takeToken_76 (by decide) sX5_takeToken_87 <| (sd_fg (i := 1) sX5_takeToken_79)
def bX5_takeToken_31 (K0 : Kt Int32) : Kt Int32 := o_ald 0 <| o_dup <| o_gI 4 7 <| o_psh (.int 1) <| o_i2 o_add <| o_pI 4 7 <| K0
set_option maxRecDepth 100000 in
theorem sX5_takeToken_31 {K0 : Kt Int32} (h0 : Sd pX5_takeToken ev_i 0 K0) : Sd pX5_takeToken ev_i 31 (bX5_takeToken_31 K0) := sd_aload_n dX5_takeToken_31 rfl <| sd_dup dX5_takeToken_32 <| sd_gI flX5_35 dX5_takeToken_33 <| sd_iconst dX5_takeToken_36 rfl <| sd_iadd dX5_takeToken_37 <| sd_pI fpX5_35 dX5_takeToken_38 <| (sd_goto (tgt := 0) dX5_takeToken_41 (by decide) h0)
def bX5_takeToken_14 (K0 : Kt Int32) : Kt Int32 := o_ald 0 <| o_gR 4 1 <| o_ald 0 <| o_gI 4 7 <| o_psh (.int 0) <| o_vc ev_i 5 3 fX6_at <| o_psh (.int 32) <| o_cne bX5_takeToken_44 <| (bX5_takeToken_31 K0)
set_option maxRecDepth 100000 in
theorem sX5_takeToken_14 {K0 : Kt Int32} (h0 : Sd pX5_takeToken ev_i 0 K0) : Sd pX5_takeToken ev_i 14 (bX5_takeToken_14 K0) := sd_aload_n dX5_takeToken_14 rfl <| sd_gR flX5_18 dX5_takeToken_15 <| sd_aload_n dX5_takeToken_18 rfl <| sd_gI flX5_35 dX5_takeToken_19 <| sd_iconst dX5_takeToken_22 rfl <| sd_vc tX6_at (fun _ _ => rfl) rfl mwX6_at mvX6_at tw_259 (by decide) dX5_takeToken_23 <| sd_bipush dX5_takeToken_26 rfl <| sd_cne (tgt := 44) dX5_takeToken_28 (by decide) sX5_takeToken_44 <| (sX5_takeToken_31 h0)
def bX5_takeToken_0 (K0 : Kt Int32) : Kt Int32 := o_ald 0 <| o_gI 4 7 <| o_ald 0 <| o_gR 4 1 <| o_gI 5 3 <| o_cge bX5_takeToken_44 <| (bX5_takeToken_14 K0)
set_option maxRecDepth 100000 in
theorem sX5_takeToken_0 {K0 : Kt Int32} (h0 : Sd pX5_takeToken ev_i 0 K0) : Sd pX5_takeToken ev_i 0 (bX5_takeToken_0 K0) := sd_aload_n dX5_takeToken_0 rfl <| sd_gI flX5_35 dX5_takeToken_1 <| sd_aload_n dX5_takeToken_4 rfl <| sd_gR flX5_18 dX5_takeToken_5 <| sd_gI flX5_58 dX5_takeToken_8 <| sd_cge (tgt := 44) dX5_takeToken_11 (by decide) sX5_takeToken_44 <| (sX5_takeToken_14 h0)
def fX5_takeToken : Mt Int32 := mk_f 2 (o_lp bX5_takeToken_0 fu)
theorem tX5_takeToken : Ct ev_i yX5_takeToken cX5_takeToken 2 (some .boolean) 2 43 fX5_takeToken := ct_of (by decide +kernel) (sd_lp (fun K h => sX5_takeToken_0 h) fu)
abbrev pX5_isWord : Px := (cX5_isWord, 3, RX5, "isWord", (some .boolean), 4, 85, fun _ => True)
def bX5_isWord_58 : Kt Int32 := o_psh (.int 1) <| o_rZ
set_option maxRecDepth 100000 in
theorem sX5_isWord_58 : Sd pX5_isWord ev_i 58 (bX5_isWord_58) := sd_iconst dX5_isWord_58 rfl <| (sd_rZ rfl dX5_isWord_59)
def bX5_isWord_52 (K20 : Kt Int32) : Kt Int32 := o_inc 2 1 <| K20
set_option maxRecDepth 100000 in
theorem sX5_isWord_52 {K20 : Kt Int32} (h20 : Sd pX5_isWord ev_i 20 K20) : Sd pX5_isWord ev_i 52 (bX5_isWord_52 K20) := sd_iinc dX5_isWord_52 rfl (by decide) <| (sd_goto (tgt := 20) dX5_isWord_55 (by decide) h20)
def bX5_isWord_50 (K20 : Kt Int32) : Kt Int32 := o_psh (.int 0) <| o_rZ
set_option maxRecDepth 100000 in
theorem sX5_isWord_50 {K20 : Kt Int32} (h20 : Sd pX5_isWord ev_i 20 K20) : Sd pX5_isWord ev_i 50 (bX5_isWord_50 K20) := sd_iconst dX5_isWord_50 rfl <| (sd_rZ rfl dX5_isWord_51)
def bX5_isWord_28 (K20 : Kt Int32) : Kt Int32 := o_ald 0 <| o_gR 4 1 <| o_ald 0 <| o_gI 4 6 <| o_ild 2 <| o_i2 o_add <| o_psh (.int 0) <| o_vc ev_i 5 3 fX6_at <| o_ald 1 <| o_ild 2 <| o_xvc ev_i 2 fJ0_charAt_5068e <| o_ceq (bX5_isWord_52 K20) <| (o_fg 0 (o_fg 1 (o_fg 2 (bX5_isWord_50 K20))))
set_option maxRecDepth 100000 in
theorem sX5_isWord_28 {K20 : Kt Int32} (h20 : Sd pX5_isWord ev_i 20 K20) : Sd pX5_isWord ev_i 28 (bX5_isWord_28 K20) := sd_aload_n dX5_isWord_28 rfl <| sd_gR flX5_18 dX5_isWord_29 <| sd_aload_n dX5_isWord_32 rfl <| sd_gI flX5_63 dX5_isWord_33 <| sd_iload_n dX5_isWord_36 rfl <| sd_iadd dX5_isWord_37 <| sd_iconst dX5_isWord_38 rfl <| sd_vc tX6_at (fun _ _ => rfl) rfl mwX6_at mvX6_at tw_259 (by decide) dX5_isWord_39 <| sd_aload_n dX5_isWord_42 rfl <| sd_iload_n dX5_isWord_43 rfl <| sd_xvc tJ0_charAt_5068e (fun _ _ => rfl) rfl mwJ0_charAt_5068e mvJ0_charAt_5068e tw_291 (by decide) dX5_isWord_44 <| sd_ceq (tgt := 52) dX5_isWord_47 (by decide) (sX5_isWord_52 h20) <| (sd_fg (i := 0) (sd_fg (i := 1) (sd_fg (i := 2) (sX5_isWord_50 h20))))
def bX5_isWord_20 (K20 : Kt Int32) : Kt Int32 := o_ild 2 <| o_ald 1 <| o_xvc ev_i 1 fJ0_length_8abf5 <| o_cge (o_fg 0 (o_fg 1 (o_fg 2 bX5_isWord_58))) <| (bX5_isWord_28 K20)
set_option maxRecDepth 100000 in
theorem sX5_isWord_20 {K20 : Kt Int32} (h20 : Sd pX5_isWord ev_i 20 K20) : Sd pX5_isWord ev_i 20 (bX5_isWord_20 K20) := sd_iload_n dX5_isWord_20 rfl <| sd_aload_n dX5_isWord_21 rfl <| sd_xvc tJ0_length_8abf5 (fun _ _ => rfl) rfl mwJ0_length_8abf5 mvJ0_length_8abf5 tw_287 (by decide) dX5_isWord_22 <| sd_cge (tgt := 58) dX5_isWord_25 (by decide) (sd_fg (i := 0) (sd_fg (i := 1) (sd_fg (i := 2) sX5_isWord_58))) <| (sX5_isWord_28 h20)
def bX5_isWord_18 : Kt Int32 := o_psh (.int 0) <| o_ist 2 <| (o_lp (bX5_isWord_20) fu)
set_option maxRecDepth 100000 in
theorem sX5_isWord_18 : Sd pX5_isWord ev_i 18 (bX5_isWord_18) := sd_iconst dX5_isWord_18 rfl <| sd_istore_n dX5_isWord_19 rfl (by decide) <| (sd_lp (fun K h => sX5_isWord_20 h) fu)
def bX5_isWord_16 : Kt Int32 := o_psh (.int 0) <| o_rZ
set_option maxRecDepth 100000 in
theorem sX5_isWord_16 : Sd pX5_isWord ev_i 16 (bX5_isWord_16) := sd_iconst dX5_isWord_16 rfl <| (sd_rZ rfl dX5_isWord_17)
def bX5_isWord_0 : Kt Int32 := o_ald 0 <| o_gI 4 7 <| o_ald 0 <| o_gI 4 6 <| o_i2 o_sub <| o_ald 1 <| o_xvc ev_i 1 fJ0_length_8abf5 <| o_ceq bX5_isWord_18 <| (o_fg 0 (o_fg 1 bX5_isWord_16))
set_option maxRecDepth 100000 in
theorem sX5_isWord_0 : Sd pX5_isWord ev_i 0 (bX5_isWord_0) := sd_aload_n dX5_isWord_0 rfl <| sd_gI flX5_35 dX5_isWord_1 <| sd_aload_n dX5_isWord_4 rfl <| sd_gI flX5_63 dX5_isWord_5 <| sd_isub dX5_isWord_8 <| sd_aload_n dX5_isWord_9 rfl <| sd_xvc tJ0_length_8abf5 (fun _ _ => rfl) rfl mwJ0_length_8abf5 mvJ0_length_8abf5 tw_287 (by decide) dX5_isWord_10 <| sd_ceq (tgt := 18) dX5_isWord_13 (by decide) sX5_isWord_18 <| (sd_fg (i := 0) (sd_fg (i := 1) sX5_isWord_16))
def fX5_isWord : Mt Int32 := mk_f 3 bX5_isWord_0
theorem tX5_isWord : Ct ev_i yX5_isWord cX5_isWord 3 (some .boolean) 4 85 fX5_isWord := ct_of (by decide +kernel) sX5_isWord_0
abbrev pX5_hasRoom : Px := (cX5_hasRoom, 2, RX5, "hasRoom", (some .boolean), 1, 21, fun _ => True)
def bX5_hasRoom_24 : Kt Int32 := o_rZ
set_option maxRecDepth 100000 in
theorem sX5_hasRoom_24 : Sd pX5_hasRoom ev_i 24 (bX5_hasRoom_24) := (sd_rZ rfl dX5_hasRoom_24)
def bX5_hasRoom_23 : Kt Int32 := o_psh (.int 0) <| bX5_hasRoom_24
set_option maxRecDepth 100000 in
theorem sX5_hasRoom_23 : Sd pX5_hasRoom ev_i 23 (bX5_hasRoom_23) := sd_iconst dX5_hasRoom_23 rfl <| sX5_hasRoom_24
def bX5_hasRoom_19 : Kt Int32 := o_psh (.int 1) <| bX5_hasRoom_24
set_option maxRecDepth 100000 in
theorem sX5_hasRoom_19 : Sd pX5_hasRoom ev_i 19 (bX5_hasRoom_19) := sd_iconst dX5_hasRoom_19 rfl <| (sd_goto (tgt := 24) dX5_hasRoom_20 (by decide) sX5_hasRoom_24)
def bX5_hasRoom_11 : Kt Int32 := o_ald 0 <| o_psh (.int 5) <| o_vc ev_i 4 2 fX5_meet <| o_zeq (o_fg 0 bX5_hasRoom_23) <| (o_fg 0 bX5_hasRoom_19)
set_option maxRecDepth 100000 in
theorem sX5_hasRoom_11 : Sd pX5_hasRoom ev_i 11 (bX5_hasRoom_11) := sd_aload_n dX5_hasRoom_11 rfl <| sd_iconst dX5_hasRoom_12 rfl <| sd_vc tX5_meet (fun _ _ => rfl) rfl mwX5_meet mvX5_meet tw_274 (by decide) dX5_hasRoom_13 <| sd_zeq (tgt := 23) dX5_hasRoom_16 (by decide) (sd_fg (i := 0) sX5_hasRoom_23) <| (sd_fg (i := 0) sX5_hasRoom_19)
def bX5_hasRoom_0 : Kt Int32 := o_ald 1 <| o_gI 5 3 <| o_ald 1 <| o_gI 5 1 <| o_clt (o_fg 0 (o_fg 1 bX5_hasRoom_19)) <| (o_fg 1 bX5_hasRoom_11)
set_option maxRecDepth 100000 in
theorem sX5_hasRoom_0 : Sd pX5_hasRoom ev_i 0 (bX5_hasRoom_0) := sd_aload_n dX5_hasRoom_0 rfl <| sd_gI flX5_58 dX5_hasRoom_1 <| sd_aload_n dX5_hasRoom_4 rfl <| sd_gI flX5_139 dX5_hasRoom_5 <| sd_clt (tgt := 19) dX5_hasRoom_8 (by decide) (sd_fg (i := 0) (sd_fg (i := 1) sX5_hasRoom_19)) <| (sd_fg (i := 1) sX5_hasRoom_11)
def fX5_hasRoom : Mt Int32 := mk_f 2 bX5_hasRoom_0
theorem tX5_hasRoom : Ct ev_i yX5_hasRoom cX5_hasRoom 2 (some .boolean) 1 21 fX5_hasRoom := ct_of (by decide +kernel) sX5_hasRoom_0
abbrev pX5_takeNumber : Px := (cX5_takeNumber, 3, RX5, "takeNumber", (some .boolean), 3, 64, fun _ => True)
def bX5_takeNumber_52 : Kt Int32 := o_rZ
set_option maxRecDepth 100000 in
theorem sX5_takeNumber_52 : Sd pX5_takeNumber ev_i 52 (bX5_takeNumber_52) := (sd_rZ rfl dX5_takeNumber_52)
def bX5_takeNumber_51 : Kt Int32 := o_psh (.int 0) <| bX5_takeNumber_52
set_option maxRecDepth 100000 in
theorem sX5_takeNumber_51 : Sd pX5_takeNumber ev_i 51 (bX5_takeNumber_51) := sd_iconst dX5_takeNumber_51 rfl <| sX5_takeNumber_52
def bX5_takeNumber_47 : Kt Int32 := o_psh (.int 1) <| bX5_takeNumber_52
set_option maxRecDepth 100000 in
theorem sX5_takeNumber_47 : Sd pX5_takeNumber ev_i 47 (bX5_takeNumber_47) := sd_iconst dX5_takeNumber_47 rfl <| (sd_goto (tgt := 52) dX5_takeNumber_48 (by decide) sX5_takeNumber_52)
def bX5_takeNumber_39 : Kt Int32 := o_ald 0 <| o_psh (.int 3) <| o_vc ev_i 4 2 fX5_meet <| o_zeq (o_fg 0 bX5_takeNumber_51) <| (o_fg 0 bX5_takeNumber_47)
set_option maxRecDepth 100000 in
theorem sX5_takeNumber_39 : Sd pX5_takeNumber ev_i 39 (bX5_takeNumber_39) := sd_aload_n dX5_takeNumber_39 rfl <| sd_iconst dX5_takeNumber_40 rfl <| sd_vc tX5_meet (fun _ _ => rfl) rfl mwX5_meet mvX5_meet tw_274 (by decide) dX5_takeNumber_41 <| sd_zeq (tgt := 51) dX5_takeNumber_44 (by decide) (sd_fg (i := 0) sX5_takeNumber_51) <| (sd_fg (i := 0) sX5_takeNumber_47)
def bX5_takeNumber_31 : Kt Int32 := o_ald 0 <| o_gI 4 8 <| o_ild 2 <| o_cle (o_fg 0 (o_fg 2 bX5_takeNumber_47)) <| (o_fg 2 bX5_takeNumber_39)
set_option maxRecDepth 100000 in
theorem sX5_takeNumber_31 : Sd pX5_takeNumber ev_i 31 (bX5_takeNumber_31) := sd_aload_n dX5_takeNumber_31 rfl <| sd_gI flX5_86 dX5_takeNumber_32 <| sd_iload_n dX5_takeNumber_35 rfl <| sd_cle (tgt := 47) dX5_takeNumber_36 (by decide) (sd_fg (i := 0) (sd_fg (i := 2) sX5_takeNumber_47)) <| (sd_fg (i := 2) sX5_takeNumber_39)
def bX5_takeNumber_23 : Kt Int32 := o_ald 0 <| o_gI 4 8 <| o_ild 1 <| o_clt (o_fg 1 (o_fg 2 bX5_takeNumber_39)) <| (o_fg 1 bX5_takeNumber_31)
set_option maxRecDepth 100000 in
theorem sX5_takeNumber_23 : Sd pX5_takeNumber ev_i 23 (bX5_takeNumber_23) := sd_aload_n dX5_takeNumber_23 rfl <| sd_gI flX5_86 dX5_takeNumber_24 <| sd_iload_n dX5_takeNumber_27 rfl <| sd_clt (tgt := 39) dX5_takeNumber_28 (by decide) (sd_fg (i := 1) (sd_fg (i := 2) sX5_takeNumber_39)) <| (sd_fg (i := 1) sX5_takeNumber_31)
def bX5_takeNumber_17 : Kt Int32 := o_ald 0 <| o_psh (.int 2) <| o_vc ev_i 4 2 fX5_meet <| o_rZ
set_option maxRecDepth 100000 in
theorem sX5_takeNumber_17 : Sd pX5_takeNumber ev_i 17 (bX5_takeNumber_17) := sd_aload_n dX5_takeNumber_17 rfl <| sd_iconst dX5_takeNumber_18 rfl <| sd_vc tX5_meet (fun _ _ => rfl) rfl mwX5_meet mvX5_meet tw_274 (by decide) dX5_takeNumber_19 <| (sd_rZ rfl dX5_takeNumber_22)
def bX5_takeNumber_9 : Kt Int32 := o_ald 0 <| o_gI 4 5 <| o_psh (.int 2) <| o_ceq bX5_takeNumber_23 <| (o_fg 1 (o_fg 2 bX5_takeNumber_17))
set_option maxRecDepth 100000 in
theorem sX5_takeNumber_9 : Sd pX5_takeNumber ev_i 9 (bX5_takeNumber_9) := sd_aload_n dX5_takeNumber_9 rfl <| sd_gI flX5_49 dX5_takeNumber_10 <| sd_iconst dX5_takeNumber_13 rfl <| sd_ceq (tgt := 23) dX5_takeNumber_14 (by decide) sX5_takeNumber_23 <| (sd_fg (i := 1) (sd_fg (i := 2) sX5_takeNumber_17))
def bX5_takeNumber_7 : Kt Int32 := o_psh (.int 0) <| o_rZ
set_option maxRecDepth 100000 in
theorem sX5_takeNumber_7 : Sd pX5_takeNumber ev_i 7 (bX5_takeNumber_7) := sd_iconst dX5_takeNumber_7 rfl <| (sd_rZ rfl dX5_takeNumber_8)
def bX5_takeNumber_0 : Kt Int32 := o_ald 0 <| o_vc ev_i 4 1 fX5_takeToken <| o_zne bX5_takeNumber_9 <| (o_fg 0 (o_fg 1 (o_fg 2 bX5_takeNumber_7)))
set_option maxRecDepth 100000 in
theorem sX5_takeNumber_0 : Sd pX5_takeNumber ev_i 0 (bX5_takeNumber_0) := sd_aload_n dX5_takeNumber_0 rfl <| sd_vc tX5_takeToken (fun _ _ => rfl) rfl mwX5_takeToken mvX5_takeToken tw_296 (by decide) dX5_takeNumber_1 <| sd_zne (tgt := 9) dX5_takeNumber_4 (by decide) sX5_takeNumber_9 <| (sd_fg (i := 0) (sd_fg (i := 1) (sd_fg (i := 2) sX5_takeNumber_7)))
def fX5_takeNumber : Mt Int32 := mk_f 3 bX5_takeNumber_0
theorem tX5_takeNumber : Ct ev_i yX5_takeNumber cX5_takeNumber 3 (some .boolean) 3 64 fX5_takeNumber := ct_of (by decide +kernel) sX5_takeNumber_0
abbrev pX5_takeStop : Px := (cX5_takeStop, 1, RX5, "takeStop", (some .boolean), 3, 64, fun _ => True)
def bX5_takeStop_28 : Kt Int32 := o_rZ
set_option maxRecDepth 100000 in
theorem sX5_takeStop_28 : Sd pX5_takeStop ev_i 28 (bX5_takeStop_28) := (sd_rZ rfl dX5_takeStop_28)
def bX5_takeStop_27 : Kt Int32 := o_psh (.int 0) <| bX5_takeStop_28
set_option maxRecDepth 100000 in
theorem sX5_takeStop_27 : Sd pX5_takeStop ev_i 27 (bX5_takeStop_27) := sd_iconst dX5_takeStop_27 rfl <| sX5_takeStop_28
def bX5_takeStop_23 : Kt Int32 := o_psh (.int 1) <| bX5_takeStop_28
set_option maxRecDepth 100000 in
theorem sX5_takeStop_23 : Sd pX5_takeStop ev_i 23 (bX5_takeStop_23) := sd_iconst dX5_takeStop_23 rfl <| (sd_goto (tgt := 28) dX5_takeStop_24 (by decide) sX5_takeStop_28)
def bX5_takeStop_15 : Kt Int32 := o_ald 0 <| o_psh (.int 2) <| o_vc ev_i 4 2 fX5_meet <| o_zeq (o_fg 0 bX5_takeStop_27) <| (o_fg 0 bX5_takeStop_23)
set_option maxRecDepth 100000 in
theorem sX5_takeStop_15 : Sd pX5_takeStop ev_i 15 (bX5_takeStop_15) := sd_aload_n dX5_takeStop_15 rfl <| sd_iconst dX5_takeStop_16 rfl <| sd_vc tX5_meet (fun _ _ => rfl) rfl mwX5_meet mvX5_meet tw_274 (by decide) dX5_takeStop_17 <| sd_zeq (tgt := 27) dX5_takeStop_20 (by decide) (sd_fg (i := 0) sX5_takeStop_27) <| (sd_fg (i := 0) sX5_takeStop_23)
def bX5_takeStop_7 : Kt Int32 := o_ald 0 <| o_gI 4 5 <| o_psh (.int 3) <| o_ceq (o_fg 0 bX5_takeStop_23) <| bX5_takeStop_15
set_option maxRecDepth 100000 in
theorem sX5_takeStop_7 : Sd pX5_takeStop ev_i 7 (bX5_takeStop_7) := sd_aload_n dX5_takeStop_7 rfl <| sd_gI flX5_49 dX5_takeStop_8 <| sd_iconst dX5_takeStop_11 rfl <| sd_ceq (tgt := 23) dX5_takeStop_12 (by decide) (sd_fg (i := 0) sX5_takeStop_23) <| sX5_takeStop_15
def bX5_takeStop_0 : Kt Int32 := o_ald 0 <| o_vc ev_i 4 1 fX5_takeToken <| o_zeq (o_fg 0 bX5_takeStop_27) <| bX5_takeStop_7
set_option maxRecDepth 100000 in
theorem sX5_takeStop_0 : Sd pX5_takeStop ev_i 0 (bX5_takeStop_0) := sd_aload_n dX5_takeStop_0 rfl <| sd_vc tX5_takeToken (fun _ _ => rfl) rfl mwX5_takeToken mvX5_takeToken tw_296 (by decide) dX5_takeStop_1 <| sd_zeq (tgt := 27) dX5_takeStop_4 (by decide) (sd_fg (i := 0) sX5_takeStop_27) <| sX5_takeStop_7
def fX5_takeStop : Mt Int32 := mk_f 1 bX5_takeStop_0
theorem tX5_takeStop : Ct ev_i yX5_takeStop cX5_takeStop 1 (some .boolean) 3 64 fX5_takeStop := ct_of (by decide +kernel) sX5_takeStop_0
abbrev pX5_takeOne : Px := (cX5_takeOne, 2, RX5, "takeOne", (some .boolean), 4, 86, fun _ => True)
def bX5_takeOne_32 : Kt Int32 := o_ald 0 <| o_gR 4 0 <| o_gR 1 0 <| o_ild 1 <| o_ald 0 <| o_gI 4 8 <| o_psh (.int 0) <| o_psh (.int 0) <| o_vc ev_i 5 5 fX6_add <| o_pop <| o_psh (.int 1) <| o_rZ
set_option maxRecDepth 100000 in
theorem sX5_takeOne_32 : Sd pX5_takeOne ev_i 32 (bX5_takeOne_32) := sd_aload_n dX5_takeOne_32 rfl <| sd_gR flX5_12 dX5_takeOne_33 <| sd_gR flX5_142 dX5_takeOne_36 <| sd_iload_n dX5_takeOne_39 rfl <| sd_aload_n dX5_takeOne_40 rfl <| sd_gI flX5_86 dX5_takeOne_41 <| sd_iconst dX5_takeOne_44 rfl <| sd_iconst dX5_takeOne_45 rfl <| sd_vc tX6_add (fun _ _ => rfl) rfl mwX6_add mvX6_add tw_313 (by decide) dX5_takeOne_46 <| sd_pop dX5_takeOne_49 <| sd_iconst dX5_takeOne_50 rfl <| (sd_rZ rfl dX5_takeOne_51)
def bX5_takeOne_30 : Kt Int32 := o_psh (.int 0) <| o_rZ
set_option maxRecDepth 100000 in
theorem sX5_takeOne_30 : Sd pX5_takeOne ev_i 30 (bX5_takeOne_30) := sd_iconst dX5_takeOne_30 rfl <| (sd_rZ rfl dX5_takeOne_31)
def bX5_takeOne_23 : Kt Int32 := o_ald 0 <| o_vc ev_i 4 1 fX5_takeStop <| o_zne bX5_takeOne_32 <| (o_fg 0 (o_fg 1 bX5_takeOne_30))
set_option maxRecDepth 100000 in
theorem sX5_takeOne_23 : Sd pX5_takeOne ev_i 23 (bX5_takeOne_23) := sd_aload_n dX5_takeOne_23 rfl <| sd_vc tX5_takeStop (fun _ _ => rfl) rfl mwX5_takeStop mvX5_takeStop tw_309 (by decide) dX5_takeOne_24 <| sd_zne (tgt := 32) dX5_takeOne_27 (by decide) sX5_takeOne_32 <| (sd_fg (i := 0) (sd_fg (i := 1) sX5_takeOne_30))
def bX5_takeOne_14 : Kt Int32 := o_ald 0 <| o_psh (.int 0) <| o_psh (.int 2) <| o_vc ev_i 4 3 fX5_takeNumber <| o_zeq (o_fg 0 (o_fg 1 bX5_takeOne_30)) <| bX5_takeOne_23
set_option maxRecDepth 100000 in
theorem sX5_takeOne_14 : Sd pX5_takeOne ev_i 14 (bX5_takeOne_14) := sd_aload_n dX5_takeOne_14 rfl <| sd_iconst dX5_takeOne_15 rfl <| sd_iconst dX5_takeOne_16 rfl <| sd_vc tX5_takeNumber (fun _ _ => rfl) rfl mwX5_takeNumber mvX5_takeNumber tw_305 (by decide) dX5_takeOne_17 <| sd_zeq (tgt := 30) dX5_takeOne_20 (by decide) (sd_fg (i := 0) (sd_fg (i := 1) sX5_takeOne_30)) <| sX5_takeOne_23
def bX5_takeOne_0 : Kt Int32 := o_ald 0 <| o_ald 0 <| o_gR 4 0 <| o_gR 1 0 <| o_vc ev_i 4 2 fX5_hasRoom <| o_zeq (o_fg 0 (o_fg 1 bX5_takeOne_30)) <| bX5_takeOne_14
set_option maxRecDepth 100000 in
theorem sX5_takeOne_0 : Sd pX5_takeOne ev_i 0 (bX5_takeOne_0) := sd_aload_n dX5_takeOne_0 rfl <| sd_aload_n dX5_takeOne_1 rfl <| sd_gR flX5_12 dX5_takeOne_2 <| sd_gR flX5_142 dX5_takeOne_5 <| sd_vc tX5_hasRoom (fun _ _ => rfl) rfl mwX5_hasRoom mvX5_hasRoom tw_301 (by decide) dX5_takeOne_8 <| sd_zeq (tgt := 30) dX5_takeOne_11 (by decide) (sd_fg (i := 0) (sd_fg (i := 1) sX5_takeOne_30)) <| sX5_takeOne_14
def fX5_takeOne : Mt Int32 := mk_f 2 bX5_takeOne_0
theorem tX5_takeOne : Ct ev_i yX5_takeOne cX5_takeOne 2 (some .boolean) 4 86 fX5_takeOne := ct_of (by decide +kernel) sX5_takeOne_0
abbrev pX5_takeThing : Px := (cX5_takeThing, 2, RX5, "takeThing", (some .boolean), 4, 86, fun _ => True)
def bX5_takeThing_86 : Kt Int32 := o_psh (.int 1) <| o_rZ
set_option maxRecDepth 100000 in
theorem sX5_takeThing_86 : Sd pX5_takeThing ev_i 86 (bX5_takeThing_86) := sd_iconst dX5_takeThing_86 rfl <| (sd_rZ rfl dX5_takeThing_87)
def bX5_takeThing_73 : Kt Int32 := o_ald 0 <| o_gR 4 0 <| o_gR 1 4 <| o_ild 1 <| o_ald 0 <| o_gI 4 8 <| o_sI <| (o_fg 0 (o_fg 1 bX5_takeThing_86))
set_option maxRecDepth 100000 in
theorem sX5_takeThing_73 : Sd pX5_takeThing ev_i 73 (bX5_takeThing_73) := sd_aload_n dX5_takeThing_73 rfl <| sd_gR flX5_12 dX5_takeThing_74 <| sd_gR flX5_160 dX5_takeThing_77 <| sd_iload_n dX5_takeThing_80 rfl <| sd_aload_n dX5_takeThing_81 rfl <| sd_gI flX5_86 dX5_takeThing_82 <| sd_sI dX5_takeThing_85 <| (sd_fg (i := 0) (sd_fg (i := 1) sX5_takeThing_86))
def bX5_takeThing_68 : Kt Int32 := o_ild 1 <| o_psh (.int 3) <| o_cge (o_fg 0 (o_fg 1 bX5_takeThing_86)) <| bX5_takeThing_73
set_option maxRecDepth 100000 in
theorem sX5_takeThing_68 : Sd pX5_takeThing ev_i 68 (bX5_takeThing_68) := sd_iload_n dX5_takeThing_68 rfl <| sd_iconst dX5_takeThing_69 rfl <| sd_cge (tgt := 86) dX5_takeThing_70 (by decide) (sd_fg (i := 0) (sd_fg (i := 1) sX5_takeThing_86)) <| sX5_takeThing_73
def bX5_takeThing_52 : Kt Int32 := o_ald 0 <| o_dup <| o_gI 4 9 <| o_psh (.int 1) <| o_ild 1 <| o_i2 o_shl <| o_i2 o_or <| o_pI 4 9 <| o_ild 1 <| o_zlt (o_fg 0 (o_fg 1 bX5_takeThing_86)) <| bX5_takeThing_68
set_option maxRecDepth 100000 in
theorem sX5_takeThing_52 : Sd pX5_takeThing ev_i 52 (bX5_takeThing_52) := sd_aload_n dX5_takeThing_52 rfl <| sd_dup dX5_takeThing_53 <| sd_gI flX5_38 dX5_takeThing_54 <| sd_iconst dX5_takeThing_57 rfl <| sd_iload_n dX5_takeThing_58 rfl <| sd_ishl dX5_takeThing_59 <| sd_ior dX5_takeThing_60 <| sd_pI fpX5_38 dX5_takeThing_61 <| sd_iload_n dX5_takeThing_64 rfl <| sd_zlt (tgt := 86) dX5_takeThing_65 (by decide) (sd_fg (i := 0) (sd_fg (i := 1) sX5_takeThing_86)) <| sX5_takeThing_68
def bX5_takeThing_50 : Kt Int32 := o_psh (.int 0) <| o_rZ
set_option maxRecDepth 100000 in
theorem sX5_takeThing_50 : Sd pX5_takeThing ev_i 50 (bX5_takeThing_50) := sd_iconst dX5_takeThing_50 rfl <| (sd_rZ rfl dX5_takeThing_51)
def bX5_takeThing_43 : Kt Int32 := o_ald 0 <| o_vc ev_i 4 1 fX5_takeStop <| o_zne bX5_takeThing_52 <| (o_fg 0 (o_fg 1 bX5_takeThing_50))
set_option maxRecDepth 100000 in
theorem sX5_takeThing_43 : Sd pX5_takeThing ev_i 43 (bX5_takeThing_43) := sd_aload_n dX5_takeThing_43 rfl <| sd_vc tX5_takeStop (fun _ _ => rfl) rfl mwX5_takeStop mvX5_takeStop tw_309 (by decide) dX5_takeThing_44 <| sd_zne (tgt := 52) dX5_takeThing_47 (by decide) sX5_takeThing_52 <| (sd_fg (i := 0) (sd_fg (i := 1) sX5_takeThing_50))
def bX5_takeThing_33 : Kt Int32 := o_ald 0 <| o_psh (.int 0) <| o_psh (.int 9) <| o_vc ev_i 4 3 fX5_takeNumber <| o_zeq (o_fg 0 (o_fg 1 bX5_takeThing_50)) <| bX5_takeThing_43
set_option maxRecDepth 100000 in
theorem sX5_takeThing_33 : Sd pX5_takeThing ev_i 33 (bX5_takeThing_33) := sd_aload_n dX5_takeThing_33 rfl <| sd_iconst dX5_takeThing_34 rfl <| sd_bipush dX5_takeThing_35 rfl <| sd_vc tX5_takeNumber (fun _ _ => rfl) rfl mwX5_takeNumber mvX5_takeNumber tw_305 (by decide) dX5_takeThing_37 <| sd_zeq (tgt := 50) dX5_takeThing_40 (by decide) (sd_fg (i := 0) (sd_fg (i := 1) sX5_takeThing_50)) <| sX5_takeThing_43
def bX5_takeThing_27 : Kt Int32 := o_ald 0 <| o_psh (.int 4) <| o_vc ev_i 4 2 fX5_meet <| o_rZ
set_option maxRecDepth 100000 in
theorem sX5_takeThing_27 : Sd pX5_takeThing ev_i 27 (bX5_takeThing_27) := sd_aload_n dX5_takeThing_27 rfl <| sd_iconst dX5_takeThing_28 rfl <| sd_vc tX5_meet (fun _ _ => rfl) rfl mwX5_meet mvX5_meet tw_274 (by decide) dX5_takeThing_29 <| (sd_rZ rfl dX5_takeThing_32)
def bX5_takeThing_11 : Kt Int32 := o_ald 0 <| o_gI 4 8 <| o_ist 1 <| o_ald 0 <| o_gI 4 9 <| o_psh (.int 1) <| o_ild 1 <| o_i2 o_shl <| o_i2 o_and <| o_zeq bX5_takeThing_33 <| (o_fg 1 bX5_takeThing_27)
set_option maxRecDepth 100000 in
theorem sX5_takeThing_11 : Sd pX5_takeThing ev_i 11 (bX5_takeThing_11) := sd_aload_n dX5_takeThing_11 rfl <| sd_gI flX5_86 dX5_takeThing_12 <| sd_istore_n dX5_takeThing_15 rfl (by decide) <| sd_aload_n dX5_takeThing_16 rfl <| sd_gI flX5_38 dX5_takeThing_17 <| sd_iconst dX5_takeThing_20 rfl <| sd_iload_n dX5_takeThing_21 rfl <| sd_ishl dX5_takeThing_22 <| sd_iand dX5_takeThing_23 <| sd_zeq (tgt := 33) dX5_takeThing_24 (by decide) sX5_takeThing_33 <| (sd_fg (i := 1) sX5_takeThing_27)
def bX5_takeThing_9 : Kt Int32 := o_psh (.int 0) <| o_rZ
set_option maxRecDepth 100000 in
theorem sX5_takeThing_9 : Sd pX5_takeThing ev_i 9 (bX5_takeThing_9) := sd_iconst dX5_takeThing_9 rfl <| (sd_rZ rfl dX5_takeThing_10)
def bX5_takeThing_0 : Kt Int32 := o_ald 0 <| o_psh (.int 0) <| o_psh (.int 2) <| o_vc ev_i 4 3 fX5_takeNumber <| o_zne bX5_takeThing_11 <| (o_fg 0 bX5_takeThing_9)
set_option maxRecDepth 100000 in
theorem sX5_takeThing_0 : Sd pX5_takeThing ev_i 0 (bX5_takeThing_0) := sd_aload_n dX5_takeThing_0 rfl <| sd_iconst dX5_takeThing_1 rfl <| sd_iconst dX5_takeThing_2 rfl <| sd_vc tX5_takeNumber (fun _ _ => rfl) rfl mwX5_takeNumber mvX5_takeNumber tw_305 (by decide) dX5_takeThing_3 <| sd_zne (tgt := 11) dX5_takeThing_6 (by decide) sX5_takeThing_11 <| (sd_fg (i := 0) sX5_takeThing_9)
def fX5_takeThing : Mt Int32 := mk_f 2 bX5_takeThing_0
theorem tX5_takeThing : Ct ev_i yX5_takeThing cX5_takeThing 2 (some .boolean) 4 86 fX5_takeThing := ct_of (by decide +kernel) sX5_takeThing_0
abbrev pX5_takeTurn : Px := (cX5_takeTurn, 3, RX5, "takeTurn", (some .boolean), 4, 86, fun _ => True)
def bX5_takeTurn_66 : Kt Int32 := o_ald 0 <| o_gR 4 0 <| o_gR 1 1 <| o_ild 1 <| o_ild 2 <| o_ald 0 <| o_gI 4 8 <| o_psh (.int 0) <| o_vc ev_i 5 5 fX6_add <| o_pop <| o_psh (.int 1) <| o_rZ
set_option maxRecDepth 100000 in
theorem sX5_takeTurn_66 : Sd pX5_takeTurn ev_i 66 (bX5_takeTurn_66) := sd_aload_n dX5_takeTurn_66 rfl <| sd_gR flX5_12 dX5_takeTurn_67 <| sd_gR flX5_164 dX5_takeTurn_70 <| sd_iload_n dX5_takeTurn_73 rfl <| sd_iload_n dX5_takeTurn_74 rfl <| sd_aload_n dX5_takeTurn_75 rfl <| sd_gI flX5_86 dX5_takeTurn_76 <| sd_iconst dX5_takeTurn_79 rfl <| sd_vc tX6_add (fun _ _ => rfl) rfl mwX6_add mvX6_add tw_313 (by decide) dX5_takeTurn_80 <| sd_pop dX5_takeTurn_83 <| sd_iconst dX5_takeTurn_84 rfl <| (sd_rZ rfl dX5_takeTurn_85)
def bX5_takeTurn_64 : Kt Int32 := o_psh (.int 0) <| o_rZ
set_option maxRecDepth 100000 in
theorem sX5_takeTurn_64 : Sd pX5_takeTurn ev_i 64 (bX5_takeTurn_64) := sd_iconst dX5_takeTurn_64 rfl <| (sd_rZ rfl dX5_takeTurn_65)
def bX5_takeTurn_57 : Kt Int32 := o_ald 0 <| o_vc ev_i 4 1 fX5_takeStop <| o_zne bX5_takeTurn_66 <| (o_fg 0 (o_fg 1 (o_fg 2 bX5_takeTurn_64)))
set_option maxRecDepth 100000 in
theorem sX5_takeTurn_57 : Sd pX5_takeTurn ev_i 57 (bX5_takeTurn_57) := sd_aload_n dX5_takeTurn_57 rfl <| sd_vc tX5_takeStop (fun _ _ => rfl) rfl mwX5_takeStop mvX5_takeStop tw_309 (by decide) dX5_takeTurn_58 <| sd_zne (tgt := 66) dX5_takeTurn_61 (by decide) sX5_takeTurn_66 <| (sd_fg (i := 0) (sd_fg (i := 1) (sd_fg (i := 2) sX5_takeTurn_64)))
def bX5_takeTurn_42 : Kt Int32 := o_ald 0 <| o_gI 4 8 <| o_ist 2 <| o_ald 0 <| o_psh (.int 0) <| o_psh (.int 9) <| o_vc ev_i 4 3 fX5_takeNumber <| o_zeq (o_fg 0 (o_fg 1 (o_fg 2 bX5_takeTurn_64))) <| bX5_takeTurn_57
set_option maxRecDepth 100000 in
theorem sX5_takeTurn_42 : Sd pX5_takeTurn ev_i 42 (bX5_takeTurn_42) := sd_aload_n dX5_takeTurn_42 rfl <| sd_gI flX5_86 dX5_takeTurn_43 <| sd_istore_n dX5_takeTurn_46 rfl (by decide) <| sd_aload_n dX5_takeTurn_47 rfl <| sd_iconst dX5_takeTurn_48 rfl <| sd_bipush dX5_takeTurn_49 rfl <| sd_vc tX5_takeNumber (fun _ _ => rfl) rfl mwX5_takeNumber mvX5_takeNumber tw_305 (by decide) dX5_takeTurn_51 <| sd_zeq (tgt := 64) dX5_takeTurn_54 (by decide) (sd_fg (i := 0) (sd_fg (i := 1) (sd_fg (i := 2) sX5_takeTurn_64))) <| sX5_takeTurn_57
def bX5_takeTurn_40 : Kt Int32 := o_psh (.int 0) <| o_rZ
set_option maxRecDepth 100000 in
theorem sX5_takeTurn_40 : Sd pX5_takeTurn ev_i 40 (bX5_takeTurn_40) := sd_iconst dX5_takeTurn_40 rfl <| (sd_rZ rfl dX5_takeTurn_41)
def bX5_takeTurn_26 : Kt Int32 := o_ald 0 <| o_gI 4 8 <| o_ist 1 <| o_ald 0 <| o_psh (.int 0) <| o_psh (.int 2) <| o_vc ev_i 4 3 fX5_takeNumber <| o_zne bX5_takeTurn_42 <| (o_fg 0 (o_fg 1 bX5_takeTurn_40))
set_option maxRecDepth 100000 in
theorem sX5_takeTurn_26 : Sd pX5_takeTurn ev_i 26 (bX5_takeTurn_26) := sd_aload_n dX5_takeTurn_26 rfl <| sd_gI flX5_86 dX5_takeTurn_27 <| sd_istore_n dX5_takeTurn_30 rfl (by decide) <| sd_aload_n dX5_takeTurn_31 rfl <| sd_iconst dX5_takeTurn_32 rfl <| sd_iconst dX5_takeTurn_33 rfl <| sd_vc tX5_takeNumber (fun _ _ => rfl) rfl mwX5_takeNumber mvX5_takeNumber tw_305 (by decide) dX5_takeTurn_34 <| sd_zne (tgt := 42) dX5_takeTurn_37 (by decide) sX5_takeTurn_42 <| (sd_fg (i := 0) (sd_fg (i := 1) sX5_takeTurn_40))
def bX5_takeTurn_24 : Kt Int32 := o_psh (.int 0) <| o_rZ
set_option maxRecDepth 100000 in
theorem sX5_takeTurn_24 : Sd pX5_takeTurn ev_i 24 (bX5_takeTurn_24) := sd_iconst dX5_takeTurn_24 rfl <| (sd_rZ rfl dX5_takeTurn_25)
def bX5_takeTurn_14 : Kt Int32 := o_ald 0 <| o_psh (.int 0) <| o_psh (.int 9) <| o_vc ev_i 4 3 fX5_takeNumber <| o_zne bX5_takeTurn_26 <| (o_fg 0 bX5_takeTurn_24)
set_option maxRecDepth 100000 in
theorem sX5_takeTurn_14 : Sd pX5_takeTurn ev_i 14 (bX5_takeTurn_14) := sd_aload_n dX5_takeTurn_14 rfl <| sd_iconst dX5_takeTurn_15 rfl <| sd_bipush dX5_takeTurn_16 rfl <| sd_vc tX5_takeNumber (fun _ _ => rfl) rfl mwX5_takeNumber mvX5_takeNumber tw_305 (by decide) dX5_takeTurn_18 <| sd_zne (tgt := 26) dX5_takeTurn_21 (by decide) sX5_takeTurn_26 <| (sd_fg (i := 0) sX5_takeTurn_24)
def bX5_takeTurn_0 : Kt Int32 := o_ald 0 <| o_ald 0 <| o_gR 4 0 <| o_gR 1 1 <| o_vc ev_i 4 2 fX5_hasRoom <| o_zeq (o_fg 0 bX5_takeTurn_24) <| bX5_takeTurn_14
set_option maxRecDepth 100000 in
theorem sX5_takeTurn_0 : Sd pX5_takeTurn ev_i 0 (bX5_takeTurn_0) := sd_aload_n dX5_takeTurn_0 rfl <| sd_aload_n dX5_takeTurn_1 rfl <| sd_gR flX5_12 dX5_takeTurn_2 <| sd_gR flX5_164 dX5_takeTurn_5 <| sd_vc tX5_hasRoom (fun _ _ => rfl) rfl mwX5_hasRoom mvX5_hasRoom tw_301 (by decide) dX5_takeTurn_8 <| sd_zeq (tgt := 24) dX5_takeTurn_11 (by decide) (sd_fg (i := 0) sX5_takeTurn_24) <| sX5_takeTurn_14
def fX5_takeTurn : Mt Int32 := mk_f 3 bX5_takeTurn_0
theorem tX5_takeTurn : Ct ev_i yX5_takeTurn cX5_takeTurn 3 (some .boolean) 4 86 fX5_takeTurn := ct_of (by decide +kernel) sX5_takeTurn_0
abbrev pX5_takeRota : Px := (cX5_takeRota, 2, RX5, "takeRota", (some .boolean), 3, 64, fun _ => True)
def bX5_takeRota_117 : Kt Int32 := o_psh (.int 0) <| o_rZ
set_option maxRecDepth 100000 in
theorem sX5_takeRota_117 : Sd pX5_takeRota ev_i 117 (bX5_takeRota_117) := sd_iconst dX5_takeRota_117 rfl <| (sd_rZ rfl dX5_takeRota_118)
def bX5_takeRota_110 (K20 : Kt Int32) : Kt Int32 := o_sI <| o_inc 1 1 <| K20
set_option maxRecDepth 100000 in
theorem sX5_takeRota_110 {K20 : Kt Int32} (h20 : Sd pX5_takeRota ev_i 20 K20) : Sd pX5_takeRota ev_i 110 (bX5_takeRota_110 K20) := sd_sI dX5_takeRota_110 <| sd_iinc dX5_takeRota_111 rfl (by decide) <| (sd_goto (tgt := 20) dX5_takeRota_114 (by decide) h20)
def bX5_takeRota_106 (K20 : Kt Int32) : Kt Int32 := o_ald 0 <| o_gI 4 8 <| (bX5_takeRota_110 K20)
set_option maxRecDepth 100000 in
theorem sX5_takeRota_106 {K20 : Kt Int32} (h20 : Sd pX5_takeRota ev_i 20 K20) : Sd pX5_takeRota ev_i 106 (bX5_takeRota_106 K20) := sd_aload_n dX5_takeRota_106 rfl <| sd_gI flX5_86 dX5_takeRota_107 <| (sX5_takeRota_110 h20)
def bX5_takeRota_101 (K20 : Kt Int32) : Kt Int32 := o_psh (.int (-4)) <| (bX5_takeRota_110 K20)
set_option maxRecDepth 100000 in
theorem sX5_takeRota_101 {K20 : Kt Int32} (h20 : Sd pX5_takeRota ev_i 20 K20) : Sd pX5_takeRota ev_i 101 (bX5_takeRota_101 K20) := sd_bipush dX5_takeRota_101 rfl <| (sd_goto (tgt := 110) dX5_takeRota_103 (by decide) (sX5_takeRota_110 h20))
def bX5_takeRota_85 (K20 : Kt Int32) : Kt Int32 := o_ald 0 <| o_gR 4 0 <| o_gR 1 5 <| o_ild 1 <| o_ald 0 <| o_gI 4 8 <| o_psh (.int 5) <| o_cne (bX5_takeRota_106 K20) <| (bX5_takeRota_101 K20)
set_option maxRecDepth 100000 in
theorem sX5_takeRota_85 {K20 : Kt Int32} (h20 : Sd pX5_takeRota ev_i 20 K20) : Sd pX5_takeRota ev_i 85 (bX5_takeRota_85 K20) := sd_aload_n dX5_takeRota_85 rfl <| sd_gR flX5_12 dX5_takeRota_86 <| sd_gR flX5_167 dX5_takeRota_89 <| sd_iload_n dX5_takeRota_92 rfl <| sd_aload_n dX5_takeRota_93 rfl <| sd_gI flX5_86 dX5_takeRota_94 <| sd_iconst dX5_takeRota_97 rfl <| sd_cne (tgt := 106) dX5_takeRota_98 (by decide) (sX5_takeRota_106 h20) <| (sX5_takeRota_101 h20)
def bX5_takeRota_79 (K20 : Kt Int32) : Kt Int32 := o_ald 0 <| o_psh (.int 3) <| o_vc ev_i 4 2 fX5_meet <| o_rZ
set_option maxRecDepth 100000 in
theorem sX5_takeRota_79 {K20 : Kt Int32} (h20 : Sd pX5_takeRota ev_i 20 K20) : Sd pX5_takeRota ev_i 79 (bX5_takeRota_79 K20) := sd_aload_n dX5_takeRota_79 rfl <| sd_iconst dX5_takeRota_80 rfl <| sd_vc tX5_meet (fun _ _ => rfl) rfl mwX5_meet mvX5_meet tw_274 (by decide) dX5_takeRota_81 <| (sd_rZ rfl dX5_takeRota_84)
def bX5_takeRota_71 (K20 : Kt Int32) : Kt Int32 := o_ald 0 <| o_gI 4 8 <| o_psh (.int 5) <| o_cle (bX5_takeRota_85 K20) <| (o_fg 1 (bX5_takeRota_79 K20))
set_option maxRecDepth 100000 in
theorem sX5_takeRota_71 {K20 : Kt Int32} (h20 : Sd pX5_takeRota ev_i 20 K20) : Sd pX5_takeRota ev_i 71 (bX5_takeRota_71 K20) := sd_aload_n dX5_takeRota_71 rfl <| sd_gI flX5_86 dX5_takeRota_72 <| sd_iconst dX5_takeRota_75 rfl <| sd_cle (tgt := 85) dX5_takeRota_76 (by decide) (sX5_takeRota_85 h20) <| (sd_fg (i := 1) (sX5_takeRota_79 h20))
def bX5_takeRota_65 (K20 : Kt Int32) : Kt Int32 := o_ald 0 <| o_psh (.int 5) <| o_vc ev_i 4 2 fX5_meet <| o_rZ
set_option maxRecDepth 100000 in
theorem sX5_takeRota_65 {K20 : Kt Int32} (h20 : Sd pX5_takeRota ev_i 20 K20) : Sd pX5_takeRota ev_i 65 (bX5_takeRota_65 K20) := sd_aload_n dX5_takeRota_65 rfl <| sd_iconst dX5_takeRota_66 rfl <| sd_vc tX5_meet (fun _ _ => rfl) rfl mwX5_meet mvX5_meet tw_274 (by decide) dX5_takeRota_67 <| (sd_rZ rfl dX5_takeRota_70)
def bX5_takeRota_59 (K20 : Kt Int32) : Kt Int32 := o_ild 1 <| o_psh (.int 10) <| o_clt (bX5_takeRota_71 K20) <| (o_fg 1 (bX5_takeRota_65 K20))
set_option maxRecDepth 100000 in
theorem sX5_takeRota_59 {K20 : Kt Int32} (h20 : Sd pX5_takeRota ev_i 20 K20) : Sd pX5_takeRota ev_i 59 (bX5_takeRota_59 K20) := sd_iload_n dX5_takeRota_59 rfl <| sd_bipush dX5_takeRota_60 rfl <| sd_clt (tgt := 71) dX5_takeRota_62 (by decide) (sX5_takeRota_71 h20) <| (sd_fg (i := 1) (sX5_takeRota_65 h20))
def bX5_takeRota_53 (K20 : Kt Int32) : Kt Int32 := o_ald 0 <| o_psh (.int 2) <| o_vc ev_i 4 2 fX5_meet <| o_rZ
set_option maxRecDepth 100000 in
theorem sX5_takeRota_53 {K20 : Kt Int32} (h20 : Sd pX5_takeRota ev_i 20 K20) : Sd pX5_takeRota ev_i 53 (bX5_takeRota_53 K20) := sd_aload_n dX5_takeRota_53 rfl <| sd_iconst dX5_takeRota_54 rfl <| sd_vc tX5_meet (fun _ _ => rfl) rfl mwX5_meet mvX5_meet tw_274 (by decide) dX5_takeRota_55 <| (sd_rZ rfl dX5_takeRota_58)
def bX5_takeRota_45 (K20 : Kt Int32) : Kt Int32 := o_ald 0 <| o_gI 4 5 <| o_psh (.int 2) <| o_ceq (bX5_takeRota_59 K20) <| (o_fg 1 (bX5_takeRota_53 K20))
set_option maxRecDepth 100000 in
theorem sX5_takeRota_45 {K20 : Kt Int32} (h20 : Sd pX5_takeRota ev_i 20 K20) : Sd pX5_takeRota ev_i 45 (bX5_takeRota_45 K20) := sd_aload_n dX5_takeRota_45 rfl <| sd_gI flX5_49 dX5_takeRota_46 <| sd_iconst dX5_takeRota_49 rfl <| sd_ceq (tgt := 59) dX5_takeRota_50 (by decide) (sX5_takeRota_59 h20) <| (sd_fg (i := 1) (sX5_takeRota_53 h20))
def bX5_takeRota_43 (K20 : Kt Int32) : Kt Int32 := o_psh (.int 1) <| o_rZ
set_option maxRecDepth 100000 in
theorem sX5_takeRota_43 {K20 : Kt Int32} (h20 : Sd pX5_takeRota ev_i 20 K20) : Sd pX5_takeRota ev_i 43 (bX5_takeRota_43 K20) := sd_iconst dX5_takeRota_43 rfl <| (sd_rZ rfl dX5_takeRota_44)
def bX5_takeRota_35 (K20 : Kt Int32) : Kt Int32 := o_ald 0 <| o_gI 4 5 <| o_psh (.int 3) <| o_cne (bX5_takeRota_45 K20) <| (o_fg 0 (o_fg 1 (bX5_takeRota_43 K20)))
set_option maxRecDepth 100000 in
theorem sX5_takeRota_35 {K20 : Kt Int32} (h20 : Sd pX5_takeRota ev_i 20 K20) : Sd pX5_takeRota ev_i 35 (bX5_takeRota_35 K20) := sd_aload_n dX5_takeRota_35 rfl <| sd_gI flX5_49 dX5_takeRota_36 <| sd_iconst dX5_takeRota_39 rfl <| sd_cne (tgt := 45) dX5_takeRota_40 (by decide) (sX5_takeRota_45 h20) <| (sd_fg (i := 0) (sd_fg (i := 1) (sX5_takeRota_43 h20)))
def bX5_takeRota_33 (K20 : Kt Int32) : Kt Int32 := o_psh (.int 0) <| o_rZ
set_option maxRecDepth 100000 in
theorem sX5_takeRota_33 {K20 : Kt Int32} (h20 : Sd pX5_takeRota ev_i 20 K20) : Sd pX5_takeRota ev_i 33 (bX5_takeRota_33 K20) := sd_iconst dX5_takeRota_33 rfl <| (sd_rZ rfl dX5_takeRota_34)
def bX5_takeRota_26 (K20 : Kt Int32) : Kt Int32 := o_ald 0 <| o_vc ev_i 4 1 fX5_takeToken <| o_zne (bX5_takeRota_35 K20) <| (o_fg 0 (o_fg 1 (bX5_takeRota_33 K20)))
set_option maxRecDepth 100000 in
theorem sX5_takeRota_26 {K20 : Kt Int32} (h20 : Sd pX5_takeRota ev_i 20 K20) : Sd pX5_takeRota ev_i 26 (bX5_takeRota_26 K20) := sd_aload_n dX5_takeRota_26 rfl <| sd_vc tX5_takeToken (fun _ _ => rfl) rfl mwX5_takeToken mvX5_takeToken tw_296 (by decide) dX5_takeRota_27 <| sd_zne (tgt := 35) dX5_takeRota_30 (by decide) (sX5_takeRota_35 h20) <| (sd_fg (i := 0) (sd_fg (i := 1) (sX5_takeRota_33 h20)))
def bX5_takeRota_20 (K20 : Kt Int32) : Kt Int32 := o_ild 1 <| o_psh (.int 10) <| o_cgt (o_fg 0 (o_fg 1 bX5_takeRota_117)) <| (bX5_takeRota_26 K20)
set_option maxRecDepth 100000 in
theorem sX5_takeRota_20 {K20 : Kt Int32} (h20 : Sd pX5_takeRota ev_i 20 K20) : Sd pX5_takeRota ev_i 20 (bX5_takeRota_20 K20) := sd_iload_n dX5_takeRota_20 rfl <| sd_bipush dX5_takeRota_21 rfl <| sd_cgt (tgt := 117) dX5_takeRota_23 (by decide) (sd_fg (i := 0) (sd_fg (i := 1) sX5_takeRota_117)) <| (sX5_takeRota_26 h20)
def bX5_takeRota_13 : Kt Int32 := o_ald 0 <| o_psh (.int 1) <| o_pZ 4 10 <| o_psh (.int 0) <| o_ist 1 <| (o_lp (bX5_takeRota_20) fu)
set_option maxRecDepth 100000 in
theorem sX5_takeRota_13 : Sd pX5_takeRota ev_i 13 (bX5_takeRota_13) := sd_aload_n dX5_takeRota_13 rfl <| sd_iconst dX5_takeRota_14 rfl <| sd_pZ fpX5_41 dX5_takeRota_15 <| sd_iconst dX5_takeRota_18 rfl <| sd_istore_n dX5_takeRota_19 rfl (by decide) <| (sd_lp (fun K h => sX5_takeRota_20 h) fu)
def bX5_takeRota_7 : Kt Int32 := o_ald 0 <| o_psh (.int 4) <| o_vc ev_i 4 2 fX5_meet <| o_rZ
set_option maxRecDepth 100000 in
theorem sX5_takeRota_7 : Sd pX5_takeRota ev_i 7 (bX5_takeRota_7) := sd_aload_n dX5_takeRota_7 rfl <| sd_iconst dX5_takeRota_8 rfl <| sd_vc tX5_meet (fun _ _ => rfl) rfl mwX5_meet mvX5_meet tw_274 (by decide) dX5_takeRota_9 <| (sd_rZ rfl dX5_takeRota_12)
def bX5_takeRota_0 : Kt Int32 := o_ald 0 <| o_gI 4 10 <| o_zeq bX5_takeRota_13 <| bX5_takeRota_7
set_option maxRecDepth 100000 in
theorem sX5_takeRota_0 : Sd pX5_takeRota ev_i 0 (bX5_takeRota_0) := sd_aload_n dX5_takeRota_0 rfl <| sd_gI flX5_41 dX5_takeRota_1 <| sd_zeq (tgt := 13) dX5_takeRota_4 (by decide) sX5_takeRota_13 <| sX5_takeRota_7
def fX5_takeRota : Mt Int32 := mk_f 2 bX5_takeRota_0
theorem tX5_takeRota : Ct ev_i yX5_takeRota cX5_takeRota 2 (some .boolean) 3 64 fX5_takeRota := ct_of (by decide +kernel) sX5_takeRota_0
abbrev pX5_takeWork : Px := (cX5_takeWork, 4, RX5, "takeWork", (some .boolean), 4, 86, fun _ => True)
def bX5_takeWork_83 : Kt Int32 := o_ald 0 <| o_gR 4 0 <| o_gR 1 2 <| o_ild 1 <| o_ild 2 <| o_ild 3 <| o_ald 0 <| o_gI 4 8 <| o_vc ev_i 5 5 fX6_add <| o_pop <| o_psh (.int 1) <| o_rZ
set_option maxRecDepth 100000 in
theorem sX5_takeWork_83 : Sd pX5_takeWork ev_i 83 (bX5_takeWork_83) := sd_aload_n dX5_takeWork_83 rfl <| sd_gR flX5_12 dX5_takeWork_84 <| sd_gR flX5_170 dX5_takeWork_87 <| sd_iload_n dX5_takeWork_90 rfl <| sd_iload_n dX5_takeWork_91 rfl <| sd_iload_n dX5_takeWork_92 rfl <| sd_aload_n dX5_takeWork_93 rfl <| sd_gI flX5_86 dX5_takeWork_94 <| sd_vc tX6_add (fun _ _ => rfl) rfl mwX6_add mvX6_add tw_313 (by decide) dX5_takeWork_97 <| sd_pop dX5_takeWork_100 <| sd_iconst dX5_takeWork_101 rfl <| (sd_rZ rfl dX5_takeWork_102)
def bX5_takeWork_81 : Kt Int32 := o_psh (.int 0) <| o_rZ
set_option maxRecDepth 100000 in
theorem sX5_takeWork_81 : Sd pX5_takeWork ev_i 81 (bX5_takeWork_81) := sd_iconst dX5_takeWork_81 rfl <| (sd_rZ rfl dX5_takeWork_82)
def bX5_takeWork_74 : Kt Int32 := o_ald 0 <| o_vc ev_i 4 1 fX5_takeStop <| o_zne bX5_takeWork_83 <| (o_fg 0 (o_fg 1 (o_fg 2 (o_fg 3 bX5_takeWork_81))))
set_option maxRecDepth 100000 in
theorem sX5_takeWork_74 : Sd pX5_takeWork ev_i 74 (bX5_takeWork_74) := sd_aload_n dX5_takeWork_74 rfl <| sd_vc tX5_takeStop (fun _ _ => rfl) rfl mwX5_takeStop mvX5_takeStop tw_309 (by decide) dX5_takeWork_75 <| sd_zne (tgt := 83) dX5_takeWork_78 (by decide) sX5_takeWork_83 <| (sd_fg (i := 0) (sd_fg (i := 1) (sd_fg (i := 2) (sd_fg (i := 3) sX5_takeWork_81))))
def bX5_takeWork_59 : Kt Int32 := o_ald 0 <| o_gI 4 8 <| o_ist 3 <| o_ald 0 <| o_psh (.int 1) <| o_psh (.int 9) <| o_vc ev_i 4 3 fX5_takeNumber <| o_zeq (o_fg 0 (o_fg 1 (o_fg 2 (o_fg 3 bX5_takeWork_81)))) <| bX5_takeWork_74
set_option maxRecDepth 100000 in
theorem sX5_takeWork_59 : Sd pX5_takeWork ev_i 59 (bX5_takeWork_59) := sd_aload_n dX5_takeWork_59 rfl <| sd_gI flX5_86 dX5_takeWork_60 <| sd_istore_n dX5_takeWork_63 rfl (by decide) <| sd_aload_n dX5_takeWork_64 rfl <| sd_iconst dX5_takeWork_65 rfl <| sd_bipush dX5_takeWork_66 rfl <| sd_vc tX5_takeNumber (fun _ _ => rfl) rfl mwX5_takeNumber mvX5_takeNumber tw_305 (by decide) dX5_takeWork_68 <| sd_zeq (tgt := 81) dX5_takeWork_71 (by decide) (sd_fg (i := 0) (sd_fg (i := 1) (sd_fg (i := 2) (sd_fg (i := 3) sX5_takeWork_81)))) <| sX5_takeWork_74
def bX5_takeWork_57 : Kt Int32 := o_psh (.int 0) <| o_rZ
set_option maxRecDepth 100000 in
theorem sX5_takeWork_57 : Sd pX5_takeWork ev_i 57 (bX5_takeWork_57) := sd_iconst dX5_takeWork_57 rfl <| (sd_rZ rfl dX5_takeWork_58)
def bX5_takeWork_42 : Kt Int32 := o_ald 0 <| o_gI 4 8 <| o_ist 2 <| o_ald 0 <| o_ild 2 <| o_psh (.int 9) <| o_vc ev_i 4 3 fX5_takeNumber <| o_zne bX5_takeWork_59 <| (o_fg 0 (o_fg 1 (o_fg 2 bX5_takeWork_57)))
set_option maxRecDepth 100000 in
theorem sX5_takeWork_42 : Sd pX5_takeWork ev_i 42 (bX5_takeWork_42) := sd_aload_n dX5_takeWork_42 rfl <| sd_gI flX5_86 dX5_takeWork_43 <| sd_istore_n dX5_takeWork_46 rfl (by decide) <| sd_aload_n dX5_takeWork_47 rfl <| sd_iload_n dX5_takeWork_48 rfl <| sd_bipush dX5_takeWork_49 rfl <| sd_vc tX5_takeNumber (fun _ _ => rfl) rfl mwX5_takeNumber mvX5_takeNumber tw_305 (by decide) dX5_takeWork_51 <| sd_zne (tgt := 59) dX5_takeWork_54 (by decide) sX5_takeWork_59 <| (sd_fg (i := 0) (sd_fg (i := 1) (sd_fg (i := 2) sX5_takeWork_57)))
def bX5_takeWork_40 : Kt Int32 := o_psh (.int 0) <| o_rZ
set_option maxRecDepth 100000 in
theorem sX5_takeWork_40 : Sd pX5_takeWork ev_i 40 (bX5_takeWork_40) := sd_iconst dX5_takeWork_40 rfl <| (sd_rZ rfl dX5_takeWork_41)
def bX5_takeWork_25 : Kt Int32 := o_ald 0 <| o_gI 4 8 <| o_ist 1 <| o_ald 0 <| o_psh (.int 0) <| o_psh (.int 9) <| o_vc ev_i 4 3 fX5_takeNumber <| o_zne bX5_takeWork_42 <| (o_fg 0 (o_fg 1 bX5_takeWork_40))
set_option maxRecDepth 100000 in
theorem sX5_takeWork_25 : Sd pX5_takeWork ev_i 25 (bX5_takeWork_25) := sd_aload_n dX5_takeWork_25 rfl <| sd_gI flX5_86 dX5_takeWork_26 <| sd_istore_n dX5_takeWork_29 rfl (by decide) <| sd_aload_n dX5_takeWork_30 rfl <| sd_iconst dX5_takeWork_31 rfl <| sd_bipush dX5_takeWork_32 rfl <| sd_vc tX5_takeNumber (fun _ _ => rfl) rfl mwX5_takeNumber mvX5_takeNumber tw_305 (by decide) dX5_takeWork_34 <| sd_zne (tgt := 42) dX5_takeWork_37 (by decide) sX5_takeWork_42 <| (sd_fg (i := 0) (sd_fg (i := 1) sX5_takeWork_40))
def bX5_takeWork_23 : Kt Int32 := o_psh (.int 0) <| o_rZ
set_option maxRecDepth 100000 in
theorem sX5_takeWork_23 : Sd pX5_takeWork ev_i 23 (bX5_takeWork_23) := sd_iconst dX5_takeWork_23 rfl <| (sd_rZ rfl dX5_takeWork_24)
def bX5_takeWork_14 : Kt Int32 := o_ald 0 <| o_psh (.int 0) <| o_psh (.int 4) <| o_vc ev_i 4 3 fX5_takeNumber <| o_zne bX5_takeWork_25 <| (o_fg 0 bX5_takeWork_23)
set_option maxRecDepth 100000 in
theorem sX5_takeWork_14 : Sd pX5_takeWork ev_i 14 (bX5_takeWork_14) := sd_aload_n dX5_takeWork_14 rfl <| sd_iconst dX5_takeWork_15 rfl <| sd_iconst dX5_takeWork_16 rfl <| sd_vc tX5_takeNumber (fun _ _ => rfl) rfl mwX5_takeNumber mvX5_takeNumber tw_305 (by decide) dX5_takeWork_17 <| sd_zne (tgt := 25) dX5_takeWork_20 (by decide) sX5_takeWork_25 <| (sd_fg (i := 0) sX5_takeWork_23)
def bX5_takeWork_0 : Kt Int32 := o_ald 0 <| o_ald 0 <| o_gR 4 0 <| o_gR 1 2 <| o_vc ev_i 4 2 fX5_hasRoom <| o_zeq (o_fg 0 bX5_takeWork_23) <| bX5_takeWork_14
set_option maxRecDepth 100000 in
theorem sX5_takeWork_0 : Sd pX5_takeWork ev_i 0 (bX5_takeWork_0) := sd_aload_n dX5_takeWork_0 rfl <| sd_aload_n dX5_takeWork_1 rfl <| sd_gR flX5_12 dX5_takeWork_2 <| sd_gR flX5_170 dX5_takeWork_5 <| sd_vc tX5_hasRoom (fun _ _ => rfl) rfl mwX5_hasRoom mvX5_hasRoom tw_301 (by decide) dX5_takeWork_8 <| sd_zeq (tgt := 23) dX5_takeWork_11 (by decide) (sd_fg (i := 0) sX5_takeWork_23) <| sX5_takeWork_14
def fX5_takeWork : Mt Int32 := mk_f 4 bX5_takeWork_0
theorem tX5_takeWork : Ct ev_i yX5_takeWork cX5_takeWork 4 (some .boolean) 4 86 fX5_takeWork := ct_of (by decide +kernel) sX5_takeWork_0
abbrev pX5_takeTelling : Px := (cX5_takeTelling, 4, RX5, "takeTelling", (some .boolean), 4, 86, fun _ => True)
def bX5_takeTelling_92 : Kt Int32 := o_ald 0 <| o_gR 4 0 <| o_gR 1 3 <| o_ild 1 <| o_ild 2 <| o_ild 3 <| o_ald 0 <| o_gI 4 8 <| o_vc ev_i 5 5 fX6_add <| o_pop <| o_psh (.int 1) <| o_rZ
set_option maxRecDepth 100000 in
theorem sX5_takeTelling_92 : Sd pX5_takeTelling ev_i 92 (bX5_takeTelling_92) := sd_aload_n dX5_takeTelling_92 rfl <| sd_gR flX5_12 dX5_takeTelling_93 <| sd_gR flX5_173 dX5_takeTelling_96 <| sd_iload_n dX5_takeTelling_99 rfl <| sd_iload_n dX5_takeTelling_100 rfl <| sd_iload_n dX5_takeTelling_101 rfl <| sd_aload_n dX5_takeTelling_102 rfl <| sd_gI flX5_86 dX5_takeTelling_103 <| sd_vc tX6_add (fun _ _ => rfl) rfl mwX6_add mvX6_add tw_313 (by decide) dX5_takeTelling_106 <| sd_pop dX5_takeTelling_109 <| sd_iconst dX5_takeTelling_110 rfl <| (sd_rZ rfl dX5_takeTelling_111)
def bX5_takeTelling_90 : Kt Int32 := o_psh (.int 0) <| o_rZ
set_option maxRecDepth 100000 in
theorem sX5_takeTelling_90 : Sd pX5_takeTelling ev_i 90 (bX5_takeTelling_90) := sd_iconst dX5_takeTelling_90 rfl <| (sd_rZ rfl dX5_takeTelling_91)
def bX5_takeTelling_83 : Kt Int32 := o_ald 0 <| o_vc ev_i 4 1 fX5_takeStop <| o_zne bX5_takeTelling_92 <| (o_fg 0 (o_fg 1 (o_fg 2 (o_fg 3 bX5_takeTelling_90))))
set_option maxRecDepth 100000 in
theorem sX5_takeTelling_83 : Sd pX5_takeTelling ev_i 83 (bX5_takeTelling_83) := sd_aload_n dX5_takeTelling_83 rfl <| sd_vc tX5_takeStop (fun _ _ => rfl) rfl mwX5_takeStop mvX5_takeStop tw_309 (by decide) dX5_takeTelling_84 <| sd_zne (tgt := 92) dX5_takeTelling_87 (by decide) sX5_takeTelling_92 <| (sd_fg (i := 0) (sd_fg (i := 1) (sd_fg (i := 2) (sd_fg (i := 3) sX5_takeTelling_90))))
def bX5_takeTelling_74 : Kt Int32 := o_ald 0 <| o_psh (.int 0) <| o_psh (.int 2) <| o_vc ev_i 4 3 fX5_takeNumber <| o_zeq (o_fg 0 (o_fg 1 (o_fg 2 (o_fg 3 bX5_takeTelling_90)))) <| bX5_takeTelling_83
set_option maxRecDepth 100000 in
theorem sX5_takeTelling_74 : Sd pX5_takeTelling ev_i 74 (bX5_takeTelling_74) := sd_aload_n dX5_takeTelling_74 rfl <| sd_iconst dX5_takeTelling_75 rfl <| sd_iconst dX5_takeTelling_76 rfl <| sd_vc tX5_takeNumber (fun _ _ => rfl) rfl mwX5_takeNumber mvX5_takeNumber tw_305 (by decide) dX5_takeTelling_77 <| sd_zeq (tgt := 90) dX5_takeTelling_80 (by decide) (sd_fg (i := 0) (sd_fg (i := 1) (sd_fg (i := 2) (sd_fg (i := 3) sX5_takeTelling_90)))) <| sX5_takeTelling_83
def bX5_takeTelling_68 : Kt Int32 := o_ald 0 <| o_psh (.int 3) <| o_vc ev_i 4 2 fX5_meet <| o_rZ
set_option maxRecDepth 100000 in
theorem sX5_takeTelling_68 : Sd pX5_takeTelling ev_i 68 (bX5_takeTelling_68) := sd_aload_n dX5_takeTelling_68 rfl <| sd_iconst dX5_takeTelling_69 rfl <| sd_vc tX5_meet (fun _ _ => rfl) rfl mwX5_meet mvX5_meet tw_274 (by decide) dX5_takeTelling_70 <| (sd_rZ rfl dX5_takeTelling_73)
def bX5_takeTelling_58 : Kt Int32 := o_ald 0 <| o_gI 4 8 <| o_ist 3 <| o_ild 3 <| o_ild 2 <| o_cne bX5_takeTelling_74 <| (o_fg 1 (o_fg 2 (o_fg 3 bX5_takeTelling_68)))
set_option maxRecDepth 100000 in
theorem sX5_takeTelling_58 : Sd pX5_takeTelling ev_i 58 (bX5_takeTelling_58) := sd_aload_n dX5_takeTelling_58 rfl <| sd_gI flX5_86 dX5_takeTelling_59 <| sd_istore_n dX5_takeTelling_62 rfl (by decide) <| sd_iload_n dX5_takeTelling_63 rfl <| sd_iload_n dX5_takeTelling_64 rfl <| sd_cne (tgt := 74) dX5_takeTelling_65 (by decide) sX5_takeTelling_74 <| (sd_fg (i := 1) (sd_fg (i := 2) (sd_fg (i := 3) sX5_takeTelling_68)))
def bX5_takeTelling_56 : Kt Int32 := o_psh (.int 0) <| o_rZ
set_option maxRecDepth 100000 in
theorem sX5_takeTelling_56 : Sd pX5_takeTelling ev_i 56 (bX5_takeTelling_56) := sd_iconst dX5_takeTelling_56 rfl <| (sd_rZ rfl dX5_takeTelling_57)
def bX5_takeTelling_42 : Kt Int32 := o_ald 0 <| o_gI 4 8 <| o_ist 2 <| o_ald 0 <| o_psh (.int 0) <| o_psh (.int 4) <| o_vc ev_i 4 3 fX5_takeNumber <| o_zne bX5_takeTelling_58 <| (o_fg 0 (o_fg 1 (o_fg 2 bX5_takeTelling_56)))
set_option maxRecDepth 100000 in
theorem sX5_takeTelling_42 : Sd pX5_takeTelling ev_i 42 (bX5_takeTelling_42) := sd_aload_n dX5_takeTelling_42 rfl <| sd_gI flX5_86 dX5_takeTelling_43 <| sd_istore_n dX5_takeTelling_46 rfl (by decide) <| sd_aload_n dX5_takeTelling_47 rfl <| sd_iconst dX5_takeTelling_48 rfl <| sd_iconst dX5_takeTelling_49 rfl <| sd_vc tX5_takeNumber (fun _ _ => rfl) rfl mwX5_takeNumber mvX5_takeNumber tw_305 (by decide) dX5_takeTelling_50 <| sd_zne (tgt := 58) dX5_takeTelling_53 (by decide) sX5_takeTelling_58 <| (sd_fg (i := 0) (sd_fg (i := 1) (sd_fg (i := 2) sX5_takeTelling_56)))
def bX5_takeTelling_40 : Kt Int32 := o_psh (.int 0) <| o_rZ
set_option maxRecDepth 100000 in
theorem sX5_takeTelling_40 : Sd pX5_takeTelling ev_i 40 (bX5_takeTelling_40) := sd_iconst dX5_takeTelling_40 rfl <| (sd_rZ rfl dX5_takeTelling_41)
def bX5_takeTelling_26 : Kt Int32 := o_ald 0 <| o_gI 4 8 <| o_ist 1 <| o_ald 0 <| o_psh (.int 0) <| o_psh (.int 4) <| o_vc ev_i 4 3 fX5_takeNumber <| o_zne bX5_takeTelling_42 <| (o_fg 0 (o_fg 1 bX5_takeTelling_40))
set_option maxRecDepth 100000 in
theorem sX5_takeTelling_26 : Sd pX5_takeTelling ev_i 26 (bX5_takeTelling_26) := sd_aload_n dX5_takeTelling_26 rfl <| sd_gI flX5_86 dX5_takeTelling_27 <| sd_istore_n dX5_takeTelling_30 rfl (by decide) <| sd_aload_n dX5_takeTelling_31 rfl <| sd_iconst dX5_takeTelling_32 rfl <| sd_iconst dX5_takeTelling_33 rfl <| sd_vc tX5_takeNumber (fun _ _ => rfl) rfl mwX5_takeNumber mvX5_takeNumber tw_305 (by decide) dX5_takeTelling_34 <| sd_zne (tgt := 42) dX5_takeTelling_37 (by decide) sX5_takeTelling_42 <| (sd_fg (i := 0) (sd_fg (i := 1) sX5_takeTelling_40))
def bX5_takeTelling_24 : Kt Int32 := o_psh (.int 0) <| o_rZ
set_option maxRecDepth 100000 in
theorem sX5_takeTelling_24 : Sd pX5_takeTelling ev_i 24 (bX5_takeTelling_24) := sd_iconst dX5_takeTelling_24 rfl <| (sd_rZ rfl dX5_takeTelling_25)
def bX5_takeTelling_14 : Kt Int32 := o_ald 0 <| o_psh (.int 0) <| o_psh (.int 9) <| o_vc ev_i 4 3 fX5_takeNumber <| o_zne bX5_takeTelling_26 <| (o_fg 0 bX5_takeTelling_24)
set_option maxRecDepth 100000 in
theorem sX5_takeTelling_14 : Sd pX5_takeTelling ev_i 14 (bX5_takeTelling_14) := sd_aload_n dX5_takeTelling_14 rfl <| sd_iconst dX5_takeTelling_15 rfl <| sd_bipush dX5_takeTelling_16 rfl <| sd_vc tX5_takeNumber (fun _ _ => rfl) rfl mwX5_takeNumber mvX5_takeNumber tw_305 (by decide) dX5_takeTelling_18 <| sd_zne (tgt := 26) dX5_takeTelling_21 (by decide) sX5_takeTelling_26 <| (sd_fg (i := 0) sX5_takeTelling_24)
def bX5_takeTelling_0 : Kt Int32 := o_ald 0 <| o_ald 0 <| o_gR 4 0 <| o_gR 1 3 <| o_vc ev_i 4 2 fX5_hasRoom <| o_zeq (o_fg 0 bX5_takeTelling_24) <| bX5_takeTelling_14
set_option maxRecDepth 100000 in
theorem sX5_takeTelling_0 : Sd pX5_takeTelling ev_i 0 (bX5_takeTelling_0) := sd_aload_n dX5_takeTelling_0 rfl <| sd_aload_n dX5_takeTelling_1 rfl <| sd_gR flX5_12 dX5_takeTelling_2 <| sd_gR flX5_173 dX5_takeTelling_5 <| sd_vc tX5_hasRoom (fun _ _ => rfl) rfl mwX5_hasRoom mvX5_hasRoom tw_301 (by decide) dX5_takeTelling_8 <| sd_zeq (tgt := 24) dX5_takeTelling_11 (by decide) (sd_fg (i := 0) sX5_takeTelling_24) <| sX5_takeTelling_14
def fX5_takeTelling : Mt Int32 := mk_f 4 bX5_takeTelling_0
theorem tX5_takeTelling : Ct ev_i yX5_takeTelling cX5_takeTelling 4 (some .boolean) 4 86 fX5_takeTelling := ct_of (by decide +kernel) sX5_takeTelling_0
abbrev pX5_takeLine : Px := (cX5_takeLine, 1, RX5, "takeLine", (some .boolean), 5, 109, fun _ => True)
def bX5_takeLine_151 : Kt Int32 := o_rZ
set_option maxRecDepth 100000 in
theorem sX5_takeLine_151 : Sd pX5_takeLine ev_i 151 (bX5_takeLine_151) := (sd_rZ rfl dX5_takeLine_151)
def bX5_takeLine_146 : Kt Int32 := o_ald 0 <| o_psh (.int 2) <| o_vc ev_i 4 2 fX5_meet <| (o_fg 0 bX5_takeLine_151)
set_option maxRecDepth 100000 in
theorem sX5_takeLine_146 : Sd pX5_takeLine ev_i 146 (bX5_takeLine_146) := sd_aload_n dX5_takeLine_146 rfl <| sd_iconst dX5_takeLine_147 rfl <| sd_vc tX5_meet (fun _ _ => rfl) rfl mwX5_meet mvX5_meet tw_274 (by decide) dX5_takeLine_148 <| (sd_fg (i := 0) sX5_takeLine_151)
def bX5_takeLine_139 : Kt Int32 := o_ald 0 <| o_vc ev_i 4 1 fX5_takeTelling <| (o_fg 0 bX5_takeLine_151)
set_option maxRecDepth 100000 in
theorem sX5_takeLine_139 : Sd pX5_takeLine ev_i 139 (bX5_takeLine_139) := sd_aload_n dX5_takeLine_139 rfl <| sd_vc tX5_takeTelling (fun _ _ => rfl) rfl mwX5_takeTelling mvX5_takeTelling tw_348 (by decide) dX5_takeLine_140 <| (sd_goto (tgt := 151) dX5_takeLine_143 (by decide) (sd_fg (i := 0) sX5_takeLine_151))
def bX5_takeLine_130 : Kt Int32 := o_ald 0 <| o_psh (.ref (1000 + 8)) <| o_vc ev_i 4 2 fX5_isWord <| o_zeq bX5_takeLine_146 <| bX5_takeLine_139
set_option maxRecDepth 100000 in
theorem sX5_takeLine_130 : Sd pX5_takeLine ev_i 130 (bX5_takeLine_130) := sd_aload_n dX5_takeLine_130 rfl <| sd_ldcS rfl rfl dX5_takeLine_131 <| sd_vc tX5_isWord (fun _ _ => rfl) rfl mwX5_isWord mvX5_isWord tw_324 (by decide) dX5_takeLine_133 <| sd_zeq (tgt := 146) dX5_takeLine_136 (by decide) sX5_takeLine_146 <| sX5_takeLine_139
def bX5_takeLine_125 : Kt Int32 := o_ald 0 <| o_vc ev_i 4 1 fX5_takeWork <| o_rZ
set_option maxRecDepth 100000 in
theorem sX5_takeLine_125 : Sd pX5_takeLine ev_i 125 (bX5_takeLine_125) := sd_aload_n dX5_takeLine_125 rfl <| sd_vc tX5_takeWork (fun _ _ => rfl) rfl mwX5_takeWork mvX5_takeWork tw_344 (by decide) dX5_takeLine_126 <| (sd_rZ rfl dX5_takeLine_129)
def bX5_takeLine_116 : Kt Int32 := o_ald 0 <| o_psh (.ref (1000 + 7)) <| o_vc ev_i 4 2 fX5_isWord <| o_zeq bX5_takeLine_130 <| bX5_takeLine_125
set_option maxRecDepth 100000 in
theorem sX5_takeLine_116 : Sd pX5_takeLine ev_i 116 (bX5_takeLine_116) := sd_aload_n dX5_takeLine_116 rfl <| sd_ldcS rfl rfl dX5_takeLine_117 <| sd_vc tX5_isWord (fun _ _ => rfl) rfl mwX5_isWord mvX5_isWord tw_324 (by decide) dX5_takeLine_119 <| sd_zeq (tgt := 130) dX5_takeLine_122 (by decide) sX5_takeLine_130 <| sX5_takeLine_125
def bX5_takeLine_111 : Kt Int32 := o_ald 0 <| o_vc ev_i 4 1 fX5_takeRota <| o_rZ
set_option maxRecDepth 100000 in
theorem sX5_takeLine_111 : Sd pX5_takeLine ev_i 111 (bX5_takeLine_111) := sd_aload_n dX5_takeLine_111 rfl <| sd_vc tX5_takeRota (fun _ _ => rfl) rfl mwX5_takeRota mvX5_takeRota tw_340 (by decide) dX5_takeLine_112 <| (sd_rZ rfl dX5_takeLine_115)
def bX5_takeLine_102 : Kt Int32 := o_ald 0 <| o_psh (.ref (1000 + 6)) <| o_vc ev_i 4 2 fX5_isWord <| o_zeq bX5_takeLine_116 <| bX5_takeLine_111
set_option maxRecDepth 100000 in
theorem sX5_takeLine_102 : Sd pX5_takeLine ev_i 102 (bX5_takeLine_102) := sd_aload_n dX5_takeLine_102 rfl <| sd_ldcS rfl rfl dX5_takeLine_103 <| sd_vc tX5_isWord (fun _ _ => rfl) rfl mwX5_isWord mvX5_isWord tw_324 (by decide) dX5_takeLine_105 <| sd_zeq (tgt := 116) dX5_takeLine_108 (by decide) sX5_takeLine_116 <| sX5_takeLine_111
def bX5_takeLine_97 : Kt Int32 := o_ald 0 <| o_vc ev_i 4 1 fX5_takeTurn <| o_rZ
set_option maxRecDepth 100000 in
theorem sX5_takeLine_97 : Sd pX5_takeLine ev_i 97 (bX5_takeLine_97) := sd_aload_n dX5_takeLine_97 rfl <| sd_vc tX5_takeTurn (fun _ _ => rfl) rfl mwX5_takeTurn mvX5_takeTurn tw_336 (by decide) dX5_takeLine_98 <| (sd_rZ rfl dX5_takeLine_101)
def bX5_takeLine_88 : Kt Int32 := o_ald 0 <| o_psh (.ref (1000 + 5)) <| o_vc ev_i 4 2 fX5_isWord <| o_zeq bX5_takeLine_102 <| bX5_takeLine_97
set_option maxRecDepth 100000 in
theorem sX5_takeLine_88 : Sd pX5_takeLine ev_i 88 (bX5_takeLine_88) := sd_aload_n dX5_takeLine_88 rfl <| sd_ldcS rfl rfl dX5_takeLine_89 <| sd_vc tX5_isWord (fun _ _ => rfl) rfl mwX5_isWord mvX5_isWord tw_324 (by decide) dX5_takeLine_91 <| sd_zeq (tgt := 102) dX5_takeLine_94 (by decide) sX5_takeLine_102 <| sX5_takeLine_97
def bX5_takeLine_83 : Kt Int32 := o_ald 0 <| o_vc ev_i 4 1 fX5_takeThing <| o_rZ
set_option maxRecDepth 100000 in
theorem sX5_takeLine_83 : Sd pX5_takeLine ev_i 83 (bX5_takeLine_83) := sd_aload_n dX5_takeLine_83 rfl <| sd_vc tX5_takeThing (fun _ _ => rfl) rfl mwX5_takeThing mvX5_takeThing tw_332 (by decide) dX5_takeLine_84 <| (sd_rZ rfl dX5_takeLine_87)
def bX5_takeLine_74 : Kt Int32 := o_ald 0 <| o_psh (.ref (1000 + 4)) <| o_vc ev_i 4 2 fX5_isWord <| o_zeq bX5_takeLine_88 <| bX5_takeLine_83
set_option maxRecDepth 100000 in
theorem sX5_takeLine_74 : Sd pX5_takeLine ev_i 74 (bX5_takeLine_74) := sd_aload_n dX5_takeLine_74 rfl <| sd_ldcS rfl rfl dX5_takeLine_75 <| sd_vc tX5_isWord (fun _ _ => rfl) rfl mwX5_isWord mvX5_isWord tw_324 (by decide) dX5_takeLine_77 <| sd_zeq (tgt := 88) dX5_takeLine_80 (by decide) sX5_takeLine_88 <| sX5_takeLine_83
def bX5_takeLine_68 : Kt Int32 := o_ald 0 <| o_psh (.int 3) <| o_vc ev_i 4 2 fX5_takeOne <| o_rZ
set_option maxRecDepth 100000 in
theorem sX5_takeLine_68 : Sd pX5_takeLine ev_i 68 (bX5_takeLine_68) := sd_aload_n dX5_takeLine_68 rfl <| sd_iconst dX5_takeLine_69 rfl <| sd_vc tX5_takeOne (fun _ _ => rfl) rfl mwX5_takeOne mvX5_takeOne tw_328 (by decide) dX5_takeLine_70 <| (sd_rZ rfl dX5_takeLine_73)
def bX5_takeLine_59 : Kt Int32 := o_ald 0 <| o_psh (.ref (1000 + 3)) <| o_vc ev_i 4 2 fX5_isWord <| o_zeq bX5_takeLine_74 <| bX5_takeLine_68
set_option maxRecDepth 100000 in
theorem sX5_takeLine_59 : Sd pX5_takeLine ev_i 59 (bX5_takeLine_59) := sd_aload_n dX5_takeLine_59 rfl <| sd_ldcS rfl rfl dX5_takeLine_60 <| sd_vc tX5_isWord (fun _ _ => rfl) rfl mwX5_isWord mvX5_isWord tw_324 (by decide) dX5_takeLine_62 <| sd_zeq (tgt := 74) dX5_takeLine_65 (by decide) sX5_takeLine_74 <| sX5_takeLine_68
def bX5_takeLine_53 : Kt Int32 := o_ald 0 <| o_psh (.int 2) <| o_vc ev_i 4 2 fX5_takeOne <| o_rZ
set_option maxRecDepth 100000 in
theorem sX5_takeLine_53 : Sd pX5_takeLine ev_i 53 (bX5_takeLine_53) := sd_aload_n dX5_takeLine_53 rfl <| sd_iconst dX5_takeLine_54 rfl <| sd_vc tX5_takeOne (fun _ _ => rfl) rfl mwX5_takeOne mvX5_takeOne tw_328 (by decide) dX5_takeLine_55 <| (sd_rZ rfl dX5_takeLine_58)
def bX5_takeLine_44 : Kt Int32 := o_ald 0 <| o_psh (.ref (1000 + 2)) <| o_vc ev_i 4 2 fX5_isWord <| o_zeq bX5_takeLine_59 <| bX5_takeLine_53
set_option maxRecDepth 100000 in
theorem sX5_takeLine_44 : Sd pX5_takeLine ev_i 44 (bX5_takeLine_44) := sd_aload_n dX5_takeLine_44 rfl <| sd_ldcS rfl rfl dX5_takeLine_45 <| sd_vc tX5_isWord (fun _ _ => rfl) rfl mwX5_isWord mvX5_isWord tw_324 (by decide) dX5_takeLine_47 <| sd_zeq (tgt := 59) dX5_takeLine_50 (by decide) sX5_takeLine_59 <| sX5_takeLine_53
def bX5_takeLine_38 : Kt Int32 := o_ald 0 <| o_psh (.int 1) <| o_vc ev_i 4 2 fX5_takeOne <| o_rZ
set_option maxRecDepth 100000 in
theorem sX5_takeLine_38 : Sd pX5_takeLine ev_i 38 (bX5_takeLine_38) := sd_aload_n dX5_takeLine_38 rfl <| sd_iconst dX5_takeLine_39 rfl <| sd_vc tX5_takeOne (fun _ _ => rfl) rfl mwX5_takeOne mvX5_takeOne tw_328 (by decide) dX5_takeLine_40 <| (sd_rZ rfl dX5_takeLine_43)
def bX5_takeLine_29 : Kt Int32 := o_ald 0 <| o_psh (.ref (1000 + 1)) <| o_vc ev_i 4 2 fX5_isWord <| o_zeq bX5_takeLine_44 <| bX5_takeLine_38
set_option maxRecDepth 100000 in
theorem sX5_takeLine_29 : Sd pX5_takeLine ev_i 29 (bX5_takeLine_29) := sd_aload_n dX5_takeLine_29 rfl <| sd_ldcS rfl rfl dX5_takeLine_30 <| sd_vc tX5_isWord (fun _ _ => rfl) rfl mwX5_isWord mvX5_isWord tw_324 (by decide) dX5_takeLine_32 <| sd_zeq (tgt := 44) dX5_takeLine_35 (by decide) sX5_takeLine_44 <| sX5_takeLine_38
def bX5_takeLine_23 : Kt Int32 := o_ald 0 <| o_psh (.int 0) <| o_vc ev_i 4 2 fX5_takeOne <| o_rZ
set_option maxRecDepth 100000 in
theorem sX5_takeLine_23 : Sd pX5_takeLine ev_i 23 (bX5_takeLine_23) := sd_aload_n dX5_takeLine_23 rfl <| sd_iconst dX5_takeLine_24 rfl <| sd_vc tX5_takeOne (fun _ _ => rfl) rfl mwX5_takeOne mvX5_takeOne tw_328 (by decide) dX5_takeLine_25 <| (sd_rZ rfl dX5_takeLine_28)
def bX5_takeLine_14 : Kt Int32 := o_ald 0 <| o_psh (.ref (1000 + 0)) <| o_vc ev_i 4 2 fX5_isWord <| o_zeq bX5_takeLine_29 <| bX5_takeLine_23
set_option maxRecDepth 100000 in
theorem sX5_takeLine_14 : Sd pX5_takeLine ev_i 14 (bX5_takeLine_14) := sd_aload_n dX5_takeLine_14 rfl <| sd_ldcS rfl rfl dX5_takeLine_15 <| sd_vc tX5_isWord (fun _ _ => rfl) rfl mwX5_isWord mvX5_isWord tw_324 (by decide) dX5_takeLine_17 <| sd_zeq (tgt := 29) dX5_takeLine_20 (by decide) sX5_takeLine_29 <| sX5_takeLine_23
def bX5_takeLine_8 : Kt Int32 := o_ald 0 <| o_psh (.int 2) <| o_vc ev_i 4 2 fX5_meet <| o_rZ
set_option maxRecDepth 100000 in
theorem sX5_takeLine_8 : Sd pX5_takeLine ev_i 8 (bX5_takeLine_8) := sd_aload_n dX5_takeLine_8 rfl <| sd_iconst dX5_takeLine_9 rfl <| sd_vc tX5_meet (fun _ _ => rfl) rfl mwX5_meet mvX5_meet tw_274 (by decide) dX5_takeLine_10 <| (sd_rZ rfl dX5_takeLine_13)
def bX5_takeLine_0 : Kt Int32 := o_ald 0 <| o_gI 4 5 <| o_psh (.int 1) <| o_ceq bX5_takeLine_14 <| bX5_takeLine_8
set_option maxRecDepth 100000 in
theorem sX5_takeLine_0 : Sd pX5_takeLine ev_i 0 (bX5_takeLine_0) := sd_aload_n dX5_takeLine_0 rfl <| sd_gI flX5_49 dX5_takeLine_1 <| sd_iconst dX5_takeLine_4 rfl <| sd_ceq (tgt := 14) dX5_takeLine_5 (by decide) sX5_takeLine_14 <| sX5_takeLine_8
def fX5_takeLine : Mt Int32 := mk_f 1 bX5_takeLine_0
theorem tX5_takeLine : Ct ev_i yX5_takeLine cX5_takeLine 1 (some .boolean) 5 109 fX5_takeLine := ct_of (by decide +kernel) sX5_takeLine_0
abbrev pX5_readTape : Px := (cX5_readTape, 2, RX5, "readTape", none, 6, 129, fun _ => True)
def bX5_readTape_148 : Kt Unit := o_rV
set_option maxRecDepth 100000 in
theorem sX5_readTape_148 : Sd pX5_readTape ev_v 148 (bX5_readTape_148) := (sd_rV rfl dX5_readTape_148)
def bX5_readTape_130 : Kt Unit := o_ald 0 <| o_ald 0 <| o_gR 4 1 <| o_gI 5 3 <| o_pI 4 6 <| o_ald 0 <| o_psh (.int 6) <| o_vc ev_i 4 2 fX5_meet <| o_pop <| (o_fg 0 bX5_readTape_148)
set_option maxRecDepth 100000 in
theorem sX5_readTape_130 : Sd pX5_readTape ev_v 130 (bX5_readTape_130) := sd_aload_n dX5_readTape_130 rfl <| sd_aload_n dX5_readTape_131 rfl <| sd_gR flX5_18 dX5_readTape_132 <| sd_gI flX5_58 dX5_readTape_135 <| sd_pI fpX5_63 dX5_readTape_138 <| sd_aload_n dX5_readTape_141 rfl <| sd_bipush dX5_readTape_142 rfl <| sd_vc tX5_meet (fun _ _ => rfl) rfl mwX5_meet mvX5_meet tw_274 (by decide) dX5_readTape_144 <| sd_pop dX5_readTape_147 <| (sd_fg (i := 0) sX5_readTape_148)
def bX5_readTape_120 : Kt Unit := o_ald 0 <| o_gR 4 0 <| o_vc ev_i 1 1 fX1_namesOnlyKin <| o_zne (o_fg 0 bX5_readTape_148) <| bX5_readTape_130
set_option maxRecDepth 100000 in
theorem sX5_readTape_120 : Sd pX5_readTape ev_v 120 (bX5_readTape_120) := sd_aload_n dX5_readTape_120 rfl <| sd_gR flX5_12 dX5_readTape_121 <| sd_vc tX1_namesOnlyKin (fun _ _ => rfl) rfl mwX1_namesOnlyKin mvX1_namesOnlyKin tw_358 (by decide) dX5_readTape_124 <| sd_zne (tgt := 148) dX5_readTape_127 (by decide) (sd_fg (i := 0) sX5_readTape_148) <| sX5_readTape_130
def bX5_readTape_113 : Kt Unit := o_ald 0 <| o_gI 4 3 <| o_zne (o_fg 0 bX5_readTape_148) <| bX5_readTape_120
set_option maxRecDepth 100000 in
theorem sX5_readTape_113 : Sd pX5_readTape ev_v 113 (bX5_readTape_113) := sd_aload_n dX5_readTape_113 rfl <| sd_gI flX5_29 dX5_readTape_114 <| sd_zne (tgt := 148) dX5_readTape_117 (by decide) (sd_fg (i := 0) sX5_readTape_148) <| sX5_readTape_120
def bX5_readTape_109 (K57 : Kt Unit) : Kt Unit := o_ist 1 <| K57
set_option maxRecDepth 100000 in
theorem sX5_readTape_109 {K57 : Kt Unit} (h57 : Sd pX5_readTape ev_v 57 K57) : Sd pX5_readTape ev_v 109 (bX5_readTape_109 K57) := sd_istore_n dX5_readTape_109 rfl (by decide) <| (sd_goto (tgt := 57) dX5_readTape_110 (by decide) h57)
def bX5_readTape_108 (K57 : Kt Unit) : Kt Unit := o_psh (.int 0) <| (bX5_readTape_109 K57)
set_option maxRecDepth 100000 in
theorem sX5_readTape_108 {K57 : Kt Unit} (h57 : Sd pX5_readTape ev_v 57 K57) : Sd pX5_readTape ev_v 108 (bX5_readTape_108 K57) := sd_iconst dX5_readTape_108 rfl <| (sX5_readTape_109 h57)
def bX5_readTape_104 (K57 : Kt Unit) : Kt Unit := o_psh (.int 1) <| (bX5_readTape_109 K57)
set_option maxRecDepth 100000 in
theorem sX5_readTape_104 {K57 : Kt Unit} (h57 : Sd pX5_readTape ev_v 57 K57) : Sd pX5_readTape ev_v 104 (bX5_readTape_104 K57) := sd_iconst dX5_readTape_104 rfl <| (sd_goto (tgt := 109) dX5_readTape_105 (by decide) (sX5_readTape_109 h57))
def bX5_readTape_97 (K57 : Kt Unit) : Kt Unit := o_ald 0 <| o_gI 4 5 <| o_zeq (bX5_readTape_108 K57) <| (bX5_readTape_104 K57)
set_option maxRecDepth 100000 in
theorem sX5_readTape_97 {K57 : Kt Unit} (h57 : Sd pX5_readTape ev_v 57 K57) : Sd pX5_readTape ev_v 97 (bX5_readTape_97 K57) := sd_aload_n dX5_readTape_97 rfl <| sd_gI flX5_49 dX5_readTape_98 <| sd_zeq (tgt := 108) dX5_readTape_101 (by decide) (sX5_readTape_108 h57) <| (sX5_readTape_104 h57)
def bX5_readTape_80 (K57 : Kt Unit) : Kt Unit := o_ald 0 <| o_dup <| o_gI 4 2 <| o_psh (.int 1) <| o_i2 o_add <| o_pI 4 2 <| o_ald 0 <| o_vc ev_i 4 1 fX5_takeToken <| o_zeq (bX5_readTape_108 K57) <| (bX5_readTape_97 K57)
set_option maxRecDepth 100000 in
theorem sX5_readTape_80 {K57 : Kt Unit} (h57 : Sd pX5_readTape ev_v 57 K57) : Sd pX5_readTape ev_v 80 (bX5_readTape_80 K57) := sd_aload_n dX5_readTape_80 rfl <| sd_dup dX5_readTape_81 <| sd_gI flX5_25 dX5_readTape_82 <| sd_iconst dX5_readTape_85 rfl <| sd_iadd dX5_readTape_86 <| sd_pI fpX5_25 dX5_readTape_87 <| sd_aload_n dX5_readTape_90 rfl <| sd_vc tX5_takeToken (fun _ _ => rfl) rfl mwX5_takeToken mvX5_takeToken tw_296 (by decide) dX5_readTape_91 <| sd_zeq (tgt := 108) dX5_readTape_94 (by decide) (sX5_readTape_108 h57) <| (sX5_readTape_97 h57)
def bX5_readTape_71 (K57 : Kt Unit) : Kt Unit := o_ald 0 <| o_vc ev_i 4 1 fX5_takeLine <| o_ist 1 <| o_ild 1 <| o_zeq K57 <| (o_fg 1 (bX5_readTape_80 K57))
set_option maxRecDepth 100000 in
theorem sX5_readTape_71 {K57 : Kt Unit} (h57 : Sd pX5_readTape ev_v 57 K57) : Sd pX5_readTape ev_v 71 (bX5_readTape_71 K57) := sd_aload_n dX5_readTape_71 rfl <| sd_vc tX5_takeLine (fun _ _ => rfl) rfl mwX5_takeLine mvX5_takeLine tw_354 (by decide) dX5_readTape_72 <| sd_istore_n dX5_readTape_75 rfl (by decide) <| sd_iload_n dX5_readTape_76 rfl <| sd_zeq (tgt := 57) dX5_readTape_77 (by decide) h57 <| (sd_fg (i := 1) (sX5_readTape_80 h57))
def bX5_readTape_61 (K57 : Kt Unit) : Kt Unit := o_ald 0 <| o_gI 4 2 <| o_psh (.int 160) <| o_cge bX5_readTape_113 <| (bX5_readTape_71 K57)
set_option maxRecDepth 100000 in
theorem sX5_readTape_61 {K57 : Kt Unit} (h57 : Sd pX5_readTape ev_v 57 K57) : Sd pX5_readTape ev_v 61 (bX5_readTape_61 K57) := sd_aload_n dX5_readTape_61 rfl <| sd_gI flX5_25 dX5_readTape_62 <| sd_sipush dX5_readTape_65 rfl <| sd_cge (tgt := 113) dX5_readTape_68 (by decide) sX5_readTape_113 <| (sX5_readTape_71 h57)
def bX5_readTape_57 (K57 : Kt Unit) : Kt Unit := o_ild 1 <| o_zeq (o_fg 1 bX5_readTape_113) <| (o_fg 1 (bX5_readTape_61 K57))
set_option maxRecDepth 100000 in
theorem sX5_readTape_57 {K57 : Kt Unit} (h57 : Sd pX5_readTape ev_v 57 K57) : Sd pX5_readTape ev_v 57 (bX5_readTape_57 K57) := sd_iload_n dX5_readTape_57 rfl <| sd_zeq (tgt := 113) dX5_readTape_58 (by decide) (sd_fg (i := 1) sX5_readTape_113) <| (sd_fg (i := 1) (sX5_readTape_61 h57))
def bX5_readTape_56 : Kt Unit := o_ist 1 <| (o_lp (bX5_readTape_57) fu)
set_option maxRecDepth 100000 in
theorem sX5_readTape_56 : Sd pX5_readTape ev_v 56 (bX5_readTape_56) := sd_istore_n dX5_readTape_56 rfl (by decide) <| (sd_lp (fun K h => sX5_readTape_57 h) fu)
def bX5_readTape_55 : Kt Unit := o_psh (.int 0) <| bX5_readTape_56
set_option maxRecDepth 100000 in
theorem sX5_readTape_55 : Sd pX5_readTape ev_v 55 (bX5_readTape_55) := sd_iconst dX5_readTape_55 rfl <| sX5_readTape_56
def bX5_readTape_51 : Kt Unit := o_psh (.int 1) <| bX5_readTape_56
set_option maxRecDepth 100000 in
theorem sX5_readTape_51 : Sd pX5_readTape ev_v 51 (bX5_readTape_51) := sd_iconst dX5_readTape_51 rfl <| (sd_goto (tgt := 56) dX5_readTape_52 (by decide) sX5_readTape_56)
def bX5_readTape_44 : Kt Unit := o_ald 0 <| o_gI 4 5 <| o_zeq bX5_readTape_55 <| bX5_readTape_51
set_option maxRecDepth 100000 in
theorem sX5_readTape_44 : Sd pX5_readTape ev_v 44 (bX5_readTape_44) := sd_aload_n dX5_readTape_44 rfl <| sd_gI flX5_49 dX5_readTape_45 <| sd_zeq (tgt := 55) dX5_readTape_48 (by decide) sX5_readTape_55 <| sX5_readTape_51
def bX5_readTape_0 : Kt Unit := o_ald 0 <| o_gR 4 0 <| o_vc ev_v 1 1 fX1_makeEmpty <| o_ald 0 <| o_psh (.int 0) <| o_pI 4 2 <| o_ald 0 <| o_psh (.int 0) <| o_pI 4 3 <| o_ald 0 <| o_psh (.int 0) <| o_pI 4 4 <| o_ald 0 <| o_psh (.int 0) <| o_pI 4 7 <| o_ald 0 <| o_psh (.int 0) <| o_pI 4 9 <| o_ald 0 <| o_psh (.int 0) <| o_pZ 4 10 <| o_ald 0 <| o_vc ev_i 4 1 fX5_takeToken <| o_zeq bX5_readTape_55 <| bX5_readTape_44
set_option maxRecDepth 100000 in
theorem sX5_readTape_0 : Sd pX5_readTape ev_v 0 (bX5_readTape_0) := sd_aload_n dX5_readTape_0 rfl <| sd_gR flX5_12 dX5_readTape_1 <| sd_vc tX1_makeEmpty (fun _ _ => rfl) rfl mwX1_makeEmpty mvX1_makeEmpty tw_349 (by decide) dX5_readTape_4 <| sd_aload_n dX5_readTape_7 rfl <| sd_iconst dX5_readTape_8 rfl <| sd_pI fpX5_25 dX5_readTape_9 <| sd_aload_n dX5_readTape_12 rfl <| sd_iconst dX5_readTape_13 rfl <| sd_pI fpX5_29 dX5_readTape_14 <| sd_aload_n dX5_readTape_17 rfl <| sd_iconst dX5_readTape_18 rfl <| sd_pI fpX5_32 dX5_readTape_19 <| sd_aload_n dX5_readTape_22 rfl <| sd_iconst dX5_readTape_23 rfl <| sd_pI fpX5_35 dX5_readTape_24 <| sd_aload_n dX5_readTape_27 rfl <| sd_iconst dX5_readTape_28 rfl <| sd_pI fpX5_38 dX5_readTape_29 <| sd_aload_n dX5_readTape_32 rfl <| sd_iconst dX5_readTape_33 rfl <| sd_pZ fpX5_41 dX5_readTape_34 <| sd_aload_n dX5_readTape_37 rfl <| sd_vc tX5_takeToken (fun _ _ => rfl) rfl mwX5_takeToken mvX5_takeToken tw_296 (by decide) dX5_readTape_38 <| sd_zeq (tgt := 55) dX5_readTape_41 (by decide) sX5_readTape_55 <| sX5_readTape_44
def fX5_readTape : Mt Unit := mk_f 2 bX5_readTape_0
theorem tX5_readTape : Ct ev_v yX5_readTape cX5_readTape 2 none 6 129 fX5_readTape := ct_of (by decide +kernel) sX5_readTape_0
abbrev pX8_init : Px := (cX8_init, 2, RX8, "<init>", none, 4, 84, fun _ => True)
def bX8_init_183 : Kt Unit := o_rV
set_option maxRecDepth 100000 in
theorem sX8_init_183 : Sd pX8_init ev_v 183 (bX8_init_183) := (sd_rV rfl dX8_init_183)
def bX8_init_164 (K159 : Kt Unit) : Kt Unit := o_ald 0 <| o_gR 7 6 <| o_ild 1 <| o_new 2 [.null, .int 0, .int 0] <| o_dup <| o_nc 1 fX3_init <| o_sR 3 2 <| o_inc 1 1 <| K159
set_option maxRecDepth 100000 in
theorem sX8_init_164 {K159 : Kt Unit} (h159 : Sd pX8_init ev_v 159 K159) : Sd pX8_init ev_v 164 (bX8_init_164 K159) := sd_aload_n dX8_init_164 rfl <| sd_gR flX8_47 dX8_init_165 <| sd_iload_n dX8_init_168 rfl <| sd_new tyX3 rfl inTX3 tyX3_ok ⟨tw_377, tw_400, tw_69⟩ (by decide +kernel) rfl (fun _ => rfl) dX8_init_169 <| sd_dup dX8_init_172 <| sd_ncN tX3_init mwX3_init rfl mvX3_init tw_403 (by decide) dX8_init_173 <| sd_sR (t := 3) (ci := 2) rfl (fun _ => rfl) dX8_init_176 <| sd_iinc dX8_init_177 rfl (by decide) <| (sd_goto (tgt := 159) dX8_init_180 (by decide) h159)
def bX8_init_159 (K159 : Kt Unit) : Kt Unit := o_ild 1 <| o_psh (.int 4) <| o_cge (o_fg 0 (o_fg 1 bX8_init_183)) <| (bX8_init_164 K159)
set_option maxRecDepth 100000 in
theorem sX8_init_159 {K159 : Kt Unit} (h159 : Sd pX8_init ev_v 159 K159) : Sd pX8_init ev_v 159 (bX8_init_159 K159) := sd_iload_n dX8_init_159 rfl <| sd_iconst dX8_init_160 rfl <| sd_cge (tgt := 183) dX8_init_161 (by decide) (sd_fg (i := 0) (sd_fg (i := 1) sX8_init_183)) <| (sX8_init_164 h159)
def bX8_init_157 : Kt Unit := o_psh (.int 0) <| o_ist 1 <| (o_lp (bX8_init_159) fu)
set_option maxRecDepth 100000 in
theorem sX8_init_157 : Sd pX8_init ev_v 157 (bX8_init_157) := sd_iconst dX8_init_157 rfl <| sd_istore_n dX8_init_158 rfl (by decide) <| (sd_lp (fun K h => sX8_init_159 h) fu)
def bX8_init_138 (K133 : Kt Unit) : Kt Unit := o_ald 0 <| o_gR 7 1 <| o_ild 1 <| o_new 1 [.null, .null, .null, .null, .null, .null] <| o_dup <| o_nc 1 fX1_init <| o_sR 2 1 <| o_inc 1 1 <| K133
set_option maxRecDepth 100000 in
theorem sX8_init_138 {K133 : Kt Unit} (h133 : Sd pX8_init ev_v 133 K133) : Sd pX8_init ev_v 138 (bX8_init_138 K133) := sd_aload_n dX8_init_138 rfl <| sd_gR flX8_16 dX8_init_139 <| sd_iload_n dX8_init_142 rfl <| sd_new tyX1 rfl inTX1 tyX1_ok ⟨tw_360, tw_251, tw_87⟩ (by decide +kernel) rfl (fun _ => rfl) dX8_init_143 <| sd_dup dX8_init_146 <| sd_nc tX1_init mwX1_init rfl mvX1_init tw_361 (by decide) dX8_init_147 <| sd_sR (t := 2) (ci := 1) rfl (fun _ => rfl) dX8_init_150 <| sd_iinc dX8_init_151 rfl (by decide) <| (sd_goto (tgt := 133) dX8_init_154 (by decide) h133)
def bX8_init_133 (K133 : Kt Unit) : Kt Unit := o_ild 1 <| o_psh (.int 2) <| o_cge (o_fg 1 bX8_init_157) <| (bX8_init_138 K133)
set_option maxRecDepth 100000 in
theorem sX8_init_133 {K133 : Kt Unit} (h133 : Sd pX8_init ev_v 133 K133) : Sd pX8_init ev_v 133 (bX8_init_133 K133) := sd_iload_n dX8_init_133 rfl <| sd_iconst dX8_init_134 rfl <| sd_cge (tgt := 157) dX8_init_135 (by decide) (sd_fg (i := 1) sX8_init_157) <| (sX8_init_138 h133)
def bX8_init_82 : Kt Unit := o_ald 0 <| o_new 6 [.null, .null, .null] <| o_dup <| o_nc 1 fX7_init <| o_pR 7 7 <| o_ald 0 <| o_new 0 [.null, .null] <| o_dup <| o_nc 1 fX0_init <| o_pR 7 8 <| o_ald 0 <| o_new 3 [.null, .null, .null, .null, .null, .int 0, .int 0] <| o_dup <| o_nc 1 fX4_init <| o_pR 7 9 <| o_ald 0 <| o_psh (.int 10) <| o_nwI 0 <| o_pR 7 10 <| o_ald 0 <| o_psh (.int 90) <| o_nwI 0 <| o_pR 7 11 <| o_psh (.int 0) <| o_ist 1 <| (o_lp (bX8_init_133) fu)
set_option maxRecDepth 100000 in
theorem sX8_init_82 : Sd pX8_init ev_v 82 (bX8_init_82) := sd_aload_n dX8_init_82 rfl <| sd_new tyX7 rfl inTX7 tyX7_ok ⟨tw_380, tw_381, tw_124⟩ (by decide +kernel) rfl (fun _ => rfl) dX8_init_83 <| sd_dup dX8_init_86 <| sd_ncN tX7_init mwX7_init rfl mvX7_init tw_384 (by decide) dX8_init_87 <| sd_pR rfl (Or.inl ⟨_, rfl⟩) fpX8_54 dX8_init_90 <| sd_aload_n dX8_init_93 rfl <| sd_new tyX0 rfl inTX0 tyX0_ok ⟨tw_386, tw_387, tw_153⟩ (by decide +kernel) rfl (fun _ => rfl) dX8_init_94 <| sd_dup dX8_init_97 <| sd_ncN tX0_init mwX0_init rfl mvX0_init tw_390 (by decide) dX8_init_98 <| sd_pR rfl (Or.inl ⟨_, rfl⟩) fpX8_61 dX8_init_101 <| sd_aload_n dX8_init_104 rfl <| sd_new tyX4 rfl inTX4 tyX4_ok ⟨tw_392, tw_393, tw_208⟩ (by decide +kernel) rfl (fun _ => rfl) dX8_init_105 <| sd_dup dX8_init_108 <| sd_ncN tX4_init mwX4_init rfl mvX4_init tw_396 (by decide) dX8_init_109 <| sd_pR rfl (Or.inl ⟨_, rfl⟩) fpX8_68 dX8_init_112 <| sd_aload_n dX8_init_115 rfl <| sd_bipush dX8_init_116 rfl <| sd_nwI (t := 0) (aty := .int) (tn := .int) rfl rfl (fun _ => rfl) (fun _ _ h => h) hby_int tw_37 dX8_init_118 <| sd_pR rfl (Or.inr ⟨_, rfl⟩) fpX8_72 dX8_init_120 <| sd_aload_n dX8_init_123 rfl <| sd_bipush dX8_init_124 rfl <| sd_nwI (t := 0) (aty := .int) (tn := .int) rfl rfl (fun _ => rfl) (fun _ _ h => h) hby_int tw_37 dX8_init_126 <| sd_pR rfl (Or.inr ⟨_, rfl⟩) fpX8_76 dX8_init_128 <| sd_iconst dX8_init_131 rfl <| sd_istore_n dX8_init_132 rfl (by decide) <| (sd_lp (fun K h => sX8_init_133 h) fu)
def bX8_init_0 : Kt Unit := o_ald 0 <| o_oin <| o_ald 0 <| o_new 1 [.null, .null, .null, .null, .null, .null] <| o_dup <| o_nc 1 fX1_init <| o_pR 7 0 <| o_ald 0 <| o_psh (.int 2) <| o_nwR 2 <| o_pR 7 1 <| o_ald 0 <| o_psh (.int 2) <| o_nwI 1 <| o_pR 7 2 <| o_ald 0 <| o_new 5 [.int 0, .int 0, .null, .int 0] <| o_dup <| o_psh (.int 4) <| o_psh (.int 6) <| o_nc 3 fX6_init <| o_pR 7 3 <| o_ald 0 <| o_new 5 [.int 0, .int 0, .null, .int 0] <| o_dup <| o_psh (.int 1) <| o_psh (.int 160) <| o_nc 3 fX6_init <| o_pR 7 4 <| o_ald 0 <| o_new 4 [.null, .null, .int 0, .int 0, .int 0, .int 0, .int 0, .int 0, .int 0, .int 0, .int 0] <| o_dup <| o_ald 0 <| o_gR 7 4 <| o_nc 2 fX5_init <| o_pR 7 5 <| o_ald 0 <| o_psh (.int 4) <| o_nwR 3 <| o_pR 7 6 <| bX8_init_82
set_option maxRecDepth 100000 in
theorem sX8_init_0 : Sd pX8_init ev_v 0 (bX8_init_0) := sd_aload_n dX8_init_0 rfl <| sd_oin ⟨tw_359, tw_29, tw_30⟩ (by decide) dX8_init_1 <| sd_aload_n dX8_init_4 rfl <| sd_new tyX1 rfl inTX1 tyX1_ok ⟨tw_360, tw_251, tw_87⟩ (by decide +kernel) rfl (fun _ => rfl) dX8_init_5 <| sd_dup dX8_init_8 <| sd_nc tX1_init mwX1_init rfl mvX1_init tw_361 (by decide) dX8_init_9 <| sd_pR rfl (Or.inl ⟨_, rfl⟩) fpX8_10 dX8_init_12 <| sd_aload_n dX8_init_15 rfl <| sd_iconst dX8_init_16 rfl <| sd_nwR (t := 2) (fun _ => rfl) tw_360 tw_363 dX8_init_17 <| sd_pR rfl (Or.inr ⟨_, rfl⟩) fpX8_16 dX8_init_20 <| sd_aload_n dX8_init_23 rfl <| sd_iconst dX8_init_24 rfl <| sd_nwI (t := 1) (aty := .boolean) (tn := .boolean) rfl rfl (fun _ => rfl) (fun _ _ h => h) hby_boolean tw_365 dX8_init_25 <| sd_pR rfl (Or.inr ⟨_, rfl⟩) fpX8_20 dX8_init_27 <| sd_aload_n dX8_init_30 rfl <| sd_new tyX6 rfl inTX6 tyX6_ok ⟨tw_367, tw_82, tw_41⟩ (by decide +kernel) rfl (fun _ => rfl) dX8_init_31 <| sd_dup dX8_init_34 <| sd_iconst dX8_init_35 rfl <| sd_bipush dX8_init_36 rfl <| sd_nc tX6_init mwX6_init rfl mvX6_init tw_368 (by decide) dX8_init_38 <| sd_pR rfl (Or.inl ⟨_, rfl⟩) fpX8_29 dX8_init_41 <| sd_aload_n dX8_init_44 rfl <| sd_new tyX6 rfl inTX6 tyX6_ok ⟨tw_367, tw_82, tw_41⟩ (by decide +kernel) rfl (fun _ => rfl) dX8_init_45 <| sd_dup dX8_init_48 <| sd_iconst dX8_init_49 rfl <| sd_sipush dX8_init_50 rfl <| sd_nc tX6_init mwX6_init rfl mvX6_init tw_368 (by decide) dX8_init_53 <| sd_pR rfl (Or.inl ⟨_, rfl⟩) fpX8_33 dX8_init_56 <| sd_aload_n dX8_init_59 rfl <| sd_new tyX5 rfl inTX5 tyX5_ok ⟨tw_371, tw_372, tw_261⟩ (by decide +kernel) rfl (fun _ => rfl) dX8_init_60 <| sd_dup dX8_init_63 <| sd_aload_n dX8_init_64 rfl <| sd_gR flX8_33 dX8_init_65 <| sd_nc tX5_init mwX5_init rfl mvX5_init tw_375 (by decide) dX8_init_68 <| sd_pR rfl (Or.inl ⟨_, rfl⟩) fpX8_41 dX8_init_71 <| sd_aload_n dX8_init_74 rfl <| sd_iconst dX8_init_75 rfl <| sd_nwR (t := 3) (fun _ => rfl) tw_377 tw_378 dX8_init_76 <| sd_pR rfl (Or.inr ⟨_, rfl⟩) fpX8_47 dX8_init_79 <| sX8_init_82
def fX8_init : Mt Unit := mk_f 2 bX8_init_0
theorem tX8_init : Ct ev_v yX8_init cX8_init 2 none 4 84 fX8_init := ct_of (by decide +kernel) sX8_init_0
