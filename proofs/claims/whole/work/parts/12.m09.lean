abbrev pX9_seeingBut : Px := (cX9_seeingBut, 5, RX9, "seeingBut", (some .int), 3, 67, fun _ => True)
def bX9_seeingBut_72 : Kt Int32 := o_ild 2 <| o_rI
set_option maxRecDepth 100000 in
theorem sX9_seeingBut_72 : Sd pX9_seeingBut ev_i 72 (bX9_seeingBut_72) := sd_iload_n dX9_seeingBut_72 rfl <| (sd_rI rfl dX9_seeingBut_73)
def bX9_seeingBut_64 (K7 : Kt Int32) : Kt Int32 := o_i2 o_or <| o_ist 2 <| o_inc 4 1 <| K7
set_option maxRecDepth 100000 in
theorem sX9_seeingBut_64 {K7 : Kt Int32} (h7 : Sd pX9_seeingBut ev_i 7 K7) : Sd pX9_seeingBut ev_i 64 (bX9_seeingBut_64 K7) := sd_ior dX9_seeingBut_64 <| sd_istore_n dX9_seeingBut_65 rfl (by decide) <| sd_iinc dX9_seeingBut_66 rfl (by decide) <| (sd_goto (tgt := 7) dX9_seeingBut_69 (by decide) h7)
def bX9_seeingBut_63 (K7 : Kt Int32) : Kt Int32 := o_psh (.int 0) <| (bX9_seeingBut_64 K7)
set_option maxRecDepth 100000 in
theorem sX9_seeingBut_63 {K7 : Kt Int32} (h7 : Sd pX9_seeingBut ev_i 7 K7) : Sd pX9_seeingBut ev_i 63 (bX9_seeingBut_63 K7) := sd_iconst dX9_seeingBut_63 rfl <| (sX9_seeingBut_64 h7)
def bX9_seeingBut_56 (K7 : Kt Int32) : Kt Int32 := o_psh (.int 1) <| o_ild 4 <| o_i2 o_shl <| (bX9_seeingBut_64 K7)
set_option maxRecDepth 100000 in
theorem sX9_seeingBut_56 {K7 : Kt Int32} (h7 : Sd pX9_seeingBut ev_i 7 K7) : Sd pX9_seeingBut ev_i 56 (bX9_seeingBut_56 K7) := sd_iconst dX9_seeingBut_56 rfl <| sd_iload dX9_seeingBut_57 <| sd_ishl dX9_seeingBut_59 <| (sd_goto (tgt := 64) dX9_seeingBut_60 (by decide) (sX9_seeingBut_64 h7))
def bX9_seeingBut_47 (K7 : Kt Int32) : Kt Int32 := o_ald 0 <| o_ild 4 <| o_vc ev_i 8 2 fX9_doesSee <| o_zeq (bX9_seeingBut_63 K7) <| (bX9_seeingBut_56 K7)
set_option maxRecDepth 100000 in
theorem sX9_seeingBut_47 {K7 : Kt Int32} (h7 : Sd pX9_seeingBut ev_i 7 K7) : Sd pX9_seeingBut ev_i 47 (bX9_seeingBut_47 K7) := sd_aload_n dX9_seeingBut_47 rfl <| sd_iload dX9_seeingBut_48 <| sd_vc tX9_doesSee (fun _ _ => rfl) rfl mwX9_doesSee mvX9_doesSee tw_697 (by decide) dX9_seeingBut_50 <| sd_zeq (tgt := 63) dX9_seeingBut_53 (by decide) (sX9_seeingBut_63 h7) <| (sX9_seeingBut_56 h7)
def bX9_seeingBut_41 (K7 : Kt Int32) : Kt Int32 := o_ist 3 <| o_ild 2 <| o_ild 3 <| o_zeq (o_fg 2 (bX9_seeingBut_63 K7)) <| (o_fg 2 (bX9_seeingBut_47 K7))
set_option maxRecDepth 100000 in
theorem sX9_seeingBut_41 {K7 : Kt Int32} (h7 : Sd pX9_seeingBut ev_i 7 K7) : Sd pX9_seeingBut ev_i 41 (bX9_seeingBut_41 K7) := sd_istore_n dX9_seeingBut_41 rfl (by decide) <| sd_iload_n dX9_seeingBut_42 rfl <| sd_iload_n dX9_seeingBut_43 rfl <| sd_zeq (tgt := 63) dX9_seeingBut_44 (by decide) (sd_fg (i := 2) (sX9_seeingBut_63 h7)) <| (sd_fg (i := 2) (sX9_seeingBut_47 h7))
def bX9_seeingBut_40 (K7 : Kt Int32) : Kt Int32 := o_ild 3 <| (o_fg 3 (bX9_seeingBut_41 K7))
set_option maxRecDepth 100000 in
theorem sX9_seeingBut_40 {K7 : Kt Int32} (h7 : Sd pX9_seeingBut ev_i 7 K7) : Sd pX9_seeingBut ev_i 40 (bX9_seeingBut_40 K7) := sd_iload_n dX9_seeingBut_40 rfl <| (sd_fg (i := 3) (sX9_seeingBut_41 h7))
def bX9_seeingBut_36 (K7 : Kt Int32) : Kt Int32 := o_psh (.int 0) <| (bX9_seeingBut_41 K7)
set_option maxRecDepth 100000 in
theorem sX9_seeingBut_36 {K7 : Kt Int32} (h7 : Sd pX9_seeingBut ev_i 7 K7) : Sd pX9_seeingBut ev_i 36 (bX9_seeingBut_36 K7) := sd_iconst dX9_seeingBut_36 rfl <| (sd_goto (tgt := 41) dX9_seeingBut_37 (by decide) (sX9_seeingBut_41 h7))
def bX9_seeingBut_32 (K7 : Kt Int32) : Kt Int32 := o_psh (.int 1) <| (bX9_seeingBut_41 K7)
set_option maxRecDepth 100000 in
theorem sX9_seeingBut_32 {K7 : Kt Int32} (h7 : Sd pX9_seeingBut ev_i 7 K7) : Sd pX9_seeingBut ev_i 32 (bX9_seeingBut_32 K7) := sd_iconst dX9_seeingBut_32 rfl <| (sd_goto (tgt := 41) dX9_seeingBut_33 (by decide) (sX9_seeingBut_41 h7))
def bX9_seeingBut_23 (K7 : Kt Int32) : Kt Int32 := o_ild 1 <| o_ild 4 <| o_i2 o_shr <| o_psh (.int 1) <| o_i2 o_and <| o_zne (bX9_seeingBut_36 K7) <| (bX9_seeingBut_32 K7)
set_option maxRecDepth 100000 in
theorem sX9_seeingBut_23 {K7 : Kt Int32} (h7 : Sd pX9_seeingBut ev_i 7 K7) : Sd pX9_seeingBut ev_i 23 (bX9_seeingBut_23 K7) := sd_iload_n dX9_seeingBut_23 rfl <| sd_iload dX9_seeingBut_24 <| sd_ishr dX9_seeingBut_26 <| sd_iconst dX9_seeingBut_27 rfl <| sd_iand dX9_seeingBut_28 <| sd_zne (tgt := 36) dX9_seeingBut_29 (by decide) (sX9_seeingBut_36 h7) <| (sX9_seeingBut_32 h7)
def bX9_seeingBut_14 (K7 : Kt Int32) : Kt Int32 := o_ald 0 <| o_ild 4 <| o_vc ev_i 8 2 fX9_isHandOver <| o_zeq (bX9_seeingBut_40 K7) <| (o_fg 3 (bX9_seeingBut_23 K7))
set_option maxRecDepth 100000 in
theorem sX9_seeingBut_14 {K7 : Kt Int32} (h7 : Sd pX9_seeingBut ev_i 7 K7) : Sd pX9_seeingBut ev_i 14 (bX9_seeingBut_14 K7) := sd_aload_n dX9_seeingBut_14 rfl <| sd_iload dX9_seeingBut_15 <| sd_vc tX9_isHandOver (fun _ _ => rfl) rfl mwX9_isHandOver mvX9_isHandOver tw_785 (by decide) dX9_seeingBut_17 <| sd_zeq (tgt := 40) dX9_seeingBut_20 (by decide) (sX9_seeingBut_40 h7) <| (sd_fg (i := 3) (sX9_seeingBut_23 h7))
def bX9_seeingBut_7 (K7 : Kt Int32) : Kt Int32 := o_ild 4 <| o_psh (.int 10) <| o_cge (o_fg 0 (o_fg 1 (o_fg 3 (o_fg 4 bX9_seeingBut_72)))) <| (bX9_seeingBut_14 K7)
set_option maxRecDepth 100000 in
theorem sX9_seeingBut_7 {K7 : Kt Int32} (h7 : Sd pX9_seeingBut ev_i 7 K7) : Sd pX9_seeingBut ev_i 7 (bX9_seeingBut_7 K7) := sd_iload dX9_seeingBut_7 <| sd_bipush dX9_seeingBut_9 rfl <| sd_cge (tgt := 72) dX9_seeingBut_11 (by decide) (sd_fg (i := 0) (sd_fg (i := 1) (sd_fg (i := 3) (sd_fg (i := 4) sX9_seeingBut_72)))) <| (sX9_seeingBut_14 h7)
def bX9_seeingBut_0 : Kt Int32 := o_psh (.int 0) <| o_ist 2 <| o_psh (.int 0) <| o_ist 3 <| o_psh (.int 0) <| o_ist 4 <| (o_lp (bX9_seeingBut_7) fu)
set_option maxRecDepth 100000 in
theorem sX9_seeingBut_0 : Sd pX9_seeingBut ev_i 0 (bX9_seeingBut_0) := sd_iconst dX9_seeingBut_0 rfl <| sd_istore_n dX9_seeingBut_1 rfl (by decide) <| sd_iconst dX9_seeingBut_2 rfl <| sd_istore_n dX9_seeingBut_3 rfl (by decide) <| sd_iconst dX9_seeingBut_4 rfl <| sd_istore dX9_seeingBut_5 (by decide) <| (sd_lp (fun K h => sX9_seeingBut_7 h) fu)
def fX9_seeingBut : Mt Int32 := mk_f 5 bX9_seeingBut_0
theorem tX9_seeingBut : Ct ev_i yX9_seeingBut cX9_seeingBut 5 (some .int) 3 67 fX9_seeingBut := ct_of (by decide +kernel) sX9_seeingBut_0
abbrev pX9_byMissed : Px := (cX9_byMissed, 13, RX9, "byMissed", (some .long), 4, 91, fun _ => True)
def bX9_byMissed_202 : Kt Int64 := o_lld 5 <| o_lld 7 <| o_ild 3 <| o_sc ev_l 3 fX9_lowest <| o_rL
set_option maxRecDepth 100000 in
theorem sX9_byMissed_202 : Sd pX9_byMissed ev_l 202 (bX9_byMissed_202) := sd_lload dX9_byMissed_202 <| sd_lload dX9_byMissed_204 <| sd_iload_n dX9_byMissed_206 rfl <| sd_sc tX9_lowest (fun _ _ => rfl) mwX9_lowest mvX9_lowest tw_792 (by decide) dX9_byMissed_207 <| (sd_rL rfl dX9_byMissed_210)
def bX9_byMissed_196 (K77 : Kt Int64) : Kt Int64 := o_inc 9 1 <| K77
set_option maxRecDepth 100000 in
theorem sX9_byMissed_196 {K77 : Kt Int64} (h77 : Sd pX9_byMissed ev_l 77 K77) : Sd pX9_byMissed ev_l 196 (bX9_byMissed_196 K77) := sd_iinc dX9_byMissed_196 rfl (by decide) <| (sd_goto (tgt := 77) dX9_byMissed_199 (by decide) h77)
def bX9_byMissed_191 (K77 : Kt Int64) : Kt Int64 := o_i2l <| o_l2 o_lmul <| o_l2 o_ladd <| o_lst 5 <| (bX9_byMissed_196 K77)
set_option maxRecDepth 100000 in
theorem sX9_byMissed_191 {K77 : Kt Int64} (h77 : Sd pX9_byMissed ev_l 77 K77) : Sd pX9_byMissed ev_l 191 (bX9_byMissed_191 K77) := sd_i2l dX9_byMissed_191 <| sd_lmul dX9_byMissed_192 <| sd_ladd dX9_byMissed_193 <| sd_lstore dX9_byMissed_194 (by decide) <| (sX9_byMissed_196 h77)
def bX9_byMissed_185 (K77 : Kt Int64) : Kt Int64 := o_ild 12 <| o_ild 2 <| o_i2 o_shr <| o_psh (.int 1) <| o_i2 o_and <| (o_fg 12 (bX9_byMissed_191 K77))
set_option maxRecDepth 100000 in
theorem sX9_byMissed_185 {K77 : Kt Int64} (h77 : Sd pX9_byMissed ev_l 77 K77) : Sd pX9_byMissed ev_l 185 (bX9_byMissed_185 K77) := sd_iload dX9_byMissed_185 <| sd_iload_n dX9_byMissed_187 rfl <| sd_ishr dX9_byMissed_188 <| sd_iconst dX9_byMissed_189 rfl <| sd_iand dX9_byMissed_190 <| (sd_fg (i := 12) (sX9_byMissed_191 h77))
def bX9_byMissed_176 (K77 : Kt Int64) : Kt Int64 := o_ald 0 <| o_ild 12 <| o_vc ev_i 8 2 fX9_worthOf <| (o_fg 12 (bX9_byMissed_191 K77))
set_option maxRecDepth 100000 in
theorem sX9_byMissed_176 {K77 : Kt Int64} (h77 : Sd pX9_byMissed ev_l 77 K77) : Sd pX9_byMissed ev_l 176 (bX9_byMissed_176 K77) := sd_aload_n dX9_byMissed_176 rfl <| sd_iload dX9_byMissed_177 <| sd_vc tX9_worthOf (fun _ _ => rfl) rfl mwX9_worthOf mvX9_worthOf tw_738 (by decide) dX9_byMissed_179 <| (sd_goto (tgt := 191) dX9_byMissed_182 (by decide) (sd_fg (i := 12) (sX9_byMissed_191 h77)))
def bX9_byMissed_154 (K77 : Kt Int64) : Kt Int64 := o_ald 0 <| o_ald 0 <| o_ild 9 <| o_vc ev_i 8 2 fX9_seeingBut <| o_vc ev_i 8 2 fX9_doneBy <| o_ist 12 <| o_lld 5 <| o_lld 10 <| o_ild 2 <| o_psh (.int (-4)) <| o_cne (o_fg 5 (o_fg 10 (bX9_byMissed_185 K77))) <| (o_fg 5 (o_fg 10 (bX9_byMissed_176 K77)))
set_option maxRecDepth 100000 in
theorem sX9_byMissed_154 {K77 : Kt Int64} (h77 : Sd pX9_byMissed ev_l 77 K77) : Sd pX9_byMissed ev_l 154 (bX9_byMissed_154 K77) := sd_aload_n dX9_byMissed_154 rfl <| sd_aload_n dX9_byMissed_155 rfl <| sd_iload dX9_byMissed_156 <| sd_vc tX9_seeingBut (fun _ _ => rfl) rfl mwX9_seeingBut mvX9_seeingBut tw_789 (by decide) dX9_byMissed_158 <| sd_vc tX9_doneBy (fun _ _ => rfl) rfl mwX9_doneBy mvX9_doneBy tw_734 (by decide) dX9_byMissed_161 <| sd_istore dX9_byMissed_164 (by decide) <| sd_lload dX9_byMissed_166 <| sd_lload dX9_byMissed_168 <| sd_iload_n dX9_byMissed_170 rfl <| sd_bipush dX9_byMissed_171 rfl <| sd_cne (tgt := 185) dX9_byMissed_173 (by decide) (sd_fg (i := 5) (sd_fg (i := 10) (sX9_byMissed_185 h77))) <| (sd_fg (i := 5) (sd_fg (i := 10) (sX9_byMissed_176 h77)))
def bX9_byMissed_145 (K77 : Kt Int64) (K101 : Kt Int64) : Kt Int64 := o_l2 o_lmul <| o_lst 10 <| o_inc 12 1 <| K101
set_option maxRecDepth 100000 in
theorem sX9_byMissed_145 {K77 : Kt Int64} (h77 : Sd pX9_byMissed ev_l 77 K77) {K101 : Kt Int64} (h101 : Sd pX9_byMissed ev_l 101 K101) : Sd pX9_byMissed ev_l 145 (bX9_byMissed_145 K77 K101) := sd_lmul dX9_byMissed_145 <| sd_lstore dX9_byMissed_146 (by decide) <| sd_iinc dX9_byMissed_148 rfl (by decide) <| (sd_goto (tgt := 101) dX9_byMissed_151 (by decide) h101)
def bX9_byMissed_140 (K77 : Kt Int64) (K101 : Kt Int64) : Kt Int64 := o_psh (.int 10) <| o_ild 1 <| o_i2 o_sub <| o_i2l <| (bX9_byMissed_145 K77 K101)
set_option maxRecDepth 100000 in
theorem sX9_byMissed_140 {K77 : Kt Int64} (h77 : Sd pX9_byMissed ev_l 77 K77) {K101 : Kt Int64} (h101 : Sd pX9_byMissed ev_l 101 K101) : Sd pX9_byMissed ev_l 140 (bX9_byMissed_140 K77 K101) := sd_bipush dX9_byMissed_140 rfl <| sd_iload_n dX9_byMissed_142 rfl <| sd_isub dX9_byMissed_143 <| sd_i2l dX9_byMissed_144 <| (sX9_byMissed_145 h77 h101)
def bX9_byMissed_135 (K77 : Kt Int64) (K101 : Kt Int64) : Kt Int64 := o_ild 1 <| o_i2l <| (bX9_byMissed_145 K77 K101)
set_option maxRecDepth 100000 in
theorem sX9_byMissed_135 {K77 : Kt Int64} (h77 : Sd pX9_byMissed ev_l 77 K77) {K101 : Kt Int64} (h101 : Sd pX9_byMissed ev_l 101 K101) : Sd pX9_byMissed ev_l 135 (bX9_byMissed_135 K77 K101) := sd_iload_n dX9_byMissed_135 rfl <| sd_i2l dX9_byMissed_136 <| (sd_goto (tgt := 145) dX9_byMissed_137 (by decide) (sX9_byMissed_145 h77 h101))
def bX9_byMissed_124 (K77 : Kt Int64) (K101 : Kt Int64) : Kt Int64 := o_ild 9 <| o_ild 12 <| o_i2 o_shr <| o_psh (.int 1) <| o_i2 o_and <| o_psh (.int 1) <| o_cne (bX9_byMissed_140 K77 K101) <| (bX9_byMissed_135 K77 K101)
set_option maxRecDepth 100000 in
theorem sX9_byMissed_124 {K77 : Kt Int64} (h77 : Sd pX9_byMissed ev_l 77 K77) {K101 : Kt Int64} (h101 : Sd pX9_byMissed ev_l 101 K101) : Sd pX9_byMissed ev_l 124 (bX9_byMissed_124 K77 K101) := sd_iload dX9_byMissed_124 <| sd_iload dX9_byMissed_126 <| sd_ishr dX9_byMissed_128 <| sd_iconst dX9_byMissed_129 rfl <| sd_iand dX9_byMissed_130 <| sd_iconst dX9_byMissed_131 rfl <| sd_cne (tgt := 140) dX9_byMissed_132 (by decide) (sX9_byMissed_140 h77 h101) <| (sX9_byMissed_135 h77 h101)
def bX9_byMissed_120 (K77 : Kt Int64) (K101 : Kt Int64) : Kt Int64 := o_psh (.long 1) <| (bX9_byMissed_145 K77 K101)
set_option maxRecDepth 100000 in
theorem sX9_byMissed_120 {K77 : Kt Int64} (h77 : Sd pX9_byMissed ev_l 77 K77) {K101 : Kt Int64} (h101 : Sd pX9_byMissed ev_l 101 K101) : Sd pX9_byMissed ev_l 120 (bX9_byMissed_120 K77 K101) := sd_lconst dX9_byMissed_120 rfl <| (sd_goto (tgt := 145) dX9_byMissed_121 (by decide) (sX9_byMissed_145 h77 h101))
def bX9_byMissed_108 (K77 : Kt Int64) (K101 : Kt Int64) : Kt Int64 := o_lld 10 <| o_ild 4 <| o_ild 12 <| o_i2 o_shr <| o_psh (.int 1) <| o_i2 o_and <| o_zne (o_fg 10 (bX9_byMissed_124 K77 K101)) <| (o_fg 10 (bX9_byMissed_120 K77 K101))
set_option maxRecDepth 100000 in
theorem sX9_byMissed_108 {K77 : Kt Int64} (h77 : Sd pX9_byMissed ev_l 77 K77) {K101 : Kt Int64} (h101 : Sd pX9_byMissed ev_l 101 K101) : Sd pX9_byMissed ev_l 108 (bX9_byMissed_108 K77 K101) := sd_lload dX9_byMissed_108 <| sd_iload dX9_byMissed_110 <| sd_iload dX9_byMissed_112 <| sd_ishr dX9_byMissed_114 <| sd_iconst dX9_byMissed_115 rfl <| sd_iand dX9_byMissed_116 <| sd_zne (tgt := 124) dX9_byMissed_117 (by decide) (sd_fg (i := 10) (sX9_byMissed_124 h77 h101)) <| (sd_fg (i := 10) (sX9_byMissed_120 h77 h101))
def bX9_byMissed_101 (K77 : Kt Int64) (K101 : Kt Int64) : Kt Int64 := o_ild 12 <| o_psh (.int 10) <| o_cge (o_fg 12 (bX9_byMissed_154 K77)) <| (bX9_byMissed_108 K77 K101)
set_option maxRecDepth 100000 in
theorem sX9_byMissed_101 {K77 : Kt Int64} (h77 : Sd pX9_byMissed ev_l 77 K77) {K101 : Kt Int64} (h101 : Sd pX9_byMissed ev_l 101 K101) : Sd pX9_byMissed ev_l 101 (bX9_byMissed_101 K77 K101) := sd_iload dX9_byMissed_101 <| sd_bipush dX9_byMissed_103 rfl <| sd_cge (tgt := 154) dX9_byMissed_105 (by decide) (sd_fg (i := 12) (sX9_byMissed_154 h77)) <| (sX9_byMissed_108 h77 h101)
def bX9_byMissed_95 (K77 : Kt Int64) : Kt Int64 := o_psh (.long 1) <| o_lst 10 <| o_psh (.int 0) <| o_ist 12 <| (o_lp (bX9_byMissed_101 K77) fu)
set_option maxRecDepth 100000 in
theorem sX9_byMissed_95 {K77 : Kt Int64} (h77 : Sd pX9_byMissed ev_l 77 K77) : Sd pX9_byMissed ev_l 95 (bX9_byMissed_95 K77) := sd_lconst dX9_byMissed_95 rfl <| sd_lstore dX9_byMissed_96 (by decide) <| sd_iconst dX9_byMissed_98 rfl <| sd_istore dX9_byMissed_99 (by decide) <| (sd_lp (fun K h => sX9_byMissed_101 h77 h) fu)
def bX9_byMissed_85 (K77 : Kt Int64) : Kt Int64 := o_ild 9 <| o_ild 4 <| o_psh (.int (-1)) <| o_i2 o_xor <| o_i2 o_and <| o_zne (bX9_byMissed_196 K77) <| (bX9_byMissed_95 K77)
set_option maxRecDepth 100000 in
theorem sX9_byMissed_85 {K77 : Kt Int64} (h77 : Sd pX9_byMissed ev_l 77 K77) : Sd pX9_byMissed ev_l 85 (bX9_byMissed_85 K77) := sd_iload dX9_byMissed_85 <| sd_iload dX9_byMissed_87 <| sd_iconst dX9_byMissed_89 rfl <| sd_ixor dX9_byMissed_90 <| sd_iand dX9_byMissed_91 <| sd_zne (tgt := 196) dX9_byMissed_92 (by decide) (sX9_byMissed_196 h77) <| (sX9_byMissed_95 h77)
def bX9_byMissed_77 (K77 : Kt Int64) : Kt Int64 := o_ild 9 <| o_psh (.int 1024) <| o_cge (o_fg 0 (o_fg 1 (o_fg 2 (o_fg 4 (o_fg 9 bX9_byMissed_202))))) <| (bX9_byMissed_85 K77)
set_option maxRecDepth 100000 in
theorem sX9_byMissed_77 {K77 : Kt Int64} (h77 : Sd pX9_byMissed ev_l 77 K77) : Sd pX9_byMissed ev_l 77 (bX9_byMissed_77 K77) := sd_iload dX9_byMissed_77 <| sd_sipush dX9_byMissed_79 rfl <| sd_cge (tgt := 202) dX9_byMissed_82 (by decide) (sd_fg (i := 0) (sd_fg (i := 1) (sd_fg (i := 2) (sd_fg (i := 4) (sd_fg (i := 9) sX9_byMissed_202))))) <| (sX9_byMissed_85 h77)
def bX9_byMissed_74 : Kt Int64 := o_psh (.int 0) <| o_ist 9 <| (o_lp (bX9_byMissed_77) fu)
set_option maxRecDepth 100000 in
theorem sX9_byMissed_74 : Sd pX9_byMissed ev_l 74 (bX9_byMissed_74) := sd_iconst dX9_byMissed_74 rfl <| sd_istore dX9_byMissed_75 (by decide) <| (sd_lp (fun K h => sX9_byMissed_77 h) fu)
def bX9_byMissed_60 (K50 : Kt Int64) : Kt Int64 := o_lld 7 <| o_psh (.long 10) <| o_l2 o_lmul <| o_lst 7 <| o_inc 9 1 <| K50
set_option maxRecDepth 100000 in
theorem sX9_byMissed_60 {K50 : Kt Int64} (h50 : Sd pX9_byMissed ev_l 50 K50) : Sd pX9_byMissed ev_l 60 (bX9_byMissed_60 K50) := sd_lload dX9_byMissed_60 <| sd_ldc2 tw_769 dX9_byMissed_62 <| sd_lmul dX9_byMissed_65 <| sd_lstore dX9_byMissed_66 (by decide) <| sd_iinc dX9_byMissed_68 rfl (by decide) <| (sd_goto (tgt := 50) dX9_byMissed_71 (by decide) h50)
def bX9_byMissed_50 (K50 : Kt Int64) : Kt Int64 := o_ild 9 <| o_ild 4 <| o_sc ev_i 1 fX9_bitsOf <| o_cge (o_fg 9 bX9_byMissed_74) <| (bX9_byMissed_60 K50)
set_option maxRecDepth 100000 in
theorem sX9_byMissed_50 {K50 : Kt Int64} (h50 : Sd pX9_byMissed ev_l 50 K50) : Sd pX9_byMissed ev_l 50 (bX9_byMissed_50 K50) := sd_iload dX9_byMissed_50 <| sd_iload dX9_byMissed_52 <| sd_sc tX9_bitsOf (fun _ _ => rfl) mwX9_bitsOf mvX9_bitsOf tw_781 (by decide) dX9_byMissed_54 <| sd_cge (tgt := 74) dX9_byMissed_57 (by decide) (sd_fg (i := 9) sX9_byMissed_74) <| (sX9_byMissed_60 h50)
def bX9_byMissed_41 : Kt Int64 := o_psh (.long 0) <| o_lst 5 <| o_psh (.long 1) <| o_lst 7 <| o_psh (.int 0) <| o_ist 9 <| (o_lp (bX9_byMissed_50) fu)
set_option maxRecDepth 100000 in
theorem sX9_byMissed_41 : Sd pX9_byMissed ev_l 41 (bX9_byMissed_41) := sd_lconst dX9_byMissed_41 rfl <| sd_lstore dX9_byMissed_42 (by decide) <| sd_lconst dX9_byMissed_44 rfl <| sd_lstore dX9_byMissed_45 (by decide) <| sd_iconst dX9_byMissed_47 rfl <| sd_istore dX9_byMissed_48 (by decide) <| (sd_lp (fun K h => sX9_byMissed_50 h) fu)
def bX9_byMissed_32 (K6 : Kt Int64) : Kt Int64 := o_i2 o_or <| o_ist 4 <| o_inc 5 1 <| K6
set_option maxRecDepth 100000 in
theorem sX9_byMissed_32 {K6 : Kt Int64} (h6 : Sd pX9_byMissed ev_l 6 K6) : Sd pX9_byMissed ev_l 32 (bX9_byMissed_32 K6) := sd_ior dX9_byMissed_32 <| sd_istore dX9_byMissed_33 (by decide) <| sd_iinc dX9_byMissed_35 rfl (by decide) <| (sd_goto (tgt := 6) dX9_byMissed_38 (by decide) h6)
def bX9_byMissed_31 (K6 : Kt Int64) : Kt Int64 := o_psh (.int 0) <| (bX9_byMissed_32 K6)
set_option maxRecDepth 100000 in
theorem sX9_byMissed_31 {K6 : Kt Int64} (h6 : Sd pX9_byMissed ev_l 6 K6) : Sd pX9_byMissed ev_l 31 (bX9_byMissed_31 K6) := sd_iconst dX9_byMissed_31 rfl <| (sX9_byMissed_32 h6)
def bX9_byMissed_24 (K6 : Kt Int64) : Kt Int64 := o_psh (.int 1) <| o_ild 5 <| o_i2 o_shl <| (bX9_byMissed_32 K6)
set_option maxRecDepth 100000 in
theorem sX9_byMissed_24 {K6 : Kt Int64} (h6 : Sd pX9_byMissed ev_l 6 K6) : Sd pX9_byMissed ev_l 24 (bX9_byMissed_24 K6) := sd_iconst dX9_byMissed_24 rfl <| sd_iload dX9_byMissed_25 <| sd_ishl dX9_byMissed_27 <| (sd_goto (tgt := 32) dX9_byMissed_28 (by decide) (sX9_byMissed_32 h6))
def bX9_byMissed_13 (K6 : Kt Int64) : Kt Int64 := o_ild 4 <| o_ald 0 <| o_ild 5 <| o_vc ev_i 8 2 fX9_isHandOver <| o_zeq (o_fg 4 (bX9_byMissed_31 K6)) <| (o_fg 4 (bX9_byMissed_24 K6))
set_option maxRecDepth 100000 in
theorem sX9_byMissed_13 {K6 : Kt Int64} (h6 : Sd pX9_byMissed ev_l 6 K6) : Sd pX9_byMissed ev_l 13 (bX9_byMissed_13 K6) := sd_iload dX9_byMissed_13 <| sd_aload_n dX9_byMissed_15 rfl <| sd_iload dX9_byMissed_16 <| sd_vc tX9_isHandOver (fun _ _ => rfl) rfl mwX9_isHandOver mvX9_isHandOver tw_785 (by decide) dX9_byMissed_18 <| sd_zeq (tgt := 31) dX9_byMissed_21 (by decide) (sd_fg (i := 4) (sX9_byMissed_31 h6)) <| (sd_fg (i := 4) (sX9_byMissed_24 h6))
def bX9_byMissed_6 (K6 : Kt Int64) : Kt Int64 := o_ild 5 <| o_psh (.int 10) <| o_cge (o_fg 5 bX9_byMissed_41) <| (bX9_byMissed_13 K6)
set_option maxRecDepth 100000 in
theorem sX9_byMissed_6 {K6 : Kt Int64} (h6 : Sd pX9_byMissed ev_l 6 K6) : Sd pX9_byMissed ev_l 6 (bX9_byMissed_6 K6) := sd_iload dX9_byMissed_6 <| sd_bipush dX9_byMissed_8 rfl <| sd_cge (tgt := 41) dX9_byMissed_10 (by decide) (sd_fg (i := 5) sX9_byMissed_41) <| (sX9_byMissed_13 h6)
def bX9_byMissed_0 : Kt Int64 := o_psh (.int 0) <| o_ist 4 <| o_psh (.int 0) <| o_ist 5 <| (o_lp (bX9_byMissed_6) fu)
set_option maxRecDepth 100000 in
theorem sX9_byMissed_0 : Sd pX9_byMissed ev_l 0 (bX9_byMissed_0) := sd_iconst dX9_byMissed_0 rfl <| sd_istore dX9_byMissed_1 (by decide) <| sd_iconst dX9_byMissed_3 rfl <| sd_istore dX9_byMissed_4 (by decide) <| (sd_lp (fun K h => sX9_byMissed_6 h) fu)
def fX9_byMissed : Mt Int64 := mk_f 13 bX9_byMissed_0
theorem tX9_byMissed : Ct ev_l yX9_byMissed cX9_byMissed 13 (some .long) 4 91 fX9_byMissed := ct_of (by decide +kernel) sX9_byMissed_0
abbrev pX9_luck : Px := (cX9_luck, 4, RX9, "luck", (some .long), 5, 123, fun _ => True)
def bX9_luck_54 : Kt Int64 := o_rL
set_option maxRecDepth 100000 in
theorem sX9_luck_54 : Sd pX9_luck ev_l 54 (bX9_luck_54) := (sd_rL rfl dX9_luck_54)
def bX9_luck_51 : Kt Int64 := o_psh (.long (-1)) <| bX9_luck_54
set_option maxRecDepth 100000 in
theorem sX9_luck_51 : Sd pX9_luck ev_l 51 (bX9_luck_51) := sd_ldc2 tw_797 dX9_luck_51 <| sX9_luck_54
def bX9_luck_41 : Kt Int64 := o_ald 0 <| o_ild 1 <| o_ild 2 <| o_ild 3 <| o_vc ev_l 8 4 fX9_byMissed <| (o_fg 0 (o_fg 1 (o_fg 2 (o_fg 3 bX9_luck_54))))
set_option maxRecDepth 100000 in
theorem sX9_luck_41 : Sd pX9_luck ev_l 41 (bX9_luck_41) := sd_aload_n dX9_luck_41 rfl <| sd_iload_n dX9_luck_42 rfl <| sd_iload_n dX9_luck_43 rfl <| sd_iload_n dX9_luck_44 rfl <| sd_vc tX9_byMissed (fun _ _ => rfl) rfl mwX9_byMissed mvX9_byMissed tw_796 (by decide) dX9_luck_45 <| (sd_goto (tgt := 54) dX9_luck_48 (by decide) (sd_fg (i := 0) (sd_fg (i := 1) (sd_fg (i := 2) (sd_fg (i := 3) sX9_luck_54)))))
def bX9_luck_31 : Kt Int64 := o_ild 3 <| o_i2l <| o_psh (.long 0) <| o_psh (.long 1) <| o_sc ev_i 3 fX9_in <| o_zeq (o_fg 0 (o_fg 1 (o_fg 2 (o_fg 3 bX9_luck_51)))) <| bX9_luck_41
set_option maxRecDepth 100000 in
theorem sX9_luck_31 : Sd pX9_luck ev_l 31 (bX9_luck_31) := sd_iload_n dX9_luck_31 rfl <| sd_i2l dX9_luck_32 <| sd_lconst dX9_luck_33 rfl <| sd_lconst dX9_luck_34 rfl <| sd_sc tX9_in (fun _ _ => rfl) mwX9_in mvX9_in tw_611 (by decide) dX9_luck_35 <| sd_zeq (tgt := 51) dX9_luck_38 (by decide) (sd_fg (i := 0) (sd_fg (i := 1) (sd_fg (i := 2) (sd_fg (i := 3) sX9_luck_51)))) <| sX9_luck_41
def bX9_luck_12 : Kt Int64 := o_ild 2 <| o_i2l <| o_psh (.long 0) <| o_ald 0 <| o_gR 8 0 <| o_psh (.int 56) <| o_aI <| o_psh (.int 1) <| o_i2 o_sub <| o_i2l <| o_sc ev_i 3 fX9_in <| o_zeq (o_fg 0 (o_fg 1 (o_fg 2 (o_fg 3 bX9_luck_51)))) <| bX9_luck_31
set_option maxRecDepth 100000 in
theorem sX9_luck_12 : Sd pX9_luck ev_l 12 (bX9_luck_12) := sd_iload_n dX9_luck_12 rfl <| sd_i2l dX9_luck_13 <| sd_lconst dX9_luck_14 rfl <| sd_aload_n dX9_luck_15 rfl <| sd_gR flX9_7 dX9_luck_16 <| sd_bipush dX9_luck_19 rfl <| sd_aI dX9_luck_21 <| sd_iconst dX9_luck_22 rfl <| sd_isub dX9_luck_23 <| sd_i2l dX9_luck_24 <| sd_sc tX9_in (fun _ _ => rfl) mwX9_in mvX9_in tw_611 (by decide) dX9_luck_25 <| sd_zeq (tgt := 51) dX9_luck_28 (by decide) (sd_fg (i := 0) (sd_fg (i := 1) (sd_fg (i := 2) (sd_fg (i := 3) sX9_luck_51)))) <| sX9_luck_31
def bX9_luck_0 : Kt Int64 := o_ild 1 <| o_i2l <| o_psh (.long 0) <| o_psh (.long 10) <| o_sc ev_i 3 fX9_in <| o_zeq (o_fg 0 (o_fg 1 (o_fg 2 (o_fg 3 bX9_luck_51)))) <| bX9_luck_12
set_option maxRecDepth 100000 in
theorem sX9_luck_0 : Sd pX9_luck ev_l 0 (bX9_luck_0) := sd_iload_n dX9_luck_0 rfl <| sd_i2l dX9_luck_1 <| sd_lconst dX9_luck_2 rfl <| sd_ldc2 tw_769 dX9_luck_3 <| sd_sc tX9_in (fun _ _ => rfl) mwX9_in mvX9_in tw_611 (by decide) dX9_luck_6 <| sd_zeq (tgt := 51) dX9_luck_9 (by decide) (sd_fg (i := 0) (sd_fg (i := 1) (sd_fg (i := 2) (sd_fg (i := 3) sX9_luck_51)))) <| sX9_luck_12
def fX9_luck : Mt Int64 := mk_f 4 bX9_luck_0
theorem tX9_luck : Ct ev_l yX9_luck cX9_luck 4 (some .long) 5 123 fX9_luck := ct_of (by decide +kernel) sX9_luck_0
abbrev pX9_mean : Px := (cX9_mean, 3, RX9, "mean", (some .long), 5, 123, fun _ => True)
def bX9_mean_36 : Kt Int64 := o_rL
set_option maxRecDepth 100000 in
theorem sX9_mean_36 : Sd pX9_mean ev_l 36 (bX9_mean_36) := (sd_rL rfl dX9_mean_36)
def bX9_mean_33 : Kt Int64 := o_psh (.long (-1)) <| bX9_mean_36
set_option maxRecDepth 100000 in
theorem sX9_mean_33 : Sd pX9_mean ev_l 33 (bX9_mean_33) := sd_ldc2 tw_797 dX9_mean_33 <| sX9_mean_36
def bX9_mean_22 : Kt Int64 := o_ald 0 <| o_ild 1 <| o_psh (.int (-4)) <| o_ild 2 <| o_vc ev_l 8 4 fX9_byMissed <| (o_fg 0 (o_fg 1 (o_fg 2 bX9_mean_36)))
set_option maxRecDepth 100000 in
theorem sX9_mean_22 : Sd pX9_mean ev_l 22 (bX9_mean_22) := sd_aload_n dX9_mean_22 rfl <| sd_iload_n dX9_mean_23 rfl <| sd_bipush dX9_mean_24 rfl <| sd_iload_n dX9_mean_26 rfl <| sd_vc tX9_byMissed (fun _ _ => rfl) rfl mwX9_byMissed mvX9_byMissed tw_796 (by decide) dX9_mean_27 <| (sd_goto (tgt := 36) dX9_mean_30 (by decide) (sd_fg (i := 0) (sd_fg (i := 1) (sd_fg (i := 2) sX9_mean_36))))
def bX9_mean_12 : Kt Int64 := o_ild 2 <| o_i2l <| o_psh (.long 0) <| o_psh (.long 1) <| o_sc ev_i 3 fX9_in <| o_zeq (o_fg 0 (o_fg 1 (o_fg 2 bX9_mean_33))) <| bX9_mean_22
set_option maxRecDepth 100000 in
theorem sX9_mean_12 : Sd pX9_mean ev_l 12 (bX9_mean_12) := sd_iload_n dX9_mean_12 rfl <| sd_i2l dX9_mean_13 <| sd_lconst dX9_mean_14 rfl <| sd_lconst dX9_mean_15 rfl <| sd_sc tX9_in (fun _ _ => rfl) mwX9_in mvX9_in tw_611 (by decide) dX9_mean_16 <| sd_zeq (tgt := 33) dX9_mean_19 (by decide) (sd_fg (i := 0) (sd_fg (i := 1) (sd_fg (i := 2) sX9_mean_33))) <| sX9_mean_22
def bX9_mean_0 : Kt Int64 := o_ild 1 <| o_i2l <| o_psh (.long 0) <| o_psh (.long 10) <| o_sc ev_i 3 fX9_in <| o_zeq (o_fg 0 (o_fg 1 (o_fg 2 bX9_mean_33))) <| bX9_mean_12
set_option maxRecDepth 100000 in
theorem sX9_mean_0 : Sd pX9_mean ev_l 0 (bX9_mean_0) := sd_iload_n dX9_mean_0 rfl <| sd_i2l dX9_mean_1 <| sd_lconst dX9_mean_2 rfl <| sd_ldc2 tw_769 dX9_mean_3 <| sd_sc tX9_in (fun _ _ => rfl) mwX9_in mvX9_in tw_611 (by decide) dX9_mean_6 <| sd_zeq (tgt := 33) dX9_mean_9 (by decide) (sd_fg (i := 0) (sd_fg (i := 1) (sd_fg (i := 2) sX9_mean_33))) <| sX9_mean_12
def fX9_mean : Mt Int64 := mk_f 3 bX9_mean_0
theorem tX9_mean : Ct ev_l yX9_mean cX9_mean 3 (some .long) 5 123 fX9_mean := ct_of (by decide +kernel) sX9_mean_0
abbrev pX9_see : Px := (cX9_see, 5, RX9, "see", (some .int), 2, 46, fun _ => True)
def bX9_see_113 : Kt Int32 := o_gI 8 24 <| o_psh (.int 1) <| o_i2 o_add <| o_pI 8 24 <| o_ald 0 <| o_gI 8 24 <| o_rI
set_option maxRecDepth 100000 in
theorem sX9_see_113 : Sd pX9_see ev_i 113 (bX9_see_113) := sd_gI flX9_157 dX9_see_113 <| sd_iconst dX9_see_116 rfl <| sd_iadd dX9_see_117 <| sd_pI fpX9_157 dX9_see_118 <| sd_aload_n dX9_see_121 rfl <| sd_gI flX9_157 dX9_see_122 <| (sd_rI rfl dX9_see_125)
def bX9_see_56 : Kt Int32 := o_ald 0 <| o_gR 8 23 <| o_psh (.int 4) <| o_ald 0 <| o_gI 8 24 <| o_i2 o_mul <| o_ild 1 <| o_sI <| o_ald 0 <| o_gR 8 23 <| o_psh (.int 4) <| o_ald 0 <| o_gI 8 24 <| o_i2 o_mul <| o_psh (.int 1) <| o_i2 o_add <| o_ild 2 <| o_sI <| o_ald 0 <| o_gR 8 23 <| o_psh (.int 4) <| o_ald 0 <| o_gI 8 24 <| o_i2 o_mul <| o_psh (.int 2) <| o_i2 o_add <| o_ild 3 <| o_sI <| o_ald 0 <| o_gR 8 23 <| o_psh (.int 4) <| o_ald 0 <| o_gI 8 24 <| o_i2 o_mul <| o_psh (.int 3) <| o_i2 o_add <| o_ild 4 <| o_sI <| o_ald 0 <| o_dup <| (o_fg 1 (o_fg 2 (o_fg 3 (o_fg 4 bX9_see_113))))
set_option maxRecDepth 100000 in
theorem sX9_see_56 : Sd pX9_see ev_i 56 (bX9_see_56) := sd_aload_n dX9_see_56 rfl <| sd_gR flX9_37 dX9_see_57 <| sd_iconst dX9_see_60 rfl <| sd_aload_n dX9_see_61 rfl <| sd_gI flX9_157 dX9_see_62 <| sd_imul dX9_see_65 <| sd_iload_n dX9_see_66 rfl <| sd_sI dX9_see_67 <| sd_aload_n dX9_see_68 rfl <| sd_gR flX9_37 dX9_see_69 <| sd_iconst dX9_see_72 rfl <| sd_aload_n dX9_see_73 rfl <| sd_gI flX9_157 dX9_see_74 <| sd_imul dX9_see_77 <| sd_iconst dX9_see_78 rfl <| sd_iadd dX9_see_79 <| sd_iload_n dX9_see_80 rfl <| sd_sI dX9_see_81 <| sd_aload_n dX9_see_82 rfl <| sd_gR flX9_37 dX9_see_83 <| sd_iconst dX9_see_86 rfl <| sd_aload_n dX9_see_87 rfl <| sd_gI flX9_157 dX9_see_88 <| sd_imul dX9_see_91 <| sd_iconst dX9_see_92 rfl <| sd_iadd dX9_see_93 <| sd_iload_n dX9_see_94 rfl <| sd_sI dX9_see_95 <| sd_aload_n dX9_see_96 rfl <| sd_gR flX9_37 dX9_see_97 <| sd_iconst dX9_see_100 rfl <| sd_aload_n dX9_see_101 rfl <| sd_gI flX9_157 dX9_see_102 <| sd_imul dX9_see_105 <| sd_iconst dX9_see_106 rfl <| sd_iadd dX9_see_107 <| sd_iload dX9_see_108 <| sd_sI dX9_see_110 <| sd_aload_n dX9_see_111 rfl <| sd_dup dX9_see_112 <| (sd_fg (i := 1) (sd_fg (i := 2) (sd_fg (i := 3) (sd_fg (i := 4) sX9_see_113))))
def bX9_see_53 : Kt Int32 := o_psh (.int (-3)) <| o_rI
set_option maxRecDepth 100000 in
theorem sX9_see_53 : Sd pX9_see ev_i 53 (bX9_see_53) := sd_bipush dX9_see_53 rfl <| (sd_rI rfl dX9_see_55)
def bX9_see_44 : Kt Int32 := o_ald 0 <| o_gI 8 24 <| o_psh (.int 6) <| o_cne bX9_see_56 <| (o_fg 0 (o_fg 1 (o_fg 2 (o_fg 3 (o_fg 4 bX9_see_53)))))
set_option maxRecDepth 100000 in
theorem sX9_see_44 : Sd pX9_see ev_i 44 (bX9_see_44) := sd_aload_n dX9_see_44 rfl <| sd_gI flX9_157 dX9_see_45 <| sd_bipush dX9_see_48 rfl <| sd_cne (tgt := 56) dX9_see_50 (by decide) sX9_see_56 <| (sd_fg (i := 0) (sd_fg (i := 1) (sd_fg (i := 2) (sd_fg (i := 3) (sd_fg (i := 4) sX9_see_53)))))
def bX9_see_42 : Kt Int32 := o_psh (.int (-1)) <| o_rI
set_option maxRecDepth 100000 in
theorem sX9_see_42 : Sd pX9_see ev_i 42 (bX9_see_42) := sd_iconst dX9_see_42 rfl <| (sd_rI rfl dX9_see_43)
def bX9_see_29 : Kt Int32 := o_ild 4 <| o_i2l <| o_psh (.long 0) <| o_psh (.long 9) <| o_sc ev_i 3 fX9_in <| o_zne bX9_see_44 <| (o_fg 0 (o_fg 1 (o_fg 2 (o_fg 3 (o_fg 4 bX9_see_42)))))
set_option maxRecDepth 100000 in
theorem sX9_see_29 : Sd pX9_see ev_i 29 (bX9_see_29) := sd_iload dX9_see_29 <| sd_i2l dX9_see_31 <| sd_lconst dX9_see_32 rfl <| sd_ldc2 tw_680 dX9_see_33 <| sd_sc tX9_in (fun _ _ => rfl) mwX9_in mvX9_in tw_611 (by decide) dX9_see_36 <| sd_zne (tgt := 44) dX9_see_39 (by decide) sX9_see_44 <| (sd_fg (i := 0) (sd_fg (i := 1) (sd_fg (i := 2) (sd_fg (i := 3) (sd_fg (i := 4) sX9_see_42)))))
def bX9_see_22 : Kt Int32 := o_ild 4 <| o_psh (.int (-4)) <| o_ceq bX9_see_44 <| bX9_see_29
set_option maxRecDepth 100000 in
theorem sX9_see_22 : Sd pX9_see ev_i 22 (bX9_see_22) := sd_iload dX9_see_22 <| sd_bipush dX9_see_24 rfl <| sd_ceq (tgt := 44) dX9_see_26 (by decide) sX9_see_44 <| sX9_see_29
def bX9_see_15 : Kt Int32 := o_ild 3 <| o_sc ev_i 1 fX9_isHour <| o_zeq (o_fg 0 (o_fg 1 (o_fg 2 (o_fg 3 (o_fg 4 bX9_see_42))))) <| bX9_see_22
set_option maxRecDepth 100000 in
theorem sX9_see_15 : Sd pX9_see ev_i 15 (bX9_see_15) := sd_iload_n dX9_see_15 rfl <| sd_sc tX9_isHour (fun _ _ => rfl) mwX9_isHour mvX9_isHour tw_723 (by decide) dX9_see_16 <| sd_zeq (tgt := 42) dX9_see_19 (by decide) (sd_fg (i := 0) (sd_fg (i := 1) (sd_fg (i := 2) (sd_fg (i := 3) (sd_fg (i := 4) sX9_see_42))))) <| sX9_see_22
def bX9_see_8 : Kt Int32 := o_ild 2 <| o_sc ev_i 1 fX9_isThing <| o_zeq (o_fg 0 (o_fg 1 (o_fg 2 (o_fg 3 (o_fg 4 bX9_see_42))))) <| bX9_see_15
set_option maxRecDepth 100000 in
theorem sX9_see_8 : Sd pX9_see ev_i 8 (bX9_see_8) := sd_iload_n dX9_see_8 rfl <| sd_sc tX9_isThing (fun _ _ => rfl) mwX9_isThing mvX9_isThing tw_720 (by decide) dX9_see_9 <| sd_zeq (tgt := 42) dX9_see_12 (by decide) (sd_fg (i := 0) (sd_fg (i := 1) (sd_fg (i := 2) (sd_fg (i := 3) (sd_fg (i := 4) sX9_see_42))))) <| sX9_see_15
def bX9_see_0 : Kt Int32 := o_ald 0 <| o_ild 1 <| o_vc ev_i 8 2 fX9_isOne <| o_zeq (o_fg 0 (o_fg 1 (o_fg 2 (o_fg 3 (o_fg 4 bX9_see_42))))) <| bX9_see_8
set_option maxRecDepth 100000 in
theorem sX9_see_0 : Sd pX9_see ev_i 0 (bX9_see_0) := sd_aload_n dX9_see_0 rfl <| sd_iload_n dX9_see_1 rfl <| sd_vc tX9_isOne (fun _ _ => rfl) rfl mwX9_isOne mvX9_isOne tw_717 (by decide) dX9_see_2 <| sd_zeq (tgt := 42) dX9_see_5 (by decide) (sd_fg (i := 0) (sd_fg (i := 1) (sd_fg (i := 2) (sd_fg (i := 3) (sd_fg (i := 4) sX9_see_42))))) <| sX9_see_8
def fX9_see : Mt Int32 := mk_f 5 bX9_see_0
theorem tX9_see : Ct ev_i yX9_see cX9_see 5 (some .int) 2 46 fX9_see := ct_of (by decide +kernel) sX9_see_0
abbrev pX9_forget : Px := (cX9_forget, 3, RX9, "forget", (some .int), 1, 25, fun _ => True)
def bX9_forget_16 : Kt Int32 := o_ald 0 <| o_gI 8 24 <| o_ist 2 <| o_ald 0 <| o_ild 1 <| o_pI 8 24 <| o_ild 2 <| o_rI
set_option maxRecDepth 100000 in
theorem sX9_forget_16 : Sd pX9_forget ev_i 16 (bX9_forget_16) := sd_aload_n dX9_forget_16 rfl <| sd_gI flX9_157 dX9_forget_17 <| sd_istore_n dX9_forget_20 rfl (by decide) <| sd_aload_n dX9_forget_21 rfl <| sd_iload_n dX9_forget_22 rfl <| sd_pI fpX9_157 dX9_forget_23 <| sd_iload_n dX9_forget_26 rfl <| (sd_rI rfl dX9_forget_27)
def bX9_forget_14 : Kt Int32 := o_psh (.int (-1)) <| o_rI
set_option maxRecDepth 100000 in
theorem sX9_forget_14 : Sd pX9_forget ev_i 14 (bX9_forget_14) := sd_iconst dX9_forget_14 rfl <| (sd_rI rfl dX9_forget_15)
def bX9_forget_0 : Kt Int32 := o_ild 1 <| o_i2l <| o_psh (.long 0) <| o_ald 0 <| o_gI 8 24 <| o_i2l <| o_sc ev_i 3 fX9_in <| o_zne bX9_forget_16 <| (o_fg 0 (o_fg 1 bX9_forget_14))
set_option maxRecDepth 100000 in
theorem sX9_forget_0 : Sd pX9_forget ev_i 0 (bX9_forget_0) := sd_iload_n dX9_forget_0 rfl <| sd_i2l dX9_forget_1 <| sd_lconst dX9_forget_2 rfl <| sd_aload_n dX9_forget_3 rfl <| sd_gI flX9_157 dX9_forget_4 <| sd_i2l dX9_forget_7 <| sd_sc tX9_in (fun _ _ => rfl) mwX9_in mvX9_in tw_611 (by decide) dX9_forget_8 <| sd_zne (tgt := 16) dX9_forget_11 (by decide) sX9_forget_16 <| (sd_fg (i := 0) (sd_fg (i := 1) sX9_forget_14))
def fX9_forget : Mt Int32 := mk_f 3 bX9_forget_0
theorem tX9_forget : Ct ev_i yX9_forget cX9_forget 3 (some .int) 1 25 fX9_forget := ct_of (by decide +kernel) sX9_forget_0
abbrev pX9_isAsSeen : Px := (cX9_isAsSeen, 3, RX9, "isAsSeen", (some .boolean), 0, 0, fun _ => True)
def bX9_isAsSeen_81 : Kt Int32 := o_ild 1 <| o_rZ
set_option maxRecDepth 100000 in
theorem sX9_isAsSeen_81 : Sd pX9_isAsSeen ev_i 81 (bX9_isAsSeen_81) := sd_iload_n dX9_isAsSeen_81 rfl <| (sd_rZ rfl dX9_isAsSeen_82)
def bX9_isAsSeen_74 (K4 : Kt Int32) : Kt Int32 := o_ist 1 <| o_inc 2 1 <| K4
set_option maxRecDepth 100000 in
theorem sX9_isAsSeen_74 {K4 : Kt Int32} (h4 : Sd pX9_isAsSeen ev_i 4 K4) : Sd pX9_isAsSeen ev_i 74 (bX9_isAsSeen_74 K4) := sd_istore_n dX9_isAsSeen_74 rfl (by decide) <| sd_iinc dX9_isAsSeen_75 rfl (by decide) <| (sd_goto (tgt := 4) dX9_isAsSeen_78 (by decide) h4)
def bX9_isAsSeen_73 (K4 : Kt Int32) : Kt Int32 := o_psh (.int 0) <| (bX9_isAsSeen_74 K4)
set_option maxRecDepth 100000 in
theorem sX9_isAsSeen_73 {K4 : Kt Int32} (h4 : Sd pX9_isAsSeen ev_i 4 K4) : Sd pX9_isAsSeen ev_i 73 (bX9_isAsSeen_73 K4) := sd_iconst dX9_isAsSeen_73 rfl <| (sX9_isAsSeen_74 h4)
def bX9_isAsSeen_69 (K4 : Kt Int32) : Kt Int32 := o_psh (.int 1) <| (bX9_isAsSeen_74 K4)
set_option maxRecDepth 100000 in
theorem sX9_isAsSeen_69 {K4 : Kt Int32} (h4 : Sd pX9_isAsSeen ev_i 4 K4) : Sd pX9_isAsSeen ev_i 69 (bX9_isAsSeen_69 K4) := sd_iconst dX9_isAsSeen_69 rfl <| (sd_goto (tgt := 74) dX9_isAsSeen_70 (by decide) (sX9_isAsSeen_74 h4))
def bX9_isAsSeen_16 (K4 : Kt Int32) : Kt Int32 := o_ald 0 <| o_gR 8 20 <| o_psh (.int 15) <| o_ald 0 <| o_gR 8 23 <| o_psh (.int 4) <| o_ild 2 <| o_i2 o_mul <| o_psh (.int 2) <| o_i2 o_add <| o_aI <| o_i2 o_mul <| o_psh (.int 3) <| o_ald 0 <| o_gR 8 23 <| o_psh (.int 4) <| o_ild 2 <| o_i2 o_mul <| o_aI <| o_i2 o_mul <| o_i2 o_add <| o_ald 0 <| o_gR 8 23 <| o_psh (.int 4) <| o_ild 2 <| o_i2 o_mul <| o_psh (.int 1) <| o_i2 o_add <| o_aI <| o_i2 o_add <| o_aI <| o_ald 0 <| o_gR 8 23 <| o_psh (.int 4) <| o_ild 2 <| o_i2 o_mul <| o_psh (.int 3) <| o_i2 o_add <| o_aI <| o_cne (bX9_isAsSeen_73 K4) <| (bX9_isAsSeen_69 K4)
set_option maxRecDepth 100000 in
theorem sX9_isAsSeen_16 {K4 : Kt Int32} (h4 : Sd pX9_isAsSeen ev_i 4 K4) : Sd pX9_isAsSeen ev_i 16 (bX9_isAsSeen_16 K4) := sd_aload_n dX9_isAsSeen_16 rfl <| sd_gR flX9_28 dX9_isAsSeen_17 <| sd_bipush dX9_isAsSeen_20 rfl <| sd_aload_n dX9_isAsSeen_22 rfl <| sd_gR flX9_37 dX9_isAsSeen_23 <| sd_iconst dX9_isAsSeen_26 rfl <| sd_iload_n dX9_isAsSeen_27 rfl <| sd_imul dX9_isAsSeen_28 <| sd_iconst dX9_isAsSeen_29 rfl <| sd_iadd dX9_isAsSeen_30 <| sd_aI dX9_isAsSeen_31 <| sd_imul dX9_isAsSeen_32 <| sd_iconst dX9_isAsSeen_33 rfl <| sd_aload_n dX9_isAsSeen_34 rfl <| sd_gR flX9_37 dX9_isAsSeen_35 <| sd_iconst dX9_isAsSeen_38 rfl <| sd_iload_n dX9_isAsSeen_39 rfl <| sd_imul dX9_isAsSeen_40 <| sd_aI dX9_isAsSeen_41 <| sd_imul dX9_isAsSeen_42 <| sd_iadd dX9_isAsSeen_43 <| sd_aload_n dX9_isAsSeen_44 rfl <| sd_gR flX9_37 dX9_isAsSeen_45 <| sd_iconst dX9_isAsSeen_48 rfl <| sd_iload_n dX9_isAsSeen_49 rfl <| sd_imul dX9_isAsSeen_50 <| sd_iconst dX9_isAsSeen_51 rfl <| sd_iadd dX9_isAsSeen_52 <| sd_aI dX9_isAsSeen_53 <| sd_iadd dX9_isAsSeen_54 <| sd_aI dX9_isAsSeen_55 <| sd_aload_n dX9_isAsSeen_56 rfl <| sd_gR flX9_37 dX9_isAsSeen_57 <| sd_iconst dX9_isAsSeen_60 rfl <| sd_iload_n dX9_isAsSeen_61 rfl <| sd_imul dX9_isAsSeen_62 <| sd_iconst dX9_isAsSeen_63 rfl <| sd_iadd dX9_isAsSeen_64 <| sd_aI dX9_isAsSeen_65 <| sd_cne (tgt := 73) dX9_isAsSeen_66 (by decide) (sX9_isAsSeen_73 h4) <| (sX9_isAsSeen_69 h4)
def bX9_isAsSeen_12 (K4 : Kt Int32) : Kt Int32 := o_ild 1 <| o_zeq (o_fg 1 (bX9_isAsSeen_73 K4)) <| (o_fg 1 (bX9_isAsSeen_16 K4))
set_option maxRecDepth 100000 in
theorem sX9_isAsSeen_12 {K4 : Kt Int32} (h4 : Sd pX9_isAsSeen ev_i 4 K4) : Sd pX9_isAsSeen ev_i 12 (bX9_isAsSeen_12 K4) := sd_iload_n dX9_isAsSeen_12 rfl <| sd_zeq (tgt := 73) dX9_isAsSeen_13 (by decide) (sd_fg (i := 1) (sX9_isAsSeen_73 h4)) <| (sd_fg (i := 1) (sX9_isAsSeen_16 h4))
def bX9_isAsSeen_4 (K4 : Kt Int32) : Kt Int32 := o_ild 2 <| o_ald 0 <| o_gI 8 24 <| o_cge (o_fg 0 (o_fg 2 bX9_isAsSeen_81)) <| (bX9_isAsSeen_12 K4)
set_option maxRecDepth 100000 in
theorem sX9_isAsSeen_4 {K4 : Kt Int32} (h4 : Sd pX9_isAsSeen ev_i 4 K4) : Sd pX9_isAsSeen ev_i 4 (bX9_isAsSeen_4 K4) := sd_iload_n dX9_isAsSeen_4 rfl <| sd_aload_n dX9_isAsSeen_5 rfl <| sd_gI flX9_157 dX9_isAsSeen_6 <| sd_cge (tgt := 81) dX9_isAsSeen_9 (by decide) (sd_fg (i := 0) (sd_fg (i := 2) sX9_isAsSeen_81)) <| (sX9_isAsSeen_12 h4)
def bX9_isAsSeen_0 : Kt Int32 := o_psh (.int 1) <| o_ist 1 <| o_psh (.int 0) <| o_ist 2 <| (o_lp (bX9_isAsSeen_4) fu)
set_option maxRecDepth 100000 in
theorem sX9_isAsSeen_0 : Sd pX9_isAsSeen ev_i 0 (bX9_isAsSeen_0) := sd_iconst dX9_isAsSeen_0 rfl <| sd_istore_n dX9_isAsSeen_1 rfl (by decide) <| sd_iconst dX9_isAsSeen_2 rfl <| sd_istore_n dX9_isAsSeen_3 rfl (by decide) <| (sd_lp (fun K h => sX9_isAsSeen_4 h) fu)
def fX9_isAsSeen : Mt Int32 := mk_f 3 bX9_isAsSeen_0
theorem tX9_isAsSeen : Ct ev_i yX9_isAsSeen cX9_isAsSeen 3 (some .boolean) 0 0 fX9_isAsSeen := ct_of (by decide +kernel) sX9_isAsSeen_0
abbrev pX9_mayHave : Px := (cX9_mayHave, 6, RX9, "mayHave", (some .int), 4, 91, fun _ => True)
def bX9_mayHave_121 : Kt Int32 := o_ald 0 <| o_gR 8 0 <| o_psh (.int 26) <| o_ild 1 <| o_i2 o_add <| o_ild 3 <| o_sI <| o_ild 2 <| o_rI
set_option maxRecDepth 100000 in
theorem sX9_mayHave_121 : Sd pX9_mayHave ev_i 121 (bX9_mayHave_121) := sd_aload_n dX9_mayHave_121 rfl <| sd_gR flX9_7 dX9_mayHave_122 <| sd_bipush dX9_mayHave_125 rfl <| sd_iload_n dX9_mayHave_127 rfl <| sd_iadd dX9_mayHave_128 <| sd_iload_n dX9_mayHave_129 rfl <| sd_sI dX9_mayHave_130 <| sd_iload_n dX9_mayHave_131 rfl <| (sd_rI rfl dX9_mayHave_132)
def bX9_mayHave_115 (K15 : Kt Int32) : Kt Int32 := o_inc 4 1 <| K15
set_option maxRecDepth 100000 in
theorem sX9_mayHave_115 {K15 : Kt Int32} (h15 : Sd pX9_mayHave ev_i 15 K15) : Sd pX9_mayHave ev_i 115 (bX9_mayHave_115 K15) := sd_iinc dX9_mayHave_115 rfl (by decide) <| (sd_goto (tgt := 15) dX9_mayHave_118 (by decide) h15)
def bX9_mayHave_85 (K15 : Kt Int32) (K78 : Kt Int32) : Kt Int32 := o_ald 0 <| o_gR 8 25 <| o_psh (.int 15) <| o_ild 4 <| o_i2 o_mul <| o_ild 5 <| o_i2 o_add <| o_ald 0 <| o_gR 8 20 <| o_psh (.int 135) <| o_ild 5 <| o_i2 o_add <| o_aI <| o_sI <| o_inc 5 1 <| K78
set_option maxRecDepth 100000 in
theorem sX9_mayHave_85 {K15 : Kt Int32} (h15 : Sd pX9_mayHave ev_i 15 K15) {K78 : Kt Int32} (h78 : Sd pX9_mayHave ev_i 78 K78) : Sd pX9_mayHave ev_i 85 (bX9_mayHave_85 K15 K78) := sd_aload_n dX9_mayHave_85 rfl <| sd_gR flX9_40 dX9_mayHave_86 <| sd_bipush dX9_mayHave_89 rfl <| sd_iload dX9_mayHave_91 <| sd_imul dX9_mayHave_93 <| sd_iload dX9_mayHave_94 <| sd_iadd dX9_mayHave_96 <| sd_aload_n dX9_mayHave_97 rfl <| sd_gR flX9_28 dX9_mayHave_98 <| sd_sipush dX9_mayHave_101 rfl <| sd_iload dX9_mayHave_104 <| sd_iadd dX9_mayHave_106 <| sd_aI dX9_mayHave_107 <| sd_sI dX9_mayHave_108 <| sd_iinc dX9_mayHave_109 rfl (by decide) <| (sd_goto (tgt := 78) dX9_mayHave_112 (by decide) h78)
def bX9_mayHave_78 (K15 : Kt Int32) (K78 : Kt Int32) : Kt Int32 := o_ild 5 <| o_psh (.int 15) <| o_cge (o_fg 5 (bX9_mayHave_115 K15)) <| (bX9_mayHave_85 K15 K78)
set_option maxRecDepth 100000 in
theorem sX9_mayHave_78 {K15 : Kt Int32} (h15 : Sd pX9_mayHave ev_i 15 K15) {K78 : Kt Int32} (h78 : Sd pX9_mayHave ev_i 78 K78) : Sd pX9_mayHave ev_i 78 (bX9_mayHave_78 K15 K78) := sd_iload dX9_mayHave_78 <| sd_bipush dX9_mayHave_80 rfl <| sd_cge (tgt := 115) dX9_mayHave_82 (by decide) (sd_fg (i := 5) (sX9_mayHave_115 h15)) <| (sX9_mayHave_85 h15 h78)
def bX9_mayHave_73 (K15 : Kt Int32) : Kt Int32 := o_i2 o_or <| o_ist 2 <| o_psh (.int 0) <| o_ist 5 <| (o_lp (bX9_mayHave_78 K15) fu)
set_option maxRecDepth 100000 in
theorem sX9_mayHave_73 {K15 : Kt Int32} (h15 : Sd pX9_mayHave ev_i 15 K15) : Sd pX9_mayHave ev_i 73 (bX9_mayHave_73 K15) := sd_ior dX9_mayHave_73 <| sd_istore_n dX9_mayHave_74 rfl (by decide) <| sd_iconst dX9_mayHave_75 rfl <| sd_istore dX9_mayHave_76 (by decide) <| (sd_lp (fun K h => sX9_mayHave_78 h15 h) fu)
def bX9_mayHave_72 (K15 : Kt Int32) : Kt Int32 := o_psh (.int 0) <| (bX9_mayHave_73 K15)
set_option maxRecDepth 100000 in
theorem sX9_mayHave_72 {K15 : Kt Int32} (h15 : Sd pX9_mayHave ev_i 15 K15) : Sd pX9_mayHave ev_i 72 (bX9_mayHave_72 K15) := sd_iconst dX9_mayHave_72 rfl <| (sX9_mayHave_73 h15)
def bX9_mayHave_65 (K15 : Kt Int32) : Kt Int32 := o_psh (.int 1) <| o_ild 4 <| o_i2 o_shl <| (bX9_mayHave_73 K15)
set_option maxRecDepth 100000 in
theorem sX9_mayHave_65 {K15 : Kt Int32} (h15 : Sd pX9_mayHave ev_i 15 K15) : Sd pX9_mayHave ev_i 65 (bX9_mayHave_65 K15) := sd_iconst dX9_mayHave_65 rfl <| sd_iload dX9_mayHave_66 <| sd_ishl dX9_mayHave_68 <| (sd_goto (tgt := 73) dX9_mayHave_69 (by decide) (sX9_mayHave_73 h15))
def bX9_mayHave_52 (K15 : Kt Int32) : Kt Int32 := o_sI <| o_ald 0 <| o_vc ev_v 8 1 fX9_hoursGo <| o_ild 2 <| o_ald 0 <| o_vc ev_i 8 1 fX9_isAsSeen <| o_zeq (o_fg 2 (bX9_mayHave_72 K15)) <| (o_fg 2 (bX9_mayHave_65 K15))
set_option maxRecDepth 100000 in
theorem sX9_mayHave_52 {K15 : Kt Int32} (h15 : Sd pX9_mayHave ev_i 15 K15) : Sd pX9_mayHave ev_i 52 (bX9_mayHave_52 K15) := sd_sI dX9_mayHave_52 <| sd_aload_n dX9_mayHave_53 rfl <| sd_vc tX9_hoursGo (fun _ _ => rfl) rfl mwX9_hoursGo mvX9_hoursGo tw_752 (by decide) dX9_mayHave_54 <| sd_iload_n dX9_mayHave_57 rfl <| sd_aload_n dX9_mayHave_58 rfl <| sd_vc tX9_isAsSeen (fun _ _ => rfl) rfl mwX9_isAsSeen mvX9_isAsSeen tw_801 (by decide) dX9_mayHave_59 <| sd_zeq (tgt := 72) dX9_mayHave_62 (by decide) (sd_fg (i := 2) (sX9_mayHave_72 h15)) <| (sd_fg (i := 2) (sX9_mayHave_65 h15))
def bX9_mayHave_48 (K15 : Kt Int32) : Kt Int32 := o_ild 4 <| o_psh (.int 1) <| o_i2 o_add <| (bX9_mayHave_52 K15)
set_option maxRecDepth 100000 in
theorem sX9_mayHave_48 {K15 : Kt Int32} (h15 : Sd pX9_mayHave ev_i 15 K15) : Sd pX9_mayHave ev_i 48 (bX9_mayHave_48 K15) := sd_iload dX9_mayHave_48 <| sd_iconst dX9_mayHave_50 rfl <| sd_iadd dX9_mayHave_51 <| (sX9_mayHave_52 h15)
def bX9_mayHave_44 (K15 : Kt Int32) : Kt Int32 := o_psh (.int 0) <| (bX9_mayHave_52 K15)
set_option maxRecDepth 100000 in
theorem sX9_mayHave_44 {K15 : Kt Int32} (h15 : Sd pX9_mayHave ev_i 15 K15) : Sd pX9_mayHave ev_i 44 (bX9_mayHave_44 K15) := sd_iconst dX9_mayHave_44 rfl <| (sd_goto (tgt := 52) dX9_mayHave_45 (by decide) (sX9_mayHave_52 h15))
def bX9_mayHave_30 (K15 : Kt Int32) : Kt Int32 := o_ald 0 <| o_gR 8 0 <| o_psh (.int 26) <| o_ild 1 <| o_i2 o_add <| o_ild 4 <| o_psh (.int 5) <| o_cne (bX9_mayHave_48 K15) <| (bX9_mayHave_44 K15)
set_option maxRecDepth 100000 in
theorem sX9_mayHave_30 {K15 : Kt Int32} (h15 : Sd pX9_mayHave ev_i 15 K15) : Sd pX9_mayHave ev_i 30 (bX9_mayHave_30 K15) := sd_aload_n dX9_mayHave_30 rfl <| sd_gR flX9_7 dX9_mayHave_31 <| sd_bipush dX9_mayHave_34 rfl <| sd_iload_n dX9_mayHave_36 rfl <| sd_iadd dX9_mayHave_37 <| sd_iload dX9_mayHave_38 <| sd_iconst dX9_mayHave_40 rfl <| sd_cne (tgt := 48) dX9_mayHave_41 (by decide) (sX9_mayHave_48 h15) <| (sX9_mayHave_44 h15)
def bX9_mayHave_21 (K15 : Kt Int32) : Kt Int32 := o_ald 0 <| o_ild 4 <| o_vc ev_i 8 2 fX9_isChoice <| o_zeq (bX9_mayHave_115 K15) <| (bX9_mayHave_30 K15)
set_option maxRecDepth 100000 in
theorem sX9_mayHave_21 {K15 : Kt Int32} (h15 : Sd pX9_mayHave ev_i 15 K15) : Sd pX9_mayHave ev_i 21 (bX9_mayHave_21 K15) := sd_aload_n dX9_mayHave_21 rfl <| sd_iload dX9_mayHave_22 <| sd_vc tX9_isChoice (fun _ _ => rfl) rfl mwX9_isChoice mvX9_isChoice tw_764 (by decide) dX9_mayHave_24 <| sd_zeq (tgt := 115) dX9_mayHave_27 (by decide) (sX9_mayHave_115 h15) <| (sX9_mayHave_30 h15)
def bX9_mayHave_15 (K15 : Kt Int32) : Kt Int32 := o_ild 4 <| o_psh (.int 5) <| o_cgt (o_fg 4 bX9_mayHave_121) <| (bX9_mayHave_21 K15)
set_option maxRecDepth 100000 in
theorem sX9_mayHave_15 {K15 : Kt Int32} (h15 : Sd pX9_mayHave ev_i 15 K15) : Sd pX9_mayHave ev_i 15 (bX9_mayHave_15 K15) := sd_iload dX9_mayHave_15 <| sd_iconst dX9_mayHave_17 rfl <| sd_cgt (tgt := 121) dX9_mayHave_18 (by decide) (sd_fg (i := 4) sX9_mayHave_121) <| (sX9_mayHave_21 h15)
def bX9_mayHave_0 : Kt Int32 := o_psh (.int 0) <| o_ist 2 <| o_ald 0 <| o_gR 8 0 <| o_psh (.int 26) <| o_ild 1 <| o_i2 o_add <| o_aI <| o_ist 3 <| o_psh (.int 0) <| o_ist 4 <| (o_lp (bX9_mayHave_15) fu)
set_option maxRecDepth 100000 in
theorem sX9_mayHave_0 : Sd pX9_mayHave ev_i 0 (bX9_mayHave_0) := sd_iconst dX9_mayHave_0 rfl <| sd_istore_n dX9_mayHave_1 rfl (by decide) <| sd_aload_n dX9_mayHave_2 rfl <| sd_gR flX9_7 dX9_mayHave_3 <| sd_bipush dX9_mayHave_6 rfl <| sd_iload_n dX9_mayHave_8 rfl <| sd_iadd dX9_mayHave_9 <| sd_aI dX9_mayHave_10 <| sd_istore_n dX9_mayHave_11 rfl (by decide) <| sd_iconst dX9_mayHave_12 rfl <| sd_istore dX9_mayHave_13 (by decide) <| (sd_lp (fun K h => sX9_mayHave_15 h) fu)
def fX9_mayHave : Mt Int32 := mk_f 6 bX9_mayHave_0
theorem tX9_mayHave : Ct ev_i yX9_mayHave cX9_mayHave 6 (some .int) 4 91 fX9_mayHave := ct_of (by decide +kernel) sX9_mayHave_0
abbrev pX9_may : Px := (cX9_may, 2, RX9, "may", (some .int), 5, 116, fun _ => True)
def bX9_may_16 : Kt Int32 := o_rI
set_option maxRecDepth 100000 in
theorem sX9_may_16 : Sd pX9_may ev_i 16 (bX9_may_16) := (sd_rI rfl dX9_may_16)
def bX9_may_15 : Kt Int32 := o_psh (.int (-1)) <| bX9_may_16
set_option maxRecDepth 100000 in
theorem sX9_may_15 : Sd pX9_may ev_i 15 (bX9_may_15) := sd_iconst dX9_may_15 rfl <| sX9_may_16
def bX9_may_7 : Kt Int32 := o_ald 0 <| o_ild 1 <| o_vc ev_i 8 2 fX9_mayHave <| (o_fg 0 (o_fg 1 bX9_may_16))
set_option maxRecDepth 100000 in
theorem sX9_may_7 : Sd pX9_may ev_i 7 (bX9_may_7) := sd_aload_n dX9_may_7 rfl <| sd_iload_n dX9_may_8 rfl <| sd_vc tX9_mayHave (fun _ _ => rfl) rfl mwX9_mayHave mvX9_mayHave tw_805 (by decide) dX9_may_9 <| (sd_goto (tgt := 16) dX9_may_12 (by decide) (sd_fg (i := 0) (sd_fg (i := 1) sX9_may_16)))
def bX9_may_0 : Kt Int32 := o_ild 1 <| o_sc ev_i 1 fX9_isHour <| o_zeq (o_fg 0 (o_fg 1 bX9_may_15)) <| bX9_may_7
set_option maxRecDepth 100000 in
theorem sX9_may_0 : Sd pX9_may ev_i 0 (bX9_may_0) := sd_iload_n dX9_may_0 rfl <| sd_sc tX9_isHour (fun _ _ => rfl) mwX9_isHour mvX9_isHour tw_723 (by decide) dX9_may_1 <| sd_zeq (tgt := 15) dX9_may_4 (by decide) (sd_fg (i := 0) (sd_fg (i := 1) sX9_may_15)) <| sX9_may_7
def fX9_may : Mt Int32 := mk_f 2 bX9_may_0
theorem tX9_may : Ct ev_i yX9_may cX9_may 2 (some .int) 5 116 fX9_may := ct_of (by decide +kernel) sX9_may_0
abbrev pX9_ask : Px := (cX9_ask, 11, RX9, "ask", (some .int), 5, 116, fun _ => True)
def bX9_ask_226 : Kt Int32 := o_rI
set_option maxRecDepth 100000 in
theorem sX9_ask_226 : Sd pX9_ask ev_i 226 (bX9_ask_226) := (sd_rI rfl dX9_ask_226)
def bX9_ask_224 : Kt Int32 := o_ild 4 <| (o_fg 4 bX9_ask_226)
set_option maxRecDepth 100000 in
theorem sX9_ask_224 : Sd pX9_ask ev_i 224 (bX9_ask_224) := sd_iload dX9_ask_224 <| (sd_fg (i := 4) sX9_ask_226)
def bX9_ask_219 : Kt Int32 := o_ild 5 <| (o_fg 5 bX9_ask_226)
set_option maxRecDepth 100000 in
theorem sX9_ask_219 : Sd pX9_ask ev_i 219 (bX9_ask_219) := sd_iload dX9_ask_219 <| (sd_goto (tgt := 226) dX9_ask_221 (by decide) (sd_fg (i := 5) sX9_ask_226))
def bX9_ask_215 : Kt Int32 := o_ild 2 <| o_zne (o_fg 2 (o_fg 5 bX9_ask_224)) <| (o_fg 2 (o_fg 4 bX9_ask_219))
set_option maxRecDepth 100000 in
theorem sX9_ask_215 : Sd pX9_ask ev_i 215 (bX9_ask_215) := sd_iload_n dX9_ask_215 rfl <| sd_zne (tgt := 224) dX9_ask_216 (by decide) (sd_fg (i := 2) (sd_fg (i := 5) sX9_ask_224)) <| (sd_fg (i := 2) (sd_fg (i := 4) sX9_ask_219))
def bX9_ask_208 : Kt Int32 := o_ild 5 <| o_psh (.int (-4)) <| o_ceq (o_fg 2 (o_fg 4 bX9_ask_219)) <| bX9_ask_215
set_option maxRecDepth 100000 in
theorem sX9_ask_208 : Sd pX9_ask ev_i 208 (bX9_ask_208) := sd_iload dX9_ask_208 <| sd_bipush dX9_ask_210 rfl <| sd_ceq (tgt := 219) dX9_ask_212 (by decide) (sd_fg (i := 2) (sd_fg (i := 4) sX9_ask_219)) <| sX9_ask_215
def bX9_ask_200 (K38 : Kt Int32) : Kt Int32 := o_ist 4 <| o_inc 6 1 <| K38
set_option maxRecDepth 100000 in
theorem sX9_ask_200 {K38 : Kt Int32} (h38 : Sd pX9_ask ev_i 38 K38) : Sd pX9_ask ev_i 200 (bX9_ask_200 K38) := sd_istore dX9_ask_200 (by decide) <| sd_iinc dX9_ask_202 rfl (by decide) <| (sd_goto (tgt := 38) dX9_ask_205 (by decide) h38)
def bX9_ask_198 (K38 : Kt Int32) : Kt Int32 := o_ild 4 <| (o_fg 4 (bX9_ask_200 K38))
set_option maxRecDepth 100000 in
theorem sX9_ask_198 {K38 : Kt Int32} (h38 : Sd pX9_ask ev_i 38 K38) : Sd pX9_ask ev_i 198 (bX9_ask_198 K38) := sd_iload dX9_ask_198 <| (sd_fg (i := 4) (sX9_ask_200 h38))
def bX9_ask_193 (K38 : Kt Int32) : Kt Int32 := o_ild 7 <| (o_fg 7 (bX9_ask_200 K38))
set_option maxRecDepth 100000 in
theorem sX9_ask_193 {K38 : Kt Int32} (h38 : Sd pX9_ask ev_i 38 K38) : Sd pX9_ask ev_i 193 (bX9_ask_193 K38) := sd_iload dX9_ask_193 <| (sd_goto (tgt := 200) dX9_ask_195 (by decide) (sd_fg (i := 7) (sX9_ask_200 h38)))
def bX9_ask_184 (K38 : Kt Int32) : Kt Int32 := o_ist 5 <| o_ild 7 <| o_ild 4 <| o_cge (o_fg 7 (bX9_ask_198 K38)) <| (o_fg 4 (bX9_ask_193 K38))
set_option maxRecDepth 100000 in
theorem sX9_ask_184 {K38 : Kt Int32} (h38 : Sd pX9_ask ev_i 38 K38) : Sd pX9_ask ev_i 184 (bX9_ask_184 K38) := sd_istore dX9_ask_184 (by decide) <| sd_iload dX9_ask_186 <| sd_iload dX9_ask_188 <| sd_cge (tgt := 198) dX9_ask_190 (by decide) (sd_fg (i := 7) (sX9_ask_198 h38)) <| (sd_fg (i := 4) (sX9_ask_193 h38))
def bX9_ask_182 (K38 : Kt Int32) : Kt Int32 := o_ild 5 <| (o_fg 5 (bX9_ask_184 K38))
set_option maxRecDepth 100000 in
theorem sX9_ask_182 {K38 : Kt Int32} (h38 : Sd pX9_ask ev_i 38 K38) : Sd pX9_ask ev_i 182 (bX9_ask_182 K38) := sd_iload dX9_ask_182 <| (sd_fg (i := 5) (sX9_ask_184 h38))
def bX9_ask_167 (K38 : Kt Int32) : Kt Int32 := o_psh (.int 10) <| o_ild 6 <| o_dvc 3 <| o_i2 o_mul <| o_ild 6 <| o_rmc 3 <| o_i2 o_add <| (bX9_ask_184 K38)
set_option maxRecDepth 100000 in
theorem sX9_ask_167 {K38 : Kt Int32} (h38 : Sd pX9_ask ev_i 38 K38) : Sd pX9_ask ev_i 167 (bX9_ask_167 K38) := sd_bipush dX9_ask_167 rfl <| sd_iload dX9_ask_169 <| sd_dvc (by decide) <| sd_iconst dX9_ask_171 rfl <| sd_idiv dX9_ask_172 <| sd_imul dX9_ask_173 <| sd_iload dX9_ask_174 <| sd_rmc (by decide) <| sd_iconst dX9_ask_176 rfl <| sd_irem dX9_ask_177 <| sd_iadd dX9_ask_178 <| (sd_goto (tgt := 184) dX9_ask_179 (by decide) (sX9_ask_184 h38))
def bX9_ask_160 (K38 : Kt Int32) : Kt Int32 := o_ild 7 <| o_ild 4 <| o_cge (bX9_ask_182 K38) <| (o_fg 5 (bX9_ask_167 K38))
set_option maxRecDepth 100000 in
theorem sX9_ask_160 {K38 : Kt Int32} (h38 : Sd pX9_ask ev_i 38 K38) : Sd pX9_ask ev_i 160 (bX9_ask_160 K38) := sd_iload dX9_ask_160 <| sd_iload dX9_ask_162 <| sd_cge (tgt := 182) dX9_ask_164 (by decide) (sX9_ask_182 h38) <| (sd_fg (i := 5) (sX9_ask_167 h38))
def bX9_ask_152 (K38 : Kt Int32) (K55 : Kt Int32) : Kt Int32 := o_ist 7 <| o_inc 8 1 <| K55
set_option maxRecDepth 100000 in
theorem sX9_ask_152 {K38 : Kt Int32} (h38 : Sd pX9_ask ev_i 38 K38) {K55 : Kt Int32} (h55 : Sd pX9_ask ev_i 55 K55) : Sd pX9_ask ev_i 152 (bX9_ask_152 K38 K55) := sd_istore dX9_ask_152 (by decide) <| sd_iinc dX9_ask_154 rfl (by decide) <| (sd_goto (tgt := 55) dX9_ask_157 (by decide) h55)
def bX9_ask_150 (K38 : Kt Int32) (K55 : Kt Int32) : Kt Int32 := o_ild 7 <| (o_fg 7 (bX9_ask_152 K38 K55))
set_option maxRecDepth 100000 in
theorem sX9_ask_150 {K38 : Kt Int32} (h38 : Sd pX9_ask ev_i 38 K38) {K55 : Kt Int32} (h55 : Sd pX9_ask ev_i 55 K55) : Sd pX9_ask ev_i 150 (bX9_ask_150 K38 K55) := sd_iload dX9_ask_150 <| (sd_fg (i := 7) (sX9_ask_152 h38 h55))
def bX9_ask_145 (K38 : Kt Int32) (K55 : Kt Int32) : Kt Int32 := o_ild 9 <| (o_fg 9 (bX9_ask_152 K38 K55))
set_option maxRecDepth 100000 in
theorem sX9_ask_145 {K38 : Kt Int32} (h38 : Sd pX9_ask ev_i 38 K38) {K55 : Kt Int32} (h55 : Sd pX9_ask ev_i 55 K55) : Sd pX9_ask ev_i 145 (bX9_ask_145 K38 K55) := sd_iload dX9_ask_145 <| (sd_goto (tgt := 152) dX9_ask_147 (by decide) (sd_fg (i := 9) (sX9_ask_152 h38 h55)))
def bX9_ask_138 (K38 : Kt Int32) (K55 : Kt Int32) : Kt Int32 := o_ild 9 <| o_ild 7 <| o_cle (o_fg 9 (bX9_ask_150 K38 K55)) <| (o_fg 7 (bX9_ask_145 K38 K55))
set_option maxRecDepth 100000 in
theorem sX9_ask_138 {K38 : Kt Int32} (h38 : Sd pX9_ask ev_i 38 K38) {K55 : Kt Int32} (h55 : Sd pX9_ask ev_i 55 K55) : Sd pX9_ask ev_i 138 (bX9_ask_138 K38 K55) := sd_iload dX9_ask_138 <| sd_iload dX9_ask_140 <| sd_cle (tgt := 150) dX9_ask_142 (by decide) (sd_fg (i := 9) (sX9_ask_150 h38 h55)) <| (sd_fg (i := 7) (sX9_ask_145 h38 h55))
def bX9_ask_129 (K38 : Kt Int32) (K55 : Kt Int32) (K67 : Kt Int32) : Kt Int32 := o_i2 o_add <| o_ist 9 <| o_inc 10 1 <| K67
set_option maxRecDepth 100000 in
theorem sX9_ask_129 {K38 : Kt Int32} (h38 : Sd pX9_ask ev_i 38 K38) {K55 : Kt Int32} (h55 : Sd pX9_ask ev_i 55 K55) {K67 : Kt Int32} (h67 : Sd pX9_ask ev_i 67 K67) : Sd pX9_ask ev_i 129 (bX9_ask_129 K38 K55 K67) := sd_iadd dX9_ask_129 <| sd_istore dX9_ask_130 (by decide) <| sd_iinc dX9_ask_132 rfl (by decide) <| (sd_goto (tgt := 67) dX9_ask_135 (by decide) h67)
def bX9_ask_128 (K38 : Kt Int32) (K55 : Kt Int32) (K67 : Kt Int32) : Kt Int32 := o_psh (.int 0) <| (bX9_ask_129 K38 K55 K67)
set_option maxRecDepth 100000 in
theorem sX9_ask_128 {K38 : Kt Int32} (h38 : Sd pX9_ask ev_i 38 K38) {K55 : Kt Int32} (h55 : Sd pX9_ask ev_i 55 K55) {K67 : Kt Int32} (h67 : Sd pX9_ask ev_i 67 K67) : Sd pX9_ask ev_i 128 (bX9_ask_128 K38 K55 K67) := sd_iconst dX9_ask_128 rfl <| (sX9_ask_129 h38 h55 h67)
def bX9_ask_124 (K38 : Kt Int32) (K55 : Kt Int32) (K67 : Kt Int32) : Kt Int32 := o_psh (.int 1) <| (bX9_ask_129 K38 K55 K67)
set_option maxRecDepth 100000 in
theorem sX9_ask_124 {K38 : Kt Int32} (h38 : Sd pX9_ask ev_i 38 K38) {K55 : Kt Int32} (h55 : Sd pX9_ask ev_i 55 K55) {K67 : Kt Int32} (h67 : Sd pX9_ask ev_i 67 K67) : Sd pX9_ask ev_i 124 (bX9_ask_124 K38 K55 K67) := sd_iconst dX9_ask_124 rfl <| (sd_goto (tgt := 129) dX9_ask_125 (by decide) (sX9_ask_129 h38 h55 h67))
def bX9_ask_95 (K38 : Kt Int32) (K55 : Kt Int32) (K67 : Kt Int32) : Kt Int32 := o_ald 0 <| o_gR 8 25 <| o_psh (.int 15) <| o_ild 8 <| o_i2 o_mul <| o_ild 6 <| o_i2 o_add <| o_aI <| o_ald 0 <| o_gR 8 25 <| o_psh (.int 15) <| o_ild 10 <| o_i2 o_mul <| o_ild 6 <| o_i2 o_add <| o_aI <| o_cne (bX9_ask_128 K38 K55 K67) <| (bX9_ask_124 K38 K55 K67)
set_option maxRecDepth 100000 in
theorem sX9_ask_95 {K38 : Kt Int32} (h38 : Sd pX9_ask ev_i 38 K38) {K55 : Kt Int32} (h55 : Sd pX9_ask ev_i 55 K55) {K67 : Kt Int32} (h67 : Sd pX9_ask ev_i 67 K67) : Sd pX9_ask ev_i 95 (bX9_ask_95 K38 K55 K67) := sd_aload_n dX9_ask_95 rfl <| sd_gR flX9_40 dX9_ask_96 <| sd_bipush dX9_ask_99 rfl <| sd_iload dX9_ask_101 <| sd_imul dX9_ask_103 <| sd_iload dX9_ask_104 <| sd_iadd dX9_ask_106 <| sd_aI dX9_ask_107 <| sd_aload_n dX9_ask_108 rfl <| sd_gR flX9_40 dX9_ask_109 <| sd_bipush dX9_ask_112 rfl <| sd_iload dX9_ask_114 <| sd_imul dX9_ask_116 <| sd_iload dX9_ask_117 <| sd_iadd dX9_ask_119 <| sd_aI dX9_ask_120 <| sd_cne (tgt := 128) dX9_ask_121 (by decide) (sX9_ask_128 h38 h55 h67) <| (sX9_ask_124 h38 h55 h67)
def bX9_ask_83 (K38 : Kt Int32) (K55 : Kt Int32) (K67 : Kt Int32) : Kt Int32 := o_ild 9 <| o_ild 3 <| o_ild 10 <| o_i2 o_shr <| o_psh (.int 1) <| o_i2 o_and <| o_psh (.int 1) <| o_cne (o_fg 9 (bX9_ask_128 K38 K55 K67)) <| (o_fg 9 (bX9_ask_95 K38 K55 K67))
set_option maxRecDepth 100000 in
theorem sX9_ask_83 {K38 : Kt Int32} (h38 : Sd pX9_ask ev_i 38 K38) {K55 : Kt Int32} (h55 : Sd pX9_ask ev_i 55 K55) {K67 : Kt Int32} (h67 : Sd pX9_ask ev_i 67 K67) : Sd pX9_ask ev_i 83 (bX9_ask_83 K38 K55 K67) := sd_iload dX9_ask_83 <| sd_iload_n dX9_ask_85 rfl <| sd_iload dX9_ask_86 <| sd_ishr dX9_ask_88 <| sd_iconst dX9_ask_89 rfl <| sd_iand dX9_ask_90 <| sd_iconst dX9_ask_91 rfl <| sd_cne (tgt := 128) dX9_ask_92 (by decide) (sd_fg (i := 9) (sX9_ask_128 h38 h55 h67)) <| (sd_fg (i := 9) (sX9_ask_95 h38 h55 h67))
def bX9_ask_73 (K38 : Kt Int32) (K55 : Kt Int32) (K67 : Kt Int32) : Kt Int32 := o_ild 3 <| o_ild 8 <| o_i2 o_shr <| o_psh (.int 1) <| o_i2 o_and <| o_psh (.int 1) <| o_cne (o_fg 10 (bX9_ask_138 K38 K55)) <| (bX9_ask_83 K38 K55 K67)
set_option maxRecDepth 100000 in
theorem sX9_ask_73 {K38 : Kt Int32} (h38 : Sd pX9_ask ev_i 38 K38) {K55 : Kt Int32} (h55 : Sd pX9_ask ev_i 55 K55) {K67 : Kt Int32} (h67 : Sd pX9_ask ev_i 67 K67) : Sd pX9_ask ev_i 73 (bX9_ask_73 K38 K55 K67) := sd_iload_n dX9_ask_73 rfl <| sd_iload dX9_ask_74 <| sd_ishr dX9_ask_76 <| sd_iconst dX9_ask_77 rfl <| sd_iand dX9_ask_78 <| sd_iconst dX9_ask_79 rfl <| sd_cne (tgt := 138) dX9_ask_80 (by decide) (sd_fg (i := 10) (sX9_ask_138 h38 h55)) <| (sX9_ask_83 h38 h55 h67)
def bX9_ask_67 (K38 : Kt Int32) (K55 : Kt Int32) (K67 : Kt Int32) : Kt Int32 := o_ild 10 <| o_psh (.int 5) <| o_cgt (o_fg 10 (bX9_ask_138 K38 K55)) <| (bX9_ask_73 K38 K55 K67)
set_option maxRecDepth 100000 in
theorem sX9_ask_67 {K38 : Kt Int32} (h38 : Sd pX9_ask ev_i 38 K38) {K55 : Kt Int32} (h55 : Sd pX9_ask ev_i 55 K55) {K67 : Kt Int32} (h67 : Sd pX9_ask ev_i 67 K67) : Sd pX9_ask ev_i 67 (bX9_ask_67 K38 K55 K67) := sd_iload dX9_ask_67 <| sd_iconst dX9_ask_69 rfl <| sd_cgt (tgt := 138) dX9_ask_70 (by decide) (sd_fg (i := 10) (sX9_ask_138 h38 h55)) <| (sX9_ask_73 h38 h55 h67)
def bX9_ask_61 (K38 : Kt Int32) (K55 : Kt Int32) : Kt Int32 := o_psh (.int 0) <| o_ist 9 <| o_psh (.int 0) <| o_ist 10 <| (o_lp (bX9_ask_67 K38 K55) fu)
set_option maxRecDepth 100000 in
theorem sX9_ask_61 {K38 : Kt Int32} (h38 : Sd pX9_ask ev_i 38 K38) {K55 : Kt Int32} (h55 : Sd pX9_ask ev_i 55 K55) : Sd pX9_ask ev_i 61 (bX9_ask_61 K38 K55) := sd_iconst dX9_ask_61 rfl <| sd_istore dX9_ask_62 (by decide) <| sd_iconst dX9_ask_64 rfl <| sd_istore dX9_ask_65 (by decide) <| (sd_lp (fun K h => sX9_ask_67 h38 h55 h) fu)
def bX9_ask_55 (K38 : Kt Int32) (K55 : Kt Int32) : Kt Int32 := o_ild 8 <| o_psh (.int 5) <| o_cgt (o_fg 8 (bX9_ask_160 K38)) <| (bX9_ask_61 K38 K55)
set_option maxRecDepth 100000 in
theorem sX9_ask_55 {K38 : Kt Int32} (h38 : Sd pX9_ask ev_i 38 K38) {K55 : Kt Int32} (h55 : Sd pX9_ask ev_i 55 K55) : Sd pX9_ask ev_i 55 (bX9_ask_55 K38 K55) := sd_iload dX9_ask_55 <| sd_iconst dX9_ask_57 rfl <| sd_cgt (tgt := 160) dX9_ask_58 (by decide) (sd_fg (i := 8) (sX9_ask_160 h38)) <| (sX9_ask_61 h38 h55)
def bX9_ask_49 (K38 : Kt Int32) : Kt Int32 := o_psh (.int 0) <| o_ist 7 <| o_psh (.int 0) <| o_ist 8 <| (o_lp (bX9_ask_55 K38) fu)
set_option maxRecDepth 100000 in
theorem sX9_ask_49 {K38 : Kt Int32} (h38 : Sd pX9_ask ev_i 38 K38) : Sd pX9_ask ev_i 49 (bX9_ask_49 K38) := sd_iconst dX9_ask_49 rfl <| sd_istore dX9_ask_50 (by decide) <| sd_iconst dX9_ask_52 rfl <| sd_istore dX9_ask_53 (by decide) <| (sd_lp (fun K h => sX9_ask_55 h38 h) fu)
def bX9_ask_38 (K38 : Kt Int32) : Kt Int32 := o_ild 6 <| o_psh (.int 3) <| o_ald 0 <| o_gI 8 2 <| o_i2 o_mul <| o_cge (o_fg 0 (o_fg 3 (o_fg 6 bX9_ask_208))) <| (bX9_ask_49 K38)
set_option maxRecDepth 100000 in
theorem sX9_ask_38 {K38 : Kt Int32} (h38 : Sd pX9_ask ev_i 38 K38) : Sd pX9_ask ev_i 38 (bX9_ask_38 K38) := sd_iload dX9_ask_38 <| sd_iconst dX9_ask_40 rfl <| sd_aload_n dX9_ask_41 rfl <| sd_gI flX9_154 dX9_ask_42 <| sd_imul dX9_ask_45 <| sd_cge (tgt := 208) dX9_ask_46 (by decide) (sd_fg (i := 0) (sd_fg (i := 3) (sd_fg (i := 6) sX9_ask_208))) <| (sX9_ask_49 h38)
def bX9_ask_19 : Kt Int32 := o_ald 0 <| o_ild 1 <| o_vc ev_i 8 2 fX9_mayHave <| o_ist 3 <| o_ild 3 <| o_sc ev_i 1 fX9_bitsOf <| o_ist 4 <| o_psh (.int (-4)) <| o_ist 5 <| o_psh (.int 0) <| o_ist 6 <| (o_fg 1 (o_lp (bX9_ask_38) fu))
set_option maxRecDepth 100000 in
theorem sX9_ask_19 : Sd pX9_ask ev_i 19 (bX9_ask_19) := sd_aload_n dX9_ask_19 rfl <| sd_iload_n dX9_ask_20 rfl <| sd_vc tX9_mayHave (fun _ _ => rfl) rfl mwX9_mayHave mvX9_mayHave tw_805 (by decide) dX9_ask_21 <| sd_istore_n dX9_ask_24 rfl (by decide) <| sd_iload_n dX9_ask_25 rfl <| sd_sc tX9_bitsOf (fun _ _ => rfl) mwX9_bitsOf mvX9_bitsOf tw_781 (by decide) dX9_ask_26 <| sd_istore dX9_ask_29 (by decide) <| sd_bipush dX9_ask_31 rfl <| sd_istore dX9_ask_33 (by decide) <| sd_iconst dX9_ask_35 rfl <| sd_istore dX9_ask_36 (by decide) <| (sd_fg (i := 1) (sd_lp (fun K h => sX9_ask_38 h) fu))
def bX9_ask_17 : Kt Int32 := o_psh (.int (-1)) <| o_rI
set_option maxRecDepth 100000 in
theorem sX9_ask_17 : Sd pX9_ask ev_i 17 (bX9_ask_17) := sd_iconst dX9_ask_17 rfl <| (sd_rI rfl dX9_ask_18)
def bX9_ask_7 : Kt Int32 := o_ild 2 <| o_i2l <| o_psh (.long 0) <| o_psh (.long 1) <| o_sc ev_i 3 fX9_in <| o_zne bX9_ask_19 <| (o_fg 0 (o_fg 1 (o_fg 2 bX9_ask_17)))
set_option maxRecDepth 100000 in
theorem sX9_ask_7 : Sd pX9_ask ev_i 7 (bX9_ask_7) := sd_iload_n dX9_ask_7 rfl <| sd_i2l dX9_ask_8 <| sd_lconst dX9_ask_9 rfl <| sd_lconst dX9_ask_10 rfl <| sd_sc tX9_in (fun _ _ => rfl) mwX9_in mvX9_in tw_611 (by decide) dX9_ask_11 <| sd_zne (tgt := 19) dX9_ask_14 (by decide) sX9_ask_19 <| (sd_fg (i := 0) (sd_fg (i := 1) (sd_fg (i := 2) sX9_ask_17)))
def bX9_ask_0 : Kt Int32 := o_ild 1 <| o_sc ev_i 1 fX9_isHour <| o_zeq (o_fg 0 (o_fg 1 (o_fg 2 bX9_ask_17))) <| bX9_ask_7
set_option maxRecDepth 100000 in
theorem sX9_ask_0 : Sd pX9_ask ev_i 0 (bX9_ask_0) := sd_iload_n dX9_ask_0 rfl <| sd_sc tX9_isHour (fun _ _ => rfl) mwX9_isHour mvX9_isHour tw_723 (by decide) dX9_ask_1 <| sd_zeq (tgt := 17) dX9_ask_4 (by decide) (sd_fg (i := 0) (sd_fg (i := 1) (sd_fg (i := 2) sX9_ask_17))) <| sX9_ask_7
def fX9_ask : Mt Int32 := mk_f 11 bX9_ask_0
theorem tX9_ask : Ct ev_i yX9_ask cX9_ask 11 (some .int) 5 116 fX9_ask := ct_of (by decide +kernel) sX9_ask_0
abbrev pX9_draws : Px := (cX9_draws, 2, RX9, "draws", (some .int), 0, 0, fun _ => True)
def bX9_draws_0 : Kt Int32 := o_ald 0 <| o_ald 0 <| o_gI 8 26 <| o_psh (.int 1103515245) <| o_i2 o_mul <| o_psh (.int 12345) <| o_i2 o_add <| o_pI 8 26 <| o_ald 0 <| o_gI 8 26 <| o_psh (.int 16) <| o_i2 o_shr <| o_psh (.int 32767) <| o_i2 o_and <| o_ild 1 <| o_irm <| o_rI
set_option maxRecDepth 100000 in
theorem sX9_draws_0 : Sd pX9_draws ev_i 0 (bX9_draws_0) := sd_aload_n dX9_draws_0 rfl <| sd_aload_n dX9_draws_1 rfl <| sd_gI flX9_276 dX9_draws_2 <| sd_ldcw tw_807 dX9_draws_5 <| sd_imul dX9_draws_8 <| sd_sipush dX9_draws_9 rfl <| sd_iadd dX9_draws_12 <| sd_pI fpX9_276 dX9_draws_13 <| sd_aload_n dX9_draws_16 rfl <| sd_gI flX9_276 dX9_draws_17 <| sd_bipush dX9_draws_20 rfl <| sd_ishr dX9_draws_22 <| sd_sipush dX9_draws_23 rfl <| sd_iand dX9_draws_26 <| sd_iload_n dX9_draws_27 rfl <| sd_irem dX9_draws_28 <| (sd_rI rfl dX9_draws_29)
def fX9_draws : Mt Int32 := mk_f 2 bX9_draws_0
theorem tX9_draws : Ct ev_i yX9_draws cX9_draws 2 (some .int) 0 0 fX9_draws := ct_of (by decide +kernel) sX9_draws_0
abbrev pX9_copies : Px := (cX9_copies, 4, RX9, "copies", none, 0, 0, fun _ => True)
def bX9_copies_30 : Kt Unit := o_rV
set_option maxRecDepth 100000 in
theorem sX9_copies_30 : Sd pX9_copies ev_v 30 (bX9_copies_30) := (sd_rV rfl dX9_copies_30)
def bX9_copies_8 (K2 : Kt Unit) : Kt Unit := o_ald 0 <| o_gR 8 0 <| o_ild 2 <| o_ild 3 <| o_i2 o_add <| o_ald 0 <| o_gR 8 0 <| o_ild 1 <| o_ild 3 <| o_i2 o_add <| o_aI <| o_sI <| o_inc 3 1 <| K2
set_option maxRecDepth 100000 in
theorem sX9_copies_8 {K2 : Kt Unit} (h2 : Sd pX9_copies ev_v 2 K2) : Sd pX9_copies ev_v 8 (bX9_copies_8 K2) := sd_aload_n dX9_copies_8 rfl <| sd_gR flX9_7 dX9_copies_9 <| sd_iload_n dX9_copies_12 rfl <| sd_iload_n dX9_copies_13 rfl <| sd_iadd dX9_copies_14 <| sd_aload_n dX9_copies_15 rfl <| sd_gR flX9_7 dX9_copies_16 <| sd_iload_n dX9_copies_19 rfl <| sd_iload_n dX9_copies_20 rfl <| sd_iadd dX9_copies_21 <| sd_aI dX9_copies_22 <| sd_sI dX9_copies_23 <| sd_iinc dX9_copies_24 rfl (by decide) <| (sd_goto (tgt := 2) dX9_copies_27 (by decide) h2)
def bX9_copies_2 (K2 : Kt Unit) : Kt Unit := o_ild 3 <| o_psh (.int 74) <| o_cge (o_fg 0 (o_fg 1 (o_fg 2 (o_fg 3 bX9_copies_30)))) <| (bX9_copies_8 K2)
set_option maxRecDepth 100000 in
theorem sX9_copies_2 {K2 : Kt Unit} (h2 : Sd pX9_copies ev_v 2 K2) : Sd pX9_copies ev_v 2 (bX9_copies_2 K2) := sd_iload_n dX9_copies_2 rfl <| sd_bipush dX9_copies_3 rfl <| sd_cge (tgt := 30) dX9_copies_5 (by decide) (sd_fg (i := 0) (sd_fg (i := 1) (sd_fg (i := 2) (sd_fg (i := 3) sX9_copies_30)))) <| (sX9_copies_8 h2)
def bX9_copies_0 : Kt Unit := o_psh (.int 0) <| o_ist 3 <| (o_lp (bX9_copies_2) fu)
set_option maxRecDepth 100000 in
theorem sX9_copies_0 : Sd pX9_copies ev_v 0 (bX9_copies_0) := sd_iconst dX9_copies_0 rfl <| sd_istore_n dX9_copies_1 rfl (by decide) <| (sd_lp (fun K h => sX9_copies_2 h) fu)
def fX9_copies : Mt Unit := mk_f 4 bX9_copies_0
theorem tX9_copies : Ct ev_v yX9_copies cX9_copies 4 none 0 0 fX9_copies := ct_of (by decide +kernel) sX9_copies_0
abbrev pX9_drift : Px := (cX9_drift, 8, RX9, "drift", (some .int), 5, 109, fun _ => True)
def bX9_drift_146 : Kt Int32 := o_rI
set_option maxRecDepth 100000 in
theorem sX9_drift_146 : Sd pX9_drift ev_i 146 (bX9_drift_146) := (sd_rI rfl dX9_drift_146)
def bX9_drift_144 : Kt Int32 := o_ild 5 <| (o_fg 5 bX9_drift_146)
set_option maxRecDepth 100000 in
theorem sX9_drift_144 : Sd pX9_drift ev_i 144 (bX9_drift_144) := sd_iload dX9_drift_144 <| (sd_fg (i := 5) sX9_drift_146)
def bX9_drift_139 : Kt Int32 := o_ild 4 <| (o_fg 4 bX9_drift_146)
set_option maxRecDepth 100000 in
theorem sX9_drift_139 : Sd pX9_drift ev_i 139 (bX9_drift_139) := sd_iload dX9_drift_139 <| (sd_goto (tgt := 146) dX9_drift_141 (by decide) (sd_fg (i := 4) sX9_drift_146))
def bX9_drift_121 : Kt Int32 := o_ald 0 <| o_vc ev_i 8 1 fX9_seeing <| o_ist 5 <| o_ald 0 <| o_psh (.int 222) <| o_psh (.int 0) <| o_vc ev_v 8 3 fX9_copies <| o_ild 3 <| o_zne (o_fg 0 (o_fg 3 (o_fg 4 bX9_drift_144))) <| (o_fg 0 (o_fg 3 (o_fg 5 bX9_drift_139)))
set_option maxRecDepth 100000 in
theorem sX9_drift_121 : Sd pX9_drift ev_i 121 (bX9_drift_121) := sd_aload_n dX9_drift_121 rfl <| sd_vc tX9_seeing (fun _ _ => rfl) rfl mwX9_seeing mvX9_seeing tw_713 (by decide) dX9_drift_122 <| sd_istore dX9_drift_125 (by decide) <| sd_aload_n dX9_drift_127 rfl <| sd_sipush dX9_drift_128 rfl <| sd_iconst dX9_drift_131 rfl <| sd_vc tX9_copies (fun _ _ => rfl) rfl mwX9_copies mvX9_copies tw_812 (by decide) dX9_drift_132 <| sd_iload_n dX9_drift_135 rfl <| sd_zne (tgt := 144) dX9_drift_136 (by decide) (sd_fg (i := 0) (sd_fg (i := 3) (sd_fg (i := 4) sX9_drift_144))) <| (sd_fg (i := 0) (sd_fg (i := 3) (sd_fg (i := 5) sX9_drift_139)))
def bX9_drift_105 (K53 : Kt Int32) : Kt Int32 := o_sI <| o_ild 4 <| o_ald 0 <| o_vc ev_i 8 1 fX9_worthNow <| o_i2 o_add <| o_ist 4 <| o_inc 5 1 <| K53
set_option maxRecDepth 100000 in
theorem sX9_drift_105 {K53 : Kt Int32} (h53 : Sd pX9_drift ev_i 53 K53) : Sd pX9_drift ev_i 105 (bX9_drift_105 K53) := sd_sI dX9_drift_105 <| sd_iload dX9_drift_106 <| sd_aload_n dX9_drift_108 rfl <| sd_vc tX9_worthNow (fun _ _ => rfl) rfl mwX9_worthNow mvX9_worthNow tw_778 (by decide) dX9_drift_109 <| sd_iadd dX9_drift_112 <| sd_istore dX9_drift_113 (by decide) <| sd_iinc dX9_drift_115 rfl (by decide) <| (sd_goto (tgt := 53) dX9_drift_118 (by decide) h53)
def bX9_drift_101 (K53 : Kt Int32) : Kt Int32 := o_ild 7 <| o_psh (.int 1) <| o_i2 o_add <| (o_fg 7 (bX9_drift_105 K53))
set_option maxRecDepth 100000 in
theorem sX9_drift_101 {K53 : Kt Int32} (h53 : Sd pX9_drift ev_i 53 K53) : Sd pX9_drift ev_i 101 (bX9_drift_101 K53) := sd_iload dX9_drift_101 <| sd_iconst dX9_drift_103 rfl <| sd_iadd dX9_drift_104 <| (sd_fg (i := 7) (sX9_drift_105 h53))
def bX9_drift_97 (K53 : Kt Int32) : Kt Int32 := o_psh (.int 0) <| (bX9_drift_105 K53)
set_option maxRecDepth 100000 in
theorem sX9_drift_97 {K53 : Kt Int32} (h53 : Sd pX9_drift ev_i 53 K53) : Sd pX9_drift ev_i 97 (bX9_drift_97 K53) := sd_iconst dX9_drift_97 rfl <| (sd_goto (tgt := 105) dX9_drift_98 (by decide) (sX9_drift_105 h53))
def bX9_drift_59 (K53 : Kt Int32) : Kt Int32 := o_ald 0 <| o_psh (.int 10) <| o_vc ev_i 8 2 fX9_draws <| o_ist 6 <| o_ald 0 <| o_ald 0 <| o_gI 8 2 <| o_psh (.int 1) <| o_i2 o_add <| o_vc ev_i 8 2 fX9_draws <| o_ist 7 <| o_ald 0 <| o_gR 8 0 <| o_psh (.int 26) <| o_ild 6 <| o_i2 o_add <| o_ild 7 <| o_ald 0 <| o_gI 8 2 <| o_cne (o_fg 6 (bX9_drift_101 K53)) <| (o_fg 6 (o_fg 7 (bX9_drift_97 K53)))
set_option maxRecDepth 100000 in
theorem sX9_drift_59 {K53 : Kt Int32} (h53 : Sd pX9_drift ev_i 53 K53) : Sd pX9_drift ev_i 59 (bX9_drift_59 K53) := sd_aload_n dX9_drift_59 rfl <| sd_bipush dX9_drift_60 rfl <| sd_vc tX9_draws (fun _ _ => rfl) rfl mwX9_draws mvX9_draws tw_816 (by decide) dX9_drift_62 <| sd_istore dX9_drift_65 (by decide) <| sd_aload_n dX9_drift_67 rfl <| sd_aload_n dX9_drift_68 rfl <| sd_gI flX9_154 dX9_drift_69 <| sd_iconst dX9_drift_72 rfl <| sd_iadd dX9_drift_73 <| sd_vc tX9_draws (fun _ _ => rfl) rfl mwX9_draws mvX9_draws tw_816 (by decide) dX9_drift_74 <| sd_istore dX9_drift_77 (by decide) <| sd_aload_n dX9_drift_79 rfl <| sd_gR flX9_7 dX9_drift_80 <| sd_bipush dX9_drift_83 rfl <| sd_iload dX9_drift_85 <| sd_iadd dX9_drift_87 <| sd_iload dX9_drift_88 <| sd_aload_n dX9_drift_90 rfl <| sd_gI flX9_154 dX9_drift_91 <| sd_cne (tgt := 101) dX9_drift_94 (by decide) (sd_fg (i := 6) (sX9_drift_101 h53)) <| (sd_fg (i := 6) (sd_fg (i := 7) (sX9_drift_97 h53)))
def bX9_drift_53 (K53 : Kt Int32) : Kt Int32 := o_ild 5 <| o_ild 2 <| o_cge (o_fg 2 (o_fg 5 bX9_drift_121)) <| (bX9_drift_59 K53)
set_option maxRecDepth 100000 in
theorem sX9_drift_53 {K53 : Kt Int32} (h53 : Sd pX9_drift ev_i 53 K53) : Sd pX9_drift ev_i 53 (bX9_drift_53 K53) := sd_iload dX9_drift_53 <| sd_iload_n dX9_drift_55 rfl <| sd_cge (tgt := 121) dX9_drift_56 (by decide) (sd_fg (i := 2) (sd_fg (i := 5) sX9_drift_121)) <| (sX9_drift_59 h53)
def bX9_drift_34 : Kt Int32 := o_ald 0 <| o_psh (.int 0) <| o_psh (.int 222) <| o_vc ev_v 8 3 fX9_copies <| o_ald 0 <| o_ild 1 <| o_pI 8 26 <| o_psh (.int 0) <| o_ist 4 <| o_psh (.int 0) <| o_ist 5 <| (o_fg 1 (o_lp (bX9_drift_53) fu))
set_option maxRecDepth 100000 in
theorem sX9_drift_34 : Sd pX9_drift ev_i 34 (bX9_drift_34) := sd_aload_n dX9_drift_34 rfl <| sd_iconst dX9_drift_35 rfl <| sd_sipush dX9_drift_36 rfl <| sd_vc tX9_copies (fun _ _ => rfl) rfl mwX9_copies mvX9_copies tw_812 (by decide) dX9_drift_39 <| sd_aload_n dX9_drift_42 rfl <| sd_iload_n dX9_drift_43 rfl <| sd_pI fpX9_276 dX9_drift_44 <| sd_iconst dX9_drift_47 rfl <| sd_istore dX9_drift_48 (by decide) <| sd_iconst dX9_drift_50 rfl <| sd_istore dX9_drift_51 (by decide) <| (sd_fg (i := 1) (sd_lp (fun K h => sX9_drift_53 h) fu))
def bX9_drift_31 : Kt Int32 := o_psh (.int (-2)) <| o_rI
set_option maxRecDepth 100000 in
theorem sX9_drift_31 : Sd pX9_drift ev_i 31 (bX9_drift_31) := sd_bipush dX9_drift_31 rfl <| (sd_rI rfl dX9_drift_33)
def bX9_drift_24 : Kt Int32 := o_ald 0 <| o_gI 8 2 <| o_zne bX9_drift_34 <| (o_fg 0 (o_fg 1 (o_fg 2 (o_fg 3 bX9_drift_31))))
set_option maxRecDepth 100000 in
theorem sX9_drift_24 : Sd pX9_drift ev_i 24 (bX9_drift_24) := sd_aload_n dX9_drift_24 rfl <| sd_gI flX9_154 dX9_drift_25 <| sd_zne (tgt := 34) dX9_drift_28 (by decide) sX9_drift_34 <| (sd_fg (i := 0) (sd_fg (i := 1) (sd_fg (i := 2) (sd_fg (i := 3) sX9_drift_31))))
def bX9_drift_22 : Kt Int32 := o_psh (.int (-1)) <| o_rI
set_option maxRecDepth 100000 in
theorem sX9_drift_22 : Sd pX9_drift ev_i 22 (bX9_drift_22) := sd_iconst dX9_drift_22 rfl <| (sd_rI rfl dX9_drift_23)
def bX9_drift_12 : Kt Int32 := o_ild 3 <| o_i2l <| o_psh (.long 0) <| o_psh (.long 1) <| o_sc ev_i 3 fX9_in <| o_zne bX9_drift_24 <| (o_fg 0 (o_fg 1 (o_fg 2 (o_fg 3 bX9_drift_22))))
set_option maxRecDepth 100000 in
theorem sX9_drift_12 : Sd pX9_drift ev_i 12 (bX9_drift_12) := sd_iload_n dX9_drift_12 rfl <| sd_i2l dX9_drift_13 <| sd_lconst dX9_drift_14 rfl <| sd_lconst dX9_drift_15 rfl <| sd_sc tX9_in (fun _ _ => rfl) mwX9_in mvX9_in tw_611 (by decide) dX9_drift_16 <| sd_zne (tgt := 24) dX9_drift_19 (by decide) sX9_drift_24 <| (sd_fg (i := 0) (sd_fg (i := 1) (sd_fg (i := 2) (sd_fg (i := 3) sX9_drift_22))))
def bX9_drift_0 : Kt Int32 := o_ild 2 <| o_i2l <| o_psh (.long 1) <| o_psh (.long 60) <| o_sc ev_i 3 fX9_in <| o_zeq (o_fg 0 (o_fg 1 (o_fg 2 (o_fg 3 bX9_drift_22)))) <| bX9_drift_12
set_option maxRecDepth 100000 in
theorem sX9_drift_0 : Sd pX9_drift ev_i 0 (bX9_drift_0) := sd_iload_n dX9_drift_0 rfl <| sd_i2l dX9_drift_1 <| sd_lconst dX9_drift_2 rfl <| sd_ldc2 tw_808 dX9_drift_3 <| sd_sc tX9_in (fun _ _ => rfl) mwX9_in mvX9_in tw_611 (by decide) dX9_drift_6 <| sd_zeq (tgt := 22) dX9_drift_9 (by decide) (sd_fg (i := 0) (sd_fg (i := 1) (sd_fg (i := 2) (sd_fg (i := 3) sX9_drift_22)))) <| sX9_drift_12
def fX9_drift : Mt Int32 := mk_f 8 bX9_drift_0
theorem tX9_drift : Ct ev_i yX9_drift cX9_drift 8 (some .int) 5 109 fX9_drift := ct_of (by decide +kernel) sX9_drift_0
abbrev pX9_keep : Px := (cX9_keep, 3, RX9, "keep", (some .int), 1, 25, fun _ => True)
def bX9_keep_37 : Kt Int32 := o_ist 2 <| o_ald 0 <| o_gR 8 27 <| o_ild 1 <| o_psh (.int 1) <| o_sZ <| o_ild 2 <| o_rI
set_option maxRecDepth 100000 in
theorem sX9_keep_37 : Sd pX9_keep ev_i 37 (bX9_keep_37) := sd_istore_n dX9_keep_37 rfl (by decide) <| sd_aload_n dX9_keep_38 rfl <| sd_gR flX9_43 dX9_keep_39 <| sd_iload_n dX9_keep_42 rfl <| sd_iconst dX9_keep_43 rfl <| sd_sZ dX9_keep_44 <| sd_iload_n dX9_keep_45 rfl <| (sd_rI rfl dX9_keep_46)
def bX9_keep_36 : Kt Int32 := o_psh (.int 0) <| bX9_keep_37
set_option maxRecDepth 100000 in
theorem sX9_keep_36 : Sd pX9_keep ev_i 36 (bX9_keep_36) := sd_iconst dX9_keep_36 rfl <| sX9_keep_37
def bX9_keep_32 : Kt Int32 := o_psh (.int 1) <| bX9_keep_37
set_option maxRecDepth 100000 in
theorem sX9_keep_32 : Sd pX9_keep ev_i 32 (bX9_keep_32) := sd_iconst dX9_keep_32 rfl <| (sd_goto (tgt := 37) dX9_keep_33 (by decide) sX9_keep_37)
def bX9_keep_12 : Kt Int32 := o_ald 0 <| o_psh (.int 0) <| o_psh (.int 74) <| o_ild 1 <| o_psh (.int 1) <| o_i2 o_add <| o_i2 o_mul <| o_vc ev_v 8 3 fX9_copies <| o_ald 0 <| o_gR 8 27 <| o_ild 1 <| o_aZ <| o_zeq bX9_keep_36 <| bX9_keep_32
set_option maxRecDepth 100000 in
theorem sX9_keep_12 : Sd pX9_keep ev_i 12 (bX9_keep_12) := sd_aload_n dX9_keep_12 rfl <| sd_iconst dX9_keep_13 rfl <| sd_bipush dX9_keep_14 rfl <| sd_iload_n dX9_keep_16 rfl <| sd_iconst dX9_keep_17 rfl <| sd_iadd dX9_keep_18 <| sd_imul dX9_keep_19 <| sd_vc tX9_copies (fun _ _ => rfl) rfl mwX9_copies mvX9_copies tw_812 (by decide) dX9_keep_20 <| sd_aload_n dX9_keep_23 rfl <| sd_gR flX9_43 dX9_keep_24 <| sd_iload_n dX9_keep_27 rfl <| sd_aZ dX9_keep_28 <| sd_zeq (tgt := 36) dX9_keep_29 (by decide) sX9_keep_36 <| sX9_keep_32
def bX9_keep_10 : Kt Int32 := o_psh (.int (-1)) <| o_rI
set_option maxRecDepth 100000 in
theorem sX9_keep_10 : Sd pX9_keep ev_i 10 (bX9_keep_10) := sd_iconst dX9_keep_10 rfl <| (sd_rI rfl dX9_keep_11)
def bX9_keep_0 : Kt Int32 := o_ild 1 <| o_i2l <| o_psh (.long 0) <| o_psh (.long 1) <| o_sc ev_i 3 fX9_in <| o_zne bX9_keep_12 <| (o_fg 0 (o_fg 1 bX9_keep_10))
set_option maxRecDepth 100000 in
theorem sX9_keep_0 : Sd pX9_keep ev_i 0 (bX9_keep_0) := sd_iload_n dX9_keep_0 rfl <| sd_i2l dX9_keep_1 <| sd_lconst dX9_keep_2 rfl <| sd_lconst dX9_keep_3 rfl <| sd_sc tX9_in (fun _ _ => rfl) mwX9_in mvX9_in tw_611 (by decide) dX9_keep_4 <| sd_zne (tgt := 12) dX9_keep_7 (by decide) sX9_keep_12 <| (sd_fg (i := 0) (sd_fg (i := 1) sX9_keep_10))
def fX9_keep : Mt Int32 := mk_f 3 bX9_keep_0
theorem tX9_keep : Ct ev_i yX9_keep cX9_keep 3 (some .int) 1 25 fX9_keep := ct_of (by decide +kernel) sX9_keep_0
abbrev pX9_back : Px := (cX9_back, 2, RX9, "back", (some .int), 1, 25, fun _ => True)
def bX9_back_24 : Kt Int32 := o_ald 0 <| o_psh (.int 74) <| o_ild 1 <| o_psh (.int 1) <| o_i2 o_add <| o_i2 o_mul <| o_psh (.int 0) <| o_vc ev_v 8 3 fX9_copies <| o_ald 0 <| o_gI 8 2 <| o_rI
set_option maxRecDepth 100000 in
theorem sX9_back_24 : Sd pX9_back ev_i 24 (bX9_back_24) := sd_aload_n dX9_back_24 rfl <| sd_bipush dX9_back_25 rfl <| sd_iload_n dX9_back_27 rfl <| sd_iconst dX9_back_28 rfl <| sd_iadd dX9_back_29 <| sd_imul dX9_back_30 <| sd_iconst dX9_back_31 rfl <| sd_vc tX9_copies (fun _ _ => rfl) rfl mwX9_copies mvX9_copies tw_812 (by decide) dX9_back_32 <| sd_aload_n dX9_back_35 rfl <| sd_gI flX9_154 dX9_back_36 <| (sd_rI rfl dX9_back_39)
def bX9_back_21 : Kt Int32 := o_psh (.int (-2)) <| o_rI
set_option maxRecDepth 100000 in
theorem sX9_back_21 : Sd pX9_back ev_i 21 (bX9_back_21) := sd_bipush dX9_back_21 rfl <| (sd_rI rfl dX9_back_23)
def bX9_back_12 : Kt Int32 := o_ald 0 <| o_gR 8 27 <| o_ild 1 <| o_aZ <| o_zne bX9_back_24 <| (o_fg 0 (o_fg 1 bX9_back_21))
set_option maxRecDepth 100000 in
theorem sX9_back_12 : Sd pX9_back ev_i 12 (bX9_back_12) := sd_aload_n dX9_back_12 rfl <| sd_gR flX9_43 dX9_back_13 <| sd_iload_n dX9_back_16 rfl <| sd_aZ dX9_back_17 <| sd_zne (tgt := 24) dX9_back_18 (by decide) sX9_back_24 <| (sd_fg (i := 0) (sd_fg (i := 1) sX9_back_21))
def bX9_back_10 : Kt Int32 := o_psh (.int (-1)) <| o_rI
set_option maxRecDepth 100000 in
theorem sX9_back_10 : Sd pX9_back ev_i 10 (bX9_back_10) := sd_iconst dX9_back_10 rfl <| (sd_rI rfl dX9_back_11)
def bX9_back_0 : Kt Int32 := o_ild 1 <| o_i2l <| o_psh (.long 0) <| o_psh (.long 1) <| o_sc ev_i 3 fX9_in <| o_zne bX9_back_12 <| (o_fg 0 (o_fg 1 bX9_back_10))
set_option maxRecDepth 100000 in
theorem sX9_back_0 : Sd pX9_back ev_i 0 (bX9_back_0) := sd_iload_n dX9_back_0 rfl <| sd_i2l dX9_back_1 <| sd_lconst dX9_back_2 rfl <| sd_lconst dX9_back_3 rfl <| sd_sc tX9_in (fun _ _ => rfl) mwX9_in mvX9_in tw_611 (by decide) dX9_back_4 <| sd_zne (tgt := 12) dX9_back_7 (by decide) sX9_back_12 <| (sd_fg (i := 0) (sd_fg (i := 1) sX9_back_10))
def fX9_back : Mt Int32 := mk_f 2 bX9_back_0
theorem tX9_back : Ct ev_i yX9_back cX9_back 2 (some .int) 1 25 fX9_back := ct_of (by decide +kernel) sX9_back_0
abbrev pX9_sheet : Px := (cX9_sheet, 5, RX9, "sheet", (some .int), 1, 25, fun _ => True)
def bX9_sheet_82 : Kt Int32 := o_psh (.int 1) <| o_rI
set_option maxRecDepth 100000 in
theorem sX9_sheet_82 : Sd pX9_sheet ev_i 82 (bX9_sheet_82) := sd_iconst dX9_sheet_82 rfl <| (sd_rI rfl dX9_sheet_83)
def bX9_sheet_63 (K56 : Kt Int32) : Kt Int32 := o_ald 0 <| o_gR 8 30 <| o_psh (.int 40) <| o_ild 1 <| o_i2 o_mul <| o_ild 4 <| o_i2 o_add <| o_psh (.int 0) <| o_sI <| o_inc 4 1 <| K56
set_option maxRecDepth 100000 in
theorem sX9_sheet_63 {K56 : Kt Int32} (h56 : Sd pX9_sheet ev_i 56 K56) : Sd pX9_sheet ev_i 63 (bX9_sheet_63 K56) := sd_aload_n dX9_sheet_63 rfl <| sd_gR flX9_53 dX9_sheet_64 <| sd_bipush dX9_sheet_67 rfl <| sd_iload_n dX9_sheet_69 rfl <| sd_imul dX9_sheet_70 <| sd_iload dX9_sheet_71 <| sd_iadd dX9_sheet_73 <| sd_iconst dX9_sheet_74 rfl <| sd_sI dX9_sheet_75 <| sd_iinc dX9_sheet_76 rfl (by decide) <| (sd_goto (tgt := 56) dX9_sheet_79 (by decide) h56)
def bX9_sheet_56 (K56 : Kt Int32) : Kt Int32 := o_ild 4 <| o_psh (.int 40) <| o_cge (o_fg 0 (o_fg 1 (o_fg 4 bX9_sheet_82))) <| (bX9_sheet_63 K56)
set_option maxRecDepth 100000 in
theorem sX9_sheet_56 {K56 : Kt Int32} (h56 : Sd pX9_sheet ev_i 56 K56) : Sd pX9_sheet ev_i 56 (bX9_sheet_56 K56) := sd_iload dX9_sheet_56 <| sd_bipush dX9_sheet_58 rfl <| sd_cge (tgt := 82) dX9_sheet_60 (by decide) (sd_fg (i := 0) (sd_fg (i := 1) (sd_fg (i := 4) sX9_sheet_82))) <| (sX9_sheet_63 h56)
def bX9_sheet_39 : Kt Int32 := o_ald 0 <| o_gR 8 28 <| o_ild 1 <| o_ild 2 <| o_sI <| o_ald 0 <| o_gR 8 29 <| o_ild 1 <| o_ild 3 <| o_sI <| o_psh (.int 0) <| o_ist 4 <| (o_fg 2 (o_fg 3 (o_lp (bX9_sheet_56) fu)))
set_option maxRecDepth 100000 in
theorem sX9_sheet_39 : Sd pX9_sheet ev_i 39 (bX9_sheet_39) := sd_aload_n dX9_sheet_39 rfl <| sd_gR flX9_47 dX9_sheet_40 <| sd_iload_n dX9_sheet_43 rfl <| sd_iload_n dX9_sheet_44 rfl <| sd_sI dX9_sheet_45 <| sd_aload_n dX9_sheet_46 rfl <| sd_gR flX9_50 dX9_sheet_47 <| sd_iload_n dX9_sheet_50 rfl <| sd_iload_n dX9_sheet_51 rfl <| sd_sI dX9_sheet_52 <| sd_iconst dX9_sheet_53 rfl <| sd_istore dX9_sheet_54 (by decide) <| (sd_fg (i := 2) (sd_fg (i := 3) (sd_lp (fun K h => sX9_sheet_56 h) fu)))
def bX9_sheet_36 : Kt Int32 := o_psh (.int (-14)) <| o_rI
set_option maxRecDepth 100000 in
theorem sX9_sheet_36 : Sd pX9_sheet ev_i 36 (bX9_sheet_36) := sd_bipush dX9_sheet_36 rfl <| (sd_rI rfl dX9_sheet_38)
def bX9_sheet_32 : Kt Int32 := o_ild 3 <| o_zge bX9_sheet_39 <| (o_fg 0 (o_fg 1 (o_fg 2 (o_fg 3 bX9_sheet_36))))
set_option maxRecDepth 100000 in
theorem sX9_sheet_32 : Sd pX9_sheet ev_i 32 (bX9_sheet_32) := sd_iload_n dX9_sheet_32 rfl <| sd_zge (tgt := 39) dX9_sheet_33 (by decide) sX9_sheet_39 <| (sd_fg (i := 0) (sd_fg (i := 1) (sd_fg (i := 2) (sd_fg (i := 3) sX9_sheet_36))))
def bX9_sheet_30 : Kt Int32 := o_psh (.int (-1)) <| o_rI
set_option maxRecDepth 100000 in
theorem sX9_sheet_30 : Sd pX9_sheet ev_i 30 (bX9_sheet_30) := sd_iconst dX9_sheet_30 rfl <| (sd_rI rfl dX9_sheet_31)
def bX9_sheet_24 : Kt Int32 := o_ild 3 <| o_psh (.int 40) <| o_cle bX9_sheet_32 <| (o_fg 0 (o_fg 1 (o_fg 2 (o_fg 3 bX9_sheet_30))))
set_option maxRecDepth 100000 in
theorem sX9_sheet_24 : Sd pX9_sheet ev_i 24 (bX9_sheet_24) := sd_iload_n dX9_sheet_24 rfl <| sd_bipush dX9_sheet_25 rfl <| sd_cle (tgt := 32) dX9_sheet_27 (by decide) sX9_sheet_32 <| (sd_fg (i := 0) (sd_fg (i := 1) (sd_fg (i := 2) (sd_fg (i := 3) sX9_sheet_30))))
def bX9_sheet_12 : Kt Int32 := o_ild 2 <| o_i2l <| o_psh (.long 0) <| o_psh (.long 2) <| o_sc ev_i 3 fX9_in <| o_zeq (o_fg 0 (o_fg 1 (o_fg 2 (o_fg 3 bX9_sheet_30)))) <| bX9_sheet_24
set_option maxRecDepth 100000 in
theorem sX9_sheet_12 : Sd pX9_sheet ev_i 12 (bX9_sheet_12) := sd_iload_n dX9_sheet_12 rfl <| sd_i2l dX9_sheet_13 <| sd_lconst dX9_sheet_14 rfl <| sd_ldc2 tw_681 dX9_sheet_15 <| sd_sc tX9_in (fun _ _ => rfl) mwX9_in mvX9_in tw_611 (by decide) dX9_sheet_18 <| sd_zeq (tgt := 30) dX9_sheet_21 (by decide) (sd_fg (i := 0) (sd_fg (i := 1) (sd_fg (i := 2) (sd_fg (i := 3) sX9_sheet_30)))) <| sX9_sheet_24
def bX9_sheet_0 : Kt Int32 := o_ild 1 <| o_i2l <| o_psh (.long 0) <| o_psh (.long 3) <| o_sc ev_i 3 fX9_in <| o_zeq (o_fg 0 (o_fg 1 (o_fg 2 (o_fg 3 bX9_sheet_30)))) <| bX9_sheet_12
set_option maxRecDepth 100000 in
theorem sX9_sheet_0 : Sd pX9_sheet ev_i 0 (bX9_sheet_0) := sd_iload_n dX9_sheet_0 rfl <| sd_i2l dX9_sheet_1 <| sd_lconst dX9_sheet_2 rfl <| sd_ldc2 tw_740 dX9_sheet_3 <| sd_sc tX9_in (fun _ _ => rfl) mwX9_in mvX9_in tw_611 (by decide) dX9_sheet_6 <| sd_zeq (tgt := 30) dX9_sheet_9 (by decide) (sd_fg (i := 0) (sd_fg (i := 1) (sd_fg (i := 2) (sd_fg (i := 3) sX9_sheet_30)))) <| sX9_sheet_12
def fX9_sheet : Mt Int32 := mk_f 5 bX9_sheet_0
theorem tX9_sheet : Ct ev_i yX9_sheet cX9_sheet 5 (some .int) 1 25 fX9_sheet := ct_of (by decide +kernel) sX9_sheet_0
abbrev pX9_lay : Px := (cX9_lay, 4, RX9, "lay", (some .int), 1, 25, fun _ => True)
def bX9_lay_99 : Kt Int32 := o_sI <| o_psh (.int 1) <| o_rI
set_option maxRecDepth 100000 in
theorem sX9_lay_99 : Sd pX9_lay ev_i 99 (bX9_lay_99) := sd_sI dX9_lay_99 <| sd_iconst dX9_lay_100 rfl <| (sd_rI rfl dX9_lay_101)
def bX9_lay_98 : Kt Int32 := o_ild 3 <| (o_fg 3 bX9_lay_99)
set_option maxRecDepth 100000 in
theorem sX9_lay_98 : Sd pX9_lay ev_i 98 (bX9_lay_98) := sd_iload_n dX9_lay_98 rfl <| (sd_fg (i := 3) sX9_lay_99)
def bX9_lay_88 : Kt Int32 := o_ild 3 <| o_psh (.int 16) <| o_i2 o_shl <| o_psh (.int 16) <| o_i2 o_shr <| (o_fg 3 bX9_lay_99)
set_option maxRecDepth 100000 in
theorem sX9_lay_88 : Sd pX9_lay ev_i 88 (bX9_lay_88) := sd_iload_n dX9_lay_88 rfl <| sd_bipush dX9_lay_89 rfl <| sd_ishl dX9_lay_91 <| sd_bipush dX9_lay_92 rfl <| sd_ishr dX9_lay_94 <| (sd_goto (tgt := 99) dX9_lay_95 (by decide) (sd_fg (i := 3) sX9_lay_99))
def bX9_lay_78 : Kt Int32 := o_ald 0 <| o_gR 8 28 <| o_ild 1 <| o_aI <| o_psh (.int 1) <| o_cne (o_fg 0 (o_fg 1 bX9_lay_98)) <| (o_fg 0 (o_fg 1 bX9_lay_88))
set_option maxRecDepth 100000 in
theorem sX9_lay_78 : Sd pX9_lay ev_i 78 (bX9_lay_78) := sd_aload_n dX9_lay_78 rfl <| sd_gR flX9_47 dX9_lay_79 <| sd_iload_n dX9_lay_82 rfl <| sd_aI dX9_lay_83 <| sd_iconst dX9_lay_84 rfl <| sd_cne (tgt := 98) dX9_lay_85 (by decide) (sd_fg (i := 0) (sd_fg (i := 1) sX9_lay_98)) <| (sd_fg (i := 0) (sd_fg (i := 1) sX9_lay_88))
def bX9_lay_68 : Kt Int32 := o_ild 3 <| o_psh (.int 24) <| o_i2 o_shl <| o_psh (.int 24) <| o_i2 o_shr <| (o_fg 3 bX9_lay_99)
set_option maxRecDepth 100000 in
theorem sX9_lay_68 : Sd pX9_lay ev_i 68 (bX9_lay_68) := sd_iload_n dX9_lay_68 rfl <| sd_bipush dX9_lay_69 rfl <| sd_ishl dX9_lay_71 <| sd_bipush dX9_lay_72 rfl <| sd_ishr dX9_lay_74 <| (sd_goto (tgt := 99) dX9_lay_75 (by decide) (sd_fg (i := 3) sX9_lay_99))
def bX9_lay_49 : Kt Int32 := o_ald 0 <| o_gR 8 30 <| o_psh (.int 40) <| o_ild 1 <| o_i2 o_mul <| o_ild 2 <| o_i2 o_add <| o_ald 0 <| o_gR 8 28 <| o_ild 1 <| o_aI <| o_zne (o_fg 2 bX9_lay_78) <| (o_fg 0 (o_fg 1 (o_fg 2 bX9_lay_68)))
set_option maxRecDepth 100000 in
theorem sX9_lay_49 : Sd pX9_lay ev_i 49 (bX9_lay_49) := sd_aload_n dX9_lay_49 rfl <| sd_gR flX9_53 dX9_lay_50 <| sd_bipush dX9_lay_53 rfl <| sd_iload_n dX9_lay_55 rfl <| sd_imul dX9_lay_56 <| sd_iload_n dX9_lay_57 rfl <| sd_iadd dX9_lay_58 <| sd_aload_n dX9_lay_59 rfl <| sd_gR flX9_47 dX9_lay_60 <| sd_iload_n dX9_lay_63 rfl <| sd_aI dX9_lay_64 <| sd_zne (tgt := 78) dX9_lay_65 (by decide) (sd_fg (i := 2) sX9_lay_78) <| (sd_fg (i := 0) (sd_fg (i := 1) (sd_fg (i := 2) sX9_lay_68)))
def bX9_lay_46 : Kt Int32 := o_psh (.int (-12)) <| o_rI
set_option maxRecDepth 100000 in
theorem sX9_lay_46 : Sd pX9_lay ev_i 46 (bX9_lay_46) := sd_bipush dX9_lay_46 rfl <| (sd_rI rfl dX9_lay_48)
def bX9_lay_28 : Kt Int32 := o_ild 2 <| o_i2l <| o_psh (.long 0) <| o_ald 0 <| o_gR 8 29 <| o_ild 1 <| o_aI <| o_psh (.int 1) <| o_i2 o_sub <| o_i2l <| o_sc ev_i 3 fX9_in <| o_zne bX9_lay_49 <| (o_fg 0 (o_fg 1 (o_fg 2 (o_fg 3 bX9_lay_46))))
set_option maxRecDepth 100000 in
theorem sX9_lay_28 : Sd pX9_lay ev_i 28 (bX9_lay_28) := sd_iload_n dX9_lay_28 rfl <| sd_i2l dX9_lay_29 <| sd_lconst dX9_lay_30 rfl <| sd_aload_n dX9_lay_31 rfl <| sd_gR flX9_50 dX9_lay_32 <| sd_iload_n dX9_lay_35 rfl <| sd_aI dX9_lay_36 <| sd_iconst dX9_lay_37 rfl <| sd_isub dX9_lay_38 <| sd_i2l dX9_lay_39 <| sd_sc tX9_in (fun _ _ => rfl) mwX9_in mvX9_in tw_611 (by decide) dX9_lay_40 <| sd_zne (tgt := 49) dX9_lay_43 (by decide) sX9_lay_49 <| (sd_fg (i := 0) (sd_fg (i := 1) (sd_fg (i := 2) (sd_fg (i := 3) sX9_lay_46))))
def bX9_lay_25 : Kt Int32 := o_psh (.int (-11)) <| o_rI
set_option maxRecDepth 100000 in
theorem sX9_lay_25 : Sd pX9_lay ev_i 25 (bX9_lay_25) := sd_bipush dX9_lay_25 rfl <| (sd_rI rfl dX9_lay_27)
def bX9_lay_14 : Kt Int32 := o_ald 0 <| o_gR 8 28 <| o_ild 1 <| o_aI <| o_psh (.int (-4)) <| o_cne bX9_lay_28 <| (o_fg 0 (o_fg 1 (o_fg 2 (o_fg 3 bX9_lay_25))))
set_option maxRecDepth 100000 in
theorem sX9_lay_14 : Sd pX9_lay ev_i 14 (bX9_lay_14) := sd_aload_n dX9_lay_14 rfl <| sd_gR flX9_47 dX9_lay_15 <| sd_iload_n dX9_lay_18 rfl <| sd_aI dX9_lay_19 <| sd_bipush dX9_lay_20 rfl <| sd_cne (tgt := 28) dX9_lay_22 (by decide) sX9_lay_28 <| (sd_fg (i := 0) (sd_fg (i := 1) (sd_fg (i := 2) (sd_fg (i := 3) sX9_lay_25))))
def bX9_lay_12 : Kt Int32 := o_psh (.int (-1)) <| o_rI
set_option maxRecDepth 100000 in
theorem sX9_lay_12 : Sd pX9_lay ev_i 12 (bX9_lay_12) := sd_iconst dX9_lay_12 rfl <| (sd_rI rfl dX9_lay_13)
def bX9_lay_0 : Kt Int32 := o_ild 1 <| o_i2l <| o_psh (.long 0) <| o_psh (.long 3) <| o_sc ev_i 3 fX9_in <| o_zne bX9_lay_14 <| (o_fg 0 (o_fg 1 (o_fg 2 (o_fg 3 bX9_lay_12))))
set_option maxRecDepth 100000 in
theorem sX9_lay_0 : Sd pX9_lay ev_i 0 (bX9_lay_0) := sd_iload_n dX9_lay_0 rfl <| sd_i2l dX9_lay_1 <| sd_lconst dX9_lay_2 rfl <| sd_ldc2 tw_740 dX9_lay_3 <| sd_sc tX9_in (fun _ _ => rfl) mwX9_in mvX9_in tw_611 (by decide) dX9_lay_6 <| sd_zne (tgt := 14) dX9_lay_9 (by decide) sX9_lay_14 <| (sd_fg (i := 0) (sd_fg (i := 1) (sd_fg (i := 2) (sd_fg (i := 3) sX9_lay_12))))
def fX9_lay : Mt Int32 := mk_f 4 bX9_lay_0
theorem tX9_lay : Ct ev_i yX9_lay cX9_lay 4 (some .int) 1 25 fX9_lay := ct_of (by decide +kernel) sX9_lay_0
abbrev pX9_read : Px := (cX9_read, 9, RX9, "read", (some .int), 3, 69, fun _ => True)
def bX9_read_199 : Kt Int32 := o_ald 0 <| o_ild 5 <| o_pI 8 31 <| o_ild 6 <| o_rI
set_option maxRecDepth 100000 in
theorem sX9_read_199 : Sd pX9_read ev_i 199 (bX9_read_199) := sd_aload_n dX9_read_199 rfl <| sd_iload dX9_read_200 <| sd_pI fpX9_291 dX9_read_202 <| sd_iload dX9_read_205 <| (sd_rI rfl dX9_read_207)
def bX9_read_193 (K56 : Kt Int32) : Kt Int32 := o_inc 7 1 <| K56
set_option maxRecDepth 100000 in
theorem sX9_read_193 {K56 : Kt Int32} (h56 : Sd pX9_read ev_i 56 K56) : Sd pX9_read ev_i 193 (bX9_read_193 K56) := sd_iinc dX9_read_193 rfl (by decide) <| (sd_goto (tgt := 56) dX9_read_196 (by decide) h56)
def bX9_read_190 (K56 : Kt Int32) : Kt Int32 := o_inc 6 1 <| (bX9_read_193 K56)
set_option maxRecDepth 100000 in
theorem sX9_read_190 {K56 : Kt Int32} (h56 : Sd pX9_read ev_i 56 K56) : Sd pX9_read ev_i 190 (bX9_read_190 K56) := sd_iinc dX9_read_190 rfl (by decide) <| (sX9_read_193 h56)
def bX9_read_176 (K56 : Kt Int32) : Kt Int32 := o_ald 0 <| o_psh (.int 222) <| o_psh (.int 0) <| o_vc ev_v 8 3 fX9_copies <| o_psh (.int (-20)) <| o_ild 6 <| o_i2 o_sub <| o_rI
set_option maxRecDepth 100000 in
theorem sX9_read_176 {K56 : Kt Int32} (h56 : Sd pX9_read ev_i 56 K56) : Sd pX9_read ev_i 176 (bX9_read_176 K56) := sd_aload_n dX9_read_176 rfl <| sd_sipush dX9_read_177 rfl <| sd_iconst dX9_read_180 rfl <| sd_vc tX9_copies (fun _ _ => rfl) rfl mwX9_copies mvX9_copies tw_812 (by decide) dX9_read_181 <| sd_bipush dX9_read_184 rfl <| sd_iload dX9_read_186 <| sd_isub dX9_read_188 <| (sd_rI rfl dX9_read_189)
def bX9_read_141 (K56 : Kt Int32) : Kt Int32 := o_psh (.int 40) <| o_ild 1 <| o_i2 o_mul <| o_ild 3 <| o_i2 o_add <| o_ild 7 <| o_i2 o_add <| o_ist 8 <| o_ald 0 <| o_ald 0 <| o_gR 8 30 <| o_ild 8 <| o_psh (.int 1) <| o_i2 o_sub <| o_aI <| o_ald 0 <| o_gR 8 30 <| o_ild 8 <| o_aI <| o_vc ev_i 8 3 fX9_shifts <| o_psh (.int (-1)) <| o_cne (o_fg 8 (bX9_read_190 K56)) <| (o_fg 1 (o_fg 2 (o_fg 3 (o_fg 4 (o_fg 5 (o_fg 7 (o_fg 8 (bX9_read_176 K56))))))))
set_option maxRecDepth 100000 in
theorem sX9_read_141 {K56 : Kt Int32} (h56 : Sd pX9_read ev_i 56 K56) : Sd pX9_read ev_i 141 (bX9_read_141 K56) := sd_bipush dX9_read_141 rfl <| sd_iload_n dX9_read_143 rfl <| sd_imul dX9_read_144 <| sd_iload_n dX9_read_145 rfl <| sd_iadd dX9_read_146 <| sd_iload dX9_read_147 <| sd_iadd dX9_read_149 <| sd_istore dX9_read_150 (by decide) <| sd_aload_n dX9_read_152 rfl <| sd_aload_n dX9_read_153 rfl <| sd_gR flX9_53 dX9_read_154 <| sd_iload dX9_read_157 <| sd_iconst dX9_read_159 rfl <| sd_isub dX9_read_160 <| sd_aI dX9_read_161 <| sd_aload_n dX9_read_162 rfl <| sd_gR flX9_53 dX9_read_163 <| sd_iload dX9_read_166 <| sd_aI dX9_read_168 <| sd_vc tX9_shifts (fun _ _ => rfl) rfl mwX9_shifts mvX9_shifts tw_748 (by decide) dX9_read_169 <| sd_iconst dX9_read_172 rfl <| sd_cne (tgt := 190) dX9_read_173 (by decide) (sd_fg (i := 8) (sX9_read_190 h56)) <| (sd_fg (i := 1) (sd_fg (i := 2) (sd_fg (i := 3) (sd_fg (i := 4) (sd_fg (i := 5) (sd_fg (i := 7) (sd_fg (i := 8) (sX9_read_176 h56))))))))
def bX9_read_133 (K56 : Kt Int32) : Kt Int32 := o_ild 7 <| o_rmc 2 <| o_psh (.int 1) <| o_cne (bX9_read_193 K56) <| (bX9_read_141 K56)
set_option maxRecDepth 100000 in
theorem sX9_read_133 {K56 : Kt Int32} (h56 : Sd pX9_read ev_i 56 K56) : Sd pX9_read ev_i 133 (bX9_read_133 K56) := sd_iload dX9_read_133 <| sd_rmc (by decide) <| sd_iconst dX9_read_135 rfl <| sd_irem dX9_read_136 <| sd_iconst dX9_read_137 rfl <| sd_cne (tgt := 193) dX9_read_138 (by decide) (sX9_read_193 h56) <| (sX9_read_141 h56)
def bX9_read_126 (K56 : Kt Int32) : Kt Int32 := o_ist 5 <| o_ild 5 <| o_zne (bX9_read_193 K56) <| (bX9_read_133 K56)
set_option maxRecDepth 100000 in
theorem sX9_read_126 {K56 : Kt Int32} (h56 : Sd pX9_read ev_i 56 K56) : Sd pX9_read ev_i 126 (bX9_read_126 K56) := sd_istore dX9_read_126 (by decide) <| sd_iload dX9_read_128 <| sd_zne (tgt := 193) dX9_read_130 (by decide) (sX9_read_193 h56) <| (sX9_read_133 h56)
def bX9_read_125 (K56 : Kt Int32) : Kt Int32 := o_psh (.int 0) <| (bX9_read_126 K56)
set_option maxRecDepth 100000 in
theorem sX9_read_125 {K56 : Kt Int32} (h56 : Sd pX9_read ev_i 56 K56) : Sd pX9_read ev_i 125 (bX9_read_125 K56) := sd_iconst dX9_read_125 rfl <| (sX9_read_126 h56)
def bX9_read_121 (K56 : Kt Int32) : Kt Int32 := o_psh (.int 2) <| (bX9_read_126 K56)
set_option maxRecDepth 100000 in
theorem sX9_read_121 {K56 : Kt Int32} (h56 : Sd pX9_read ev_i 56 K56) : Sd pX9_read ev_i 121 (bX9_read_121 K56) := sd_iconst dX9_read_121 rfl <| (sd_goto (tgt := 126) dX9_read_122 (by decide) (sX9_read_126 h56))
def bX9_read_99 (K56 : Kt Int32) : Kt Int32 := o_ild 3 <| o_i2l <| o_ild 7 <| o_i2l <| o_l2 o_ladd <| o_psh (.long 0) <| o_ald 0 <| o_gR 8 29 <| o_ild 1 <| o_aI <| o_psh (.int 1) <| o_i2 o_sub <| o_i2l <| o_sc ev_i 3 fX9_in <| o_zne (bX9_read_125 K56) <| (bX9_read_121 K56)
set_option maxRecDepth 100000 in
theorem sX9_read_99 {K56 : Kt Int32} (h56 : Sd pX9_read ev_i 56 K56) : Sd pX9_read ev_i 99 (bX9_read_99 K56) := sd_iload_n dX9_read_99 rfl <| sd_i2l dX9_read_100 <| sd_iload dX9_read_101 <| sd_i2l dX9_read_103 <| sd_ladd dX9_read_104 <| sd_lconst dX9_read_105 rfl <| sd_aload_n dX9_read_106 rfl <| sd_gR flX9_50 dX9_read_107 <| sd_iload_n dX9_read_110 rfl <| sd_aI dX9_read_111 <| sd_iconst dX9_read_112 rfl <| sd_isub dX9_read_113 <| sd_i2l dX9_read_114 <| sd_sc tX9_in (fun _ _ => rfl) mwX9_in mvX9_in tw_611 (by decide) dX9_read_115 <| sd_zne (tgt := 125) dX9_read_118 (by decide) (sX9_read_125 h56) <| (sX9_read_121 h56)
def bX9_read_95 (K56 : Kt Int32) : Kt Int32 := o_psh (.int 3) <| (bX9_read_126 K56)
set_option maxRecDepth 100000 in
theorem sX9_read_95 {K56 : Kt Int32} (h56 : Sd pX9_read ev_i 56 K56) : Sd pX9_read ev_i 95 (bX9_read_95 K56) := sd_iconst dX9_read_95 rfl <| (sd_goto (tgt := 126) dX9_read_96 (by decide) (sX9_read_126 h56))
def bX9_read_85 (K56 : Kt Int32) : Kt Int32 := o_ald 0 <| o_gR 8 28 <| o_ild 1 <| o_aI <| o_ild 2 <| o_ceq (bX9_read_99 K56) <| (bX9_read_95 K56)
set_option maxRecDepth 100000 in
theorem sX9_read_85 {K56 : Kt Int32} (h56 : Sd pX9_read ev_i 56 K56) : Sd pX9_read ev_i 85 (bX9_read_85 K56) := sd_aload_n dX9_read_85 rfl <| sd_gR flX9_47 dX9_read_86 <| sd_iload_n dX9_read_89 rfl <| sd_aI dX9_read_90 <| sd_iload_n dX9_read_91 rfl <| sd_ceq (tgt := 99) dX9_read_92 (by decide) (sX9_read_99 h56) <| (sX9_read_95 h56)
def bX9_read_81 (K56 : Kt Int32) : Kt Int32 := o_psh (.int 1) <| (bX9_read_126 K56)
set_option maxRecDepth 100000 in
theorem sX9_read_81 {K56 : Kt Int32} (h56 : Sd pX9_read ev_i 56 K56) : Sd pX9_read ev_i 81 (bX9_read_81 K56) := sd_iconst dX9_read_81 rfl <| (sd_goto (tgt := 126) dX9_read_82 (by decide) (sX9_read_126 h56))
def bX9_read_70 (K56 : Kt Int32) : Kt Int32 := o_ald 0 <| o_gR 8 28 <| o_ild 1 <| o_aI <| o_psh (.int (-4)) <| o_cne (bX9_read_85 K56) <| (bX9_read_81 K56)
set_option maxRecDepth 100000 in
theorem sX9_read_70 {K56 : Kt Int32} (h56 : Sd pX9_read ev_i 56 K56) : Sd pX9_read ev_i 70 (bX9_read_70 K56) := sd_aload_n dX9_read_70 rfl <| sd_gR flX9_47 dX9_read_71 <| sd_iload_n dX9_read_74 rfl <| sd_aI dX9_read_75 <| sd_bipush dX9_read_76 rfl <| sd_cne (tgt := 85) dX9_read_78 (by decide) (sX9_read_85 h56) <| (sX9_read_81 h56)
def bX9_read_65 (K56 : Kt Int32) : Kt Int32 := o_ild 5 <| o_zne (o_fg 1 (o_fg 2 (o_fg 3 (o_fg 4 (o_fg 7 bX9_read_199))))) <| (o_fg 5 (bX9_read_70 K56))
set_option maxRecDepth 100000 in
theorem sX9_read_65 {K56 : Kt Int32} (h56 : Sd pX9_read ev_i 56 K56) : Sd pX9_read ev_i 65 (bX9_read_65 K56) := sd_iload dX9_read_65 <| sd_zne (tgt := 199) dX9_read_67 (by decide) (sd_fg (i := 1) (sd_fg (i := 2) (sd_fg (i := 3) (sd_fg (i := 4) (sd_fg (i := 7) sX9_read_199))))) <| (sd_fg (i := 5) (sX9_read_70 h56))
def bX9_read_56 (K56 : Kt Int32) : Kt Int32 := o_ild 7 <| o_psh (.int 2) <| o_ild 4 <| o_i2 o_mul <| o_cge (o_fg 1 (o_fg 2 (o_fg 3 (o_fg 4 (o_fg 7 bX9_read_199))))) <| (bX9_read_65 K56)
set_option maxRecDepth 100000 in
theorem sX9_read_56 {K56 : Kt Int32} (h56 : Sd pX9_read ev_i 56 K56) : Sd pX9_read ev_i 56 (bX9_read_56 K56) := sd_iload dX9_read_56 <| sd_iconst dX9_read_58 rfl <| sd_iload dX9_read_59 <| sd_imul dX9_read_61 <| sd_cge (tgt := 199) dX9_read_62 (by decide) (sd_fg (i := 1) (sd_fg (i := 2) (sd_fg (i := 3) (sd_fg (i := 4) (sd_fg (i := 7) sX9_read_199))))) <| (sX9_read_65 h56)
def bX9_read_39 : Kt Int32 := o_ald 0 <| o_psh (.int 0) <| o_psh (.int 222) <| o_vc ev_v 8 3 fX9_copies <| o_psh (.int 0) <| o_ist 5 <| o_psh (.int 0) <| o_ist 6 <| o_psh (.int 0) <| o_ist 7 <| (o_lp (bX9_read_56) fu)
set_option maxRecDepth 100000 in
theorem sX9_read_39 : Sd pX9_read ev_i 39 (bX9_read_39) := sd_aload_n dX9_read_39 rfl <| sd_iconst dX9_read_40 rfl <| sd_sipush dX9_read_41 rfl <| sd_vc tX9_copies (fun _ _ => rfl) rfl mwX9_copies mvX9_copies tw_812 (by decide) dX9_read_44 <| sd_iconst dX9_read_47 rfl <| sd_istore dX9_read_48 (by decide) <| sd_iconst dX9_read_50 rfl <| sd_istore dX9_read_51 (by decide) <| sd_iconst dX9_read_53 rfl <| sd_istore dX9_read_54 (by decide) <| (sd_lp (fun K h => sX9_read_56 h) fu)
def bX9_read_37 : Kt Int32 := o_psh (.int (-1)) <| o_rI
set_option maxRecDepth 100000 in
theorem sX9_read_37 : Sd pX9_read ev_i 37 (bX9_read_37) := sd_iconst dX9_read_37 rfl <| (sd_rI rfl dX9_read_38)
def bX9_read_24 : Kt Int32 := o_ild 4 <| o_i2l <| o_psh (.long 0) <| o_psh (.long 20) <| o_sc ev_i 3 fX9_in <| o_zne bX9_read_39 <| (o_fg 0 (o_fg 1 (o_fg 2 (o_fg 3 (o_fg 4 bX9_read_37)))))
set_option maxRecDepth 100000 in
theorem sX9_read_24 : Sd pX9_read ev_i 24 (bX9_read_24) := sd_iload dX9_read_24 <| sd_i2l dX9_read_26 <| sd_lconst dX9_read_27 rfl <| sd_ldc2 tw_817 dX9_read_28 <| sd_sc tX9_in (fun _ _ => rfl) mwX9_in mvX9_in tw_611 (by decide) dX9_read_31 <| sd_zne (tgt := 39) dX9_read_34 (by decide) sX9_read_39 <| (sd_fg (i := 0) (sd_fg (i := 1) (sd_fg (i := 2) (sd_fg (i := 3) (sd_fg (i := 4) sX9_read_37)))))
def bX9_read_12 : Kt Int32 := o_ild 2 <| o_i2l <| o_psh (.long 0) <| o_psh (.long 2) <| o_sc ev_i 3 fX9_in <| o_zeq (o_fg 0 (o_fg 1 (o_fg 2 (o_fg 3 (o_fg 4 bX9_read_37))))) <| bX9_read_24
set_option maxRecDepth 100000 in
theorem sX9_read_12 : Sd pX9_read ev_i 12 (bX9_read_12) := sd_iload_n dX9_read_12 rfl <| sd_i2l dX9_read_13 <| sd_lconst dX9_read_14 rfl <| sd_ldc2 tw_681 dX9_read_15 <| sd_sc tX9_in (fun _ _ => rfl) mwX9_in mvX9_in tw_611 (by decide) dX9_read_18 <| sd_zeq (tgt := 37) dX9_read_21 (by decide) (sd_fg (i := 0) (sd_fg (i := 1) (sd_fg (i := 2) (sd_fg (i := 3) (sd_fg (i := 4) sX9_read_37))))) <| sX9_read_24
def bX9_read_0 : Kt Int32 := o_ild 1 <| o_i2l <| o_psh (.long 0) <| o_psh (.long 3) <| o_sc ev_i 3 fX9_in <| o_zeq (o_fg 0 (o_fg 1 (o_fg 2 (o_fg 3 (o_fg 4 bX9_read_37))))) <| bX9_read_12
set_option maxRecDepth 100000 in
theorem sX9_read_0 : Sd pX9_read ev_i 0 (bX9_read_0) := sd_iload_n dX9_read_0 rfl <| sd_i2l dX9_read_1 <| sd_lconst dX9_read_2 rfl <| sd_ldc2 tw_740 dX9_read_3 <| sd_sc tX9_in (fun _ _ => rfl) mwX9_in mvX9_in tw_611 (by decide) dX9_read_6 <| sd_zeq (tgt := 37) dX9_read_9 (by decide) (sd_fg (i := 0) (sd_fg (i := 1) (sd_fg (i := 2) (sd_fg (i := 3) (sd_fg (i := 4) sX9_read_37))))) <| sX9_read_12
def fX9_read : Mt Int32 := mk_f 9 bX9_read_0
theorem tX9_read : Ct ev_i yX9_read cX9_read 9 (some .int) 3 69 fX9_read := ct_of (by decide +kernel) sX9_read_0
