abbrev pX7_look : Px := (cX7_look, 5, RX7, "look", none, 3, 68, fun _ => True)
def bX7_look_89 : Kt Unit := o_rV
set_option maxRecDepth 100000 in
theorem sX7_look_89 : Sd pX7_look ev_v 89 (bX7_look_89) := (sd_rV rfl dX7_look_89)
def bX7_look_83 (K22 : Kt Unit) : Kt Unit := o_inc 3 1 <| K22
set_option maxRecDepth 100000 in
theorem sX7_look_83 {K22 : Kt Unit} (h22 : Sd pX7_look ev_v 22 K22) : Sd pX7_look ev_v 83 (bX7_look_83 K22) := sd_iinc dX7_look_83 rfl (by decide) <| (sd_goto (tgt := 22) dX7_look_86 (by decide) h22)
def bX7_look_70 (K22 : Kt Unit) : Kt Unit := o_ald 0 <| o_gR 6 2 <| o_ild 4 <| o_du2 <| o_aI <| o_psh (.int 1) <| o_ild 3 <| o_i2 o_shl <| o_i2 o_or <| o_sI <| (o_fg 4 (bX7_look_83 K22))
set_option maxRecDepth 100000 in
theorem sX7_look_70 {K22 : Kt Unit} (h22 : Sd pX7_look ev_v 22 K22) : Sd pX7_look ev_v 70 (bX7_look_70 K22) := sd_aload_n dX7_look_70 rfl <| sd_gR flX7_18 dX7_look_71 <| sd_iload dX7_look_74 <| sd_dup2 dX7_look_76 <| sd_aI dX7_look_77 <| sd_iconst dX7_look_78 rfl <| sd_iload_n dX7_look_79 rfl <| sd_ishl dX7_look_80 <| sd_ior dX7_look_81 <| sd_sI dX7_look_82 <| (sd_fg (i := 4) (sX7_look_83 h22))
def bX7_look_64 (K22 : Kt Unit) : Kt Unit := o_ild 4 <| o_psh (.int 5) <| o_cge (o_fg 4 (bX7_look_83 K22)) <| (bX7_look_70 K22)
set_option maxRecDepth 100000 in
theorem sX7_look_64 {K22 : Kt Unit} (h22 : Sd pX7_look ev_v 22 K22) : Sd pX7_look ev_v 64 (bX7_look_64 K22) := sd_iload dX7_look_64 <| sd_iconst dX7_look_66 rfl <| sd_cge (tgt := 83) dX7_look_67 (by decide) (sd_fg (i := 4) (sX7_look_83 h22)) <| (sX7_look_70 h22)
def bX7_look_34 (K22 : Kt Unit) : Kt Unit := o_ald 1 <| o_ald 2 <| o_ild 3 <| o_sc ev_i 3 fX7_seerIn <| o_ist 4 <| o_ald 0 <| o_gR 6 0 <| o_ild 3 <| o_ald 2 <| o_ild 3 <| o_aI <| o_sI <| o_ald 0 <| o_gR 6 1 <| o_ild 3 <| o_ild 4 <| o_sI <| o_ild 4 <| o_zlt (o_fg 4 (bX7_look_83 K22)) <| (bX7_look_64 K22)
set_option maxRecDepth 100000 in
theorem sX7_look_34 {K22 : Kt Unit} (h22 : Sd pX7_look ev_v 22 K22) : Sd pX7_look ev_v 34 (bX7_look_34 K22) := sd_aload_n dX7_look_34 rfl <| sd_aload_n dX7_look_35 rfl <| sd_iload_n dX7_look_36 rfl <| sd_sc tX7_seerIn (fun _ _ => rfl) mwX7_seerIn mvX7_seerIn tw_132 (by decide) dX7_look_37 <| sd_istore dX7_look_40 (by decide) <| sd_aload_n dX7_look_42 rfl <| sd_gR flX7_9 dX7_look_43 <| sd_iload_n dX7_look_46 rfl <| sd_aload_n dX7_look_47 rfl <| sd_iload_n dX7_look_48 rfl <| sd_aI dX7_look_49 <| sd_sI dX7_look_50 <| sd_aload_n dX7_look_51 rfl <| sd_gR flX7_15 dX7_look_52 <| sd_iload_n dX7_look_55 rfl <| sd_iload dX7_look_56 <| sd_sI dX7_look_58 <| sd_iload dX7_look_59 <| sd_zlt (tgt := 83) dX7_look_61 (by decide) (sd_fg (i := 4) (sX7_look_83 h22)) <| (sX7_look_64 h22)
def bX7_look_28 (K22 : Kt Unit) : Kt Unit := o_ild 3 <| o_ald 2 <| o_aln <| o_cge (o_fg 0 (o_fg 1 (o_fg 2 (o_fg 3 bX7_look_89)))) <| (bX7_look_34 K22)
set_option maxRecDepth 100000 in
theorem sX7_look_28 {K22 : Kt Unit} (h22 : Sd pX7_look ev_v 22 K22) : Sd pX7_look ev_v 28 (bX7_look_28 K22) := sd_iload_n dX7_look_28 rfl <| sd_aload_n dX7_look_29 rfl <| sd_aln dX7_look_30 <| sd_cge (tgt := 89) dX7_look_31 (by decide) (sd_fg (i := 0) (sd_fg (i := 1) (sd_fg (i := 2) (sd_fg (i := 3) sX7_look_89)))) <| (sX7_look_34 h22)
def bX7_look_22 (K22 : Kt Unit) : Kt Unit := o_ild 3 <| o_psh (.int 10) <| o_cge (o_fg 0 (o_fg 1 (o_fg 2 (o_fg 3 bX7_look_89)))) <| (bX7_look_28 K22)
set_option maxRecDepth 100000 in
theorem sX7_look_22 {K22 : Kt Unit} (h22 : Sd pX7_look ev_v 22 K22) : Sd pX7_look ev_v 22 (bX7_look_22 K22) := sd_iload_n dX7_look_22 rfl <| sd_bipush dX7_look_23 rfl <| sd_cge (tgt := 89) dX7_look_25 (by decide) (sd_fg (i := 0) (sd_fg (i := 1) (sd_fg (i := 2) (sd_fg (i := 3) sX7_look_89)))) <| (sX7_look_28 h22)
def bX7_look_20 : Kt Unit := o_psh (.int 0) <| o_ist 3 <| (o_lp (bX7_look_22) fu)
set_option maxRecDepth 100000 in
theorem sX7_look_20 : Sd pX7_look ev_v 20 (bX7_look_20) := sd_iconst dX7_look_20 rfl <| sd_istore_n dX7_look_21 rfl (by decide) <| (sd_lp (fun K h => sX7_look_22 h) fu)
def bX7_look_7 (K2 : Kt Unit) : Kt Unit := o_ald 0 <| o_gR 6 2 <| o_ild 3 <| o_psh (.int 0) <| o_sI <| o_inc 3 1 <| K2
set_option maxRecDepth 100000 in
theorem sX7_look_7 {K2 : Kt Unit} (h2 : Sd pX7_look ev_v 2 K2) : Sd pX7_look ev_v 7 (bX7_look_7 K2) := sd_aload_n dX7_look_7 rfl <| sd_gR flX7_18 dX7_look_8 <| sd_iload_n dX7_look_11 rfl <| sd_iconst dX7_look_12 rfl <| sd_sI dX7_look_13 <| sd_iinc dX7_look_14 rfl (by decide) <| (sd_goto (tgt := 2) dX7_look_17 (by decide) h2)
def bX7_look_2 (K2 : Kt Unit) : Kt Unit := o_ild 3 <| o_psh (.int 5) <| o_cge (o_fg 3 bX7_look_20) <| (bX7_look_7 K2)
set_option maxRecDepth 100000 in
theorem sX7_look_2 {K2 : Kt Unit} (h2 : Sd pX7_look ev_v 2 K2) : Sd pX7_look ev_v 2 (bX7_look_2 K2) := sd_iload_n dX7_look_2 rfl <| sd_iconst dX7_look_3 rfl <| sd_cge (tgt := 20) dX7_look_4 (by decide) (sd_fg (i := 3) sX7_look_20) <| (sX7_look_7 h2)
def bX7_look_0 : Kt Unit := o_psh (.int 0) <| o_ist 3 <| (o_lp (bX7_look_2) fu)
set_option maxRecDepth 100000 in
theorem sX7_look_0 : Sd pX7_look ev_v 0 (bX7_look_0) := sd_iconst dX7_look_0 rfl <| sd_istore_n dX7_look_1 rfl (by decide) <| (sd_lp (fun K h => sX7_look_2 h) fu)
def fX7_look : Mt Unit := mk_f 5 bX7_look_0
theorem tX7_look : Ct ev_v yX7_look cX7_look 5 none 3 68 fX7_look := ct_of (by decide +kernel) sX7_look_0
abbrev pX7_hoursOf : Px := (cX7_hoursOf, 2, RX7, "hoursOf", (some .int), 0, 0, fun _ => True)
def bX7_hoursOf_19 : Kt Int32 := o_rI
set_option maxRecDepth 100000 in
theorem sX7_hoursOf_19 : Sd pX7_hoursOf ev_i 19 (bX7_hoursOf_19) := (sd_rI rfl dX7_hoursOf_19)
def bX7_hoursOf_18 : Kt Int32 := o_psh (.int 0) <| bX7_hoursOf_19
set_option maxRecDepth 100000 in
theorem sX7_hoursOf_18 : Sd pX7_hoursOf ev_i 18 (bX7_hoursOf_18) := sd_iconst dX7_hoursOf_18 rfl <| sX7_hoursOf_19
def bX7_hoursOf_9 : Kt Int32 := o_ald 0 <| o_gR 6 2 <| o_ild 1 <| o_aI <| (o_fg 0 (o_fg 1 bX7_hoursOf_19))
set_option maxRecDepth 100000 in
theorem sX7_hoursOf_9 : Sd pX7_hoursOf ev_i 9 (bX7_hoursOf_9) := sd_aload_n dX7_hoursOf_9 rfl <| sd_gR flX7_18 dX7_hoursOf_10 <| sd_iload_n dX7_hoursOf_13 rfl <| sd_aI dX7_hoursOf_14 <| (sd_goto (tgt := 19) dX7_hoursOf_15 (by decide) (sd_fg (i := 0) (sd_fg (i := 1) sX7_hoursOf_19)))
def bX7_hoursOf_4 : Kt Int32 := o_ild 1 <| o_psh (.int 5) <| o_cge (o_fg 0 (o_fg 1 bX7_hoursOf_18)) <| bX7_hoursOf_9
set_option maxRecDepth 100000 in
theorem sX7_hoursOf_4 : Sd pX7_hoursOf ev_i 4 (bX7_hoursOf_4) := sd_iload_n dX7_hoursOf_4 rfl <| sd_iconst dX7_hoursOf_5 rfl <| sd_cge (tgt := 18) dX7_hoursOf_6 (by decide) (sd_fg (i := 0) (sd_fg (i := 1) sX7_hoursOf_18)) <| sX7_hoursOf_9
def bX7_hoursOf_0 : Kt Int32 := o_ild 1 <| o_zlt (o_fg 0 (o_fg 1 bX7_hoursOf_18)) <| bX7_hoursOf_4
set_option maxRecDepth 100000 in
theorem sX7_hoursOf_0 : Sd pX7_hoursOf ev_i 0 (bX7_hoursOf_0) := sd_iload_n dX7_hoursOf_0 rfl <| sd_zlt (tgt := 18) dX7_hoursOf_1 (by decide) (sd_fg (i := 0) (sd_fg (i := 1) sX7_hoursOf_18)) <| sX7_hoursOf_4
def fX7_hoursOf : Mt Int32 := mk_f 2 bX7_hoursOf_0
theorem tX7_hoursOf : Ct ev_i yX7_hoursOf cX7_hoursOf 2 (some .int) 0 0 fX7_hoursOf := ct_of (by decide +kernel) sX7_hoursOf_0
abbrev pX7_hoursSeen : Px := (cX7_hoursSeen, 3, RX7, "hoursSeen", (some .int), 0, 0, fun _ => True)
def bX7_hoursSeen_24 : Kt Int32 := o_ild 1 <| o_rI
set_option maxRecDepth 100000 in
theorem sX7_hoursSeen_24 : Sd pX7_hoursSeen ev_i 24 (bX7_hoursSeen_24) := sd_iload_n dX7_hoursSeen_24 rfl <| (sd_rI rfl dX7_hoursSeen_25)
def bX7_hoursSeen_9 (K4 : Kt Int32) : Kt Int32 := o_ild 1 <| o_ald 0 <| o_gR 6 2 <| o_ild 2 <| o_aI <| o_i2 o_or <| o_ist 1 <| o_inc 2 1 <| K4
set_option maxRecDepth 100000 in
theorem sX7_hoursSeen_9 {K4 : Kt Int32} (h4 : Sd pX7_hoursSeen ev_i 4 K4) : Sd pX7_hoursSeen ev_i 9 (bX7_hoursSeen_9 K4) := sd_iload_n dX7_hoursSeen_9 rfl <| sd_aload_n dX7_hoursSeen_10 rfl <| sd_gR flX7_18 dX7_hoursSeen_11 <| sd_iload_n dX7_hoursSeen_14 rfl <| sd_aI dX7_hoursSeen_15 <| sd_ior dX7_hoursSeen_16 <| sd_istore_n dX7_hoursSeen_17 rfl (by decide) <| sd_iinc dX7_hoursSeen_18 rfl (by decide) <| (sd_goto (tgt := 4) dX7_hoursSeen_21 (by decide) h4)
def bX7_hoursSeen_4 (K4 : Kt Int32) : Kt Int32 := o_ild 2 <| o_psh (.int 5) <| o_cge (o_fg 0 (o_fg 2 bX7_hoursSeen_24)) <| (bX7_hoursSeen_9 K4)
set_option maxRecDepth 100000 in
theorem sX7_hoursSeen_4 {K4 : Kt Int32} (h4 : Sd pX7_hoursSeen ev_i 4 K4) : Sd pX7_hoursSeen ev_i 4 (bX7_hoursSeen_4 K4) := sd_iload_n dX7_hoursSeen_4 rfl <| sd_iconst dX7_hoursSeen_5 rfl <| sd_cge (tgt := 24) dX7_hoursSeen_6 (by decide) (sd_fg (i := 0) (sd_fg (i := 2) sX7_hoursSeen_24)) <| (sX7_hoursSeen_9 h4)
def bX7_hoursSeen_0 : Kt Int32 := o_psh (.int 0) <| o_ist 1 <| o_psh (.int 0) <| o_ist 2 <| (o_lp (bX7_hoursSeen_4) fu)
set_option maxRecDepth 100000 in
theorem sX7_hoursSeen_0 : Sd pX7_hoursSeen ev_i 0 (bX7_hoursSeen_0) := sd_iconst dX7_hoursSeen_0 rfl <| sd_istore_n dX7_hoursSeen_1 rfl (by decide) <| sd_iconst dX7_hoursSeen_2 rfl <| sd_istore_n dX7_hoursSeen_3 rfl (by decide) <| (sd_lp (fun K h => sX7_hoursSeen_4 h) fu)
def fX7_hoursSeen : Mt Int32 := mk_f 3 bX7_hoursSeen_0
theorem tX7_hoursSeen : Ct ev_i yX7_hoursSeen cX7_hoursSeen 3 (some .int) 0 0 fX7_hoursSeen := ct_of (by decide +kernel) sX7_hoursSeen_0
abbrev pX7_isDone : Px := (cX7_isDone, 6, RX7, "isDone", (some .boolean), 1, 23, fun _ => True)
def bX7_isDone_57 : Kt Int32 := o_rZ
set_option maxRecDepth 100000 in
theorem sX7_isDone_57 : Sd pX7_isDone ev_i 57 (bX7_isDone_57) := (sd_rZ rfl dX7_isDone_57)
def bX7_isDone_56 : Kt Int32 := o_psh (.int 0) <| bX7_isDone_57
set_option maxRecDepth 100000 in
theorem sX7_isDone_56 : Sd pX7_isDone ev_i 56 (bX7_isDone_56) := sd_iconst dX7_isDone_56 rfl <| sX7_isDone_57
def bX7_isDone_52 : Kt Int32 := o_psh (.int 1) <| bX7_isDone_57
set_option maxRecDepth 100000 in
theorem sX7_isDone_52 : Sd pX7_isDone ev_i 52 (bX7_isDone_52) := sd_iconst dX7_isDone_52 rfl <| (sd_goto (tgt := 57) dX7_isDone_53 (by decide) sX7_isDone_57)
def bX7_isDone_0 : Kt Int32 := o_ald 1 <| o_gR 1 2 <| o_ild 2 <| o_psh (.int 1) <| o_vc ev_i 5 3 fX6_at <| o_ist 3 <| o_ald 1 <| o_gR 1 2 <| o_ild 2 <| o_psh (.int 2) <| o_vc ev_i 5 3 fX6_at <| o_ist 4 <| o_psh (.int 1) <| o_ild 4 <| o_psh (.int 1) <| o_i2 o_add <| o_i2 o_shl <| o_psh (.int 1) <| o_ild 3 <| o_i2 o_shl <| o_i2 o_sub <| o_ist 5 <| o_ald 0 <| o_ald 1 <| o_gR 1 2 <| o_ild 2 <| o_psh (.int 0) <| o_vc ev_i 5 3 fX6_at <| o_vc ev_i 6 2 fX7_hoursOf <| o_ild 5 <| o_i2 o_and <| o_zeq (o_fg 0 (o_fg 1 (o_fg 2 (o_fg 3 (o_fg 4 (o_fg 5 bX7_isDone_56)))))) <| (o_fg 0 (o_fg 1 (o_fg 2 (o_fg 3 (o_fg 4 (o_fg 5 bX7_isDone_52))))))
set_option maxRecDepth 100000 in
theorem sX7_isDone_0 : Sd pX7_isDone ev_i 0 (bX7_isDone_0) := sd_aload_n dX7_isDone_0 rfl <| sd_gR flX7_47 dX7_isDone_1 <| sd_iload_n dX7_isDone_4 rfl <| sd_iconst dX7_isDone_5 rfl <| sd_vc tX6_at (fun _ _ => rfl) rfl mwX6_at mvX6_at tw_134 (by decide) dX7_isDone_6 <| sd_istore_n dX7_isDone_9 rfl (by decide) <| sd_aload_n dX7_isDone_10 rfl <| sd_gR flX7_47 dX7_isDone_11 <| sd_iload_n dX7_isDone_14 rfl <| sd_iconst dX7_isDone_15 rfl <| sd_vc tX6_at (fun _ _ => rfl) rfl mwX6_at mvX6_at tw_134 (by decide) dX7_isDone_16 <| sd_istore dX7_isDone_19 (by decide) <| sd_iconst dX7_isDone_21 rfl <| sd_iload dX7_isDone_22 <| sd_iconst dX7_isDone_24 rfl <| sd_iadd dX7_isDone_25 <| sd_ishl dX7_isDone_26 <| sd_iconst dX7_isDone_27 rfl <| sd_iload_n dX7_isDone_28 rfl <| sd_ishl dX7_isDone_29 <| sd_isub dX7_isDone_30 <| sd_istore dX7_isDone_31 (by decide) <| sd_aload_n dX7_isDone_33 rfl <| sd_aload_n dX7_isDone_34 rfl <| sd_gR flX7_47 dX7_isDone_35 <| sd_iload_n dX7_isDone_38 rfl <| sd_iconst dX7_isDone_39 rfl <| sd_vc tX6_at (fun _ _ => rfl) rfl mwX6_at mvX6_at tw_134 (by decide) dX7_isDone_40 <| sd_vc tX7_hoursOf (fun _ _ => rfl) rfl mwX7_hoursOf mvX7_hoursOf tw_138 (by decide) dX7_isDone_43 <| sd_iload dX7_isDone_46 <| sd_iand dX7_isDone_48 <| sd_zeq (tgt := 56) dX7_isDone_49 (by decide) (sd_fg (i := 0) (sd_fg (i := 1) (sd_fg (i := 2) (sd_fg (i := 3) (sd_fg (i := 4) (sd_fg (i := 5) sX7_isDone_56)))))) <| (sd_fg (i := 0) (sd_fg (i := 1) (sd_fg (i := 2) (sd_fg (i := 3) (sd_fg (i := 4) (sd_fg (i := 5) sX7_isDone_52))))))
def fX7_isDone : Mt Int32 := mk_f 6 bX7_isDone_0
theorem tX7_isDone : Ct ev_i yX7_isDone cX7_isDone 6 (some .boolean) 1 23 fX7_isDone := ct_of (by decide +kernel) sX7_isDone_0
abbrev pX7_donePieces : Px := (cX7_donePieces, 4, RX7, "donePieces", (some .int), 2, 48, fun _ => True)
def bX7_donePieces_40 : Kt Int32 := o_ild 2 <| o_rI
set_option maxRecDepth 100000 in
theorem sX7_donePieces_40 : Sd pX7_donePieces ev_i 40 (bX7_donePieces_40) := sd_iload_n dX7_donePieces_40 rfl <| (sd_rI rfl dX7_donePieces_41)
def bX7_donePieces_32 (K4 : Kt Int32) : Kt Int32 := o_i2 o_or <| o_ist 2 <| o_inc 3 1 <| K4
set_option maxRecDepth 100000 in
theorem sX7_donePieces_32 {K4 : Kt Int32} (h4 : Sd pX7_donePieces ev_i 4 K4) : Sd pX7_donePieces ev_i 32 (bX7_donePieces_32 K4) := sd_ior dX7_donePieces_32 <| sd_istore_n dX7_donePieces_33 rfl (by decide) <| sd_iinc dX7_donePieces_34 rfl (by decide) <| (sd_goto (tgt := 4) dX7_donePieces_37 (by decide) h4)
def bX7_donePieces_31 (K4 : Kt Int32) : Kt Int32 := o_psh (.int 0) <| (bX7_donePieces_32 K4)
set_option maxRecDepth 100000 in
theorem sX7_donePieces_31 {K4 : Kt Int32} (h4 : Sd pX7_donePieces ev_i 4 K4) : Sd pX7_donePieces ev_i 31 (bX7_donePieces_31 K4) := sd_iconst dX7_donePieces_31 rfl <| (sX7_donePieces_32 h4)
def bX7_donePieces_25 (K4 : Kt Int32) : Kt Int32 := o_psh (.int 1) <| o_ild 3 <| o_i2 o_shl <| (bX7_donePieces_32 K4)
set_option maxRecDepth 100000 in
theorem sX7_donePieces_25 {K4 : Kt Int32} (h4 : Sd pX7_donePieces ev_i 4 K4) : Sd pX7_donePieces ev_i 25 (bX7_donePieces_25 K4) := sd_iconst dX7_donePieces_25 rfl <| sd_iload_n dX7_donePieces_26 rfl <| sd_ishl dX7_donePieces_27 <| (sd_goto (tgt := 32) dX7_donePieces_28 (by decide) (sX7_donePieces_32 h4))
def bX7_donePieces_15 (K4 : Kt Int32) : Kt Int32 := o_ild 2 <| o_ald 0 <| o_ald 1 <| o_ild 3 <| o_vc ev_i 6 3 fX7_isDone <| o_zeq (o_fg 2 (bX7_donePieces_31 K4)) <| (o_fg 2 (bX7_donePieces_25 K4))
set_option maxRecDepth 100000 in
theorem sX7_donePieces_15 {K4 : Kt Int32} (h4 : Sd pX7_donePieces ev_i 4 K4) : Sd pX7_donePieces ev_i 15 (bX7_donePieces_15 K4) := sd_iload_n dX7_donePieces_15 rfl <| sd_aload_n dX7_donePieces_16 rfl <| sd_aload_n dX7_donePieces_17 rfl <| sd_iload_n dX7_donePieces_18 rfl <| sd_vc tX7_isDone (fun _ _ => rfl) rfl mwX7_isDone mvX7_isDone tw_143 (by decide) dX7_donePieces_19 <| sd_zeq (tgt := 31) dX7_donePieces_22 (by decide) (sd_fg (i := 2) (sX7_donePieces_31 h4)) <| (sd_fg (i := 2) (sX7_donePieces_25 h4))
def bX7_donePieces_4 (K4 : Kt Int32) : Kt Int32 := o_ild 3 <| o_ald 1 <| o_gR 1 2 <| o_gI 5 3 <| o_cge (o_fg 0 (o_fg 1 (o_fg 3 bX7_donePieces_40))) <| (bX7_donePieces_15 K4)
set_option maxRecDepth 100000 in
theorem sX7_donePieces_4 {K4 : Kt Int32} (h4 : Sd pX7_donePieces ev_i 4 K4) : Sd pX7_donePieces ev_i 4 (bX7_donePieces_4 K4) := sd_iload_n dX7_donePieces_4 rfl <| sd_aload_n dX7_donePieces_5 rfl <| sd_gR flX7_47 dX7_donePieces_6 <| sd_gI flX7_60 dX7_donePieces_9 <| sd_cge (tgt := 40) dX7_donePieces_12 (by decide) (sd_fg (i := 0) (sd_fg (i := 1) (sd_fg (i := 3) sX7_donePieces_40))) <| (sX7_donePieces_15 h4)
def bX7_donePieces_0 : Kt Int32 := o_psh (.int 0) <| o_ist 2 <| o_psh (.int 0) <| o_ist 3 <| (o_lp (bX7_donePieces_4) fu)
set_option maxRecDepth 100000 in
theorem sX7_donePieces_0 : Sd pX7_donePieces ev_i 0 (bX7_donePieces_0) := sd_iconst dX7_donePieces_0 rfl <| sd_istore_n dX7_donePieces_1 rfl (by decide) <| sd_iconst dX7_donePieces_2 rfl <| sd_istore_n dX7_donePieces_3 rfl (by decide) <| (sd_lp (fun K h => sX7_donePieces_4 h) fu)
def fX7_donePieces : Mt Int32 := mk_f 4 bX7_donePieces_0
theorem tX7_donePieces : Ct ev_i yX7_donePieces cX7_donePieces 4 (some .int) 2 48 fX7_donePieces := ct_of (by decide +kernel) sX7_donePieces_0
abbrev pX7_doneWorth : Px := (cX7_doneWorth, 4, RX7, "doneWorth", (some .int), 2, 48, fun _ => True)
def bX7_doneWorth_42 : Kt Int32 := o_ild 2 <| o_rI
set_option maxRecDepth 100000 in
theorem sX7_doneWorth_42 : Sd pX7_doneWorth ev_i 42 (bX7_doneWorth_42) := sd_iload_n dX7_doneWorth_42 rfl <| (sd_rI rfl dX7_doneWorth_43)
def bX7_doneWorth_34 (K4 : Kt Int32) : Kt Int32 := o_i2 o_add <| o_ist 2 <| o_inc 3 1 <| K4
set_option maxRecDepth 100000 in
theorem sX7_doneWorth_34 {K4 : Kt Int32} (h4 : Sd pX7_doneWorth ev_i 4 K4) : Sd pX7_doneWorth ev_i 34 (bX7_doneWorth_34 K4) := sd_iadd dX7_doneWorth_34 <| sd_istore_n dX7_doneWorth_35 rfl (by decide) <| sd_iinc dX7_doneWorth_36 rfl (by decide) <| (sd_goto (tgt := 4) dX7_doneWorth_39 (by decide) h4)
def bX7_doneWorth_33 (K4 : Kt Int32) : Kt Int32 := o_psh (.int 0) <| (bX7_doneWorth_34 K4)
set_option maxRecDepth 100000 in
theorem sX7_doneWorth_33 {K4 : Kt Int32} (h4 : Sd pX7_doneWorth ev_i 4 K4) : Sd pX7_doneWorth ev_i 33 (bX7_doneWorth_33 K4) := sd_iconst dX7_doneWorth_33 rfl <| (sX7_doneWorth_34 h4)
def bX7_doneWorth_25 (K4 : Kt Int32) : Kt Int32 := o_ald 1 <| o_ild 3 <| o_vc ev_i 1 2 fX1_worthOf <| (bX7_doneWorth_34 K4)
set_option maxRecDepth 100000 in
theorem sX7_doneWorth_25 {K4 : Kt Int32} (h4 : Sd pX7_doneWorth ev_i 4 K4) : Sd pX7_doneWorth ev_i 25 (bX7_doneWorth_25 K4) := sd_aload_n dX7_doneWorth_25 rfl <| sd_iload_n dX7_doneWorth_26 rfl <| sd_vc tX1_worthOf (fun _ _ => rfl) rfl mwX1_worthOf mvX1_worthOf tw_144 (by decide) dX7_doneWorth_27 <| (sd_goto (tgt := 34) dX7_doneWorth_30 (by decide) (sX7_doneWorth_34 h4))
def bX7_doneWorth_15 (K4 : Kt Int32) : Kt Int32 := o_ild 2 <| o_ald 0 <| o_ald 1 <| o_ild 3 <| o_vc ev_i 6 3 fX7_isDone <| o_zeq (o_fg 2 (bX7_doneWorth_33 K4)) <| (o_fg 2 (bX7_doneWorth_25 K4))
set_option maxRecDepth 100000 in
theorem sX7_doneWorth_15 {K4 : Kt Int32} (h4 : Sd pX7_doneWorth ev_i 4 K4) : Sd pX7_doneWorth ev_i 15 (bX7_doneWorth_15 K4) := sd_iload_n dX7_doneWorth_15 rfl <| sd_aload_n dX7_doneWorth_16 rfl <| sd_aload_n dX7_doneWorth_17 rfl <| sd_iload_n dX7_doneWorth_18 rfl <| sd_vc tX7_isDone (fun _ _ => rfl) rfl mwX7_isDone mvX7_isDone tw_143 (by decide) dX7_doneWorth_19 <| sd_zeq (tgt := 33) dX7_doneWorth_22 (by decide) (sd_fg (i := 2) (sX7_doneWorth_33 h4)) <| (sd_fg (i := 2) (sX7_doneWorth_25 h4))
def bX7_doneWorth_4 (K4 : Kt Int32) : Kt Int32 := o_ild 3 <| o_ald 1 <| o_gR 1 2 <| o_gI 5 3 <| o_cge (o_fg 0 (o_fg 1 (o_fg 3 bX7_doneWorth_42))) <| (bX7_doneWorth_15 K4)
set_option maxRecDepth 100000 in
theorem sX7_doneWorth_4 {K4 : Kt Int32} (h4 : Sd pX7_doneWorth ev_i 4 K4) : Sd pX7_doneWorth ev_i 4 (bX7_doneWorth_4 K4) := sd_iload_n dX7_doneWorth_4 rfl <| sd_aload_n dX7_doneWorth_5 rfl <| sd_gR flX7_47 dX7_doneWorth_6 <| sd_gI flX7_60 dX7_doneWorth_9 <| sd_cge (tgt := 42) dX7_doneWorth_12 (by decide) (sd_fg (i := 0) (sd_fg (i := 1) (sd_fg (i := 3) sX7_doneWorth_42))) <| (sX7_doneWorth_15 h4)
def bX7_doneWorth_0 : Kt Int32 := o_psh (.int 0) <| o_ist 2 <| o_psh (.int 0) <| o_ist 3 <| (o_lp (bX7_doneWorth_4) fu)
set_option maxRecDepth 100000 in
theorem sX7_doneWorth_0 : Sd pX7_doneWorth ev_i 0 (bX7_doneWorth_0) := sd_iconst dX7_doneWorth_0 rfl <| sd_istore_n dX7_doneWorth_1 rfl (by decide) <| sd_iconst dX7_doneWorth_2 rfl <| sd_istore_n dX7_doneWorth_3 rfl (by decide) <| (sd_lp (fun K h => sX7_doneWorth_4 h) fu)
def fX7_doneWorth : Mt Int32 := mk_f 4 bX7_doneWorth_0
theorem tX7_doneWorth : Ct ev_i yX7_doneWorth cX7_doneWorth 4 (some .int) 2 48 fX7_doneWorth := ct_of (by decide +kernel) sX7_doneWorth_0
abbrev pX7_chancesOf : Px := (cX7_chancesOf, 9, RX7, "chancesOf", (some .int), 1, 23, fun _ => True)
def bX7_chancesOf_107 : Kt Int32 := o_ild 6 <| o_rI
set_option maxRecDepth 100000 in
theorem sX7_chancesOf_107 : Sd pX7_chancesOf ev_i 107 (bX7_chancesOf_107) := sd_iload dX7_chancesOf_107 <| (sd_rI rfl dX7_chancesOf_109)
def bX7_chancesOf_101 (K41 : Kt Int32) : Kt Int32 := o_inc 8 1 <| K41
set_option maxRecDepth 100000 in
theorem sX7_chancesOf_101 {K41 : Kt Int32} (h41 : Sd pX7_chancesOf ev_i 41 K41) : Sd pX7_chancesOf ev_i 101 (bX7_chancesOf_101 K41) := sd_iinc dX7_chancesOf_101 rfl (by decide) <| (sd_goto (tgt := 41) dX7_chancesOf_104 (by decide) h41)
def bX7_chancesOf_95 (K41 : Kt Int32) : Kt Int32 := o_psh (.int 1) <| o_ist 7 <| o_inc 6 1 <| (bX7_chancesOf_101 K41)
set_option maxRecDepth 100000 in
theorem sX7_chancesOf_95 {K41 : Kt Int32} (h41 : Sd pX7_chancesOf ev_i 41 K41) : Sd pX7_chancesOf ev_i 95 (bX7_chancesOf_95 K41) := sd_iconst dX7_chancesOf_95 rfl <| sd_istore dX7_chancesOf_96 (by decide) <| sd_iinc dX7_chancesOf_98 rfl (by decide) <| (sX7_chancesOf_101 h41)
def bX7_chancesOf_84 (K41 : Kt Int32) : Kt Int32 := o_ald 0 <| o_gR 6 1 <| o_ild 8 <| o_aI <| o_ild 3 <| o_cne (bX7_chancesOf_101 K41) <| (o_fg 7 (bX7_chancesOf_95 K41))
set_option maxRecDepth 100000 in
theorem sX7_chancesOf_84 {K41 : Kt Int32} (h41 : Sd pX7_chancesOf ev_i 41 K41) : Sd pX7_chancesOf ev_i 84 (bX7_chancesOf_84 K41) := sd_aload_n dX7_chancesOf_84 rfl <| sd_gR flX7_15 dX7_chancesOf_85 <| sd_iload dX7_chancesOf_88 <| sd_aI dX7_chancesOf_90 <| sd_iload_n dX7_chancesOf_91 rfl <| sd_cne (tgt := 101) dX7_chancesOf_92 (by decide) (sX7_chancesOf_101 h41) <| (sd_fg (i := 7) (sX7_chancesOf_95 h41))
def bX7_chancesOf_77 (K41 : Kt Int32) : Kt Int32 := o_ild 8 <| o_ild 5 <| o_cgt (bX7_chancesOf_101 K41) <| (bX7_chancesOf_84 K41)
set_option maxRecDepth 100000 in
theorem sX7_chancesOf_77 {K41 : Kt Int32} (h41 : Sd pX7_chancesOf ev_i 41 K41) : Sd pX7_chancesOf ev_i 77 (bX7_chancesOf_77 K41) := sd_iload dX7_chancesOf_77 <| sd_iload dX7_chancesOf_79 <| sd_cgt (tgt := 101) dX7_chancesOf_81 (by decide) (sX7_chancesOf_101 h41) <| (sX7_chancesOf_84 h41)
def bX7_chancesOf_70 (K41 : Kt Int32) : Kt Int32 := o_ild 8 <| o_ild 4 <| o_clt (bX7_chancesOf_101 K41) <| (bX7_chancesOf_77 K41)
set_option maxRecDepth 100000 in
theorem sX7_chancesOf_70 {K41 : Kt Int32} (h41 : Sd pX7_chancesOf ev_i 41 K41) : Sd pX7_chancesOf ev_i 70 (bX7_chancesOf_70 K41) := sd_iload dX7_chancesOf_70 <| sd_iload dX7_chancesOf_72 <| sd_clt (tgt := 101) dX7_chancesOf_74 (by decide) (sX7_chancesOf_101 h41) <| (sX7_chancesOf_77 h41)
def bX7_chancesOf_65 (K41 : Kt Int32) : Kt Int32 := o_ild 7 <| o_zne (bX7_chancesOf_101 K41) <| (bX7_chancesOf_70 K41)
set_option maxRecDepth 100000 in
theorem sX7_chancesOf_65 {K41 : Kt Int32} (h41 : Sd pX7_chancesOf ev_i 41 K41) : Sd pX7_chancesOf ev_i 65 (bX7_chancesOf_65 K41) := sd_iload dX7_chancesOf_65 <| sd_zne (tgt := 101) dX7_chancesOf_67 (by decide) (sX7_chancesOf_101 h41) <| (sX7_chancesOf_70 h41)
def bX7_chancesOf_59 (K41 : Kt Int32) : Kt Int32 := o_psh (.int 0) <| o_ist 7 <| (bX7_chancesOf_101 K41)
set_option maxRecDepth 100000 in
theorem sX7_chancesOf_59 {K41 : Kt Int32} (h41 : Sd pX7_chancesOf ev_i 41 K41) : Sd pX7_chancesOf ev_i 59 (bX7_chancesOf_59 K41) := sd_iconst dX7_chancesOf_59 rfl <| sd_istore dX7_chancesOf_60 (by decide) <| (sd_goto (tgt := 101) dX7_chancesOf_62 (by decide) (sX7_chancesOf_101 h41))
def bX7_chancesOf_48 (K41 : Kt Int32) : Kt Int32 := o_ald 0 <| o_gR 6 0 <| o_ild 8 <| o_aI <| o_ild 3 <| o_ceq (bX7_chancesOf_65 K41) <| (o_fg 7 (bX7_chancesOf_59 K41))
set_option maxRecDepth 100000 in
theorem sX7_chancesOf_48 {K41 : Kt Int32} (h41 : Sd pX7_chancesOf ev_i 41 K41) : Sd pX7_chancesOf ev_i 48 (bX7_chancesOf_48 K41) := sd_aload_n dX7_chancesOf_48 rfl <| sd_gR flX7_9 dX7_chancesOf_49 <| sd_iload dX7_chancesOf_52 <| sd_aI dX7_chancesOf_54 <| sd_iload_n dX7_chancesOf_55 rfl <| sd_ceq (tgt := 65) dX7_chancesOf_56 (by decide) (sX7_chancesOf_65 h41) <| (sd_fg (i := 7) (sX7_chancesOf_59 h41))
def bX7_chancesOf_41 (K41 : Kt Int32) : Kt Int32 := o_ild 8 <| o_psh (.int 10) <| o_cge (o_fg 0 (o_fg 3 (o_fg 4 (o_fg 5 (o_fg 7 (o_fg 8 bX7_chancesOf_107)))))) <| (bX7_chancesOf_48 K41)
set_option maxRecDepth 100000 in
theorem sX7_chancesOf_41 {K41 : Kt Int32} (h41 : Sd pX7_chancesOf ev_i 41 K41) : Sd pX7_chancesOf ev_i 41 (bX7_chancesOf_41 K41) := sd_iload dX7_chancesOf_41 <| sd_bipush dX7_chancesOf_43 rfl <| sd_cge (tgt := 107) dX7_chancesOf_45 (by decide) (sd_fg (i := 0) (sd_fg (i := 3) (sd_fg (i := 4) (sd_fg (i := 5) (sd_fg (i := 7) (sd_fg (i := 8) sX7_chancesOf_107)))))) <| (sX7_chancesOf_48 h41)
def bX7_chancesOf_0 : Kt Int32 := o_ald 1 <| o_gR 1 2 <| o_ild 2 <| o_psh (.int 0) <| o_vc ev_i 5 3 fX6_at <| o_ist 3 <| o_ald 1 <| o_gR 1 2 <| o_ild 2 <| o_psh (.int 1) <| o_vc ev_i 5 3 fX6_at <| o_ist 4 <| o_ald 1 <| o_gR 1 2 <| o_ild 2 <| o_psh (.int 2) <| o_vc ev_i 5 3 fX6_at <| o_ist 5 <| o_psh (.int 0) <| o_ist 6 <| o_psh (.int 0) <| o_ist 7 <| o_psh (.int 0) <| o_ist 8 <| (o_fg 1 (o_fg 2 (o_lp (bX7_chancesOf_41) fu)))
set_option maxRecDepth 100000 in
theorem sX7_chancesOf_0 : Sd pX7_chancesOf ev_i 0 (bX7_chancesOf_0) := sd_aload_n dX7_chancesOf_0 rfl <| sd_gR flX7_47 dX7_chancesOf_1 <| sd_iload_n dX7_chancesOf_4 rfl <| sd_iconst dX7_chancesOf_5 rfl <| sd_vc tX6_at (fun _ _ => rfl) rfl mwX6_at mvX6_at tw_134 (by decide) dX7_chancesOf_6 <| sd_istore_n dX7_chancesOf_9 rfl (by decide) <| sd_aload_n dX7_chancesOf_10 rfl <| sd_gR flX7_47 dX7_chancesOf_11 <| sd_iload_n dX7_chancesOf_14 rfl <| sd_iconst dX7_chancesOf_15 rfl <| sd_vc tX6_at (fun _ _ => rfl) rfl mwX6_at mvX6_at tw_134 (by decide) dX7_chancesOf_16 <| sd_istore dX7_chancesOf_19 (by decide) <| sd_aload_n dX7_chancesOf_21 rfl <| sd_gR flX7_47 dX7_chancesOf_22 <| sd_iload_n dX7_chancesOf_25 rfl <| sd_iconst dX7_chancesOf_26 rfl <| sd_vc tX6_at (fun _ _ => rfl) rfl mwX6_at mvX6_at tw_134 (by decide) dX7_chancesOf_27 <| sd_istore dX7_chancesOf_30 (by decide) <| sd_iconst dX7_chancesOf_32 rfl <| sd_istore dX7_chancesOf_33 (by decide) <| sd_iconst dX7_chancesOf_35 rfl <| sd_istore dX7_chancesOf_36 (by decide) <| sd_iconst dX7_chancesOf_38 rfl <| sd_istore dX7_chancesOf_39 (by decide) <| (sd_fg (i := 1) (sd_fg (i := 2) (sd_lp (fun K h => sX7_chancesOf_41 h) fu)))
def fX7_chancesOf : Mt Int32 := mk_f 9 bX7_chancesOf_0
theorem tX7_chancesOf : Ct ev_i yX7_chancesOf cX7_chancesOf 9 (some .int) 1 23 fX7_chancesOf := ct_of (by decide +kernel) sX7_chancesOf_0
abbrev pX0_init : Px := (cX0_init, 1, RX0, "<init>", none, 1, 20, fun _ => True)
def bX0_init_0 : Kt Unit := o_ald 0 <| o_oin <| o_ald 0 <| o_psh (.int 150) <| o_nwI 0 <| o_pR 0 0 <| o_ald 0 <| o_psh (.int 150) <| o_nwI 0 <| o_pR 0 1 <| o_rV
set_option maxRecDepth 100000 in
theorem sX0_init_0 : Sd pX0_init ev_v 0 (bX0_init_0) := sd_aload_n dX0_init_0 rfl <| sd_oin ⟨tw_145, tw_29, tw_30⟩ (by decide) dX0_init_1 <| sd_aload_n dX0_init_4 rfl <| sd_sipush dX0_init_5 rfl <| sd_nwI (t := 0) (aty := .int) (tn := .int) rfl rfl (fun _ => rfl) (fun _ _ h => h) hby_int tw_37 dX0_init_8 <| sd_pR rfl (Or.inr ⟨_, rfl⟩) fpX0_11 dX0_init_10 <| sd_aload_n dX0_init_13 rfl <| sd_sipush dX0_init_14 rfl <| sd_nwI (t := 0) (aty := .int) (tn := .int) rfl rfl (fun _ => rfl) (fun _ _ h => h) hby_int tw_37 dX0_init_17 <| sd_pR rfl (Or.inr ⟨_, rfl⟩) fpX0_15 dX0_init_19 <| (sd_rV rfl dX0_init_22)
def fX0_init : Mt Unit := mk_f 1 bX0_init_0
theorem tX0_init : Ct ev_v yX0_init cX0_init 1 none 1 20 fX0_init := ct_of (by decide +kernel) sX0_init_0
abbrev pX0_placeOf : Px := (cX0_placeOf, 3, RX0, "placeOf", (some .int), 0, 0, fun _ => True)
def bX0_placeOf_0 : Kt Int32 := o_ild 2 <| o_psh (.int 5) <| o_i2 o_mul <| o_ild 0 <| o_i2 o_add <| o_psh (.int 3) <| o_i2 o_mul <| o_ild 1 <| o_i2 o_add <| o_rI
set_option maxRecDepth 100000 in
theorem sX0_placeOf_0 : Sd pX0_placeOf ev_i 0 (bX0_placeOf_0) := sd_iload_n dX0_placeOf_0 rfl <| sd_iconst dX0_placeOf_1 rfl <| sd_imul dX0_placeOf_2 <| sd_iload_n dX0_placeOf_3 rfl <| sd_iadd dX0_placeOf_4 <| sd_iconst dX0_placeOf_5 rfl <| sd_imul dX0_placeOf_6 <| sd_iload_n dX0_placeOf_7 rfl <| sd_iadd dX0_placeOf_8 <| (sd_rI rfl dX0_placeOf_9)
def fX0_placeOf : Mt Int32 := mk_f 3 bX0_placeOf_0
theorem tX0_placeOf : Ct ev_i yX0_placeOf cX0_placeOf 3 (some .int) 0 0 fX0_placeOf := ct_of (by decide +kernel) sX0_placeOf_0
abbrev pX0_growOlder : Px := (cX0_growOlder, 9, RX0, "growOlder", none, 3, 66, fun _ => True)
def bX0_growOlder_136 : Kt Unit := o_rV
set_option maxRecDepth 100000 in
theorem sX0_growOlder_136 : Sd pX0_growOlder ev_v 136 (bX0_growOlder_136) := (sd_rV rfl dX0_growOlder_136)
def bX0_growOlder_130 (K2 : Kt Unit) : Kt Unit := o_inc 3 1 <| K2
set_option maxRecDepth 100000 in
theorem sX0_growOlder_130 {K2 : Kt Unit} (h2 : Sd pX0_growOlder ev_v 2 K2) : Sd pX0_growOlder ev_v 130 (bX0_growOlder_130 K2) := sd_iinc dX0_growOlder_130 rfl (by decide) <| (sd_goto (tgt := 2) dX0_growOlder_133 (by decide) h2)
def bX0_growOlder_123 (K2 : Kt Unit) (K17 : Kt Unit) : Kt Unit := o_sI <| o_inc 5 1 <| K17
set_option maxRecDepth 100000 in
theorem sX0_growOlder_123 {K2 : Kt Unit} (h2 : Sd pX0_growOlder ev_v 2 K2) {K17 : Kt Unit} (h17 : Sd pX0_growOlder ev_v 17 K17) : Sd pX0_growOlder ev_v 123 (bX0_growOlder_123 K2 K17) := sd_sI dX0_growOlder_123 <| sd_iinc dX0_growOlder_124 rfl (by decide) <| (sd_goto (tgt := 17) dX0_growOlder_127 (by decide) h17)
def bX0_growOlder_121 (K2 : Kt Unit) (K17 : Kt Unit) : Kt Unit := o_psh (.int (-4)) <| (bX0_growOlder_123 K2 K17)
set_option maxRecDepth 100000 in
theorem sX0_growOlder_121 {K2 : Kt Unit} (h2 : Sd pX0_growOlder ev_v 2 K2) {K17 : Kt Unit} (h17 : Sd pX0_growOlder ev_v 17 K17) : Sd pX0_growOlder ev_v 121 (bX0_growOlder_121 K2 K17) := sd_bipush dX0_growOlder_121 rfl <| (sX0_growOlder_123 h2 h17)
def bX0_growOlder_109 (K2 : Kt Unit) (K17 : Kt Unit) : Kt Unit := o_ald 0 <| o_gR 0 1 <| o_ild 7 <| o_aI <| o_psh (.int 1) <| o_i2 o_add <| (o_fg 7 (bX0_growOlder_123 K2 K17))
set_option maxRecDepth 100000 in
theorem sX0_growOlder_109 {K2 : Kt Unit} (h2 : Sd pX0_growOlder ev_v 2 K2) {K17 : Kt Unit} (h17 : Sd pX0_growOlder ev_v 17 K17) : Sd pX0_growOlder ev_v 109 (bX0_growOlder_109 K2 K17) := sd_aload_n dX0_growOlder_109 rfl <| sd_gR flX0_15 dX0_growOlder_110 <| sd_iload dX0_growOlder_113 <| sd_aI dX0_growOlder_115 <| sd_iconst dX0_growOlder_116 rfl <| sd_iadd dX0_growOlder_117 <| (sd_goto (tgt := 123) dX0_growOlder_118 (by decide) (sd_fg (i := 7) (sX0_growOlder_123 h2 h17)))
def bX0_growOlder_97 (K2 : Kt Unit) (K17 : Kt Unit) : Kt Unit := o_sI <| o_ald 0 <| o_gR 0 1 <| o_ild 6 <| o_ild 8 <| o_zeq (o_fg 6 (o_fg 7 (o_fg 8 (bX0_growOlder_121 K2 K17)))) <| (o_fg 6 (o_fg 8 (bX0_growOlder_109 K2 K17)))
set_option maxRecDepth 100000 in
theorem sX0_growOlder_97 {K2 : Kt Unit} (h2 : Sd pX0_growOlder ev_v 2 K2) {K17 : Kt Unit} (h17 : Sd pX0_growOlder ev_v 17 K17) : Sd pX0_growOlder ev_v 97 (bX0_growOlder_97 K2 K17) := sd_sI dX0_growOlder_97 <| sd_aload_n dX0_growOlder_98 rfl <| sd_gR flX0_15 dX0_growOlder_99 <| sd_iload dX0_growOlder_102 <| sd_iload dX0_growOlder_104 <| sd_zeq (tgt := 121) dX0_growOlder_106 (by decide) (sd_fg (i := 6) (sd_fg (i := 7) (sd_fg (i := 8) (sX0_growOlder_121 h2 h17)))) <| (sd_fg (i := 6) (sd_fg (i := 8) (sX0_growOlder_109 h2 h17)))
def bX0_growOlder_95 (K2 : Kt Unit) (K17 : Kt Unit) : Kt Unit := o_psh (.int (-4)) <| (bX0_growOlder_97 K2 K17)
set_option maxRecDepth 100000 in
theorem sX0_growOlder_95 {K2 : Kt Unit} (h2 : Sd pX0_growOlder ev_v 2 K2) {K17 : Kt Unit} (h17 : Sd pX0_growOlder ev_v 17 K17) : Sd pX0_growOlder ev_v 95 (bX0_growOlder_95 K2 K17) := sd_bipush dX0_growOlder_95 rfl <| (sX0_growOlder_97 h2 h17)
def bX0_growOlder_85 (K2 : Kt Unit) (K17 : Kt Unit) : Kt Unit := o_ald 0 <| o_gR 0 0 <| o_ild 7 <| o_aI <| (bX0_growOlder_97 K2 K17)
set_option maxRecDepth 100000 in
theorem sX0_growOlder_85 {K2 : Kt Unit} (h2 : Sd pX0_growOlder ev_v 2 K2) {K17 : Kt Unit} (h17 : Sd pX0_growOlder ev_v 17 K17) : Sd pX0_growOlder ev_v 85 (bX0_growOlder_85 K2 K17) := sd_aload_n dX0_growOlder_85 rfl <| sd_gR flX0_11 dX0_growOlder_86 <| sd_iload dX0_growOlder_89 <| sd_aI dX0_growOlder_91 <| (sd_goto (tgt := 97) dX0_growOlder_92 (by decide) (sX0_growOlder_97 h2 h17))
def bX0_growOlder_72 (K2 : Kt Unit) (K17 : Kt Unit) : Kt Unit := o_ist 8 <| o_ald 0 <| o_gR 0 0 <| o_ild 6 <| o_ild 8 <| o_zeq (bX0_growOlder_95 K2 K17) <| (bX0_growOlder_85 K2 K17)
set_option maxRecDepth 100000 in
theorem sX0_growOlder_72 {K2 : Kt Unit} (h2 : Sd pX0_growOlder ev_v 2 K2) {K17 : Kt Unit} (h17 : Sd pX0_growOlder ev_v 17 K17) : Sd pX0_growOlder ev_v 72 (bX0_growOlder_72 K2 K17) := sd_istore dX0_growOlder_72 (by decide) <| sd_aload_n dX0_growOlder_74 rfl <| sd_gR flX0_11 dX0_growOlder_75 <| sd_iload dX0_growOlder_78 <| sd_iload dX0_growOlder_80 <| sd_zeq (tgt := 95) dX0_growOlder_82 (by decide) (sX0_growOlder_95 h2 h17) <| (sX0_growOlder_85 h2 h17)
def bX0_growOlder_71 (K2 : Kt Unit) (K17 : Kt Unit) : Kt Unit := o_psh (.int 0) <| (bX0_growOlder_72 K2 K17)
set_option maxRecDepth 100000 in
theorem sX0_growOlder_71 {K2 : Kt Unit} (h2 : Sd pX0_growOlder ev_v 2 K2) {K17 : Kt Unit} (h17 : Sd pX0_growOlder ev_v 17 K17) : Sd pX0_growOlder ev_v 71 (bX0_growOlder_71 K2 K17) := sd_iconst dX0_growOlder_71 rfl <| (sX0_growOlder_72 h2 h17)
def bX0_growOlder_67 (K2 : Kt Unit) (K17 : Kt Unit) : Kt Unit := o_psh (.int 1) <| (bX0_growOlder_72 K2 K17)
set_option maxRecDepth 100000 in
theorem sX0_growOlder_67 {K2 : Kt Unit} (h2 : Sd pX0_growOlder ev_v 2 K2) {K17 : Kt Unit} (h17 : Sd pX0_growOlder ev_v 17 K17) : Sd pX0_growOlder ev_v 67 (bX0_growOlder_67 K2 K17) := sd_iconst dX0_growOlder_67 rfl <| (sd_goto (tgt := 72) dX0_growOlder_68 (by decide) (sX0_growOlder_72 h2 h17))
def bX0_growOlder_55 (K2 : Kt Unit) (K17 : Kt Unit) : Kt Unit := o_ald 0 <| o_gR 0 1 <| o_ild 7 <| o_aI <| o_ild 4 <| o_cge (bX0_growOlder_71 K2 K17) <| (bX0_growOlder_67 K2 K17)
set_option maxRecDepth 100000 in
theorem sX0_growOlder_55 {K2 : Kt Unit} (h2 : Sd pX0_growOlder ev_v 2 K2) {K17 : Kt Unit} (h17 : Sd pX0_growOlder ev_v 17 K17) : Sd pX0_growOlder ev_v 55 (bX0_growOlder_55 K2 K17) := sd_aload_n dX0_growOlder_55 rfl <| sd_gR flX0_15 dX0_growOlder_56 <| sd_iload dX0_growOlder_59 <| sd_aI dX0_growOlder_61 <| sd_iload dX0_growOlder_62 <| sd_cge (tgt := 71) dX0_growOlder_64 (by decide) (sX0_growOlder_71 h2 h17) <| (sX0_growOlder_67 h2 h17)
def bX0_growOlder_43 (K2 : Kt Unit) (K17 : Kt Unit) : Kt Unit := o_ald 0 <| o_gR 0 0 <| o_ild 7 <| o_aI <| o_psh (.int (-4)) <| o_ceq (bX0_growOlder_71 K2 K17) <| (bX0_growOlder_55 K2 K17)
set_option maxRecDepth 100000 in
theorem sX0_growOlder_43 {K2 : Kt Unit} (h2 : Sd pX0_growOlder ev_v 2 K2) {K17 : Kt Unit} (h17 : Sd pX0_growOlder ev_v 17 K17) : Sd pX0_growOlder ev_v 43 (bX0_growOlder_43 K2 K17) := sd_aload_n dX0_growOlder_43 rfl <| sd_gR flX0_11 dX0_growOlder_44 <| sd_iload dX0_growOlder_47 <| sd_aI dX0_growOlder_49 <| sd_bipush dX0_growOlder_50 rfl <| sd_ceq (tgt := 71) dX0_growOlder_52 (by decide) (sX0_growOlder_71 h2 h17) <| (sX0_growOlder_55 h2 h17)
def bX0_growOlder_23 (K2 : Kt Unit) (K17 : Kt Unit) : Kt Unit := o_ild 3 <| o_ild 5 <| o_ild 2 <| o_sc ev_i 3 fX0_placeOf <| o_ist 6 <| o_ild 6 <| o_psh (.int 15) <| o_i2 o_sub <| o_ist 7 <| o_ild 2 <| o_zle (bX0_growOlder_71 K2 K17) <| (bX0_growOlder_43 K2 K17)
set_option maxRecDepth 100000 in
theorem sX0_growOlder_23 {K2 : Kt Unit} (h2 : Sd pX0_growOlder ev_v 2 K2) {K17 : Kt Unit} (h17 : Sd pX0_growOlder ev_v 17 K17) : Sd pX0_growOlder ev_v 23 (bX0_growOlder_23 K2 K17) := sd_iload_n dX0_growOlder_23 rfl <| sd_iload dX0_growOlder_24 <| sd_iload_n dX0_growOlder_26 rfl <| sd_sc tX0_placeOf (fun _ _ => rfl) mwX0_placeOf mvX0_placeOf tw_155 (by decide) dX0_growOlder_27 <| sd_istore dX0_growOlder_30 (by decide) <| sd_iload dX0_growOlder_32 <| sd_bipush dX0_growOlder_34 rfl <| sd_isub dX0_growOlder_36 <| sd_istore dX0_growOlder_37 (by decide) <| sd_iload_n dX0_growOlder_39 rfl <| sd_zle (tgt := 71) dX0_growOlder_40 (by decide) (sX0_growOlder_71 h2 h17) <| (sX0_growOlder_43 h2 h17)
def bX0_growOlder_17 (K2 : Kt Unit) (K17 : Kt Unit) : Kt Unit := o_ild 5 <| o_psh (.int 3) <| o_cge (o_fg 4 (o_fg 5 (bX0_growOlder_130 K2))) <| (bX0_growOlder_23 K2 K17)
set_option maxRecDepth 100000 in
theorem sX0_growOlder_17 {K2 : Kt Unit} (h2 : Sd pX0_growOlder ev_v 2 K2) {K17 : Kt Unit} (h17 : Sd pX0_growOlder ev_v 17 K17) : Sd pX0_growOlder ev_v 17 (bX0_growOlder_17 K2 K17) := sd_iload dX0_growOlder_17 <| sd_iconst dX0_growOlder_19 rfl <| sd_cge (tgt := 130) dX0_growOlder_20 (by decide) (sd_fg (i := 4) (sd_fg (i := 5) (sX0_growOlder_130 h2))) <| (sX0_growOlder_23 h2 h17)
def bX0_growOlder_7 (K2 : Kt Unit) : Kt Unit := o_ald 1 <| o_ild 3 <| o_vc ev_i 1 2 fX1_keepsOf <| o_ist 4 <| o_psh (.int 0) <| o_ist 5 <| (o_lp (bX0_growOlder_17 K2) fu)
set_option maxRecDepth 100000 in
theorem sX0_growOlder_7 {K2 : Kt Unit} (h2 : Sd pX0_growOlder ev_v 2 K2) : Sd pX0_growOlder ev_v 7 (bX0_growOlder_7 K2) := sd_aload_n dX0_growOlder_7 rfl <| sd_iload_n dX0_growOlder_8 rfl <| sd_vc tX1_keepsOf (fun _ _ => rfl) rfl mwX1_keepsOf mvX1_keepsOf tw_151 (by decide) dX0_growOlder_9 <| sd_istore dX0_growOlder_12 (by decide) <| sd_iconst dX0_growOlder_14 rfl <| sd_istore dX0_growOlder_15 (by decide) <| (sd_lp (fun K h => sX0_growOlder_17 h2 h) fu)
def bX0_growOlder_2 (K2 : Kt Unit) : Kt Unit := o_ild 3 <| o_psh (.int 5) <| o_cge (o_fg 0 (o_fg 1 (o_fg 2 (o_fg 3 bX0_growOlder_136)))) <| (bX0_growOlder_7 K2)
set_option maxRecDepth 100000 in
theorem sX0_growOlder_2 {K2 : Kt Unit} (h2 : Sd pX0_growOlder ev_v 2 K2) : Sd pX0_growOlder ev_v 2 (bX0_growOlder_2 K2) := sd_iload_n dX0_growOlder_2 rfl <| sd_iconst dX0_growOlder_3 rfl <| sd_cge (tgt := 136) dX0_growOlder_4 (by decide) (sd_fg (i := 0) (sd_fg (i := 1) (sd_fg (i := 2) (sd_fg (i := 3) sX0_growOlder_136)))) <| (sX0_growOlder_7 h2)
def bX0_growOlder_0 : Kt Unit := o_psh (.int 0) <| o_ist 3 <| (o_lp (bX0_growOlder_2) fu)
set_option maxRecDepth 100000 in
theorem sX0_growOlder_0 : Sd pX0_growOlder ev_v 0 (bX0_growOlder_0) := sd_iconst dX0_growOlder_0 rfl <| sd_istore_n dX0_growOlder_1 rfl (by decide) <| (sd_lp (fun K h => sX0_growOlder_2 h) fu)
def fX0_growOlder : Mt Unit := mk_f 9 bX0_growOlder_0
theorem tX0_growOlder : Ct ev_v yX0_growOlder cX0_growOlder 9 none 3 66 fX0_growOlder := ct_of (by decide +kernel) sX0_growOlder_0
abbrev pX0_believe : Px := (cX0_believe, 4, RX0, "believe", none, 0, 0, fun _ => True)
def bX0_believe_27 : Kt Unit := o_rV
set_option maxRecDepth 100000 in
theorem sX0_believe_27 : Sd pX0_believe ev_v 27 (bX0_believe_27) := (sd_rV rfl dX0_believe_27)
def bX0_believe_13 : Kt Unit := o_ald 0 <| o_gR 0 0 <| o_ild 1 <| o_ild 2 <| o_sI <| o_ald 0 <| o_gR 0 1 <| o_ild 1 <| o_ild 3 <| o_sI <| (o_fg 0 (o_fg 1 (o_fg 2 (o_fg 3 bX0_believe_27))))
set_option maxRecDepth 100000 in
theorem sX0_believe_13 : Sd pX0_believe ev_v 13 (bX0_believe_13) := sd_aload_n dX0_believe_13 rfl <| sd_gR flX0_11 dX0_believe_14 <| sd_iload_n dX0_believe_17 rfl <| sd_iload_n dX0_believe_18 rfl <| sd_sI dX0_believe_19 <| sd_aload_n dX0_believe_20 rfl <| sd_gR flX0_15 dX0_believe_21 <| sd_iload_n dX0_believe_24 rfl <| sd_iload_n dX0_believe_25 rfl <| sd_sI dX0_believe_26 <| (sd_fg (i := 0) (sd_fg (i := 1) (sd_fg (i := 2) (sd_fg (i := 3) sX0_believe_27))))
def bX0_believe_4 : Kt Unit := o_ild 1 <| o_ald 0 <| o_gR 0 0 <| o_aln <| o_cge (o_fg 0 (o_fg 1 (o_fg 2 (o_fg 3 bX0_believe_27)))) <| bX0_believe_13
set_option maxRecDepth 100000 in
theorem sX0_believe_4 : Sd pX0_believe ev_v 4 (bX0_believe_4) := sd_iload_n dX0_believe_4 rfl <| sd_aload_n dX0_believe_5 rfl <| sd_gR flX0_11 dX0_believe_6 <| sd_aln dX0_believe_9 <| sd_cge (tgt := 27) dX0_believe_10 (by decide) (sd_fg (i := 0) (sd_fg (i := 1) (sd_fg (i := 2) (sd_fg (i := 3) sX0_believe_27)))) <| sX0_believe_13
def bX0_believe_0 : Kt Unit := o_ild 1 <| o_zlt (o_fg 0 (o_fg 1 (o_fg 2 (o_fg 3 bX0_believe_27)))) <| bX0_believe_4
set_option maxRecDepth 100000 in
theorem sX0_believe_0 : Sd pX0_believe ev_v 0 (bX0_believe_0) := sd_iload_n dX0_believe_0 rfl <| sd_zlt (tgt := 27) dX0_believe_1 (by decide) (sd_fg (i := 0) (sd_fg (i := 1) (sd_fg (i := 2) (sd_fg (i := 3) sX0_believe_27)))) <| sX0_believe_4
def fX0_believe : Mt Unit := mk_f 4 bX0_believe_0
theorem tX0_believe : Ct ev_v yX0_believe cX0_believe 4 none 0 0 fX0_believe := ct_of (by decide +kernel) sX0_believe_0
abbrev pX0_lookOut : Px := (cX0_lookOut, 6, RX0, "lookOut", none, 3, 68, fun _ => True)
def bX0_lookOut_45 : Kt Unit := o_rV
set_option maxRecDepth 100000 in
theorem sX0_lookOut_45 : Sd pX0_lookOut ev_v 45 (bX0_lookOut_45) := (sd_rV rfl dX0_lookOut_45)
def bX0_lookOut_17 : Kt Unit := o_ald 1 <| o_ild 4 <| o_vc ev_i 1 2 fX1_postOf <| o_ist 5 <| o_ald 0 <| o_ild 4 <| o_ild 5 <| o_ild 3 <| o_sc ev_i 3 fX0_placeOf <| o_ald 1 <| o_ild 5 <| o_ild 3 <| o_vc ev_i 1 3 fX1_valueBehind <| o_psh (.int 0) <| o_vc ev_v 0 4 fX0_believe <| (o_fg 0 (o_fg 1 (o_fg 3 (o_fg 4 (o_fg 5 bX0_lookOut_45)))))
set_option maxRecDepth 100000 in
theorem sX0_lookOut_17 : Sd pX0_lookOut ev_v 17 (bX0_lookOut_17) := sd_aload_n dX0_lookOut_17 rfl <| sd_iload dX0_lookOut_18 <| sd_vc tX1_postOf (fun _ _ => rfl) rfl mwX1_postOf mvX1_postOf tw_161 (by decide) dX0_lookOut_20 <| sd_istore dX0_lookOut_23 (by decide) <| sd_aload_n dX0_lookOut_25 rfl <| sd_iload dX0_lookOut_26 <| sd_iload dX0_lookOut_28 <| sd_iload_n dX0_lookOut_30 rfl <| sd_sc tX0_placeOf (fun _ _ => rfl) mwX0_placeOf mvX0_placeOf tw_155 (by decide) dX0_lookOut_31 <| sd_aload_n dX0_lookOut_34 rfl <| sd_iload dX0_lookOut_35 <| sd_iload_n dX0_lookOut_37 rfl <| sd_vc tX1_valueBehind (fun _ _ => rfl) rfl mwX1_valueBehind mvX1_valueBehind tw_165 (by decide) dX0_lookOut_38 <| sd_iconst dX0_lookOut_41 rfl <| sd_vc tX0_believe (fun _ _ => rfl) rfl mwX0_believe mvX0_believe tw_169 (by decide) dX0_lookOut_42 <| (sd_fg (i := 0) (sd_fg (i := 1) (sd_fg (i := 3) (sd_fg (i := 4) (sd_fg (i := 5) sX0_lookOut_45)))))
def bX0_lookOut_0 : Kt Unit := o_ald 1 <| o_ald 2 <| o_ild 3 <| o_sc ev_i 3 fX7_seerIn <| o_ist 4 <| o_ald 1 <| o_ild 4 <| o_vc ev_i 1 2 fX1_isOne <| o_zeq (o_fg 0 (o_fg 1 (o_fg 2 (o_fg 3 (o_fg 4 bX0_lookOut_45))))) <| (o_fg 2 bX0_lookOut_17)
set_option maxRecDepth 100000 in
theorem sX0_lookOut_0 : Sd pX0_lookOut ev_v 0 (bX0_lookOut_0) := sd_aload_n dX0_lookOut_0 rfl <| sd_aload_n dX0_lookOut_1 rfl <| sd_iload_n dX0_lookOut_2 rfl <| sd_sc tX7_seerIn (fun _ _ => rfl) mwX7_seerIn mvX7_seerIn tw_156 (by decide) dX0_lookOut_3 <| sd_istore dX0_lookOut_6 (by decide) <| sd_aload_n dX0_lookOut_8 rfl <| sd_iload dX0_lookOut_9 <| sd_vc tX1_isOne (fun _ _ => rfl) rfl mwX1_isOne mvX1_isOne tw_157 (by decide) dX0_lookOut_11 <| sd_zeq (tgt := 45) dX0_lookOut_14 (by decide) (sd_fg (i := 0) (sd_fg (i := 1) (sd_fg (i := 2) (sd_fg (i := 3) (sd_fg (i := 4) sX0_lookOut_45))))) <| (sd_fg (i := 2) sX0_lookOut_17)
def fX0_lookOut : Mt Unit := mk_f 6 bX0_lookOut_0
theorem tX0_lookOut : Ct ev_v yX0_lookOut cX0_lookOut 6 none 3 68 fX0_lookOut := ct_of (by decide +kernel) sX0_lookOut_0
abbrev pX0_valueOf : Px := (cX0_valueOf, 5, RX0, "valueOf", (some .int), 1, 22, fun _ => True)
def bX0_valueOf_35 : Kt Int32 := o_rI
set_option maxRecDepth 100000 in
theorem sX0_valueOf_35 : Sd pX0_valueOf ev_i 35 (bX0_valueOf_35) := (sd_rI rfl dX0_valueOf_35)
def bX0_valueOf_33 : Kt Int32 := o_psh (.int (-4)) <| bX0_valueOf_35
set_option maxRecDepth 100000 in
theorem sX0_valueOf_33 : Sd pX0_valueOf ev_i 33 (bX0_valueOf_33) := sd_bipush dX0_valueOf_33 rfl <| sX0_valueOf_35
def bX0_valueOf_23 : Kt Int32 := o_ald 0 <| o_gR 0 0 <| o_ild 4 <| o_aI <| (o_fg 0 (o_fg 4 bX0_valueOf_35))
set_option maxRecDepth 100000 in
theorem sX0_valueOf_23 : Sd pX0_valueOf ev_i 23 (bX0_valueOf_23) := sd_aload_n dX0_valueOf_23 rfl <| sd_gR flX0_11 dX0_valueOf_24 <| sd_iload dX0_valueOf_27 <| sd_aI dX0_valueOf_29 <| (sd_goto (tgt := 35) dX0_valueOf_30 (by decide) (sd_fg (i := 0) (sd_fg (i := 4) sX0_valueOf_35)))
def bX0_valueOf_13 : Kt Int32 := o_ild 4 <| o_ald 0 <| o_gR 0 0 <| o_aln <| o_cge (o_fg 0 (o_fg 4 bX0_valueOf_33)) <| bX0_valueOf_23
set_option maxRecDepth 100000 in
theorem sX0_valueOf_13 : Sd pX0_valueOf ev_i 13 (bX0_valueOf_13) := sd_iload dX0_valueOf_13 <| sd_aload_n dX0_valueOf_15 rfl <| sd_gR flX0_11 dX0_valueOf_16 <| sd_aln dX0_valueOf_19 <| sd_cge (tgt := 33) dX0_valueOf_20 (by decide) (sd_fg (i := 0) (sd_fg (i := 4) sX0_valueOf_33)) <| sX0_valueOf_23
def bX0_valueOf_0 : Kt Int32 := o_ild 1 <| o_ild 2 <| o_ild 3 <| o_sc ev_i 3 fX0_placeOf <| o_ist 4 <| o_ild 4 <| o_zlt (o_fg 0 (o_fg 1 (o_fg 2 (o_fg 3 (o_fg 4 bX0_valueOf_33))))) <| (o_fg 1 (o_fg 2 (o_fg 3 bX0_valueOf_13)))
set_option maxRecDepth 100000 in
theorem sX0_valueOf_0 : Sd pX0_valueOf ev_i 0 (bX0_valueOf_0) := sd_iload_n dX0_valueOf_0 rfl <| sd_iload_n dX0_valueOf_1 rfl <| sd_iload_n dX0_valueOf_2 rfl <| sd_sc tX0_placeOf (fun _ _ => rfl) mwX0_placeOf mvX0_placeOf tw_155 (by decide) dX0_valueOf_3 <| sd_istore dX0_valueOf_6 (by decide) <| sd_iload dX0_valueOf_8 <| sd_zlt (tgt := 33) dX0_valueOf_10 (by decide) (sd_fg (i := 0) (sd_fg (i := 1) (sd_fg (i := 2) (sd_fg (i := 3) (sd_fg (i := 4) sX0_valueOf_33))))) <| (sd_fg (i := 1) (sd_fg (i := 2) (sd_fg (i := 3) sX0_valueOf_13)))
def fX0_valueOf : Mt Int32 := mk_f 5 bX0_valueOf_0
theorem tX0_valueOf : Ct ev_i yX0_valueOf cX0_valueOf 5 (some .int) 1 22 fX0_valueOf := ct_of (by decide +kernel) sX0_valueOf_0
abbrev pX0_ageOf : Px := (cX0_ageOf, 5, RX0, "ageOf", (some .int), 1, 22, fun _ => True)
def bX0_ageOf_35 : Kt Int32 := o_rI
set_option maxRecDepth 100000 in
theorem sX0_ageOf_35 : Sd pX0_ageOf ev_i 35 (bX0_ageOf_35) := (sd_rI rfl dX0_ageOf_35)
def bX0_ageOf_33 : Kt Int32 := o_psh (.int (-4)) <| bX0_ageOf_35
set_option maxRecDepth 100000 in
theorem sX0_ageOf_33 : Sd pX0_ageOf ev_i 33 (bX0_ageOf_33) := sd_bipush dX0_ageOf_33 rfl <| sX0_ageOf_35
def bX0_ageOf_23 : Kt Int32 := o_ald 0 <| o_gR 0 1 <| o_ild 4 <| o_aI <| (o_fg 0 (o_fg 4 bX0_ageOf_35))
set_option maxRecDepth 100000 in
theorem sX0_ageOf_23 : Sd pX0_ageOf ev_i 23 (bX0_ageOf_23) := sd_aload_n dX0_ageOf_23 rfl <| sd_gR flX0_15 dX0_ageOf_24 <| sd_iload dX0_ageOf_27 <| sd_aI dX0_ageOf_29 <| (sd_goto (tgt := 35) dX0_ageOf_30 (by decide) (sd_fg (i := 0) (sd_fg (i := 4) sX0_ageOf_35)))
def bX0_ageOf_13 : Kt Int32 := o_ild 4 <| o_ald 0 <| o_gR 0 1 <| o_aln <| o_cge (o_fg 0 (o_fg 4 bX0_ageOf_33)) <| bX0_ageOf_23
set_option maxRecDepth 100000 in
theorem sX0_ageOf_13 : Sd pX0_ageOf ev_i 13 (bX0_ageOf_13) := sd_iload dX0_ageOf_13 <| sd_aload_n dX0_ageOf_15 rfl <| sd_gR flX0_15 dX0_ageOf_16 <| sd_aln dX0_ageOf_19 <| sd_cge (tgt := 33) dX0_ageOf_20 (by decide) (sd_fg (i := 0) (sd_fg (i := 4) sX0_ageOf_33)) <| sX0_ageOf_23
def bX0_ageOf_0 : Kt Int32 := o_ild 1 <| o_ild 2 <| o_ild 3 <| o_sc ev_i 3 fX0_placeOf <| o_ist 4 <| o_ild 4 <| o_zlt (o_fg 0 (o_fg 1 (o_fg 2 (o_fg 3 (o_fg 4 bX0_ageOf_33))))) <| (o_fg 1 (o_fg 2 (o_fg 3 bX0_ageOf_13)))
set_option maxRecDepth 100000 in
theorem sX0_ageOf_0 : Sd pX0_ageOf ev_i 0 (bX0_ageOf_0) := sd_iload_n dX0_ageOf_0 rfl <| sd_iload_n dX0_ageOf_1 rfl <| sd_iload_n dX0_ageOf_2 rfl <| sd_sc tX0_placeOf (fun _ _ => rfl) mwX0_placeOf mvX0_placeOf tw_155 (by decide) dX0_ageOf_3 <| sd_istore dX0_ageOf_6 (by decide) <| sd_iload dX0_ageOf_8 <| sd_zlt (tgt := 33) dX0_ageOf_10 (by decide) (sd_fg (i := 0) (sd_fg (i := 1) (sd_fg (i := 2) (sd_fg (i := 3) (sd_fg (i := 4) sX0_ageOf_33))))) <| (sd_fg (i := 1) (sd_fg (i := 2) (sd_fg (i := 3) sX0_ageOf_13)))
def fX0_ageOf : Mt Int32 := mk_f 5 bX0_ageOf_0
theorem tX0_ageOf : Ct ev_i yX0_ageOf cX0_ageOf 5 (some .int) 1 22 fX0_ageOf := ct_of (by decide +kernel) sX0_ageOf_0
abbrev pX0_passOn : Px := (cX0_passOn, 8, RX0, "passOn", none, 2, 46, fun _ => True)
def bX0_passOn_106 : Kt Unit := o_rV
set_option maxRecDepth 100000 in
theorem sX0_passOn_106 : Sd pX0_passOn ev_v 106 (bX0_passOn_106) := (sd_rV rfl dX0_passOn_106)
def bX0_passOn_100 (K2 : Kt Unit) : Kt Unit := o_inc 3 1 <| K2
set_option maxRecDepth 100000 in
theorem sX0_passOn_100 {K2 : Kt Unit} (h2 : Sd pX0_passOn ev_v 2 K2) : Sd pX0_passOn ev_v 100 (bX0_passOn_100 K2) := sd_iinc dX0_passOn_100 rfl (by decide) <| (sd_goto (tgt := 2) dX0_passOn_103 (by decide) h2)
def bX0_passOn_66 (K2 : Kt Unit) : Kt Unit := o_ald 1 <| o_gR 1 3 <| o_ild 3 <| o_psh (.int 2) <| o_vc ev_i 5 3 fX6_at <| o_ist 7 <| o_ald 0 <| o_ild 7 <| o_ild 4 <| o_ild 2 <| o_sc ev_i 3 fX0_placeOf <| o_ild 6 <| o_ald 0 <| o_ild 5 <| o_ild 4 <| o_ild 2 <| o_vc ev_i 0 4 fX0_ageOf <| o_vc ev_v 0 4 fX0_believe <| (o_fg 4 (o_fg 5 (o_fg 6 (o_fg 7 (bX0_passOn_100 K2)))))
set_option maxRecDepth 100000 in
theorem sX0_passOn_66 {K2 : Kt Unit} (h2 : Sd pX0_passOn ev_v 2 K2) : Sd pX0_passOn ev_v 66 (bX0_passOn_66 K2) := sd_aload_n dX0_passOn_66 rfl <| sd_gR flX0_60 dX0_passOn_67 <| sd_iload_n dX0_passOn_70 rfl <| sd_iconst dX0_passOn_71 rfl <| sd_vc tX6_at (fun _ _ => rfl) rfl mwX6_at mvX6_at tw_172 (by decide) dX0_passOn_72 <| sd_istore dX0_passOn_75 (by decide) <| sd_aload_n dX0_passOn_77 rfl <| sd_iload dX0_passOn_78 <| sd_iload dX0_passOn_80 <| sd_iload_n dX0_passOn_82 rfl <| sd_sc tX0_placeOf (fun _ _ => rfl) mwX0_placeOf mvX0_placeOf tw_155 (by decide) dX0_passOn_83 <| sd_iload dX0_passOn_86 <| sd_aload_n dX0_passOn_88 rfl <| sd_iload dX0_passOn_89 <| sd_iload dX0_passOn_91 <| sd_iload_n dX0_passOn_93 rfl <| sd_vc tX0_ageOf (fun _ _ => rfl) rfl mwX0_ageOf mvX0_ageOf tw_180 (by decide) dX0_passOn_94 <| sd_vc tX0_believe (fun _ _ => rfl) rfl mwX0_believe mvX0_believe tw_169 (by decide) dX0_passOn_97 <| (sd_fg (i := 4) (sd_fg (i := 5) (sd_fg (i := 6) (sd_fg (i := 7) (sX0_passOn_100 h2)))))
def bX0_passOn_26 (K2 : Kt Unit) : Kt Unit := o_ald 1 <| o_gR 1 3 <| o_ild 3 <| o_psh (.int 3) <| o_vc ev_i 5 3 fX6_at <| o_ist 4 <| o_ald 1 <| o_gR 1 3 <| o_ild 3 <| o_psh (.int 1) <| o_vc ev_i 5 3 fX6_at <| o_ist 5 <| o_ald 0 <| o_ild 5 <| o_ild 4 <| o_ild 2 <| o_vc ev_i 0 4 fX0_valueOf <| o_ist 6 <| o_ild 6 <| o_psh (.int (-4)) <| o_ceq (o_fg 4 (o_fg 5 (o_fg 6 (bX0_passOn_100 K2)))) <| (bX0_passOn_66 K2)
set_option maxRecDepth 100000 in
theorem sX0_passOn_26 {K2 : Kt Unit} (h2 : Sd pX0_passOn ev_v 2 K2) : Sd pX0_passOn ev_v 26 (bX0_passOn_26 K2) := sd_aload_n dX0_passOn_26 rfl <| sd_gR flX0_60 dX0_passOn_27 <| sd_iload_n dX0_passOn_30 rfl <| sd_iconst dX0_passOn_31 rfl <| sd_vc tX6_at (fun _ _ => rfl) rfl mwX6_at mvX6_at tw_172 (by decide) dX0_passOn_32 <| sd_istore dX0_passOn_35 (by decide) <| sd_aload_n dX0_passOn_37 rfl <| sd_gR flX0_60 dX0_passOn_38 <| sd_iload_n dX0_passOn_41 rfl <| sd_iconst dX0_passOn_42 rfl <| sd_vc tX6_at (fun _ _ => rfl) rfl mwX6_at mvX6_at tw_172 (by decide) dX0_passOn_43 <| sd_istore dX0_passOn_46 (by decide) <| sd_aload_n dX0_passOn_48 rfl <| sd_iload dX0_passOn_49 <| sd_iload dX0_passOn_51 <| sd_iload_n dX0_passOn_53 rfl <| sd_vc tX0_valueOf (fun _ _ => rfl) rfl mwX0_valueOf mvX0_valueOf tw_176 (by decide) dX0_passOn_54 <| sd_istore dX0_passOn_57 (by decide) <| sd_iload dX0_passOn_59 <| sd_bipush dX0_passOn_61 rfl <| sd_ceq (tgt := 100) dX0_passOn_63 (by decide) (sd_fg (i := 4) (sd_fg (i := 5) (sd_fg (i := 6) (sX0_passOn_100 h2)))) <| (sX0_passOn_66 h2)
def bX0_passOn_13 (K2 : Kt Unit) : Kt Unit := o_ald 1 <| o_gR 1 3 <| o_ild 3 <| o_psh (.int 0) <| o_vc ev_i 5 3 fX6_at <| o_ild 2 <| o_cne (bX0_passOn_100 K2) <| (bX0_passOn_26 K2)
set_option maxRecDepth 100000 in
theorem sX0_passOn_13 {K2 : Kt Unit} (h2 : Sd pX0_passOn ev_v 2 K2) : Sd pX0_passOn ev_v 13 (bX0_passOn_13 K2) := sd_aload_n dX0_passOn_13 rfl <| sd_gR flX0_60 dX0_passOn_14 <| sd_iload_n dX0_passOn_17 rfl <| sd_iconst dX0_passOn_18 rfl <| sd_vc tX6_at (fun _ _ => rfl) rfl mwX6_at mvX6_at tw_172 (by decide) dX0_passOn_19 <| sd_iload_n dX0_passOn_22 rfl <| sd_cne (tgt := 100) dX0_passOn_23 (by decide) (sX0_passOn_100 h2) <| (sX0_passOn_26 h2)
def bX0_passOn_2 (K2 : Kt Unit) : Kt Unit := o_ild 3 <| o_ald 1 <| o_gR 1 3 <| o_gI 5 3 <| o_cge (o_fg 0 (o_fg 1 (o_fg 2 (o_fg 3 bX0_passOn_106)))) <| (bX0_passOn_13 K2)
set_option maxRecDepth 100000 in
theorem sX0_passOn_2 {K2 : Kt Unit} (h2 : Sd pX0_passOn ev_v 2 K2) : Sd pX0_passOn ev_v 2 (bX0_passOn_2 K2) := sd_iload_n dX0_passOn_2 rfl <| sd_aload_n dX0_passOn_3 rfl <| sd_gR flX0_60 dX0_passOn_4 <| sd_gI flX0_64 dX0_passOn_7 <| sd_cge (tgt := 106) dX0_passOn_10 (by decide) (sd_fg (i := 0) (sd_fg (i := 1) (sd_fg (i := 2) (sd_fg (i := 3) sX0_passOn_106)))) <| (sX0_passOn_13 h2)
def bX0_passOn_0 : Kt Unit := o_psh (.int 0) <| o_ist 3 <| (o_lp (bX0_passOn_2) fu)
set_option maxRecDepth 100000 in
theorem sX0_passOn_0 : Sd pX0_passOn ev_v 0 (bX0_passOn_0) := sd_iconst dX0_passOn_0 rfl <| sd_istore_n dX0_passOn_1 rfl (by decide) <| (sd_lp (fun K h => sX0_passOn_2 h) fu)
def fX0_passOn : Mt Unit := mk_f 8 bX0_passOn_0
theorem tX0_passOn : Ct ev_v yX0_passOn cX0_passOn 8 none 2 46 fX0_passOn := ct_of (by decide +kernel) sX0_passOn_0
abbrev pX0_live : Px := (cX0_live, 4, RX0, "live", none, 4, 94, fun _ => True)
def bX0_live_33 : Kt Unit := o_rV
set_option maxRecDepth 100000 in
theorem sX0_live_33 : Sd pX0_live ev_v 33 (bX0_live_33) := (sd_rV rfl dX0_live_33)
def bX0_live_8 (K2 : Kt Unit) : Kt Unit := o_ald 0 <| o_ald 1 <| o_ild 3 <| o_vc ev_v 0 3 fX0_growOlder <| o_ald 0 <| o_ald 1 <| o_ald 2 <| o_ild 3 <| o_vc ev_v 0 4 fX0_lookOut <| o_ald 0 <| o_ald 1 <| o_ild 3 <| o_vc ev_v 0 3 fX0_passOn <| o_inc 3 1 <| K2
set_option maxRecDepth 100000 in
theorem sX0_live_8 {K2 : Kt Unit} (h2 : Sd pX0_live ev_v 2 K2) : Sd pX0_live ev_v 8 (bX0_live_8 K2) := sd_aload_n dX0_live_8 rfl <| sd_aload_n dX0_live_9 rfl <| sd_iload_n dX0_live_10 rfl <| sd_vc tX0_growOlder (fun _ _ => rfl) rfl mwX0_growOlder mvX0_growOlder tw_184 (by decide) dX0_live_11 <| sd_aload_n dX0_live_14 rfl <| sd_aload_n dX0_live_15 rfl <| sd_aload_n dX0_live_16 rfl <| sd_iload_n dX0_live_17 rfl <| sd_vc tX0_lookOut (fun _ _ => rfl) rfl mwX0_lookOut mvX0_lookOut tw_188 (by decide) dX0_live_18 <| sd_aload_n dX0_live_21 rfl <| sd_aload_n dX0_live_22 rfl <| sd_iload_n dX0_live_23 rfl <| sd_vc tX0_passOn (fun _ _ => rfl) rfl mwX0_passOn mvX0_passOn tw_192 (by decide) dX0_live_24 <| sd_iinc dX0_live_27 rfl (by decide) <| (sd_goto (tgt := 2) dX0_live_30 (by decide) h2)
def bX0_live_2 (K2 : Kt Unit) : Kt Unit := o_ild 3 <| o_psh (.int 10) <| o_cge (o_fg 0 (o_fg 1 (o_fg 2 (o_fg 3 bX0_live_33)))) <| (bX0_live_8 K2)
set_option maxRecDepth 100000 in
theorem sX0_live_2 {K2 : Kt Unit} (h2 : Sd pX0_live ev_v 2 K2) : Sd pX0_live ev_v 2 (bX0_live_2 K2) := sd_iload_n dX0_live_2 rfl <| sd_bipush dX0_live_3 rfl <| sd_cge (tgt := 33) dX0_live_5 (by decide) (sd_fg (i := 0) (sd_fg (i := 1) (sd_fg (i := 2) (sd_fg (i := 3) sX0_live_33)))) <| (sX0_live_8 h2)
def bX0_live_0 : Kt Unit := o_psh (.int 0) <| o_ist 3 <| (o_lp (bX0_live_2) fu)
set_option maxRecDepth 100000 in
theorem sX0_live_0 : Sd pX0_live ev_v 0 (bX0_live_0) := sd_iconst dX0_live_0 rfl <| sd_istore_n dX0_live_1 rfl (by decide) <| (sd_lp (fun K h => sX0_live_2 h) fu)
def fX0_live : Mt Unit := mk_f 4 bX0_live_0
theorem tX0_live : Ct ev_v yX0_live cX0_live 4 none 4 94 fX0_live := ct_of (by decide +kernel) sX0_live_0
abbrev pX0_rightOnes : Px := (cX0_rightOnes, 7, RX0, "rightOnes", (some .int), 2, 49, fun _ => True)
def bX0_rightOnes_58 : Kt Int32 := o_ild 5 <| o_rI
set_option maxRecDepth 100000 in
theorem sX0_rightOnes_58 : Sd pX0_rightOnes ev_i 58 (bX0_rightOnes_58) := sd_iload dX0_rightOnes_58 <| (sd_rI rfl dX0_rightOnes_60)
def bX0_rightOnes_49 (K14 : Kt Int32) : Kt Int32 := o_i2 o_or <| o_ist 5 <| o_inc 6 1 <| K14
set_option maxRecDepth 100000 in
theorem sX0_rightOnes_49 {K14 : Kt Int32} (h14 : Sd pX0_rightOnes ev_i 14 K14) : Sd pX0_rightOnes ev_i 49 (bX0_rightOnes_49 K14) := sd_ior dX0_rightOnes_49 <| sd_istore dX0_rightOnes_50 (by decide) <| sd_iinc dX0_rightOnes_52 rfl (by decide) <| (sd_goto (tgt := 14) dX0_rightOnes_55 (by decide) h14)
def bX0_rightOnes_48 (K14 : Kt Int32) : Kt Int32 := o_psh (.int 0) <| (bX0_rightOnes_49 K14)
set_option maxRecDepth 100000 in
theorem sX0_rightOnes_48 {K14 : Kt Int32} (h14 : Sd pX0_rightOnes ev_i 14 K14) : Sd pX0_rightOnes ev_i 48 (bX0_rightOnes_48 K14) := sd_iconst dX0_rightOnes_48 rfl <| (sX0_rightOnes_49 h14)
def bX0_rightOnes_41 (K14 : Kt Int32) : Kt Int32 := o_psh (.int 1) <| o_ild 6 <| o_i2 o_shl <| (bX0_rightOnes_49 K14)
set_option maxRecDepth 100000 in
theorem sX0_rightOnes_41 {K14 : Kt Int32} (h14 : Sd pX0_rightOnes ev_i 14 K14) : Sd pX0_rightOnes ev_i 41 (bX0_rightOnes_41 K14) := sd_iconst dX0_rightOnes_41 rfl <| sd_iload dX0_rightOnes_42 <| sd_ishl dX0_rightOnes_44 <| (sd_goto (tgt := 49) dX0_rightOnes_45 (by decide) (sX0_rightOnes_49 h14))
def bX0_rightOnes_26 (K14 : Kt Int32) : Kt Int32 := o_ild 5 <| o_ald 0 <| o_ild 6 <| o_ild 2 <| o_ild 3 <| o_vc ev_i 0 4 fX0_valueOf <| o_ild 4 <| o_cne (o_fg 5 (bX0_rightOnes_48 K14)) <| (o_fg 5 (bX0_rightOnes_41 K14))
set_option maxRecDepth 100000 in
theorem sX0_rightOnes_26 {K14 : Kt Int32} (h14 : Sd pX0_rightOnes ev_i 14 K14) : Sd pX0_rightOnes ev_i 26 (bX0_rightOnes_26 K14) := sd_iload dX0_rightOnes_26 <| sd_aload_n dX0_rightOnes_28 rfl <| sd_iload dX0_rightOnes_29 <| sd_iload_n dX0_rightOnes_31 rfl <| sd_iload_n dX0_rightOnes_32 rfl <| sd_vc tX0_valueOf (fun _ _ => rfl) rfl mwX0_valueOf mvX0_valueOf tw_176 (by decide) dX0_rightOnes_33 <| sd_iload dX0_rightOnes_36 <| sd_cne (tgt := 48) dX0_rightOnes_38 (by decide) (sd_fg (i := 5) (sX0_rightOnes_48 h14)) <| (sd_fg (i := 5) (sX0_rightOnes_41 h14))
def bX0_rightOnes_14 (K14 : Kt Int32) : Kt Int32 := o_ild 6 <| o_ald 1 <| o_gR 1 0 <| o_gI 5 3 <| o_cge (o_fg 0 (o_fg 1 (o_fg 2 (o_fg 3 (o_fg 4 (o_fg 6 bX0_rightOnes_58)))))) <| (bX0_rightOnes_26 K14)
set_option maxRecDepth 100000 in
theorem sX0_rightOnes_14 {K14 : Kt Int32} (h14 : Sd pX0_rightOnes ev_i 14 K14) : Sd pX0_rightOnes ev_i 14 (bX0_rightOnes_14 K14) := sd_iload dX0_rightOnes_14 <| sd_aload_n dX0_rightOnes_16 rfl <| sd_gR flX0_79 dX0_rightOnes_17 <| sd_gI flX0_64 dX0_rightOnes_20 <| sd_cge (tgt := 58) dX0_rightOnes_23 (by decide) (sd_fg (i := 0) (sd_fg (i := 1) (sd_fg (i := 2) (sd_fg (i := 3) (sd_fg (i := 4) (sd_fg (i := 6) sX0_rightOnes_58)))))) <| (sX0_rightOnes_26 h14)
def bX0_rightOnes_0 : Kt Int32 := o_ald 1 <| o_ild 2 <| o_ild 3 <| o_vc ev_i 1 3 fX1_valueBehind <| o_ist 4 <| o_psh (.int 0) <| o_ist 5 <| o_psh (.int 0) <| o_ist 6 <| (o_lp (bX0_rightOnes_14) fu)
set_option maxRecDepth 100000 in
theorem sX0_rightOnes_0 : Sd pX0_rightOnes ev_i 0 (bX0_rightOnes_0) := sd_aload_n dX0_rightOnes_0 rfl <| sd_iload_n dX0_rightOnes_1 rfl <| sd_iload_n dX0_rightOnes_2 rfl <| sd_vc tX1_valueBehind (fun _ _ => rfl) rfl mwX1_valueBehind mvX1_valueBehind tw_165 (by decide) dX0_rightOnes_3 <| sd_istore dX0_rightOnes_6 (by decide) <| sd_iconst dX0_rightOnes_8 rfl <| sd_istore dX0_rightOnes_9 (by decide) <| sd_iconst dX0_rightOnes_11 rfl <| sd_istore dX0_rightOnes_12 (by decide) <| (sd_lp (fun K h => sX0_rightOnes_14 h) fu)
def fX0_rightOnes : Mt Int32 := mk_f 7 bX0_rightOnes_0
theorem tX0_rightOnes : Ct ev_i yX0_rightOnes cX0_rightOnes 7 (some .int) 2 49 fX0_rightOnes := ct_of (by decide +kernel) sX0_rightOnes_0
abbrev pX0_wrongOnes : Px := (cX0_wrongOnes, 8, RX0, "wrongOnes", (some .int), 2, 49, fun _ => True)
def bX0_wrongOnes_69 : Kt Int32 := o_ild 5 <| o_rI
set_option maxRecDepth 100000 in
theorem sX0_wrongOnes_69 : Sd pX0_wrongOnes ev_i 69 (bX0_wrongOnes_69) := sd_iload dX0_wrongOnes_69 <| (sd_rI rfl dX0_wrongOnes_71)
def bX0_wrongOnes_60 (K14 : Kt Int32) : Kt Int32 := o_i2 o_or <| o_ist 5 <| o_inc 6 1 <| K14
set_option maxRecDepth 100000 in
theorem sX0_wrongOnes_60 {K14 : Kt Int32} (h14 : Sd pX0_wrongOnes ev_i 14 K14) : Sd pX0_wrongOnes ev_i 60 (bX0_wrongOnes_60 K14) := sd_ior dX0_wrongOnes_60 <| sd_istore dX0_wrongOnes_61 (by decide) <| sd_iinc dX0_wrongOnes_63 rfl (by decide) <| (sd_goto (tgt := 14) dX0_wrongOnes_66 (by decide) h14)
def bX0_wrongOnes_59 (K14 : Kt Int32) : Kt Int32 := o_psh (.int 0) <| (bX0_wrongOnes_60 K14)
set_option maxRecDepth 100000 in
theorem sX0_wrongOnes_59 {K14 : Kt Int32} (h14 : Sd pX0_wrongOnes ev_i 14 K14) : Sd pX0_wrongOnes ev_i 59 (bX0_wrongOnes_59 K14) := sd_iconst dX0_wrongOnes_59 rfl <| (sX0_wrongOnes_60 h14)
def bX0_wrongOnes_52 (K14 : Kt Int32) : Kt Int32 := o_psh (.int 1) <| o_ild 6 <| o_i2 o_shl <| (bX0_wrongOnes_60 K14)
set_option maxRecDepth 100000 in
theorem sX0_wrongOnes_52 {K14 : Kt Int32} (h14 : Sd pX0_wrongOnes ev_i 14 K14) : Sd pX0_wrongOnes ev_i 52 (bX0_wrongOnes_52 K14) := sd_iconst dX0_wrongOnes_52 rfl <| sd_iload dX0_wrongOnes_53 <| sd_ishl dX0_wrongOnes_55 <| (sd_goto (tgt := 60) dX0_wrongOnes_56 (by decide) (sX0_wrongOnes_60 h14))
def bX0_wrongOnes_45 (K14 : Kt Int32) : Kt Int32 := o_ild 7 <| o_ild 4 <| o_ceq (o_fg 7 (bX0_wrongOnes_59 K14)) <| (o_fg 7 (bX0_wrongOnes_52 K14))
set_option maxRecDepth 100000 in
theorem sX0_wrongOnes_45 {K14 : Kt Int32} (h14 : Sd pX0_wrongOnes ev_i 14 K14) : Sd pX0_wrongOnes ev_i 45 (bX0_wrongOnes_45 K14) := sd_iload dX0_wrongOnes_45 <| sd_iload dX0_wrongOnes_47 <| sd_ceq (tgt := 59) dX0_wrongOnes_49 (by decide) (sd_fg (i := 7) (sX0_wrongOnes_59 h14)) <| (sd_fg (i := 7) (sX0_wrongOnes_52 h14))
def bX0_wrongOnes_26 (K14 : Kt Int32) : Kt Int32 := o_ald 0 <| o_ild 6 <| o_ild 2 <| o_ild 3 <| o_vc ev_i 0 4 fX0_valueOf <| o_ist 7 <| o_ild 5 <| o_ild 7 <| o_psh (.int (-4)) <| o_ceq (o_fg 5 (o_fg 7 (bX0_wrongOnes_59 K14))) <| (o_fg 5 (bX0_wrongOnes_45 K14))
set_option maxRecDepth 100000 in
theorem sX0_wrongOnes_26 {K14 : Kt Int32} (h14 : Sd pX0_wrongOnes ev_i 14 K14) : Sd pX0_wrongOnes ev_i 26 (bX0_wrongOnes_26 K14) := sd_aload_n dX0_wrongOnes_26 rfl <| sd_iload dX0_wrongOnes_27 <| sd_iload_n dX0_wrongOnes_29 rfl <| sd_iload_n dX0_wrongOnes_30 rfl <| sd_vc tX0_valueOf (fun _ _ => rfl) rfl mwX0_valueOf mvX0_valueOf tw_176 (by decide) dX0_wrongOnes_31 <| sd_istore dX0_wrongOnes_34 (by decide) <| sd_iload dX0_wrongOnes_36 <| sd_iload dX0_wrongOnes_38 <| sd_bipush dX0_wrongOnes_40 rfl <| sd_ceq (tgt := 59) dX0_wrongOnes_42 (by decide) (sd_fg (i := 5) (sd_fg (i := 7) (sX0_wrongOnes_59 h14))) <| (sd_fg (i := 5) (sX0_wrongOnes_45 h14))
def bX0_wrongOnes_14 (K14 : Kt Int32) : Kt Int32 := o_ild 6 <| o_ald 1 <| o_gR 1 0 <| o_gI 5 3 <| o_cge (o_fg 0 (o_fg 1 (o_fg 2 (o_fg 3 (o_fg 4 (o_fg 6 bX0_wrongOnes_69)))))) <| (bX0_wrongOnes_26 K14)
set_option maxRecDepth 100000 in
theorem sX0_wrongOnes_14 {K14 : Kt Int32} (h14 : Sd pX0_wrongOnes ev_i 14 K14) : Sd pX0_wrongOnes ev_i 14 (bX0_wrongOnes_14 K14) := sd_iload dX0_wrongOnes_14 <| sd_aload_n dX0_wrongOnes_16 rfl <| sd_gR flX0_79 dX0_wrongOnes_17 <| sd_gI flX0_64 dX0_wrongOnes_20 <| sd_cge (tgt := 69) dX0_wrongOnes_23 (by decide) (sd_fg (i := 0) (sd_fg (i := 1) (sd_fg (i := 2) (sd_fg (i := 3) (sd_fg (i := 4) (sd_fg (i := 6) sX0_wrongOnes_69)))))) <| (sX0_wrongOnes_26 h14)
def bX0_wrongOnes_0 : Kt Int32 := o_ald 1 <| o_ild 2 <| o_ild 3 <| o_vc ev_i 1 3 fX1_valueBehind <| o_ist 4 <| o_psh (.int 0) <| o_ist 5 <| o_psh (.int 0) <| o_ist 6 <| (o_lp (bX0_wrongOnes_14) fu)
set_option maxRecDepth 100000 in
theorem sX0_wrongOnes_0 : Sd pX0_wrongOnes ev_i 0 (bX0_wrongOnes_0) := sd_aload_n dX0_wrongOnes_0 rfl <| sd_iload_n dX0_wrongOnes_1 rfl <| sd_iload_n dX0_wrongOnes_2 rfl <| sd_vc tX1_valueBehind (fun _ _ => rfl) rfl mwX1_valueBehind mvX1_valueBehind tw_165 (by decide) dX0_wrongOnes_3 <| sd_istore dX0_wrongOnes_6 (by decide) <| sd_iconst dX0_wrongOnes_8 rfl <| sd_istore dX0_wrongOnes_9 (by decide) <| sd_iconst dX0_wrongOnes_11 rfl <| sd_istore dX0_wrongOnes_12 (by decide) <| (sd_lp (fun K h => sX0_wrongOnes_14 h) fu)
def fX0_wrongOnes : Mt Int32 := mk_f 8 bX0_wrongOnes_0
theorem tX0_wrongOnes : Ct ev_i yX0_wrongOnes cX0_wrongOnes 8 (some .int) 2 49 fX0_wrongOnes := ct_of (by decide +kernel) sX0_wrongOnes_0
abbrev pX0_isAsSeen : Px := (cX0_isAsSeen, 3, RX0, "isAsSeen", (some .boolean), 2, 46, fun _ => True)
def bX0_isAsSeen_49 : Kt Int32 := o_psh (.int 1) <| o_rZ
set_option maxRecDepth 100000 in
theorem sX0_isAsSeen_49 : Sd pX0_isAsSeen ev_i 49 (bX0_isAsSeen_49) := sd_iconst dX0_isAsSeen_49 rfl <| (sd_rZ rfl dX0_isAsSeen_50)
def bX0_isAsSeen_43 (K2 : Kt Int32) : Kt Int32 := o_inc 2 1 <| K2
set_option maxRecDepth 100000 in
theorem sX0_isAsSeen_43 {K2 : Kt Int32} (h2 : Sd pX0_isAsSeen ev_i 2 K2) : Sd pX0_isAsSeen ev_i 43 (bX0_isAsSeen_43 K2) := sd_iinc dX0_isAsSeen_43 rfl (by decide) <| (sd_goto (tgt := 2) dX0_isAsSeen_46 (by decide) h2)
def bX0_isAsSeen_41 (K2 : Kt Int32) : Kt Int32 := o_psh (.int 0) <| o_rZ
set_option maxRecDepth 100000 in
theorem sX0_isAsSeen_41 {K2 : Kt Int32} (h2 : Sd pX0_isAsSeen ev_i 2 K2) : Sd pX0_isAsSeen ev_i 41 (bX0_isAsSeen_41 K2) := sd_iconst dX0_isAsSeen_41 rfl <| (sd_rZ rfl dX0_isAsSeen_42)
def bX0_isAsSeen_10 (K2 : Kt Int32) : Kt Int32 := o_ald 0 <| o_ald 1 <| o_ild 2 <| o_psh (.int 0) <| o_vc ev_i 5 3 fX6_at <| o_ald 1 <| o_ild 2 <| o_psh (.int 1) <| o_vc ev_i 5 3 fX6_at <| o_ald 1 <| o_ild 2 <| o_psh (.int 2) <| o_vc ev_i 5 3 fX6_at <| o_vc ev_i 0 4 fX0_valueOf <| o_ald 1 <| o_ild 2 <| o_psh (.int 3) <| o_vc ev_i 5 3 fX6_at <| o_ceq (bX0_isAsSeen_43 K2) <| (o_fg 0 (o_fg 1 (o_fg 2 (bX0_isAsSeen_41 K2))))
set_option maxRecDepth 100000 in
theorem sX0_isAsSeen_10 {K2 : Kt Int32} (h2 : Sd pX0_isAsSeen ev_i 2 K2) : Sd pX0_isAsSeen ev_i 10 (bX0_isAsSeen_10 K2) := sd_aload_n dX0_isAsSeen_10 rfl <| sd_aload_n dX0_isAsSeen_11 rfl <| sd_iload_n dX0_isAsSeen_12 rfl <| sd_iconst dX0_isAsSeen_13 rfl <| sd_vc tX6_at (fun _ _ => rfl) rfl mwX6_at mvX6_at tw_172 (by decide) dX0_isAsSeen_14 <| sd_aload_n dX0_isAsSeen_17 rfl <| sd_iload_n dX0_isAsSeen_18 rfl <| sd_iconst dX0_isAsSeen_19 rfl <| sd_vc tX6_at (fun _ _ => rfl) rfl mwX6_at mvX6_at tw_172 (by decide) dX0_isAsSeen_20 <| sd_aload_n dX0_isAsSeen_23 rfl <| sd_iload_n dX0_isAsSeen_24 rfl <| sd_iconst dX0_isAsSeen_25 rfl <| sd_vc tX6_at (fun _ _ => rfl) rfl mwX6_at mvX6_at tw_172 (by decide) dX0_isAsSeen_26 <| sd_vc tX0_valueOf (fun _ _ => rfl) rfl mwX0_valueOf mvX0_valueOf tw_176 (by decide) dX0_isAsSeen_29 <| sd_aload_n dX0_isAsSeen_32 rfl <| sd_iload_n dX0_isAsSeen_33 rfl <| sd_iconst dX0_isAsSeen_34 rfl <| sd_vc tX6_at (fun _ _ => rfl) rfl mwX6_at mvX6_at tw_172 (by decide) dX0_isAsSeen_35 <| sd_ceq (tgt := 43) dX0_isAsSeen_38 (by decide) (sX0_isAsSeen_43 h2) <| (sd_fg (i := 0) (sd_fg (i := 1) (sd_fg (i := 2) (sX0_isAsSeen_41 h2))))
def bX0_isAsSeen_2 (K2 : Kt Int32) : Kt Int32 := o_ild 2 <| o_ald 1 <| o_gI 5 3 <| o_cge (o_fg 0 (o_fg 1 (o_fg 2 bX0_isAsSeen_49))) <| (bX0_isAsSeen_10 K2)
set_option maxRecDepth 100000 in
theorem sX0_isAsSeen_2 {K2 : Kt Int32} (h2 : Sd pX0_isAsSeen ev_i 2 K2) : Sd pX0_isAsSeen ev_i 2 (bX0_isAsSeen_2 K2) := sd_iload_n dX0_isAsSeen_2 rfl <| sd_aload_n dX0_isAsSeen_3 rfl <| sd_gI flX0_64 dX0_isAsSeen_4 <| sd_cge (tgt := 49) dX0_isAsSeen_7 (by decide) (sd_fg (i := 0) (sd_fg (i := 1) (sd_fg (i := 2) sX0_isAsSeen_49))) <| (sX0_isAsSeen_10 h2)
def bX0_isAsSeen_0 : Kt Int32 := o_psh (.int 0) <| o_ist 2 <| (o_lp (bX0_isAsSeen_2) fu)
set_option maxRecDepth 100000 in
theorem sX0_isAsSeen_0 : Sd pX0_isAsSeen ev_i 0 (bX0_isAsSeen_0) := sd_iconst dX0_isAsSeen_0 rfl <| sd_istore_n dX0_isAsSeen_1 rfl (by decide) <| (sd_lp (fun K h => sX0_isAsSeen_2 h) fu)
def fX0_isAsSeen : Mt Int32 := mk_f 3 bX0_isAsSeen_0
theorem tX0_isAsSeen : Ct ev_i yX0_isAsSeen cX0_isAsSeen 3 (some .boolean) 2 46 fX0_isAsSeen := ct_of (by decide +kernel) sX0_isAsSeen_0
abbrev pX0_copyLast : Px := (cX0_copyLast, 3, RX0, "copyLast", none, 1, 26, fun _ => True)
def bX0_copyLast_27 : Kt Unit := o_rV
set_option maxRecDepth 100000 in
theorem sX0_copyLast_27 : Sd pX0_copyLast ev_v 27 (bX0_copyLast_27) := (sd_rV rfl dX0_copyLast_27)
def bX0_copyLast_13 : Kt Unit := o_ald 0 <| o_gR 0 0 <| o_psh (.int 135) <| o_ald 1 <| o_ild 2 <| o_psh (.int 15) <| o_cpy <| (o_fg 0 (o_fg 1 (o_fg 2 bX0_copyLast_27)))
set_option maxRecDepth 100000 in
theorem sX0_copyLast_13 : Sd pX0_copyLast ev_v 13 (bX0_copyLast_13) := sd_aload_n dX0_copyLast_13 rfl <| sd_gR flX0_11 dX0_copyLast_14 <| sd_sipush dX0_copyLast_17 rfl <| sd_aload_n dX0_copyLast_20 rfl <| sd_iload_n dX0_copyLast_21 rfl <| sd_bipush dX0_copyLast_22 rfl <| sd_cpy ⟨tw_194, tw_53, tw_54, tw_55⟩ (by decide) dX0_copyLast_24 <| (sd_fg (i := 0) (sd_fg (i := 1) (sd_fg (i := 2) sX0_copyLast_27)))
def bX0_copyLast_4 : Kt Unit := o_ild 2 <| o_ald 1 <| o_aln <| o_psh (.int 15) <| o_i2 o_sub <| o_cgt (o_fg 0 (o_fg 1 (o_fg 2 bX0_copyLast_27))) <| bX0_copyLast_13
set_option maxRecDepth 100000 in
theorem sX0_copyLast_4 : Sd pX0_copyLast ev_v 4 (bX0_copyLast_4) := sd_iload_n dX0_copyLast_4 rfl <| sd_aload_n dX0_copyLast_5 rfl <| sd_aln dX0_copyLast_6 <| sd_bipush dX0_copyLast_7 rfl <| sd_isub dX0_copyLast_9 <| sd_cgt (tgt := 27) dX0_copyLast_10 (by decide) (sd_fg (i := 0) (sd_fg (i := 1) (sd_fg (i := 2) sX0_copyLast_27))) <| sX0_copyLast_13
def bX0_copyLast_0 : Kt Unit := o_ild 2 <| o_zlt (o_fg 0 (o_fg 1 (o_fg 2 bX0_copyLast_27))) <| bX0_copyLast_4
set_option maxRecDepth 100000 in
theorem sX0_copyLast_0 : Sd pX0_copyLast ev_v 0 (bX0_copyLast_0) := sd_iload_n dX0_copyLast_0 rfl <| sd_zlt (tgt := 27) dX0_copyLast_1 (by decide) (sd_fg (i := 0) (sd_fg (i := 1) (sd_fg (i := 2) sX0_copyLast_27))) <| sX0_copyLast_4
def fX0_copyLast : Mt Unit := mk_f 3 bX0_copyLast_0
theorem tX0_copyLast : Ct ev_v yX0_copyLast cX0_copyLast 3 none 1 26 fX0_copyLast := ct_of (by decide +kernel) sX0_copyLast_0
abbrev pX4_init : Px := (cX4_init, 1, RX4, "<init>", none, 2, 43, fun _ => True)
def bX4_init_0 : Kt Unit := o_ald 0 <| o_oin <| o_ald 0 <| o_psh (.int 2112) <| o_nwI 0 <| o_pR 3 0 <| o_ald 0 <| o_psh (.int 6) <| o_nwI 0 <| o_pR 3 1 <| o_ald 0 <| o_psh (.int 10) <| o_nwI 0 <| o_pR 3 2 <| o_ald 0 <| o_new 5 [.int 0, .int 0, .null, .int 0] <| o_dup <| o_psh (.int 2) <| o_psh (.int 5) <| o_nc 3 fX6_init <| o_pR 3 3 <| o_ald 0 <| o_new 5 [.int 0, .int 0, .null, .int 0] <| o_dup <| o_psh (.int 4) <| o_psh (.int 5) <| o_nc 3 fX6_init <| o_pR 3 4 <| o_rV
set_option maxRecDepth 100000 in
theorem sX4_init_0 : Sd pX4_init ev_v 0 (bX4_init_0) := sd_aload_n dX4_init_0 rfl <| sd_oin ⟨tw_195, tw_29, tw_30⟩ (by decide) dX4_init_1 <| sd_aload_n dX4_init_4 rfl <| sd_sipush dX4_init_5 rfl <| sd_nwI (t := 0) (aty := .int) (tn := .int) rfl rfl (fun _ => rfl) (fun _ _ h => h) hby_int tw_37 dX4_init_8 <| sd_pR rfl (Or.inr ⟨_, rfl⟩) fpX4_11 dX4_init_10 <| sd_aload_n dX4_init_13 rfl <| sd_bipush dX4_init_14 rfl <| sd_nwI (t := 0) (aty := .int) (tn := .int) rfl rfl (fun _ => rfl) (fun _ _ h => h) hby_int tw_37 dX4_init_16 <| sd_pR rfl (Or.inr ⟨_, rfl⟩) fpX4_15 dX4_init_18 <| sd_aload_n dX4_init_21 rfl <| sd_bipush dX4_init_22 rfl <| sd_nwI (t := 0) (aty := .int) (tn := .int) rfl rfl (fun _ => rfl) (fun _ _ h => h) hby_int tw_37 dX4_init_24 <| sd_pR rfl (Or.inr ⟨_, rfl⟩) fpX4_18 dX4_init_26 <| sd_aload_n dX4_init_29 rfl <| sd_new tyX6 rfl inTX6 tyX6_ok ⟨tw_199, tw_82, tw_41⟩ (by decide +kernel) rfl (fun _ => rfl) dX4_init_30 <| sd_dup dX4_init_33 <| sd_iconst dX4_init_34 rfl <| sd_iconst dX4_init_35 rfl <| sd_nc tX6_init mwX6_init rfl mvX6_init tw_200 (by decide) dX4_init_36 <| sd_pR rfl (Or.inl ⟨_, rfl⟩) fpX4_26 dX4_init_39 <| sd_aload_n dX4_init_42 rfl <| sd_new tyX6 rfl inTX6 tyX6_ok ⟨tw_199, tw_82, tw_41⟩ (by decide +kernel) rfl (fun _ => rfl) dX4_init_43 <| sd_dup dX4_init_46 <| sd_iconst dX4_init_47 rfl <| sd_iconst dX4_init_48 rfl <| sd_nc tX6_init mwX6_init rfl mvX6_init tw_200 (by decide) dX4_init_49 <| sd_pR rfl (Or.inl ⟨_, rfl⟩) fpX4_30 dX4_init_52 <| (sd_rV rfl dX4_init_55)
def fX4_init : Mt Unit := mk_f 1 bX4_init_0
theorem tX4_init : Ct ev_v yX4_init cX4_init 1 none 2 43 fX4_init := ct_of (by decide +kernel) sX4_init_0
abbrev pX4_placeOf : Px := (cX4_placeOf, 3, RX4, "placeOf", (some .int), 0, 0, fun _ => True)
def bX4_placeOf_0 : Kt Int32 := o_ild 0 <| o_psh (.int 6) <| o_i2 o_mul <| o_ild 1 <| o_i2 o_add <| o_psh (.int 32) <| o_i2 o_mul <| o_ild 2 <| o_i2 o_add <| o_rI
set_option maxRecDepth 100000 in
theorem sX4_placeOf_0 : Sd pX4_placeOf ev_i 0 (bX4_placeOf_0) := sd_iload_n dX4_placeOf_0 rfl <| sd_bipush dX4_placeOf_1 rfl <| sd_imul dX4_placeOf_3 <| sd_iload_n dX4_placeOf_4 rfl <| sd_iadd dX4_placeOf_5 <| sd_bipush dX4_placeOf_6 rfl <| sd_imul dX4_placeOf_8 <| sd_iload_n dX4_placeOf_9 rfl <| sd_iadd dX4_placeOf_10 <| (sd_rI rfl dX4_placeOf_11)
def fX4_placeOf : Mt Int32 := mk_f 3 bX4_placeOf_0
theorem tX4_placeOf : Ct ev_i yX4_placeOf cX4_placeOf 3 (some .int) 0 0 fX4_placeOf := ct_of (by decide +kernel) sX4_placeOf_0
abbrev pX4_fillEnd : Px := (cX4_fillEnd, 6, RX4, "fillEnd", none, 2, 44, fun _ => True)
def bX4_fillEnd_107 : Kt Unit := o_rV
set_option maxRecDepth 100000 in
theorem sX4_fillEnd_107 : Sd pX4_fillEnd ev_v 107 (bX4_fillEnd_107) := (sd_rV rfl dX4_fillEnd_107)
def bX4_fillEnd_101 (K12 : Kt Unit) : Kt Unit := o_inc 3 1 <| K12
set_option maxRecDepth 100000 in
theorem sX4_fillEnd_101 {K12 : Kt Unit} (h12 : Sd pX4_fillEnd ev_v 12 K12) : Sd pX4_fillEnd ev_v 101 (bX4_fillEnd_101 K12) := sd_iinc dX4_fillEnd_101 rfl (by decide) <| (sd_goto (tgt := 12) dX4_fillEnd_104 (by decide) h12)
def bX4_fillEnd_80 (K12 : Kt Unit) (K68 : Kt Unit) : Kt Unit := o_ald 0 <| o_gR 3 0 <| o_psh (.int 10) <| o_ild 5 <| o_ild 3 <| o_sc ev_i 3 fX4_placeOf <| o_ild 4 <| o_sI <| o_inc 5 1 <| K68
set_option maxRecDepth 100000 in
theorem sX4_fillEnd_80 {K12 : Kt Unit} (h12 : Sd pX4_fillEnd ev_v 12 K12) {K68 : Kt Unit} (h68 : Sd pX4_fillEnd ev_v 68 K68) : Sd pX4_fillEnd ev_v 80 (bX4_fillEnd_80 K12 K68) := sd_aload_n dX4_fillEnd_80 rfl <| sd_gR flX4_11 dX4_fillEnd_81 <| sd_bipush dX4_fillEnd_84 rfl <| sd_iload dX4_fillEnd_86 <| sd_iload_n dX4_fillEnd_88 rfl <| sd_sc tX4_placeOf (fun _ _ => rfl) mwX4_placeOf mvX4_placeOf tw_210 (by decide) dX4_fillEnd_89 <| sd_iload dX4_fillEnd_92 <| sd_sI dX4_fillEnd_94 <| sd_iinc dX4_fillEnd_95 rfl (by decide) <| (sd_goto (tgt := 68) dX4_fillEnd_98 (by decide) h68)
def bX4_fillEnd_68 (K12 : Kt Unit) (K68 : Kt Unit) : Kt Unit := o_ild 5 <| o_ald 1 <| o_gR 1 0 <| o_gI 5 3 <| o_cgt (o_fg 4 (o_fg 5 (bX4_fillEnd_101 K12))) <| (bX4_fillEnd_80 K12 K68)
set_option maxRecDepth 100000 in
theorem sX4_fillEnd_68 {K12 : Kt Unit} (h12 : Sd pX4_fillEnd ev_v 12 K12) {K68 : Kt Unit} (h68 : Sd pX4_fillEnd ev_v 68 K68) : Sd pX4_fillEnd ev_v 68 (bX4_fillEnd_68 K12 K68) := sd_iload dX4_fillEnd_68 <| sd_aload_n dX4_fillEnd_70 rfl <| sd_gR flX4_37 dX4_fillEnd_71 <| sd_gI flX4_64 dX4_fillEnd_74 <| sd_cgt (tgt := 101) dX4_fillEnd_77 (by decide) (sd_fg (i := 4) (sd_fg (i := 5) (sX4_fillEnd_101 h12))) <| (sX4_fillEnd_80 h12 h68)
def bX4_fillEnd_65 (K12 : Kt Unit) : Kt Unit := o_psh (.int 0) <| o_ist 5 <| (o_lp (bX4_fillEnd_68 K12) fu)
set_option maxRecDepth 100000 in
theorem sX4_fillEnd_65 {K12 : Kt Unit} (h12 : Sd pX4_fillEnd ev_v 12 K12) : Sd pX4_fillEnd ev_v 65 (bX4_fillEnd_65 K12) := sd_iconst dX4_fillEnd_65 rfl <| sd_istore dX4_fillEnd_66 (by decide) <| (sd_lp (fun K h => sX4_fillEnd_68 h12 h) fu)
def bX4_fillEnd_56 (K12 : Kt Unit) (K23 : Kt Unit) : Kt Unit := o_i2 o_add <| o_ist 4 <| o_inc 5 1 <| K23
set_option maxRecDepth 100000 in
theorem sX4_fillEnd_56 {K12 : Kt Unit} (h12 : Sd pX4_fillEnd ev_v 12 K12) {K23 : Kt Unit} (h23 : Sd pX4_fillEnd ev_v 23 K23) : Sd pX4_fillEnd ev_v 56 (bX4_fillEnd_56 K12 K23) := sd_iadd dX4_fillEnd_56 <| sd_istore dX4_fillEnd_57 (by decide) <| sd_iinc dX4_fillEnd_59 rfl (by decide) <| (sd_goto (tgt := 23) dX4_fillEnd_62 (by decide) h23)
def bX4_fillEnd_55 (K12 : Kt Unit) (K23 : Kt Unit) : Kt Unit := o_psh (.int 0) <| (bX4_fillEnd_56 K12 K23)
set_option maxRecDepth 100000 in
theorem sX4_fillEnd_55 {K12 : Kt Unit} (h12 : Sd pX4_fillEnd ev_v 12 K12) {K23 : Kt Unit} (h23 : Sd pX4_fillEnd ev_v 23 K23) : Sd pX4_fillEnd ev_v 55 (bX4_fillEnd_55 K12 K23) := sd_iconst dX4_fillEnd_55 rfl <| (sX4_fillEnd_56 h12 h23)
def bX4_fillEnd_46 (K12 : Kt Unit) (K23 : Kt Unit) : Kt Unit := o_ald 1 <| o_ild 5 <| o_vc ev_i 1 2 fX1_worthOf <| (bX4_fillEnd_56 K12 K23)
set_option maxRecDepth 100000 in
theorem sX4_fillEnd_46 {K12 : Kt Unit} (h12 : Sd pX4_fillEnd ev_v 12 K12) {K23 : Kt Unit} (h23 : Sd pX4_fillEnd ev_v 23 K23) : Sd pX4_fillEnd ev_v 46 (bX4_fillEnd_46 K12 K23) := sd_aload_n dX4_fillEnd_46 rfl <| sd_iload dX4_fillEnd_47 <| sd_vc tX1_worthOf (fun _ _ => rfl) rfl mwX1_worthOf mvX1_worthOf tw_205 (by decide) dX4_fillEnd_49 <| (sd_goto (tgt := 56) dX4_fillEnd_52 (by decide) (sX4_fillEnd_56 h12 h23))
def bX4_fillEnd_35 (K12 : Kt Unit) (K23 : Kt Unit) : Kt Unit := o_ild 4 <| o_ild 3 <| o_psh (.int 1) <| o_ild 5 <| o_i2 o_shl <| o_i2 o_and <| o_zeq (o_fg 4 (bX4_fillEnd_55 K12 K23)) <| (o_fg 4 (bX4_fillEnd_46 K12 K23))
set_option maxRecDepth 100000 in
theorem sX4_fillEnd_35 {K12 : Kt Unit} (h12 : Sd pX4_fillEnd ev_v 12 K12) {K23 : Kt Unit} (h23 : Sd pX4_fillEnd ev_v 23 K23) : Sd pX4_fillEnd ev_v 35 (bX4_fillEnd_35 K12 K23) := sd_iload dX4_fillEnd_35 <| sd_iload_n dX4_fillEnd_37 rfl <| sd_iconst dX4_fillEnd_38 rfl <| sd_iload dX4_fillEnd_39 <| sd_ishl dX4_fillEnd_41 <| sd_iand dX4_fillEnd_42 <| sd_zeq (tgt := 55) dX4_fillEnd_43 (by decide) (sd_fg (i := 4) (sX4_fillEnd_55 h12 h23)) <| (sd_fg (i := 4) (sX4_fillEnd_46 h12 h23))
def bX4_fillEnd_23 (K12 : Kt Unit) (K23 : Kt Unit) : Kt Unit := o_ild 5 <| o_ald 1 <| o_gR 1 2 <| o_gI 5 3 <| o_cge (o_fg 5 (bX4_fillEnd_65 K12)) <| (bX4_fillEnd_35 K12 K23)
set_option maxRecDepth 100000 in
theorem sX4_fillEnd_23 {K12 : Kt Unit} (h12 : Sd pX4_fillEnd ev_v 12 K12) {K23 : Kt Unit} (h23 : Sd pX4_fillEnd ev_v 23 K23) : Sd pX4_fillEnd ev_v 23 (bX4_fillEnd_23 K12 K23) := sd_iload dX4_fillEnd_23 <| sd_aload_n dX4_fillEnd_25 rfl <| sd_gR flX4_46 dX4_fillEnd_26 <| sd_gI flX4_64 dX4_fillEnd_29 <| sd_cge (tgt := 65) dX4_fillEnd_32 (by decide) (sd_fg (i := 5) (sX4_fillEnd_65 h12)) <| (sX4_fillEnd_35 h12 h23)
def bX4_fillEnd_17 (K12 : Kt Unit) : Kt Unit := o_psh (.int 0) <| o_ist 4 <| o_psh (.int 0) <| o_ist 5 <| (o_lp (bX4_fillEnd_23 K12) fu)
set_option maxRecDepth 100000 in
theorem sX4_fillEnd_17 {K12 : Kt Unit} (h12 : Sd pX4_fillEnd ev_v 12 K12) : Sd pX4_fillEnd ev_v 17 (bX4_fillEnd_17 K12) := sd_iconst dX4_fillEnd_17 rfl <| sd_istore dX4_fillEnd_18 (by decide) <| sd_iconst dX4_fillEnd_20 rfl <| sd_istore dX4_fillEnd_21 (by decide) <| (sd_lp (fun K h => sX4_fillEnd_23 h12 h) fu)
def bX4_fillEnd_12 (K12 : Kt Unit) : Kt Unit := o_ild 3 <| o_ild 2 <| o_cge (o_fg 0 (o_fg 1 (o_fg 2 (o_fg 3 bX4_fillEnd_107)))) <| (bX4_fillEnd_17 K12)
set_option maxRecDepth 100000 in
theorem sX4_fillEnd_12 {K12 : Kt Unit} (h12 : Sd pX4_fillEnd ev_v 12 K12) : Sd pX4_fillEnd ev_v 12 (bX4_fillEnd_12 K12) := sd_iload_n dX4_fillEnd_12 rfl <| sd_iload_n dX4_fillEnd_13 rfl <| sd_cge (tgt := 107) dX4_fillEnd_14 (by decide) (sd_fg (i := 0) (sd_fg (i := 1) (sd_fg (i := 2) (sd_fg (i := 3) sX4_fillEnd_107)))) <| (sX4_fillEnd_17 h12)
def bX4_fillEnd_0 : Kt Unit := o_psh (.int 1) <| o_ald 1 <| o_gR 1 2 <| o_gI 5 3 <| o_i2 o_shl <| o_ist 2 <| o_psh (.int 0) <| o_ist 3 <| (o_lp (bX4_fillEnd_12) fu)
set_option maxRecDepth 100000 in
theorem sX4_fillEnd_0 : Sd pX4_fillEnd ev_v 0 (bX4_fillEnd_0) := sd_iconst dX4_fillEnd_0 rfl <| sd_aload_n dX4_fillEnd_1 rfl <| sd_gR flX4_46 dX4_fillEnd_2 <| sd_gI flX4_64 dX4_fillEnd_5 <| sd_ishl dX4_fillEnd_8 <| sd_istore_n dX4_fillEnd_9 rfl (by decide) <| sd_iconst dX4_fillEnd_10 rfl <| sd_istore_n dX4_fillEnd_11 rfl (by decide) <| (sd_lp (fun K h => sX4_fillEnd_12 h) fu)
def fX4_fillEnd : Mt Unit := mk_f 6 bX4_fillEnd_0
theorem tX4_fillEnd : Ct ev_v yX4_fillEnd cX4_fillEnd 6 none 2 44 fX4_fillEnd := ct_of (by decide +kernel) sX4_fillEnd_0
abbrev pX4_worksBegunAhead : Px := (cX4_worksBegunAhead, 4, RX4, "worksBegunAhead", (some .int), 1, 23, fun _ => True)
def bX4_worksBegunAhead_44 : Kt Int32 := o_ild 2 <| o_rI
set_option maxRecDepth 100000 in
theorem sX4_worksBegunAhead_44 : Sd pX4_worksBegunAhead ev_i 44 (bX4_worksBegunAhead_44) := sd_iload_n dX4_worksBegunAhead_44 rfl <| (sd_rI rfl dX4_worksBegunAhead_45)
def bX4_worksBegunAhead_36 (K4 : Kt Int32) : Kt Int32 := o_i2 o_or <| o_ist 2 <| o_inc 3 1 <| K4
set_option maxRecDepth 100000 in
theorem sX4_worksBegunAhead_36 {K4 : Kt Int32} (h4 : Sd pX4_worksBegunAhead ev_i 4 K4) : Sd pX4_worksBegunAhead ev_i 36 (bX4_worksBegunAhead_36 K4) := sd_ior dX4_worksBegunAhead_36 <| sd_istore_n dX4_worksBegunAhead_37 rfl (by decide) <| sd_iinc dX4_worksBegunAhead_38 rfl (by decide) <| (sd_goto (tgt := 4) dX4_worksBegunAhead_41 (by decide) h4)
def bX4_worksBegunAhead_35 (K4 : Kt Int32) : Kt Int32 := o_psh (.int 0) <| (bX4_worksBegunAhead_36 K4)
set_option maxRecDepth 100000 in
theorem sX4_worksBegunAhead_35 {K4 : Kt Int32} (h4 : Sd pX4_worksBegunAhead ev_i 4 K4) : Sd pX4_worksBegunAhead ev_i 35 (bX4_worksBegunAhead_35 K4) := sd_iconst dX4_worksBegunAhead_35 rfl <| (sX4_worksBegunAhead_36 h4)
def bX4_worksBegunAhead_29 (K4 : Kt Int32) : Kt Int32 := o_psh (.int 1) <| o_ild 3 <| o_i2 o_shl <| (bX4_worksBegunAhead_36 K4)
set_option maxRecDepth 100000 in
theorem sX4_worksBegunAhead_29 {K4 : Kt Int32} (h4 : Sd pX4_worksBegunAhead ev_i 4 K4) : Sd pX4_worksBegunAhead ev_i 29 (bX4_worksBegunAhead_29 K4) := sd_iconst dX4_worksBegunAhead_29 rfl <| sd_iload_n dX4_worksBegunAhead_30 rfl <| sd_ishl dX4_worksBegunAhead_31 <| (sd_goto (tgt := 36) dX4_worksBegunAhead_32 (by decide) (sX4_worksBegunAhead_36 h4))
def bX4_worksBegunAhead_15 (K4 : Kt Int32) : Kt Int32 := o_ild 2 <| o_ald 0 <| o_gR 1 2 <| o_ild 3 <| o_psh (.int 1) <| o_vc ev_i 5 3 fX6_at <| o_ild 1 <| o_cge (o_fg 2 (bX4_worksBegunAhead_35 K4)) <| (o_fg 2 (bX4_worksBegunAhead_29 K4))
set_option maxRecDepth 100000 in
theorem sX4_worksBegunAhead_15 {K4 : Kt Int32} (h4 : Sd pX4_worksBegunAhead ev_i 4 K4) : Sd pX4_worksBegunAhead ev_i 15 (bX4_worksBegunAhead_15 K4) := sd_iload_n dX4_worksBegunAhead_15 rfl <| sd_aload_n dX4_worksBegunAhead_16 rfl <| sd_gR flX4_46 dX4_worksBegunAhead_17 <| sd_iload_n dX4_worksBegunAhead_20 rfl <| sd_iconst dX4_worksBegunAhead_21 rfl <| sd_vc tX6_at (fun _ _ => rfl) rfl mwX6_at mvX6_at tw_211 (by decide) dX4_worksBegunAhead_22 <| sd_iload_n dX4_worksBegunAhead_25 rfl <| sd_cge (tgt := 35) dX4_worksBegunAhead_26 (by decide) (sd_fg (i := 2) (sX4_worksBegunAhead_35 h4)) <| (sd_fg (i := 2) (sX4_worksBegunAhead_29 h4))
def bX4_worksBegunAhead_4 (K4 : Kt Int32) : Kt Int32 := o_ild 3 <| o_ald 0 <| o_gR 1 2 <| o_gI 5 3 <| o_cge (o_fg 0 (o_fg 1 (o_fg 3 bX4_worksBegunAhead_44))) <| (bX4_worksBegunAhead_15 K4)
set_option maxRecDepth 100000 in
theorem sX4_worksBegunAhead_4 {K4 : Kt Int32} (h4 : Sd pX4_worksBegunAhead ev_i 4 K4) : Sd pX4_worksBegunAhead ev_i 4 (bX4_worksBegunAhead_4 K4) := sd_iload_n dX4_worksBegunAhead_4 rfl <| sd_aload_n dX4_worksBegunAhead_5 rfl <| sd_gR flX4_46 dX4_worksBegunAhead_6 <| sd_gI flX4_64 dX4_worksBegunAhead_9 <| sd_cge (tgt := 44) dX4_worksBegunAhead_12 (by decide) (sd_fg (i := 0) (sd_fg (i := 1) (sd_fg (i := 3) sX4_worksBegunAhead_44))) <| (sX4_worksBegunAhead_15 h4)
def bX4_worksBegunAhead_0 : Kt Int32 := o_psh (.int 0) <| o_ist 2 <| o_psh (.int 0) <| o_ist 3 <| (o_lp (bX4_worksBegunAhead_4) fu)
set_option maxRecDepth 100000 in
theorem sX4_worksBegunAhead_0 : Sd pX4_worksBegunAhead ev_i 0 (bX4_worksBegunAhead_0) := sd_iconst dX4_worksBegunAhead_0 rfl <| sd_istore_n dX4_worksBegunAhead_1 rfl (by decide) <| sd_iconst dX4_worksBegunAhead_2 rfl <| sd_istore_n dX4_worksBegunAhead_3 rfl (by decide) <| (sd_lp (fun K h => sX4_worksBegunAhead_4 h) fu)
def fX4_worksBegunAhead : Mt Int32 := mk_f 4 bX4_worksBegunAhead_0
theorem tX4_worksBegunAhead : Ct ev_i yX4_worksBegunAhead cX4_worksBegunAhead 4 (some .int) 1 23 fX4_worksBegunAhead := ct_of (by decide +kernel) sX4_worksBegunAhead_0
abbrev pX4_worksIn : Px := (cX4_worksIn, 8, RX4, "worksIn", (some .int), 1, 23, fun _ => True)
def bX4_worksIn_91 : Kt Int32 := o_ild 4 <| o_rI
set_option maxRecDepth 100000 in
theorem sX4_worksIn_91 : Sd pX4_worksIn ev_i 91 (bX4_worksIn_91) := sd_iload dX4_worksIn_91 <| (sd_rI rfl dX4_worksIn_93)
def bX4_worksIn_82 (K6 : Kt Int32) : Kt Int32 := o_i2 o_or <| o_ist 4 <| o_inc 5 1 <| K6
set_option maxRecDepth 100000 in
theorem sX4_worksIn_82 {K6 : Kt Int32} (h6 : Sd pX4_worksIn ev_i 6 K6) : Sd pX4_worksIn ev_i 82 (bX4_worksIn_82 K6) := sd_ior dX4_worksIn_82 <| sd_istore dX4_worksIn_83 (by decide) <| sd_iinc dX4_worksIn_85 rfl (by decide) <| (sd_goto (tgt := 6) dX4_worksIn_88 (by decide) h6)
def bX4_worksIn_81 (K6 : Kt Int32) : Kt Int32 := o_psh (.int 0) <| (bX4_worksIn_82 K6)
set_option maxRecDepth 100000 in
theorem sX4_worksIn_81 {K6 : Kt Int32} (h6 : Sd pX4_worksIn ev_i 6 K6) : Sd pX4_worksIn ev_i 81 (bX4_worksIn_81 K6) := sd_iconst dX4_worksIn_81 rfl <| (sX4_worksIn_82 h6)
def bX4_worksIn_74 (K6 : Kt Int32) : Kt Int32 := o_psh (.int 1) <| o_ild 5 <| o_i2 o_shl <| (bX4_worksIn_82 K6)
set_option maxRecDepth 100000 in
theorem sX4_worksIn_74 {K6 : Kt Int32} (h6 : Sd pX4_worksIn ev_i 6 K6) : Sd pX4_worksIn ev_i 74 (bX4_worksIn_74 K6) := sd_iconst dX4_worksIn_74 rfl <| sd_iload dX4_worksIn_75 <| sd_ishl dX4_worksIn_77 <| (sd_goto (tgt := 82) dX4_worksIn_78 (by decide) (sX4_worksIn_82 h6))
def bX4_worksIn_65 (K6 : Kt Int32) : Kt Int32 := o_ist 7 <| o_ild 4 <| o_ild 7 <| o_zeq (o_fg 4 (o_fg 7 (bX4_worksIn_81 K6))) <| (o_fg 4 (o_fg 7 (bX4_worksIn_74 K6)))
set_option maxRecDepth 100000 in
theorem sX4_worksIn_65 {K6 : Kt Int32} (h6 : Sd pX4_worksIn ev_i 6 K6) : Sd pX4_worksIn ev_i 65 (bX4_worksIn_65 K6) := sd_istore dX4_worksIn_65 (by decide) <| sd_iload dX4_worksIn_67 <| sd_iload dX4_worksIn_69 <| sd_zeq (tgt := 81) dX4_worksIn_71 (by decide) (sd_fg (i := 4) (sd_fg (i := 7) (sX4_worksIn_81 h6))) <| (sd_fg (i := 4) (sd_fg (i := 7) (sX4_worksIn_74 h6)))
def bX4_worksIn_64 (K6 : Kt Int32) : Kt Int32 := o_psh (.int 0) <| (bX4_worksIn_65 K6)
set_option maxRecDepth 100000 in
theorem sX4_worksIn_64 {K6 : Kt Int32} (h6 : Sd pX4_worksIn ev_i 6 K6) : Sd pX4_worksIn ev_i 64 (bX4_worksIn_64 K6) := sd_iconst dX4_worksIn_64 rfl <| (sX4_worksIn_65 h6)
def bX4_worksIn_60 (K6 : Kt Int32) : Kt Int32 := o_psh (.int 1) <| (bX4_worksIn_65 K6)
set_option maxRecDepth 100000 in
theorem sX4_worksIn_60 {K6 : Kt Int32} (h6 : Sd pX4_worksIn ev_i 6 K6) : Sd pX4_worksIn ev_i 60 (bX4_worksIn_60 K6) := sd_iconst dX4_worksIn_60 rfl <| (sd_goto (tgt := 65) dX4_worksIn_61 (by decide) (sX4_worksIn_65 h6))
def bX4_worksIn_48 (K6 : Kt Int32) : Kt Int32 := o_ald 6 <| o_ild 5 <| o_psh (.int 2) <| o_vc ev_i 5 3 fX6_at <| o_ild 3 <| o_clt (o_fg 6 (bX4_worksIn_64 K6)) <| (o_fg 6 (bX4_worksIn_60 K6))
set_option maxRecDepth 100000 in
theorem sX4_worksIn_48 {K6 : Kt Int32} (h6 : Sd pX4_worksIn ev_i 6 K6) : Sd pX4_worksIn ev_i 48 (bX4_worksIn_48 K6) := sd_aload dX4_worksIn_48 <| sd_iload dX4_worksIn_50 <| sd_iconst dX4_worksIn_52 rfl <| sd_vc tX6_at (fun _ _ => rfl) rfl mwX6_at mvX6_at tw_211 (by decide) dX4_worksIn_53 <| sd_iload_n dX4_worksIn_56 rfl <| sd_clt (tgt := 64) dX4_worksIn_57 (by decide) (sd_fg (i := 6) (sX4_worksIn_64 h6)) <| (sd_fg (i := 6) (sX4_worksIn_60 h6))
def bX4_worksIn_36 (K6 : Kt Int32) : Kt Int32 := o_ald 6 <| o_ild 5 <| o_psh (.int 1) <| o_vc ev_i 5 3 fX6_at <| o_ild 3 <| o_cgt (o_fg 6 (bX4_worksIn_64 K6)) <| (bX4_worksIn_48 K6)
set_option maxRecDepth 100000 in
theorem sX4_worksIn_36 {K6 : Kt Int32} (h6 : Sd pX4_worksIn ev_i 6 K6) : Sd pX4_worksIn ev_i 36 (bX4_worksIn_36 K6) := sd_aload dX4_worksIn_36 <| sd_iload dX4_worksIn_38 <| sd_iconst dX4_worksIn_40 rfl <| sd_vc tX6_at (fun _ _ => rfl) rfl mwX6_at mvX6_at tw_211 (by decide) dX4_worksIn_41 <| sd_iload_n dX4_worksIn_44 rfl <| sd_cgt (tgt := 64) dX4_worksIn_45 (by decide) (sd_fg (i := 6) (sX4_worksIn_64 h6)) <| (sX4_worksIn_48 h6)
def bX4_worksIn_18 (K6 : Kt Int32) : Kt Int32 := o_ald 1 <| o_gR 1 2 <| o_ast 6 <| o_ald 6 <| o_ild 5 <| o_psh (.int 0) <| o_vc ev_i 5 3 fX6_at <| o_ild 2 <| o_cne (o_fg 6 (bX4_worksIn_64 K6)) <| (bX4_worksIn_36 K6)
set_option maxRecDepth 100000 in
theorem sX4_worksIn_18 {K6 : Kt Int32} (h6 : Sd pX4_worksIn ev_i 6 K6) : Sd pX4_worksIn ev_i 18 (bX4_worksIn_18 K6) := sd_aload_n dX4_worksIn_18 rfl <| sd_gR flX4_46 dX4_worksIn_19 <| sd_astore dX4_worksIn_22 (by decide) <| sd_aload dX4_worksIn_24 <| sd_iload dX4_worksIn_26 <| sd_iconst dX4_worksIn_28 rfl <| sd_vc tX6_at (fun _ _ => rfl) rfl mwX6_at mvX6_at tw_211 (by decide) dX4_worksIn_29 <| sd_iload_n dX4_worksIn_32 rfl <| sd_cne (tgt := 64) dX4_worksIn_33 (by decide) (sd_fg (i := 6) (sX4_worksIn_64 h6)) <| (sX4_worksIn_36 h6)
def bX4_worksIn_6 (K6 : Kt Int32) : Kt Int32 := o_ild 5 <| o_ald 1 <| o_gR 1 2 <| o_gI 5 3 <| o_cge (o_fg 1 (o_fg 2 (o_fg 3 (o_fg 5 bX4_worksIn_91)))) <| (bX4_worksIn_18 K6)
set_option maxRecDepth 100000 in
theorem sX4_worksIn_6 {K6 : Kt Int32} (h6 : Sd pX4_worksIn ev_i 6 K6) : Sd pX4_worksIn ev_i 6 (bX4_worksIn_6 K6) := sd_iload dX4_worksIn_6 <| sd_aload_n dX4_worksIn_8 rfl <| sd_gR flX4_46 dX4_worksIn_9 <| sd_gI flX4_64 dX4_worksIn_12 <| sd_cge (tgt := 91) dX4_worksIn_15 (by decide) (sd_fg (i := 1) (sd_fg (i := 2) (sd_fg (i := 3) (sd_fg (i := 5) sX4_worksIn_91)))) <| (sX4_worksIn_18 h6)
def bX4_worksIn_0 : Kt Int32 := o_psh (.int 0) <| o_ist 4 <| o_psh (.int 0) <| o_ist 5 <| (o_fg 0 (o_lp (bX4_worksIn_6) fu))
set_option maxRecDepth 100000 in
theorem sX4_worksIn_0 : Sd pX4_worksIn ev_i 0 (bX4_worksIn_0) := sd_iconst dX4_worksIn_0 rfl <| sd_istore dX4_worksIn_1 (by decide) <| sd_iconst dX4_worksIn_3 rfl <| sd_istore dX4_worksIn_4 (by decide) <| (sd_fg (i := 0) (sd_lp (fun K h => sX4_worksIn_6 h) fu))
def fX4_worksIn : Mt Int32 := mk_f 8 bX4_worksIn_0
theorem tX4_worksIn : Ct ev_i yX4_worksIn cX4_worksIn 8 (some .int) 1 23 fX4_worksIn := ct_of (by decide +kernel) sX4_worksIn_0
abbrev pX4_findGains : Px := (cX4_findGains, 8, RX4, "findGains", none, 2, 50, fun _ => True)
def bX4_findGains_105 : Kt Unit := o_ald 0 <| o_gR 3 1 <| o_ild 4 <| o_psh (.int 0) <| o_sI <| o_rV
set_option maxRecDepth 100000 in
theorem sX4_findGains_105 : Sd pX4_findGains ev_v 105 (bX4_findGains_105) := sd_aload_n dX4_findGains_105 rfl <| sd_gR flX4_15 dX4_findGains_106 <| sd_iload dX4_findGains_109 <| sd_iconst dX4_findGains_111 rfl <| sd_sI dX4_findGains_112 <| (sd_rV rfl dX4_findGains_113)
def bX4_findGains_98 (K12 : Kt Unit) : Kt Unit := o_sI <| o_inc 5 1 <| K12
set_option maxRecDepth 100000 in
theorem sX4_findGains_98 {K12 : Kt Unit} (h12 : Sd pX4_findGains ev_v 12 K12) : Sd pX4_findGains ev_v 98 (bX4_findGains_98 K12) := sd_sI dX4_findGains_98 <| sd_iinc dX4_findGains_99 rfl (by decide) <| (sd_goto (tgt := 12) dX4_findGains_102 (by decide) h12)
def bX4_findGains_97 (K12 : Kt Unit) : Kt Unit := o_psh (.int 0) <| (bX4_findGains_98 K12)
set_option maxRecDepth 100000 in
theorem sX4_findGains_97 {K12 : Kt Unit} (h12 : Sd pX4_findGains ev_v 12 K12) : Sd pX4_findGains ev_v 97 (bX4_findGains_97 K12) := sd_iconst dX4_findGains_97 rfl <| (sX4_findGains_98 h12)
def bX4_findGains_86 (K12 : Kt Unit) : Kt Unit := o_ald 0 <| o_ald 1 <| o_ild 5 <| o_ild 2 <| o_vc ev_i 3 4 fX4_worksIn <| (bX4_findGains_98 K12)
set_option maxRecDepth 100000 in
theorem sX4_findGains_86 {K12 : Kt Unit} (h12 : Sd pX4_findGains ev_v 12 K12) : Sd pX4_findGains ev_v 86 (bX4_findGains_86 K12) := sd_aload_n dX4_findGains_86 rfl <| sd_aload_n dX4_findGains_87 rfl <| sd_iload dX4_findGains_88 <| sd_iload_n dX4_findGains_90 rfl <| sd_vc tX4_worksIn (fun _ _ => rfl) rfl mwX4_worksIn mvX4_worksIn tw_218 (by decide) dX4_findGains_91 <| (sd_goto (tgt := 98) dX4_findGains_94 (by decide) (sX4_findGains_98 h12))
def bX4_findGains_73 (K12 : Kt Unit) : Kt Unit := o_ist 7 <| o_ald 0 <| o_gR 3 1 <| o_ild 5 <| o_ild 7 <| o_zeq (o_fg 7 (bX4_findGains_97 K12)) <| (o_fg 7 (bX4_findGains_86 K12))
set_option maxRecDepth 100000 in
theorem sX4_findGains_73 {K12 : Kt Unit} (h12 : Sd pX4_findGains ev_v 12 K12) : Sd pX4_findGains ev_v 73 (bX4_findGains_73 K12) := sd_istore dX4_findGains_73 (by decide) <| sd_aload_n dX4_findGains_75 rfl <| sd_gR flX4_15 dX4_findGains_76 <| sd_iload dX4_findGains_79 <| sd_iload dX4_findGains_81 <| sd_zeq (tgt := 97) dX4_findGains_83 (by decide) (sd_fg (i := 7) (sX4_findGains_97 h12)) <| (sd_fg (i := 7) (sX4_findGains_86 h12))
def bX4_findGains_72 (K12 : Kt Unit) : Kt Unit := o_psh (.int 0) <| (bX4_findGains_73 K12)
set_option maxRecDepth 100000 in
theorem sX4_findGains_72 {K12 : Kt Unit} (h12 : Sd pX4_findGains ev_v 12 K12) : Sd pX4_findGains ev_v 72 (bX4_findGains_72 K12) := sd_iconst dX4_findGains_72 rfl <| (sX4_findGains_73 h12)
def bX4_findGains_68 (K12 : Kt Unit) : Kt Unit := o_psh (.int 1) <| (bX4_findGains_73 K12)
set_option maxRecDepth 100000 in
theorem sX4_findGains_68 {K12 : Kt Unit} (h12 : Sd pX4_findGains ev_v 12 K12) : Sd pX4_findGains ev_v 68 (bX4_findGains_68 K12) := sd_iconst dX4_findGains_68 rfl <| (sd_goto (tgt := 73) dX4_findGains_69 (by decide) (sX4_findGains_73 h12))
def bX4_findGains_55 (K12 : Kt Unit) : Kt Unit := o_ald 1 <| o_ild 5 <| o_vc ev_i 1 2 fX1_kindOf <| o_ild 2 <| o_sc ev_i 2 fX7_hasEyes <| o_zeq (bX4_findGains_72 K12) <| (bX4_findGains_68 K12)
set_option maxRecDepth 100000 in
theorem sX4_findGains_55 {K12 : Kt Unit} (h12 : Sd pX4_findGains ev_v 12 K12) : Sd pX4_findGains ev_v 55 (bX4_findGains_55 K12) := sd_aload_n dX4_findGains_55 rfl <| sd_iload dX4_findGains_56 <| sd_vc tX1_kindOf (fun _ _ => rfl) rfl mwX1_kindOf mvX1_kindOf tw_213 (by decide) dX4_findGains_58 <| sd_iload_n dX4_findGains_61 rfl <| sd_sc tX7_hasEyes (fun _ _ => rfl) mwX7_hasEyes mvX7_hasEyes tw_214 (by decide) dX4_findGains_62 <| sd_zeq (tgt := 72) dX4_findGains_65 (by decide) (sX4_findGains_72 h12) <| (sX4_findGains_68 h12)
def bX4_findGains_48 (K12 : Kt Unit) : Kt Unit := o_ist 6 <| o_ild 6 <| o_zeq (o_fg 6 (bX4_findGains_72 K12)) <| (o_fg 6 (bX4_findGains_55 K12))
set_option maxRecDepth 100000 in
theorem sX4_findGains_48 {K12 : Kt Unit} (h12 : Sd pX4_findGains ev_v 12 K12) : Sd pX4_findGains ev_v 48 (bX4_findGains_48 K12) := sd_istore dX4_findGains_48 (by decide) <| sd_iload dX4_findGains_50 <| sd_zeq (tgt := 72) dX4_findGains_52 (by decide) (sd_fg (i := 6) (sX4_findGains_72 h12)) <| (sd_fg (i := 6) (sX4_findGains_55 h12))
def bX4_findGains_47 (K12 : Kt Unit) : Kt Unit := o_psh (.int 0) <| (bX4_findGains_48 K12)
set_option maxRecDepth 100000 in
theorem sX4_findGains_47 {K12 : Kt Unit} (h12 : Sd pX4_findGains ev_v 12 K12) : Sd pX4_findGains ev_v 47 (bX4_findGains_47 K12) := sd_iconst dX4_findGains_47 rfl <| (sX4_findGains_48 h12)
def bX4_findGains_43 (K12 : Kt Unit) : Kt Unit := o_psh (.int 1) <| (bX4_findGains_48 K12)
set_option maxRecDepth 100000 in
theorem sX4_findGains_43 {K12 : Kt Unit} (h12 : Sd pX4_findGains ev_v 12 K12) : Sd pX4_findGains ev_v 43 (bX4_findGains_43 K12) := sd_iconst dX4_findGains_43 rfl <| (sd_goto (tgt := 48) dX4_findGains_44 (by decide) (sX4_findGains_48 h12))
def bX4_findGains_37 (K12 : Kt Unit) : Kt Unit := o_sc ev_i 2 fX7_isNear <| o_zeq (bX4_findGains_47 K12) <| (bX4_findGains_43 K12)
set_option maxRecDepth 100000 in
theorem sX4_findGains_37 {K12 : Kt Unit} (h12 : Sd pX4_findGains ev_v 12 K12) : Sd pX4_findGains ev_v 37 (bX4_findGains_37 K12) := sd_sc tX7_isNear (fun _ _ => rfl) mwX7_isNear mvX7_isNear tw_212 (by decide) dX4_findGains_37 <| sd_zeq (tgt := 47) dX4_findGains_40 (by decide) (sX4_findGains_47 h12) <| (sX4_findGains_43 h12)
def bX4_findGains_36 (K12 : Kt Unit) : Kt Unit := o_ild 3 <| (bX4_findGains_37 K12)
set_option maxRecDepth 100000 in
theorem sX4_findGains_36 {K12 : Kt Unit} (h12 : Sd pX4_findGains ev_v 12 K12) : Sd pX4_findGains ev_v 36 (bX4_findGains_36 K12) := sd_iload_n dX4_findGains_36 rfl <| (sX4_findGains_37 h12)
def bX4_findGains_31 (K12 : Kt Unit) : Kt Unit := o_psh (.int (-4)) <| (bX4_findGains_37 K12)
set_option maxRecDepth 100000 in
theorem sX4_findGains_31 {K12 : Kt Unit} (h12 : Sd pX4_findGains ev_v 12 K12) : Sd pX4_findGains ev_v 31 (bX4_findGains_31 K12) := sd_bipush dX4_findGains_31 rfl <| (sd_goto (tgt := 37) dX4_findGains_33 (by decide) (sX4_findGains_37 h12))
def bX4_findGains_23 (K12 : Kt Unit) : Kt Unit := o_ild 5 <| o_ild 3 <| o_ild 4 <| o_cne (bX4_findGains_36 K12) <| (bX4_findGains_31 K12)
set_option maxRecDepth 100000 in
theorem sX4_findGains_23 {K12 : Kt Unit} (h12 : Sd pX4_findGains ev_v 12 K12) : Sd pX4_findGains ev_v 23 (bX4_findGains_23 K12) := sd_iload dX4_findGains_23 <| sd_iload_n dX4_findGains_25 rfl <| sd_iload dX4_findGains_26 <| sd_cne (tgt := 36) dX4_findGains_28 (by decide) (sX4_findGains_36 h12) <| (sX4_findGains_31 h12)
def bX4_findGains_19 (K12 : Kt Unit) : Kt Unit := o_ild 2 <| o_zeq (bX4_findGains_43 K12) <| (bX4_findGains_23 K12)
set_option maxRecDepth 100000 in
theorem sX4_findGains_19 {K12 : Kt Unit} (h12 : Sd pX4_findGains ev_v 12 K12) : Sd pX4_findGains ev_v 19 (bX4_findGains_19 K12) := sd_iload_n dX4_findGains_19 rfl <| sd_zeq (tgt := 43) dX4_findGains_20 (by decide) (sX4_findGains_43 h12) <| (sX4_findGains_23 h12)
def bX4_findGains_12 (K12 : Kt Unit) : Kt Unit := o_ild 5 <| o_ild 4 <| o_cge (o_fg 1 (o_fg 2 (o_fg 3 (o_fg 5 bX4_findGains_105)))) <| (bX4_findGains_19 K12)
set_option maxRecDepth 100000 in
theorem sX4_findGains_12 {K12 : Kt Unit} (h12 : Sd pX4_findGains ev_v 12 K12) : Sd pX4_findGains ev_v 12 (bX4_findGains_12 K12) := sd_iload dX4_findGains_12 <| sd_iload dX4_findGains_14 <| sd_cge (tgt := 105) dX4_findGains_16 (by decide) (sd_fg (i := 1) (sd_fg (i := 2) (sd_fg (i := 3) (sd_fg (i := 5) sX4_findGains_105)))) <| (sX4_findGains_19 h12)
def bX4_findGains_0 : Kt Unit := o_ald 1 <| o_gR 1 0 <| o_gI 5 3 <| o_ist 4 <| o_psh (.int 0) <| o_ist 5 <| (o_lp (bX4_findGains_12) fu)
set_option maxRecDepth 100000 in
theorem sX4_findGains_0 : Sd pX4_findGains ev_v 0 (bX4_findGains_0) := sd_aload_n dX4_findGains_0 rfl <| sd_gR flX4_37 dX4_findGains_1 <| sd_gI flX4_64 dX4_findGains_4 <| sd_istore dX4_findGains_7 (by decide) <| sd_iconst dX4_findGains_9 rfl <| sd_istore dX4_findGains_10 (by decide) <| (sd_lp (fun K h => sX4_findGains_12 h) fu)
def fX4_findGains : Mt Unit := mk_f 8 bX4_findGains_0
theorem tX4_findGains : Ct ev_v yX4_findGains cX4_findGains 8 none 2 50 fX4_findGains := ct_of (by decide +kernel) sX4_findGains_0
abbrev pX4_mostFrom : Px := (cX4_mostFrom, 8, RX4, "mostFrom", (some .int), 1, 22, fun _ => True)
def bX4_mostFrom_61 : Kt Int32 := o_ild 4 <| o_rI
set_option maxRecDepth 100000 in
theorem sX4_mostFrom_61 : Sd pX4_mostFrom ev_i 61 (bX4_mostFrom_61) := sd_iload dX4_mostFrom_61 <| (sd_rI rfl dX4_mostFrom_63)
def bX4_mostFrom_52 (K16 : Kt Int32) : Kt Int32 := o_inc 5 32 <| o_inc 6 1 <| K16
set_option maxRecDepth 100000 in
theorem sX4_mostFrom_52 {K16 : Kt Int32} (h16 : Sd pX4_mostFrom ev_i 16 K16) : Sd pX4_mostFrom ev_i 52 (bX4_mostFrom_52 K16) := sd_iinc dX4_mostFrom_52 rfl (by decide) <| sd_iinc dX4_mostFrom_55 rfl (by decide) <| (sd_goto (tgt := 16) dX4_mostFrom_58 (by decide) h16)
def bX4_mostFrom_48 (K16 : Kt Int32) : Kt Int32 := o_ild 7 <| o_ist 4 <| (o_fg 7 (bX4_mostFrom_52 K16))
set_option maxRecDepth 100000 in
theorem sX4_mostFrom_48 {K16 : Kt Int32} (h16 : Sd pX4_mostFrom ev_i 16 K16) : Sd pX4_mostFrom ev_i 48 (bX4_mostFrom_48 K16) := sd_iload dX4_mostFrom_48 <| sd_istore dX4_mostFrom_50 (by decide) <| (sd_fg (i := 7) (sX4_mostFrom_52 h16))
def bX4_mostFrom_22 (K16 : Kt Int32) : Kt Int32 := o_ald 0 <| o_gR 3 0 <| o_ild 5 <| o_ild 2 <| o_ald 0 <| o_gR 3 1 <| o_ild 6 <| o_aI <| o_i2 o_or <| o_i2 o_add <| o_aI <| o_ist 7 <| o_ild 7 <| o_ild 4 <| o_cle (o_fg 7 (bX4_mostFrom_52 K16)) <| (o_fg 4 (bX4_mostFrom_48 K16))
set_option maxRecDepth 100000 in
theorem sX4_mostFrom_22 {K16 : Kt Int32} (h16 : Sd pX4_mostFrom ev_i 16 K16) : Sd pX4_mostFrom ev_i 22 (bX4_mostFrom_22 K16) := sd_aload_n dX4_mostFrom_22 rfl <| sd_gR flX4_11 dX4_mostFrom_23 <| sd_iload dX4_mostFrom_26 <| sd_iload_n dX4_mostFrom_28 rfl <| sd_aload_n dX4_mostFrom_29 rfl <| sd_gR flX4_15 dX4_mostFrom_30 <| sd_iload dX4_mostFrom_33 <| sd_aI dX4_mostFrom_35 <| sd_ior dX4_mostFrom_36 <| sd_iadd dX4_mostFrom_37 <| sd_aI dX4_mostFrom_38 <| sd_istore dX4_mostFrom_39 (by decide) <| sd_iload dX4_mostFrom_41 <| sd_iload dX4_mostFrom_43 <| sd_cle (tgt := 52) dX4_mostFrom_45 (by decide) (sd_fg (i := 7) (sX4_mostFrom_52 h16)) <| (sd_fg (i := 4) (sX4_mostFrom_48 h16))
def bX4_mostFrom_16 (K16 : Kt Int32) : Kt Int32 := o_ild 6 <| o_ild 3 <| o_cgt (o_fg 0 (o_fg 2 (o_fg 3 (o_fg 5 (o_fg 6 bX4_mostFrom_61))))) <| (bX4_mostFrom_22 K16)
set_option maxRecDepth 100000 in
theorem sX4_mostFrom_16 {K16 : Kt Int32} (h16 : Sd pX4_mostFrom ev_i 16 K16) : Sd pX4_mostFrom ev_i 16 (bX4_mostFrom_16 K16) := sd_iload dX4_mostFrom_16 <| sd_iload_n dX4_mostFrom_18 rfl <| sd_cgt (tgt := 61) dX4_mostFrom_19 (by decide) (sd_fg (i := 0) (sd_fg (i := 2) (sd_fg (i := 3) (sd_fg (i := 5) (sd_fg (i := 6) sX4_mostFrom_61))))) <| (sX4_mostFrom_22 h16)
def bX4_mostFrom_0 : Kt Int32 := o_psh (.int 0) <| o_ist 4 <| o_ild 1 <| o_psh (.int 1) <| o_i2 o_add <| o_psh (.int 0) <| o_psh (.int 0) <| o_sc ev_i 3 fX4_placeOf <| o_ist 5 <| o_psh (.int 0) <| o_ist 6 <| (o_fg 1 (o_lp (bX4_mostFrom_16) fu))
set_option maxRecDepth 100000 in
theorem sX4_mostFrom_0 : Sd pX4_mostFrom ev_i 0 (bX4_mostFrom_0) := sd_iconst dX4_mostFrom_0 rfl <| sd_istore dX4_mostFrom_1 (by decide) <| sd_iload_n dX4_mostFrom_3 rfl <| sd_iconst dX4_mostFrom_4 rfl <| sd_iadd dX4_mostFrom_5 <| sd_iconst dX4_mostFrom_6 rfl <| sd_iconst dX4_mostFrom_7 rfl <| sd_sc tX4_placeOf (fun _ _ => rfl) mwX4_placeOf mvX4_placeOf tw_210 (by decide) dX4_mostFrom_8 <| sd_istore dX4_mostFrom_11 (by decide) <| sd_iconst dX4_mostFrom_13 rfl <| sd_istore dX4_mostFrom_14 (by decide) <| (sd_fg (i := 1) (sd_lp (fun K h => sX4_mostFrom_16 h) fu))
def fX4_mostFrom : Mt Int32 := mk_f 8 bX4_mostFrom_0
theorem tX4_mostFrom : Ct ev_i yX4_mostFrom cX4_mostFrom 8 (some .int) 1 22 fX4_mostFrom := ct_of (by decide +kernel) sX4_mostFrom_0
abbrev pX4_fillHour : Px := (cX4_fillHour, 6, RX4, "fillHour", none, 3, 77, fun _ => True)
def bX4_fillHour_86 : Kt Unit := o_rV
set_option maxRecDepth 100000 in
theorem sX4_fillHour_86 : Sd pX4_fillHour ev_v 86 (bX4_fillHour_86) := (sd_rV rfl dX4_fillHour_86)
def bX4_fillHour_80 (K9 : Kt Unit) : Kt Unit := o_inc 4 1 <| K9
set_option maxRecDepth 100000 in
theorem sX4_fillHour_80 {K9 : Kt Unit} (h9 : Sd pX4_fillHour ev_v 9 K9) : Sd pX4_fillHour ev_v 80 (bX4_fillHour_80 K9) := sd_iinc dX4_fillHour_80 rfl (by decide) <| (sd_goto (tgt := 9) dX4_fillHour_83 (by decide) h9)
def bX4_fillHour_74 (K9 : Kt Unit) (K32 : Kt Unit) : Kt Unit := o_inc 5 1 <| K32
set_option maxRecDepth 100000 in
theorem sX4_fillHour_74 {K9 : Kt Unit} (h9 : Sd pX4_fillHour ev_v 9 K9) {K32 : Kt Unit} (h32 : Sd pX4_fillHour ev_v 32 K32) : Sd pX4_fillHour ev_v 74 (bX4_fillHour_74 K9 K32) := sd_iinc dX4_fillHour_74 rfl (by decide) <| (sd_goto (tgt := 32) dX4_fillHour_77 (by decide) h32)
def bX4_fillHour_47 (K9 : Kt Unit) (K32 : Kt Unit) : Kt Unit := o_ald 0 <| o_gR 3 0 <| o_ild 2 <| o_ild 4 <| o_ild 5 <| o_sc ev_i 3 fX4_placeOf <| o_ald 0 <| o_ild 2 <| o_ild 5 <| o_ald 1 <| o_gR 1 0 <| o_gI 5 3 <| o_vc ev_i 3 4 fX4_mostFrom <| o_sI <| (bX4_fillHour_74 K9 K32)
set_option maxRecDepth 100000 in
theorem sX4_fillHour_47 {K9 : Kt Unit} (h9 : Sd pX4_fillHour ev_v 9 K9) {K32 : Kt Unit} (h32 : Sd pX4_fillHour ev_v 32 K32) : Sd pX4_fillHour ev_v 47 (bX4_fillHour_47 K9 K32) := sd_aload_n dX4_fillHour_47 rfl <| sd_gR flX4_11 dX4_fillHour_48 <| sd_iload_n dX4_fillHour_51 rfl <| sd_iload dX4_fillHour_52 <| sd_iload dX4_fillHour_54 <| sd_sc tX4_placeOf (fun _ _ => rfl) mwX4_placeOf mvX4_placeOf tw_210 (by decide) dX4_fillHour_56 <| sd_aload_n dX4_fillHour_59 rfl <| sd_iload_n dX4_fillHour_60 rfl <| sd_iload dX4_fillHour_61 <| sd_aload_n dX4_fillHour_63 rfl <| sd_gR flX4_37 dX4_fillHour_64 <| sd_gI flX4_64 dX4_fillHour_67 <| sd_vc tX4_mostFrom (fun _ _ => rfl) rfl mwX4_mostFrom mvX4_mostFrom tw_229 (by decide) dX4_fillHour_70 <| sd_sI dX4_fillHour_73 <| (sX4_fillHour_74 h9 h32)
def bX4_fillHour_38 (K9 : Kt Unit) (K32 : Kt Unit) : Kt Unit := o_ild 5 <| o_ild 3 <| o_psh (.int (-1)) <| o_i2 o_xor <| o_i2 o_and <| o_zne (bX4_fillHour_74 K9 K32) <| (bX4_fillHour_47 K9 K32)
set_option maxRecDepth 100000 in
theorem sX4_fillHour_38 {K9 : Kt Unit} (h9 : Sd pX4_fillHour ev_v 9 K9) {K32 : Kt Unit} (h32 : Sd pX4_fillHour ev_v 32 K32) : Sd pX4_fillHour ev_v 38 (bX4_fillHour_38 K9 K32) := sd_iload dX4_fillHour_38 <| sd_iload_n dX4_fillHour_40 rfl <| sd_iconst dX4_fillHour_41 rfl <| sd_ixor dX4_fillHour_42 <| sd_iand dX4_fillHour_43 <| sd_zne (tgt := 74) dX4_fillHour_44 (by decide) (sX4_fillHour_74 h9 h32) <| (sX4_fillHour_47 h9 h32)
def bX4_fillHour_32 (K9 : Kt Unit) (K32 : Kt Unit) : Kt Unit := o_ild 5 <| o_ild 3 <| o_cgt (o_fg 5 (bX4_fillHour_80 K9)) <| (bX4_fillHour_38 K9 K32)
set_option maxRecDepth 100000 in
theorem sX4_fillHour_32 {K9 : Kt Unit} (h9 : Sd pX4_fillHour ev_v 9 K9) {K32 : Kt Unit} (h32 : Sd pX4_fillHour ev_v 32 K32) : Sd pX4_fillHour ev_v 32 (bX4_fillHour_32 K9 K32) := sd_iload dX4_fillHour_32 <| sd_iload_n dX4_fillHour_34 rfl <| sd_cgt (tgt := 80) dX4_fillHour_35 (by decide) (sd_fg (i := 5) (sX4_fillHour_80 h9)) <| (sX4_fillHour_38 h9 h32)
def bX4_fillHour_21 (K9 : Kt Unit) : Kt Unit := o_ald 0 <| o_ald 1 <| o_ild 2 <| o_ild 4 <| o_vc ev_v 3 4 fX4_findGains <| o_psh (.int 0) <| o_ist 5 <| (o_lp (bX4_fillHour_32 K9) fu)
set_option maxRecDepth 100000 in
theorem sX4_fillHour_21 {K9 : Kt Unit} (h9 : Sd pX4_fillHour ev_v 9 K9) : Sd pX4_fillHour ev_v 21 (bX4_fillHour_21 K9) := sd_aload_n dX4_fillHour_21 rfl <| sd_aload_n dX4_fillHour_22 rfl <| sd_iload_n dX4_fillHour_23 rfl <| sd_iload dX4_fillHour_24 <| sd_vc tX4_findGains (fun _ _ => rfl) rfl mwX4_findGains mvX4_findGains tw_225 (by decide) dX4_fillHour_26 <| sd_iconst dX4_fillHour_29 rfl <| sd_istore dX4_fillHour_30 (by decide) <| (sd_lp (fun K h => sX4_fillHour_32 h9 h) fu)
def bX4_fillHour_9 (K9 : Kt Unit) : Kt Unit := o_ild 4 <| o_ald 1 <| o_gR 1 0 <| o_gI 5 3 <| o_cgt (o_fg 0 (o_fg 1 (o_fg 2 (o_fg 3 (o_fg 4 bX4_fillHour_86))))) <| (bX4_fillHour_21 K9)
set_option maxRecDepth 100000 in
theorem sX4_fillHour_9 {K9 : Kt Unit} (h9 : Sd pX4_fillHour ev_v 9 K9) : Sd pX4_fillHour ev_v 9 (bX4_fillHour_9 K9) := sd_iload dX4_fillHour_9 <| sd_aload_n dX4_fillHour_11 rfl <| sd_gR flX4_37 dX4_fillHour_12 <| sd_gI flX4_64 dX4_fillHour_15 <| sd_cgt (tgt := 86) dX4_fillHour_18 (by decide) (sd_fg (i := 0) (sd_fg (i := 1) (sd_fg (i := 2) (sd_fg (i := 3) (sd_fg (i := 4) sX4_fillHour_86))))) <| (sX4_fillHour_21 h9)
def bX4_fillHour_0 : Kt Unit := o_ald 1 <| o_ild 2 <| o_sc ev_i 2 fX4_worksBegunAhead <| o_ist 3 <| o_psh (.int 0) <| o_ist 4 <| (o_lp (bX4_fillHour_9) fu)
set_option maxRecDepth 100000 in
theorem sX4_fillHour_0 : Sd pX4_fillHour ev_v 0 (bX4_fillHour_0) := sd_aload_n dX4_fillHour_0 rfl <| sd_iload_n dX4_fillHour_1 rfl <| sd_sc tX4_worksBegunAhead (fun _ _ => rfl) mwX4_worksBegunAhead mvX4_worksBegunAhead tw_221 (by decide) dX4_fillHour_2 <| sd_istore_n dX4_fillHour_5 rfl (by decide) <| sd_iconst dX4_fillHour_6 rfl <| sd_istore dX4_fillHour_7 (by decide) <| (sd_lp (fun K h => sX4_fillHour_9 h) fu)
def fX4_fillHour : Mt Unit := mk_f 6 bX4_fillHour_0
theorem tX4_fillHour : Ct ev_v yX4_fillHour cX4_fillHour 6 none 3 77 fX4_fillHour := ct_of (by decide +kernel) sX4_fillHour_0
