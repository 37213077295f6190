abbrev pX9_hasEyes : Px := (cX9_hasEyes, 3, RX9, "hasEyes", (some .boolean), 0, 0, fun _ => True)
def bX9_hasEyes_44 : Kt Int32 := o_rZ
set_option maxRecDepth 100000 in
theorem sX9_hasEyes_44 : Sd pX9_hasEyes ev_i 44 (bX9_hasEyes_44) := (sd_rZ rfl dX9_hasEyes_44)
def bX9_hasEyes_43 : Kt Int32 := o_psh (.int 0) <| bX9_hasEyes_44
set_option maxRecDepth 100000 in
theorem sX9_hasEyes_43 : Sd pX9_hasEyes ev_i 43 (bX9_hasEyes_43) := sd_iconst dX9_hasEyes_43 rfl <| sX9_hasEyes_44
def bX9_hasEyes_39 : Kt Int32 := o_psh (.int 1) <| bX9_hasEyes_44
set_option maxRecDepth 100000 in
theorem sX9_hasEyes_39 : Sd pX9_hasEyes ev_i 39 (bX9_hasEyes_39) := sd_iconst dX9_hasEyes_39 rfl <| (sd_goto (tgt := 44) dX9_hasEyes_40 (by decide) sX9_hasEyes_44)
def bX9_hasEyes_34 : Kt Int32 := o_ild 2 <| o_psh (.int 5) <| o_cle (o_fg 2 bX9_hasEyes_43) <| (o_fg 2 bX9_hasEyes_39)
set_option maxRecDepth 100000 in
theorem sX9_hasEyes_34 : Sd pX9_hasEyes ev_i 34 (bX9_hasEyes_34) := sd_iload_n dX9_hasEyes_34 rfl <| sd_iconst dX9_hasEyes_35 rfl <| sd_cle (tgt := 43) dX9_hasEyes_36 (by decide) (sd_fg (i := 2) sX9_hasEyes_43) <| (sd_fg (i := 2) sX9_hasEyes_39)
def bX9_hasEyes_24 : Kt Int32 := o_ald 0 <| o_gR 8 0 <| o_ild 1 <| o_aI <| o_psh (.int 3) <| o_cne (o_fg 0 (o_fg 1 (o_fg 2 bX9_hasEyes_39))) <| (o_fg 0 (o_fg 1 bX9_hasEyes_34))
set_option maxRecDepth 100000 in
theorem sX9_hasEyes_24 : Sd pX9_hasEyes ev_i 24 (bX9_hasEyes_24) := sd_aload_n dX9_hasEyes_24 rfl <| sd_gR flX9_7 dX9_hasEyes_25 <| sd_iload_n dX9_hasEyes_28 rfl <| sd_aI dX9_hasEyes_29 <| sd_iconst dX9_hasEyes_30 rfl <| sd_cne (tgt := 39) dX9_hasEyes_31 (by decide) (sd_fg (i := 0) (sd_fg (i := 1) (sd_fg (i := 2) sX9_hasEyes_39))) <| (sd_fg (i := 0) (sd_fg (i := 1) sX9_hasEyes_34))
def bX9_hasEyes_20 : Kt Int32 := o_psh (.int 0) <| bX9_hasEyes_44
set_option maxRecDepth 100000 in
theorem sX9_hasEyes_20 : Sd pX9_hasEyes ev_i 20 (bX9_hasEyes_20) := sd_iconst dX9_hasEyes_20 rfl <| (sd_goto (tgt := 44) dX9_hasEyes_21 (by decide) sX9_hasEyes_44)
def bX9_hasEyes_16 : Kt Int32 := o_psh (.int 1) <| bX9_hasEyes_44
set_option maxRecDepth 100000 in
theorem sX9_hasEyes_16 : Sd pX9_hasEyes ev_i 16 (bX9_hasEyes_16) := sd_iconst dX9_hasEyes_16 rfl <| (sd_goto (tgt := 44) dX9_hasEyes_17 (by decide) sX9_hasEyes_44)
def bX9_hasEyes_10 : Kt Int32 := o_ild 2 <| o_psh (.int 6) <| o_cge (o_fg 2 bX9_hasEyes_20) <| (o_fg 2 bX9_hasEyes_16)
set_option maxRecDepth 100000 in
theorem sX9_hasEyes_10 : Sd pX9_hasEyes ev_i 10 (bX9_hasEyes_10) := sd_iload_n dX9_hasEyes_10 rfl <| sd_bipush dX9_hasEyes_11 rfl <| sd_cge (tgt := 20) dX9_hasEyes_13 (by decide) (sd_fg (i := 2) sX9_hasEyes_20) <| (sd_fg (i := 2) sX9_hasEyes_16)
def bX9_hasEyes_0 : Kt Int32 := o_ald 0 <| o_gR 8 0 <| o_ild 1 <| o_aI <| o_psh (.int 1) <| o_cne bX9_hasEyes_24 <| (o_fg 0 (o_fg 1 bX9_hasEyes_10))
set_option maxRecDepth 100000 in
theorem sX9_hasEyes_0 : Sd pX9_hasEyes ev_i 0 (bX9_hasEyes_0) := sd_aload_n dX9_hasEyes_0 rfl <| sd_gR flX9_7 dX9_hasEyes_1 <| sd_iload_n dX9_hasEyes_4 rfl <| sd_aI dX9_hasEyes_5 <| sd_iconst dX9_hasEyes_6 rfl <| sd_cne (tgt := 24) dX9_hasEyes_7 (by decide) sX9_hasEyes_24 <| (sd_fg (i := 0) (sd_fg (i := 1) sX9_hasEyes_10))
def fX9_hasEyes : Mt Int32 := mk_f 3 bX9_hasEyes_0
theorem tX9_hasEyes : Ct ev_i yX9_hasEyes cX9_hasEyes 3 (some .boolean) 0 0 fX9_hasEyes := ct_of (by decide +kernel) sX9_hasEyes_0
abbrev pX9_wouldSee : Px := (cX9_wouldSee, 5, RX9, "wouldSee", (some .boolean), 1, 22, fun _ => True)
def bX9_wouldSee_53 : Kt Int32 := o_rZ
set_option maxRecDepth 100000 in
theorem sX9_wouldSee_53 : Sd pX9_wouldSee ev_i 53 (bX9_wouldSee_53) := (sd_rZ rfl dX9_wouldSee_53)
def bX9_wouldSee_52 : Kt Int32 := o_psh (.int 0) <| bX9_wouldSee_53
set_option maxRecDepth 100000 in
theorem sX9_wouldSee_52 : Sd pX9_wouldSee ev_i 52 (bX9_wouldSee_52) := sd_iconst dX9_wouldSee_52 rfl <| sX9_wouldSee_53
def bX9_wouldSee_48 : Kt Int32 := o_psh (.int 1) <| bX9_wouldSee_53
set_option maxRecDepth 100000 in
theorem sX9_wouldSee_48 : Sd pX9_wouldSee ev_i 48 (bX9_wouldSee_48) := sd_iconst dX9_wouldSee_48 rfl <| (sd_goto (tgt := 53) dX9_wouldSee_49 (by decide) sX9_wouldSee_53)
def bX9_wouldSee_39 : Kt Int32 := o_ald 0 <| o_ild 1 <| o_ild 2 <| o_vc ev_i 8 3 fX9_hasEyes <| o_zeq (o_fg 0 (o_fg 1 (o_fg 2 bX9_wouldSee_52))) <| (o_fg 0 (o_fg 1 (o_fg 2 bX9_wouldSee_48)))
set_option maxRecDepth 100000 in
theorem sX9_wouldSee_39 : Sd pX9_wouldSee ev_i 39 (bX9_wouldSee_39) := sd_aload_n dX9_wouldSee_39 rfl <| sd_iload_n dX9_wouldSee_40 rfl <| sd_iload_n dX9_wouldSee_41 rfl <| sd_vc tX9_hasEyes (fun _ _ => rfl) rfl mwX9_hasEyes mvX9_hasEyes tw_685 (by decide) dX9_wouldSee_42 <| sd_zeq (tgt := 52) dX9_wouldSee_45 (by decide) (sd_fg (i := 0) (sd_fg (i := 1) (sd_fg (i := 2) sX9_wouldSee_52))) <| (sd_fg (i := 0) (sd_fg (i := 1) (sd_fg (i := 2) sX9_wouldSee_48)))
def bX9_wouldSee_32 : Kt Int32 := o_ist 4 <| o_ild 4 <| o_zeq (o_fg 0 (o_fg 1 (o_fg 2 (o_fg 4 bX9_wouldSee_52)))) <| (o_fg 4 bX9_wouldSee_39)
set_option maxRecDepth 100000 in
theorem sX9_wouldSee_32 : Sd pX9_wouldSee ev_i 32 (bX9_wouldSee_32) := sd_istore dX9_wouldSee_32 (by decide) <| sd_iload dX9_wouldSee_34 <| sd_zeq (tgt := 52) dX9_wouldSee_36 (by decide) (sd_fg (i := 0) (sd_fg (i := 1) (sd_fg (i := 2) (sd_fg (i := 4) sX9_wouldSee_52)))) <| (sd_fg (i := 4) sX9_wouldSee_39)
def bX9_wouldSee_31 : Kt Int32 := o_psh (.int 0) <| bX9_wouldSee_32
set_option maxRecDepth 100000 in
theorem sX9_wouldSee_31 : Sd pX9_wouldSee ev_i 31 (bX9_wouldSee_31) := sd_iconst dX9_wouldSee_31 rfl <| sX9_wouldSee_32
def bX9_wouldSee_27 : Kt Int32 := o_psh (.int 1) <| bX9_wouldSee_32
set_option maxRecDepth 100000 in
theorem sX9_wouldSee_27 : Sd pX9_wouldSee ev_i 27 (bX9_wouldSee_27) := sd_iconst dX9_wouldSee_27 rfl <| (sd_goto (tgt := 32) dX9_wouldSee_28 (by decide) sX9_wouldSee_32)
def bX9_wouldSee_20 : Kt Int32 := o_ild 3 <| o_ild 1 <| o_psh (.int 1) <| o_i2 o_sub <| o_cne (o_fg 3 bX9_wouldSee_31) <| (o_fg 3 bX9_wouldSee_27)
set_option maxRecDepth 100000 in
theorem sX9_wouldSee_20 : Sd pX9_wouldSee ev_i 20 (bX9_wouldSee_20) := sd_iload_n dX9_wouldSee_20 rfl <| sd_iload_n dX9_wouldSee_21 rfl <| sd_iconst dX9_wouldSee_22 rfl <| sd_isub dX9_wouldSee_23 <| sd_cne (tgt := 31) dX9_wouldSee_24 (by decide) (sd_fg (i := 3) sX9_wouldSee_31) <| (sd_fg (i := 3) sX9_wouldSee_27)
def bX9_wouldSee_13 : Kt Int32 := o_ild 3 <| o_ild 1 <| o_psh (.int 1) <| o_i2 o_add <| o_ceq (o_fg 3 bX9_wouldSee_27) <| bX9_wouldSee_20
set_option maxRecDepth 100000 in
theorem sX9_wouldSee_13 : Sd pX9_wouldSee ev_i 13 (bX9_wouldSee_13) := sd_iload_n dX9_wouldSee_13 rfl <| sd_iload_n dX9_wouldSee_14 rfl <| sd_iconst dX9_wouldSee_15 rfl <| sd_iadd dX9_wouldSee_16 <| sd_ceq (tgt := 27) dX9_wouldSee_17 (by decide) (sd_fg (i := 3) sX9_wouldSee_27) <| sX9_wouldSee_20
def bX9_wouldSee_8 : Kt Int32 := o_ild 3 <| o_ild 1 <| o_ceq (o_fg 3 bX9_wouldSee_27) <| bX9_wouldSee_13
set_option maxRecDepth 100000 in
theorem sX9_wouldSee_8 : Sd pX9_wouldSee ev_i 8 (bX9_wouldSee_8) := sd_iload_n dX9_wouldSee_8 rfl <| sd_iload_n dX9_wouldSee_9 rfl <| sd_ceq (tgt := 27) dX9_wouldSee_10 (by decide) (sd_fg (i := 3) sX9_wouldSee_27) <| sX9_wouldSee_13
def bX9_wouldSee_4 : Kt Int32 := o_ild 3 <| o_zlt (o_fg 3 bX9_wouldSee_27) <| bX9_wouldSee_8
set_option maxRecDepth 100000 in
theorem sX9_wouldSee_4 : Sd pX9_wouldSee ev_i 4 (bX9_wouldSee_4) := sd_iload_n dX9_wouldSee_4 rfl <| sd_zlt (tgt := 27) dX9_wouldSee_5 (by decide) (sd_fg (i := 3) sX9_wouldSee_27) <| sX9_wouldSee_8
def bX9_wouldSee_0 : Kt Int32 := o_ild 2 <| o_zeq (o_fg 3 bX9_wouldSee_27) <| bX9_wouldSee_4
set_option maxRecDepth 100000 in
theorem sX9_wouldSee_0 : Sd pX9_wouldSee ev_i 0 (bX9_wouldSee_0) := sd_iload_n dX9_wouldSee_0 rfl <| sd_zeq (tgt := 27) dX9_wouldSee_1 (by decide) (sd_fg (i := 3) sX9_wouldSee_27) <| sX9_wouldSee_4
def fX9_wouldSee : Mt Int32 := mk_f 5 bX9_wouldSee_0
theorem tX9_wouldSee : Ct ev_i yX9_wouldSee cX9_wouldSee 5 (some .boolean) 1 22 fX9_wouldSee := ct_of (by decide +kernel) sX9_wouldSee_0
abbrev pX9_doesSee : Px := (cX9_doesSee, 2, RX9, "doesSee", (some .boolean), 2, 46, fun _ => True)
def bX9_doesSee_41 : Kt Int32 := o_rZ
set_option maxRecDepth 100000 in
theorem sX9_doesSee_41 : Sd pX9_doesSee ev_i 41 (bX9_doesSee_41) := (sd_rZ rfl dX9_doesSee_41)
def bX9_doesSee_40 : Kt Int32 := o_psh (.int 0) <| bX9_doesSee_41
set_option maxRecDepth 100000 in
theorem sX9_doesSee_40 : Sd pX9_doesSee ev_i 40 (bX9_doesSee_40) := sd_iconst dX9_doesSee_40 rfl <| sX9_doesSee_41
def bX9_doesSee_36 : Kt Int32 := o_psh (.int 1) <| bX9_doesSee_41
set_option maxRecDepth 100000 in
theorem sX9_doesSee_36 : Sd pX9_doesSee ev_i 36 (bX9_doesSee_36) := sd_iconst dX9_doesSee_36 rfl <| (sd_goto (tgt := 41) dX9_doesSee_37 (by decide) sX9_doesSee_41)
def bX9_doesSee_30 : Kt Int32 := o_vc ev_i 8 4 fX9_wouldSee <| o_zeq bX9_doesSee_40 <| bX9_doesSee_36
set_option maxRecDepth 100000 in
theorem sX9_doesSee_30 : Sd pX9_doesSee ev_i 30 (bX9_doesSee_30) := sd_vc tX9_wouldSee (fun _ _ => rfl) rfl mwX9_wouldSee mvX9_wouldSee tw_693 (by decide) dX9_doesSee_30 <| sd_zeq (tgt := 40) dX9_doesSee_33 (by decide) sX9_doesSee_40 <| sX9_doesSee_36
def bX9_doesSee_23 : Kt Int32 := o_ald 0 <| o_ild 1 <| o_psh (.int 1) <| o_i2 o_sub <| o_vc ev_i 8 2 fX9_hasIt <| (o_fg 0 (o_fg 1 bX9_doesSee_30))
set_option maxRecDepth 100000 in
theorem sX9_doesSee_23 : Sd pX9_doesSee ev_i 23 (bX9_doesSee_23) := sd_aload_n dX9_doesSee_23 rfl <| sd_iload_n dX9_doesSee_24 rfl <| sd_iconst dX9_doesSee_25 rfl <| sd_isub dX9_doesSee_26 <| sd_vc tX9_hasIt (fun _ _ => rfl) rfl mwX9_hasIt mvX9_hasIt tw_689 (by decide) dX9_doesSee_27 <| (sd_fg (i := 0) (sd_fg (i := 1) sX9_doesSee_30))
def bX9_doesSee_19 : Kt Int32 := o_psh (.int (-1)) <| bX9_doesSee_30
set_option maxRecDepth 100000 in
theorem sX9_doesSee_19 : Sd pX9_doesSee ev_i 19 (bX9_doesSee_19) := sd_iconst dX9_doesSee_19 rfl <| (sd_goto (tgt := 30) dX9_doesSee_20 (by decide) sX9_doesSee_30)
def bX9_doesSee_8 : Kt Int32 := o_ald 0 <| o_ald 0 <| o_ild 1 <| o_vc ev_i 8 2 fX9_hasIt <| o_ild 1 <| o_ild 1 <| o_zne bX9_doesSee_23 <| (o_fg 0 (o_fg 1 bX9_doesSee_19))
set_option maxRecDepth 100000 in
theorem sX9_doesSee_8 : Sd pX9_doesSee ev_i 8 (bX9_doesSee_8) := sd_aload_n dX9_doesSee_8 rfl <| sd_aload_n dX9_doesSee_9 rfl <| sd_iload_n dX9_doesSee_10 rfl <| sd_vc tX9_hasIt (fun _ _ => rfl) rfl mwX9_hasIt mvX9_hasIt tw_689 (by decide) dX9_doesSee_11 <| sd_iload_n dX9_doesSee_14 rfl <| sd_iload_n dX9_doesSee_15 rfl <| sd_zne (tgt := 23) dX9_doesSee_16 (by decide) sX9_doesSee_23 <| (sd_fg (i := 0) (sd_fg (i := 1) sX9_doesSee_19))
def bX9_doesSee_0 : Kt Int32 := o_ald 0 <| o_ild 1 <| o_vc ev_i 8 2 fX9_hasIt <| o_zlt (o_fg 0 (o_fg 1 bX9_doesSee_40)) <| bX9_doesSee_8
set_option maxRecDepth 100000 in
theorem sX9_doesSee_0 : Sd pX9_doesSee ev_i 0 (bX9_doesSee_0) := sd_aload_n dX9_doesSee_0 rfl <| sd_iload_n dX9_doesSee_1 rfl <| sd_vc tX9_hasIt (fun _ _ => rfl) rfl mwX9_hasIt mvX9_hasIt tw_689 (by decide) dX9_doesSee_2 <| sd_zlt (tgt := 40) dX9_doesSee_5 (by decide) (sd_fg (i := 0) (sd_fg (i := 1) sX9_doesSee_40)) <| sX9_doesSee_8
def fX9_doesSee : Mt Int32 := mk_f 2 bX9_doesSee_0
theorem tX9_doesSee : Ct ev_i yX9_doesSee cX9_doesSee 2 (some .boolean) 2 46 fX9_doesSee := ct_of (by decide +kernel) sX9_doesSee_0
abbrev pX9_seeing : Px := (cX9_seeing, 3, RX9, "seeing", (some .int), 3, 67, fun _ => True)
def bX9_seeing_34 : Kt Int32 := o_ild 1 <| o_rI
set_option maxRecDepth 100000 in
theorem sX9_seeing_34 : Sd pX9_seeing ev_i 34 (bX9_seeing_34) := sd_iload_n dX9_seeing_34 rfl <| (sd_rI rfl dX9_seeing_35)
def bX9_seeing_26 (K4 : Kt Int32) : Kt Int32 := o_i2 o_or <| o_ist 1 <| o_inc 2 1 <| K4
set_option maxRecDepth 100000 in
theorem sX9_seeing_26 {K4 : Kt Int32} (h4 : Sd pX9_seeing ev_i 4 K4) : Sd pX9_seeing ev_i 26 (bX9_seeing_26 K4) := sd_ior dX9_seeing_26 <| sd_istore_n dX9_seeing_27 rfl (by decide) <| sd_iinc dX9_seeing_28 rfl (by decide) <| (sd_goto (tgt := 4) dX9_seeing_31 (by decide) h4)
def bX9_seeing_25 (K4 : Kt Int32) : Kt Int32 := o_psh (.int 0) <| (bX9_seeing_26 K4)
set_option maxRecDepth 100000 in
theorem sX9_seeing_25 {K4 : Kt Int32} (h4 : Sd pX9_seeing ev_i 4 K4) : Sd pX9_seeing ev_i 25 (bX9_seeing_25 K4) := sd_iconst dX9_seeing_25 rfl <| (sX9_seeing_26 h4)
def bX9_seeing_19 (K4 : Kt Int32) : Kt Int32 := o_psh (.int 1) <| o_ild 2 <| o_i2 o_shl <| (bX9_seeing_26 K4)
set_option maxRecDepth 100000 in
theorem sX9_seeing_19 {K4 : Kt Int32} (h4 : Sd pX9_seeing ev_i 4 K4) : Sd pX9_seeing ev_i 19 (bX9_seeing_19 K4) := sd_iconst dX9_seeing_19 rfl <| sd_iload_n dX9_seeing_20 rfl <| sd_ishl dX9_seeing_21 <| (sd_goto (tgt := 26) dX9_seeing_22 (by decide) (sX9_seeing_26 h4))
def bX9_seeing_10 (K4 : Kt Int32) : Kt Int32 := o_ild 1 <| o_ald 0 <| o_ild 2 <| o_vc ev_i 8 2 fX9_doesSee <| o_zeq (o_fg 1 (bX9_seeing_25 K4)) <| (o_fg 1 (bX9_seeing_19 K4))
set_option maxRecDepth 100000 in
theorem sX9_seeing_10 {K4 : Kt Int32} (h4 : Sd pX9_seeing ev_i 4 K4) : Sd pX9_seeing ev_i 10 (bX9_seeing_10 K4) := sd_iload_n dX9_seeing_10 rfl <| sd_aload_n dX9_seeing_11 rfl <| sd_iload_n dX9_seeing_12 rfl <| sd_vc tX9_doesSee (fun _ _ => rfl) rfl mwX9_doesSee mvX9_doesSee tw_697 (by decide) dX9_seeing_13 <| sd_zeq (tgt := 25) dX9_seeing_16 (by decide) (sd_fg (i := 1) (sX9_seeing_25 h4)) <| (sd_fg (i := 1) (sX9_seeing_19 h4))
def bX9_seeing_4 (K4 : Kt Int32) : Kt Int32 := o_ild 2 <| o_psh (.int 10) <| o_cge (o_fg 0 (o_fg 2 bX9_seeing_34)) <| (bX9_seeing_10 K4)
set_option maxRecDepth 100000 in
theorem sX9_seeing_4 {K4 : Kt Int32} (h4 : Sd pX9_seeing ev_i 4 K4) : Sd pX9_seeing ev_i 4 (bX9_seeing_4 K4) := sd_iload_n dX9_seeing_4 rfl <| sd_bipush dX9_seeing_5 rfl <| sd_cge (tgt := 34) dX9_seeing_7 (by decide) (sd_fg (i := 0) (sd_fg (i := 2) sX9_seeing_34)) <| (sX9_seeing_10 h4)
def bX9_seeing_0 : Kt Int32 := o_psh (.int 0) <| o_ist 1 <| o_psh (.int 0) <| o_ist 2 <| (o_lp (bX9_seeing_4) fu)
set_option maxRecDepth 100000 in
theorem sX9_seeing_0 : Sd pX9_seeing ev_i 0 (bX9_seeing_0) := sd_iconst dX9_seeing_0 rfl <| sd_istore_n dX9_seeing_1 rfl (by decide) <| sd_iconst dX9_seeing_2 rfl <| sd_istore_n dX9_seeing_3 rfl (by decide) <| (sd_lp (fun K h => sX9_seeing_4 h) fu)
def fX9_seeing : Mt Int32 := mk_f 3 bX9_seeing_0
theorem tX9_seeing : Ct ev_i yX9_seeing cX9_seeing 3 (some .int) 3 67 fX9_seeing := ct_of (by decide +kernel) sX9_seeing_0
abbrev pX9_valueAt : Px := (cX9_valueAt, 7, RX9, "valueAt", (some .int), 0, 0, fun _ => True)
def bX9_valueAt_94 : Kt Int32 := o_ild 3 <| o_rI
set_option maxRecDepth 100000 in
theorem sX9_valueAt_94 : Sd pX9_valueAt ev_i 94 (bX9_valueAt_94) := sd_iload_n dX9_valueAt_94 rfl <| (sd_rI rfl dX9_valueAt_95)
def bX9_valueAt_88 (K13 : Kt Int32) : Kt Int32 := o_inc 4 1 <| K13
set_option maxRecDepth 100000 in
theorem sX9_valueAt_88 {K13 : Kt Int32} (h13 : Sd pX9_valueAt ev_i 13 K13) : Sd pX9_valueAt ev_i 88 (bX9_valueAt_88 K13) := sd_iinc dX9_valueAt_88 rfl (by decide) <| (sd_goto (tgt := 13) dX9_valueAt_91 (by decide) h13)
def bX9_valueAt_81 (K13 : Kt Int32) (K22 : Kt Int32) : Kt Int32 := o_ist 3 <| o_inc 5 1 <| K22
set_option maxRecDepth 100000 in
theorem sX9_valueAt_81 {K13 : Kt Int32} (h13 : Sd pX9_valueAt ev_i 13 K13) {K22 : Kt Int32} (h22 : Sd pX9_valueAt ev_i 22 K22) : Sd pX9_valueAt ev_i 81 (bX9_valueAt_81 K13 K22) := sd_istore_n dX9_valueAt_81 rfl (by decide) <| sd_iinc dX9_valueAt_82 rfl (by decide) <| (sd_goto (tgt := 22) dX9_valueAt_85 (by decide) h22)
def bX9_valueAt_80 (K13 : Kt Int32) (K22 : Kt Int32) : Kt Int32 := o_ild 3 <| (o_fg 3 (bX9_valueAt_81 K13 K22))
set_option maxRecDepth 100000 in
theorem sX9_valueAt_80 {K13 : Kt Int32} (h13 : Sd pX9_valueAt ev_i 13 K13) {K22 : Kt Int32} (h22 : Sd pX9_valueAt ev_i 22 K22) : Sd pX9_valueAt ev_i 80 (bX9_valueAt_80 K13 K22) := sd_iload_n dX9_valueAt_80 rfl <| (sd_fg (i := 3) (sX9_valueAt_81 h13 h22))
def bX9_valueAt_68 (K13 : Kt Int32) (K22 : Kt Int32) : Kt Int32 := o_ald 0 <| o_gR 8 0 <| o_ild 6 <| o_psh (.int 2) <| o_i2 o_add <| o_aI <| (o_fg 6 (bX9_valueAt_81 K13 K22))
set_option maxRecDepth 100000 in
theorem sX9_valueAt_68 {K13 : Kt Int32} (h13 : Sd pX9_valueAt ev_i 13 K13) {K22 : Kt Int32} (h22 : Sd pX9_valueAt ev_i 22 K22) : Sd pX9_valueAt ev_i 68 (bX9_valueAt_68 K13 K22) := sd_aload_n dX9_valueAt_68 rfl <| sd_gR flX9_7 dX9_valueAt_69 <| sd_iload dX9_valueAt_72 <| sd_iconst dX9_valueAt_74 rfl <| sd_iadd dX9_valueAt_75 <| sd_aI dX9_valueAt_76 <| (sd_goto (tgt := 81) dX9_valueAt_77 (by decide) (sd_fg (i := 6) (sX9_valueAt_81 h13 h22)))
def bX9_valueAt_55 (K13 : Kt Int32) (K22 : Kt Int32) : Kt Int32 := o_ald 0 <| o_gR 8 0 <| o_ild 6 <| o_psh (.int 1) <| o_i2 o_add <| o_aI <| o_ild 1 <| o_cne (o_fg 6 (bX9_valueAt_80 K13 K22)) <| (o_fg 3 (bX9_valueAt_68 K13 K22))
set_option maxRecDepth 100000 in
theorem sX9_valueAt_55 {K13 : Kt Int32} (h13 : Sd pX9_valueAt ev_i 13 K13) {K22 : Kt Int32} (h22 : Sd pX9_valueAt ev_i 22 K22) : Sd pX9_valueAt ev_i 55 (bX9_valueAt_55 K13 K22) := sd_aload_n dX9_valueAt_55 rfl <| sd_gR flX9_7 dX9_valueAt_56 <| sd_iload dX9_valueAt_59 <| sd_iconst dX9_valueAt_61 rfl <| sd_iadd dX9_valueAt_62 <| sd_aI dX9_valueAt_63 <| sd_iload_n dX9_valueAt_64 rfl <| sd_cne (tgt := 80) dX9_valueAt_65 (by decide) (sd_fg (i := 6) (sX9_valueAt_80 h13 h22)) <| (sd_fg (i := 3) (sX9_valueAt_68 h13 h22))
def bX9_valueAt_34 (K13 : Kt Int32) (K22 : Kt Int32) : Kt Int32 := o_psh (.int 13) <| o_psh (.int 3) <| o_ild 5 <| o_i2 o_mul <| o_i2 o_add <| o_ist 6 <| o_ald 0 <| o_gR 8 0 <| o_ild 6 <| o_aI <| o_ild 4 <| o_cne (o_fg 6 (bX9_valueAt_80 K13 K22)) <| (bX9_valueAt_55 K13 K22)
set_option maxRecDepth 100000 in
theorem sX9_valueAt_34 {K13 : Kt Int32} (h13 : Sd pX9_valueAt ev_i 13 K13) {K22 : Kt Int32} (h22 : Sd pX9_valueAt ev_i 22 K22) : Sd pX9_valueAt ev_i 34 (bX9_valueAt_34 K13 K22) := sd_bipush dX9_valueAt_34 rfl <| sd_iconst dX9_valueAt_36 rfl <| sd_iload dX9_valueAt_37 <| sd_imul dX9_valueAt_39 <| sd_iadd dX9_valueAt_40 <| sd_istore dX9_valueAt_41 (by decide) <| sd_aload_n dX9_valueAt_43 rfl <| sd_gR flX9_7 dX9_valueAt_44 <| sd_iload dX9_valueAt_47 <| sd_aI dX9_valueAt_49 <| sd_iload dX9_valueAt_50 <| sd_cne (tgt := 80) dX9_valueAt_52 (by decide) (sd_fg (i := 6) (sX9_valueAt_80 h13 h22)) <| (sX9_valueAt_55 h13 h22)
def bX9_valueAt_22 (K13 : Kt Int32) (K22 : Kt Int32) : Kt Int32 := o_ild 5 <| o_ald 0 <| o_gR 8 0 <| o_psh (.int 25) <| o_aI <| o_cge (o_fg 5 (bX9_valueAt_88 K13)) <| (bX9_valueAt_34 K13 K22)
set_option maxRecDepth 100000 in
theorem sX9_valueAt_22 {K13 : Kt Int32} (h13 : Sd pX9_valueAt ev_i 13 K13) {K22 : Kt Int32} (h22 : Sd pX9_valueAt ev_i 22 K22) : Sd pX9_valueAt ev_i 22 (bX9_valueAt_22 K13 K22) := sd_iload dX9_valueAt_22 <| sd_aload_n dX9_valueAt_24 rfl <| sd_gR flX9_7 dX9_valueAt_25 <| sd_bipush dX9_valueAt_28 rfl <| sd_aI dX9_valueAt_30 <| sd_cge (tgt := 88) dX9_valueAt_31 (by decide) (sd_fg (i := 5) (sX9_valueAt_88 h13)) <| (sX9_valueAt_34 h13 h22)
def bX9_valueAt_19 (K13 : Kt Int32) : Kt Int32 := o_psh (.int 0) <| o_ist 5 <| (o_lp (bX9_valueAt_22 K13) fu)
set_option maxRecDepth 100000 in
theorem sX9_valueAt_19 {K13 : Kt Int32} (h13 : Sd pX9_valueAt ev_i 13 K13) : Sd pX9_valueAt ev_i 19 (bX9_valueAt_19 K13) := sd_iconst dX9_valueAt_19 rfl <| sd_istore dX9_valueAt_20 (by decide) <| (sd_lp (fun K h => sX9_valueAt_22 h13 h) fu)
def bX9_valueAt_13 (K13 : Kt Int32) : Kt Int32 := o_ild 4 <| o_ild 2 <| o_cgt (o_fg 0 (o_fg 1 (o_fg 2 (o_fg 4 bX9_valueAt_94)))) <| (bX9_valueAt_19 K13)
set_option maxRecDepth 100000 in
theorem sX9_valueAt_13 {K13 : Kt Int32} (h13 : Sd pX9_valueAt ev_i 13 K13) : Sd pX9_valueAt ev_i 13 (bX9_valueAt_13 K13) := sd_iload dX9_valueAt_13 <| sd_iload_n dX9_valueAt_15 rfl <| sd_cgt (tgt := 94) dX9_valueAt_16 (by decide) (sd_fg (i := 0) (sd_fg (i := 1) (sd_fg (i := 2) (sd_fg (i := 4) sX9_valueAt_94)))) <| (sX9_valueAt_19 h13)
def bX9_valueAt_0 : Kt Int32 := o_ald 0 <| o_gR 8 0 <| o_psh (.int 10) <| o_ild 1 <| o_i2 o_add <| o_aI <| o_ist 3 <| o_psh (.int 0) <| o_ist 4 <| (o_lp (bX9_valueAt_13) fu)
set_option maxRecDepth 100000 in
theorem sX9_valueAt_0 : Sd pX9_valueAt ev_i 0 (bX9_valueAt_0) := sd_aload_n dX9_valueAt_0 rfl <| sd_gR flX9_7 dX9_valueAt_1 <| sd_bipush dX9_valueAt_4 rfl <| sd_iload_n dX9_valueAt_6 rfl <| sd_iadd dX9_valueAt_7 <| sd_aI dX9_valueAt_8 <| sd_istore_n dX9_valueAt_9 rfl (by decide) <| sd_iconst dX9_valueAt_10 rfl <| sd_istore dX9_valueAt_11 (by decide) <| (sd_lp (fun K h => sX9_valueAt_13 h) fu)
def fX9_valueAt : Mt Int32 := mk_f 7 bX9_valueAt_0
theorem tX9_valueAt : Ct ev_i yX9_valueAt cX9_valueAt 7 (some .int) 0 0 fX9_valueAt := ct_of (by decide +kernel) sX9_valueAt_0
abbrev pX9_tellings : Px := (cX9_tellings, 6, RX9, "tellings", none, 0, 0, fun _ => True)
def bX9_tellings_128 : Kt Unit := o_rV
set_option maxRecDepth 100000 in
theorem sX9_tellings_128 : Sd pX9_tellings ev_v 128 (bX9_tellings_128) := (sd_rV rfl dX9_tellings_128)
def bX9_tellings_122 (K2 : Kt Unit) : Kt Unit := o_inc 2 1 <| K2
set_option maxRecDepth 100000 in
theorem sX9_tellings_122 {K2 : Kt Unit} (h2 : Sd pX9_tellings ev_v 2 K2) : Sd pX9_tellings ev_v 122 (bX9_tellings_122 K2) := sd_iinc dX9_tellings_122 rfl (by decide) <| (sd_goto (tgt := 2) dX9_tellings_125 (by decide) h2)
def bX9_tellings_94 (K2 : Kt Unit) : Kt Unit := o_ald 0 <| o_gR 8 20 <| o_ild 5 <| o_ald 0 <| o_gR 8 20 <| o_ild 4 <| o_aI <| o_sI <| o_ald 0 <| o_gR 8 21 <| o_ild 5 <| o_ald 0 <| o_gR 8 21 <| o_ild 4 <| o_aI <| o_sI <| (o_fg 4 (o_fg 5 (bX9_tellings_122 K2)))
set_option maxRecDepth 100000 in
theorem sX9_tellings_94 {K2 : Kt Unit} (h2 : Sd pX9_tellings ev_v 2 K2) : Sd pX9_tellings ev_v 94 (bX9_tellings_94 K2) := sd_aload_n dX9_tellings_94 rfl <| sd_gR flX9_28 dX9_tellings_95 <| sd_iload dX9_tellings_98 <| sd_aload_n dX9_tellings_100 rfl <| sd_gR flX9_28 dX9_tellings_101 <| sd_iload dX9_tellings_104 <| sd_aI dX9_tellings_106 <| sd_sI dX9_tellings_107 <| sd_aload_n dX9_tellings_108 rfl <| sd_gR flX9_31 dX9_tellings_109 <| sd_iload dX9_tellings_112 <| sd_aload_n dX9_tellings_114 rfl <| sd_gR flX9_31 dX9_tellings_115 <| sd_iload dX9_tellings_118 <| sd_aI dX9_tellings_120 <| sd_sI dX9_tellings_121 <| (sd_fg (i := 4) (sd_fg (i := 5) (sX9_tellings_122 h2)))
def bX9_tellings_82 (K2 : Kt Unit) : Kt Unit := o_ald 0 <| o_gR 8 20 <| o_ild 4 <| o_aI <| o_psh (.int (-4)) <| o_ceq (o_fg 4 (o_fg 5 (bX9_tellings_122 K2))) <| (bX9_tellings_94 K2)
set_option maxRecDepth 100000 in
theorem sX9_tellings_82 {K2 : Kt Unit} (h2 : Sd pX9_tellings ev_v 2 K2) : Sd pX9_tellings ev_v 82 (bX9_tellings_82 K2) := sd_aload_n dX9_tellings_82 rfl <| sd_gR flX9_28 dX9_tellings_83 <| sd_iload dX9_tellings_86 <| sd_aI dX9_tellings_88 <| sd_bipush dX9_tellings_89 rfl <| sd_ceq (tgt := 122) dX9_tellings_91 (by decide) (sd_fg (i := 4) (sd_fg (i := 5) (sX9_tellings_122 h2))) <| (sX9_tellings_94 h2)
def bX9_tellings_65 (K2 : Kt Unit) : Kt Unit := o_ild 3 <| o_psh (.int 3) <| o_i2 o_add <| o_aI <| o_i2 o_add <| o_ist 5 <| o_ald 0 <| o_gR 8 0 <| o_ild 3 <| o_aI <| o_ild 1 <| o_cne (o_fg 3 (o_fg 4 (o_fg 5 (bX9_tellings_122 K2)))) <| (o_fg 3 (bX9_tellings_82 K2))
set_option maxRecDepth 100000 in
theorem sX9_tellings_65 {K2 : Kt Unit} (h2 : Sd pX9_tellings ev_v 2 K2) : Sd pX9_tellings ev_v 65 (bX9_tellings_65 K2) := sd_iload_n dX9_tellings_65 rfl <| sd_iconst dX9_tellings_66 rfl <| sd_iadd dX9_tellings_67 <| sd_aI dX9_tellings_68 <| sd_iadd dX9_tellings_69 <| sd_istore dX9_tellings_70 (by decide) <| sd_aload_n dX9_tellings_72 rfl <| sd_gR flX9_7 dX9_tellings_73 <| sd_iload_n dX9_tellings_76 rfl <| sd_aI dX9_tellings_77 <| sd_iload_n dX9_tellings_78 rfl <| sd_cne (tgt := 122) dX9_tellings_79 (by decide) (sd_fg (i := 3) (sd_fg (i := 4) (sd_fg (i := 5) (sX9_tellings_122 h2)))) <| (sd_fg (i := 3) (sX9_tellings_82 h2))
def bX9_tellings_13 (K2 : Kt Unit) : Kt Unit := o_psh (.int 57) <| o_psh (.int 4) <| o_ild 2 <| o_i2 o_mul <| o_i2 o_add <| o_ist 3 <| o_psh (.int 15) <| o_ild 1 <| o_i2 o_mul <| o_psh (.int 3) <| o_ald 0 <| o_gR 8 0 <| o_ild 3 <| o_psh (.int 1) <| o_i2 o_add <| o_aI <| o_i2 o_mul <| o_i2 o_add <| o_ald 0 <| o_gR 8 0 <| o_ild 3 <| o_psh (.int 3) <| o_i2 o_add <| o_aI <| o_i2 o_add <| o_ist 4 <| o_psh (.int 15) <| o_ild 1 <| o_i2 o_mul <| o_psh (.int 3) <| o_ald 0 <| o_gR 8 0 <| o_ild 3 <| o_psh (.int 2) <| o_i2 o_add <| o_aI <| o_i2 o_mul <| o_i2 o_add <| o_ald 0 <| o_gR 8 0 <| (bX9_tellings_65 K2)
set_option maxRecDepth 100000 in
theorem sX9_tellings_13 {K2 : Kt Unit} (h2 : Sd pX9_tellings ev_v 2 K2) : Sd pX9_tellings ev_v 13 (bX9_tellings_13 K2) := sd_bipush dX9_tellings_13 rfl <| sd_iconst dX9_tellings_15 rfl <| sd_iload_n dX9_tellings_16 rfl <| sd_imul dX9_tellings_17 <| sd_iadd dX9_tellings_18 <| sd_istore_n dX9_tellings_19 rfl (by decide) <| sd_bipush dX9_tellings_20 rfl <| sd_iload_n dX9_tellings_22 rfl <| sd_imul dX9_tellings_23 <| sd_iconst dX9_tellings_24 rfl <| sd_aload_n dX9_tellings_25 rfl <| sd_gR flX9_7 dX9_tellings_26 <| sd_iload_n dX9_tellings_29 rfl <| sd_iconst dX9_tellings_30 rfl <| sd_iadd dX9_tellings_31 <| sd_aI dX9_tellings_32 <| sd_imul dX9_tellings_33 <| sd_iadd dX9_tellings_34 <| sd_aload_n dX9_tellings_35 rfl <| sd_gR flX9_7 dX9_tellings_36 <| sd_iload_n dX9_tellings_39 rfl <| sd_iconst dX9_tellings_40 rfl <| sd_iadd dX9_tellings_41 <| sd_aI dX9_tellings_42 <| sd_iadd dX9_tellings_43 <| sd_istore dX9_tellings_44 (by decide) <| sd_bipush dX9_tellings_46 rfl <| sd_iload_n dX9_tellings_48 rfl <| sd_imul dX9_tellings_49 <| sd_iconst dX9_tellings_50 rfl <| sd_aload_n dX9_tellings_51 rfl <| sd_gR flX9_7 dX9_tellings_52 <| sd_iload_n dX9_tellings_55 rfl <| sd_iconst dX9_tellings_56 rfl <| sd_iadd dX9_tellings_57 <| sd_aI dX9_tellings_58 <| sd_imul dX9_tellings_59 <| sd_iadd dX9_tellings_60 <| sd_aload_n dX9_tellings_61 rfl <| sd_gR flX9_7 dX9_tellings_62 <| (sX9_tellings_65 h2)
def bX9_tellings_2 (K2 : Kt Unit) : Kt Unit := o_ild 2 <| o_ald 0 <| o_gR 8 0 <| o_psh (.int 73) <| o_aI <| o_cge (o_fg 0 (o_fg 1 (o_fg 2 bX9_tellings_128))) <| (bX9_tellings_13 K2)
set_option maxRecDepth 100000 in
theorem sX9_tellings_2 {K2 : Kt Unit} (h2 : Sd pX9_tellings ev_v 2 K2) : Sd pX9_tellings ev_v 2 (bX9_tellings_2 K2) := sd_iload_n dX9_tellings_2 rfl <| sd_aload_n dX9_tellings_3 rfl <| sd_gR flX9_7 dX9_tellings_4 <| sd_bipush dX9_tellings_7 rfl <| sd_aI dX9_tellings_9 <| sd_cge (tgt := 128) dX9_tellings_10 (by decide) (sd_fg (i := 0) (sd_fg (i := 1) (sd_fg (i := 2) sX9_tellings_128))) <| (sX9_tellings_13 h2)
def bX9_tellings_0 : Kt Unit := o_psh (.int 0) <| o_ist 2 <| (o_lp (bX9_tellings_2) fu)
set_option maxRecDepth 100000 in
theorem sX9_tellings_0 : Sd pX9_tellings ev_v 0 (bX9_tellings_0) := sd_iconst dX9_tellings_0 rfl <| sd_istore_n dX9_tellings_1 rfl (by decide) <| (sd_lp (fun K h => sX9_tellings_2 h) fu)
def fX9_tellings : Mt Unit := mk_f 6 bX9_tellings_0
theorem tX9_tellings : Ct ev_v yX9_tellings cX9_tellings 6 none 0 0 fX9_tellings := ct_of (by decide +kernel) sX9_tellings_0
abbrev pX9_hoursGo : Px := (cX9_hoursGo, 5, RX9, "hoursGo", none, 3, 67, fun _ => True)
def bX9_hoursGo_219 : Kt Unit := o_rV
set_option maxRecDepth 100000 in
theorem sX9_hoursGo_219 : Sd pX9_hoursGo ev_v 219 (bX9_hoursGo_219) := (sd_rV rfl dX9_hoursGo_219)
def bX9_hoursGo_208 (K2 : Kt Unit) : Kt Unit := o_ald 0 <| o_ild 1 <| o_vc ev_v 8 2 fX9_tellings <| o_inc 1 1 <| K2
set_option maxRecDepth 100000 in
theorem sX9_hoursGo_208 {K2 : Kt Unit} (h2 : Sd pX9_hoursGo ev_v 2 K2) : Sd pX9_hoursGo ev_v 208 (bX9_hoursGo_208 K2) := sd_aload_n dX9_hoursGo_208 rfl <| sd_iload_n dX9_hoursGo_209 rfl <| sd_vc tX9_tellings (fun _ _ => rfl) rfl mwX9_tellings mvX9_tellings tw_705 (by decide) dX9_hoursGo_210 <| sd_iinc dX9_hoursGo_213 rfl (by decide) <| (sd_goto (tgt := 2) dX9_hoursGo_216 (by decide) h2)
def bX9_hoursGo_206 (K2 : Kt Unit) : Kt Unit := o_psh (.int 0) <| o_sI <| (bX9_hoursGo_208 K2)
set_option maxRecDepth 100000 in
theorem sX9_hoursGo_206 {K2 : Kt Unit} (h2 : Sd pX9_hoursGo ev_v 2 K2) : Sd pX9_hoursGo ev_v 206 (bX9_hoursGo_206 K2) := sd_iconst dX9_hoursGo_206 rfl <| sd_sI dX9_hoursGo_207 <| (sX9_hoursGo_208 h2)
def bX9_hoursGo_150 (K2 : Kt Unit) : Kt Unit := o_ald 0 <| o_gR 8 0 <| o_psh (.int 5) <| o_ald 0 <| o_ild 1 <| o_vc ev_i 8 2 fX9_hasIt <| o_i2 o_add <| o_aI <| o_ist 2 <| o_ald 0 <| o_gR 8 20 <| o_psh (.int 15) <| o_ild 1 <| o_i2 o_mul <| o_psh (.int 3) <| o_ald 0 <| o_ild 1 <| o_vc ev_i 8 2 fX9_hasIt <| o_i2 o_mul <| o_i2 o_add <| o_ild 2 <| o_i2 o_add <| o_ald 0 <| o_ild 2 <| o_ild 1 <| o_vc ev_i 8 3 fX9_valueAt <| o_sI <| o_ald 0 <| o_gR 8 21 <| o_psh (.int 15) <| o_ild 1 <| o_i2 o_mul <| o_psh (.int 3) <| o_ald 0 <| o_ild 1 <| o_vc ev_i 8 2 fX9_hasIt <| o_i2 o_mul <| o_i2 o_add <| o_ild 2 <| o_i2 o_add <| (o_fg 2 (bX9_hoursGo_206 K2))
set_option maxRecDepth 100000 in
theorem sX9_hoursGo_150 {K2 : Kt Unit} (h2 : Sd pX9_hoursGo ev_v 2 K2) : Sd pX9_hoursGo ev_v 150 (bX9_hoursGo_150 K2) := sd_aload_n dX9_hoursGo_150 rfl <| sd_gR flX9_7 dX9_hoursGo_151 <| sd_iconst dX9_hoursGo_154 rfl <| sd_aload_n dX9_hoursGo_155 rfl <| sd_iload_n dX9_hoursGo_156 rfl <| sd_vc tX9_hasIt (fun _ _ => rfl) rfl mwX9_hasIt mvX9_hasIt tw_689 (by decide) dX9_hoursGo_157 <| sd_iadd dX9_hoursGo_160 <| sd_aI dX9_hoursGo_161 <| sd_istore_n dX9_hoursGo_162 rfl (by decide) <| sd_aload_n dX9_hoursGo_163 rfl <| sd_gR flX9_28 dX9_hoursGo_164 <| sd_bipush dX9_hoursGo_167 rfl <| sd_iload_n dX9_hoursGo_169 rfl <| sd_imul dX9_hoursGo_170 <| sd_iconst dX9_hoursGo_171 rfl <| sd_aload_n dX9_hoursGo_172 rfl <| sd_iload_n dX9_hoursGo_173 rfl <| sd_vc tX9_hasIt (fun _ _ => rfl) rfl mwX9_hasIt mvX9_hasIt tw_689 (by decide) dX9_hoursGo_174 <| sd_imul dX9_hoursGo_177 <| sd_iadd dX9_hoursGo_178 <| sd_iload_n dX9_hoursGo_179 rfl <| sd_iadd dX9_hoursGo_180 <| sd_aload_n dX9_hoursGo_181 rfl <| sd_iload_n dX9_hoursGo_182 rfl <| sd_iload_n dX9_hoursGo_183 rfl <| sd_vc tX9_valueAt (fun _ _ => rfl) rfl mwX9_valueAt mvX9_valueAt tw_701 (by decide) dX9_hoursGo_184 <| sd_sI dX9_hoursGo_187 <| sd_aload_n dX9_hoursGo_188 rfl <| sd_gR flX9_31 dX9_hoursGo_189 <| sd_bipush dX9_hoursGo_192 rfl <| sd_iload_n dX9_hoursGo_194 rfl <| sd_imul dX9_hoursGo_195 <| sd_iconst dX9_hoursGo_196 rfl <| sd_aload_n dX9_hoursGo_197 rfl <| sd_iload_n dX9_hoursGo_198 rfl <| sd_vc tX9_hasIt (fun _ _ => rfl) rfl mwX9_hasIt mvX9_hasIt tw_689 (by decide) dX9_hoursGo_199 <| sd_imul dX9_hoursGo_202 <| sd_iadd dX9_hoursGo_203 <| sd_iload_n dX9_hoursGo_204 rfl <| sd_iadd dX9_hoursGo_205 <| (sd_fg (i := 2) (sX9_hoursGo_206 h2))
def bX9_hoursGo_142 (K2 : Kt Unit) : Kt Unit := o_ald 0 <| o_ild 1 <| o_vc ev_i 8 2 fX9_doesSee <| o_zeq (bX9_hoursGo_208 K2) <| (bX9_hoursGo_150 K2)
set_option maxRecDepth 100000 in
theorem sX9_hoursGo_142 {K2 : Kt Unit} (h2 : Sd pX9_hoursGo ev_v 2 K2) : Sd pX9_hoursGo ev_v 142 (bX9_hoursGo_142 K2) := sd_aload_n dX9_hoursGo_142 rfl <| sd_iload_n dX9_hoursGo_143 rfl <| sd_vc tX9_doesSee (fun _ _ => rfl) rfl mwX9_doesSee mvX9_doesSee tw_697 (by decide) dX9_hoursGo_144 <| sd_zeq (tgt := 208) dX9_hoursGo_147 (by decide) (sX9_hoursGo_208 h2) <| (sX9_hoursGo_150 h2)
def bX9_hoursGo_135 (K2 : Kt Unit) (K10 : Kt Unit) : Kt Unit := o_sI <| o_inc 2 1 <| K10
set_option maxRecDepth 100000 in
theorem sX9_hoursGo_135 {K2 : Kt Unit} (h2 : Sd pX9_hoursGo ev_v 2 K2) {K10 : Kt Unit} (h10 : Sd pX9_hoursGo ev_v 10 K10) : Sd pX9_hoursGo ev_v 135 (bX9_hoursGo_135 K2 K10) := sd_sI dX9_hoursGo_135 <| sd_iinc dX9_hoursGo_136 rfl (by decide) <| (sd_goto (tgt := 10) dX9_hoursGo_139 (by decide) h10)
def bX9_hoursGo_134 (K2 : Kt Unit) (K10 : Kt Unit) : Kt Unit := o_psh (.int 0) <| (bX9_hoursGo_135 K2 K10)
set_option maxRecDepth 100000 in
theorem sX9_hoursGo_134 {K2 : Kt Unit} (h2 : Sd pX9_hoursGo ev_v 2 K2) {K10 : Kt Unit} (h10 : Sd pX9_hoursGo ev_v 10 K10) : Sd pX9_hoursGo ev_v 134 (bX9_hoursGo_134 K2 K10) := sd_iconst dX9_hoursGo_134 rfl <| (sX9_hoursGo_135 h2 h10)
def bX9_hoursGo_120 (K2 : Kt Unit) (K10 : Kt Unit) : Kt Unit := o_ald 0 <| o_gR 8 21 <| o_ild 3 <| o_psh (.int 15) <| o_i2 o_sub <| o_aI <| o_psh (.int 1) <| o_i2 o_add <| (o_fg 3 (bX9_hoursGo_135 K2 K10))
set_option maxRecDepth 100000 in
theorem sX9_hoursGo_120 {K2 : Kt Unit} (h2 : Sd pX9_hoursGo ev_v 2 K2) {K10 : Kt Unit} (h10 : Sd pX9_hoursGo ev_v 10 K10) : Sd pX9_hoursGo ev_v 120 (bX9_hoursGo_120 K2 K10) := sd_aload_n dX9_hoursGo_120 rfl <| sd_gR flX9_31 dX9_hoursGo_121 <| sd_iload_n dX9_hoursGo_124 rfl <| sd_bipush dX9_hoursGo_125 rfl <| sd_isub dX9_hoursGo_127 <| sd_aI dX9_hoursGo_128 <| sd_iconst dX9_hoursGo_129 rfl <| sd_iadd dX9_hoursGo_130 <| (sd_goto (tgt := 135) dX9_hoursGo_131 (by decide) (sd_fg (i := 3) (sX9_hoursGo_135 h2 h10)))
def bX9_hoursGo_109 (K2 : Kt Unit) (K10 : Kt Unit) : Kt Unit := o_sI <| o_ald 0 <| o_gR 8 21 <| o_ild 3 <| o_ild 4 <| o_zeq (o_fg 3 (o_fg 4 (bX9_hoursGo_134 K2 K10))) <| (o_fg 4 (bX9_hoursGo_120 K2 K10))
set_option maxRecDepth 100000 in
theorem sX9_hoursGo_109 {K2 : Kt Unit} (h2 : Sd pX9_hoursGo ev_v 2 K2) {K10 : Kt Unit} (h10 : Sd pX9_hoursGo ev_v 10 K10) : Sd pX9_hoursGo ev_v 109 (bX9_hoursGo_109 K2 K10) := sd_sI dX9_hoursGo_109 <| sd_aload_n dX9_hoursGo_110 rfl <| sd_gR flX9_31 dX9_hoursGo_111 <| sd_iload_n dX9_hoursGo_114 rfl <| sd_iload dX9_hoursGo_115 <| sd_zeq (tgt := 134) dX9_hoursGo_117 (by decide) (sd_fg (i := 3) (sd_fg (i := 4) (sX9_hoursGo_134 h2 h10))) <| (sd_fg (i := 4) (sX9_hoursGo_120 h2 h10))
def bX9_hoursGo_107 (K2 : Kt Unit) (K10 : Kt Unit) : Kt Unit := o_psh (.int (-4)) <| (bX9_hoursGo_109 K2 K10)
set_option maxRecDepth 100000 in
theorem sX9_hoursGo_107 {K2 : Kt Unit} (h2 : Sd pX9_hoursGo ev_v 2 K2) {K10 : Kt Unit} (h10 : Sd pX9_hoursGo ev_v 10 K10) : Sd pX9_hoursGo ev_v 107 (bX9_hoursGo_107 K2 K10) := sd_bipush dX9_hoursGo_107 rfl <| (sX9_hoursGo_109 h2 h10)
def bX9_hoursGo_95 (K2 : Kt Unit) (K10 : Kt Unit) : Kt Unit := o_ald 0 <| o_gR 8 20 <| o_ild 3 <| o_psh (.int 15) <| o_i2 o_sub <| o_aI <| (bX9_hoursGo_109 K2 K10)
set_option maxRecDepth 100000 in
theorem sX9_hoursGo_95 {K2 : Kt Unit} (h2 : Sd pX9_hoursGo ev_v 2 K2) {K10 : Kt Unit} (h10 : Sd pX9_hoursGo ev_v 10 K10) : Sd pX9_hoursGo ev_v 95 (bX9_hoursGo_95 K2 K10) := sd_aload_n dX9_hoursGo_95 rfl <| sd_gR flX9_28 dX9_hoursGo_96 <| sd_iload_n dX9_hoursGo_99 rfl <| sd_bipush dX9_hoursGo_100 rfl <| sd_isub dX9_hoursGo_102 <| sd_aI dX9_hoursGo_103 <| (sd_goto (tgt := 109) dX9_hoursGo_104 (by decide) (sX9_hoursGo_109 h2 h10))
def bX9_hoursGo_83 (K2 : Kt Unit) (K10 : Kt Unit) : Kt Unit := o_ist 4 <| o_ald 0 <| o_gR 8 20 <| o_ild 3 <| o_ild 4 <| o_zeq (bX9_hoursGo_107 K2 K10) <| (bX9_hoursGo_95 K2 K10)
set_option maxRecDepth 100000 in
theorem sX9_hoursGo_83 {K2 : Kt Unit} (h2 : Sd pX9_hoursGo ev_v 2 K2) {K10 : Kt Unit} (h10 : Sd pX9_hoursGo ev_v 10 K10) : Sd pX9_hoursGo ev_v 83 (bX9_hoursGo_83 K2 K10) := sd_istore dX9_hoursGo_83 (by decide) <| sd_aload_n dX9_hoursGo_85 rfl <| sd_gR flX9_28 dX9_hoursGo_86 <| sd_iload_n dX9_hoursGo_89 rfl <| sd_iload dX9_hoursGo_90 <| sd_zeq (tgt := 107) dX9_hoursGo_92 (by decide) (sX9_hoursGo_107 h2 h10) <| (sX9_hoursGo_95 h2 h10)
def bX9_hoursGo_82 (K2 : Kt Unit) (K10 : Kt Unit) : Kt Unit := o_psh (.int 0) <| (bX9_hoursGo_83 K2 K10)
set_option maxRecDepth 100000 in
theorem sX9_hoursGo_82 {K2 : Kt Unit} (h2 : Sd pX9_hoursGo ev_v 2 K2) {K10 : Kt Unit} (h10 : Sd pX9_hoursGo ev_v 10 K10) : Sd pX9_hoursGo ev_v 82 (bX9_hoursGo_82 K2 K10) := sd_iconst dX9_hoursGo_82 rfl <| (sX9_hoursGo_83 h2 h10)
def bX9_hoursGo_78 (K2 : Kt Unit) (K10 : Kt Unit) : Kt Unit := o_psh (.int 1) <| (bX9_hoursGo_83 K2 K10)
set_option maxRecDepth 100000 in
theorem sX9_hoursGo_78 {K2 : Kt Unit} (h2 : Sd pX9_hoursGo ev_v 2 K2) {K10 : Kt Unit} (h10 : Sd pX9_hoursGo ev_v 10 K10) : Sd pX9_hoursGo ev_v 78 (bX9_hoursGo_78 K2 K10) := sd_iconst dX9_hoursGo_78 rfl <| (sd_goto (tgt := 83) dX9_hoursGo_79 (by decide) (sX9_hoursGo_83 h2 h10))
def bX9_hoursGo_51 (K2 : Kt Unit) (K10 : Kt Unit) : Kt Unit := o_ald 0 <| o_gR 8 21 <| o_ild 3 <| o_psh (.int 15) <| o_i2 o_sub <| o_aI <| o_psh (.int 1) <| o_i2 o_add <| o_ald 0 <| o_gR 8 1 <| o_ald 0 <| o_gR 8 0 <| o_ild 2 <| o_dvc 3 <| o_aI <| o_aI <| o_cgt (bX9_hoursGo_82 K2 K10) <| (bX9_hoursGo_78 K2 K10)
set_option maxRecDepth 100000 in
theorem sX9_hoursGo_51 {K2 : Kt Unit} (h2 : Sd pX9_hoursGo ev_v 2 K2) {K10 : Kt Unit} (h10 : Sd pX9_hoursGo ev_v 10 K10) : Sd pX9_hoursGo ev_v 51 (bX9_hoursGo_51 K2 K10) := sd_aload_n dX9_hoursGo_51 rfl <| sd_gR flX9_31 dX9_hoursGo_52 <| sd_iload_n dX9_hoursGo_55 rfl <| sd_bipush dX9_hoursGo_56 rfl <| sd_isub dX9_hoursGo_58 <| sd_aI dX9_hoursGo_59 <| sd_iconst dX9_hoursGo_60 rfl <| sd_iadd dX9_hoursGo_61 <| sd_aload_n dX9_hoursGo_62 rfl <| sd_gR flX9_13 dX9_hoursGo_63 <| sd_aload_n dX9_hoursGo_66 rfl <| sd_gR flX9_7 dX9_hoursGo_67 <| sd_iload_n dX9_hoursGo_70 rfl <| sd_dvc (by decide) <| sd_iconst dX9_hoursGo_71 rfl <| sd_idiv dX9_hoursGo_72 <| sd_aI dX9_hoursGo_73 <| sd_aI dX9_hoursGo_74 <| sd_cgt (tgt := 82) dX9_hoursGo_75 (by decide) (sX9_hoursGo_82 h2 h10) <| (sX9_hoursGo_78 h2 h10)
def bX9_hoursGo_37 (K2 : Kt Unit) (K10 : Kt Unit) : Kt Unit := o_ald 0 <| o_gR 8 20 <| o_ild 3 <| o_psh (.int 15) <| o_i2 o_sub <| o_aI <| o_psh (.int (-4)) <| o_ceq (bX9_hoursGo_82 K2 K10) <| (bX9_hoursGo_51 K2 K10)
set_option maxRecDepth 100000 in
theorem sX9_hoursGo_37 {K2 : Kt Unit} (h2 : Sd pX9_hoursGo ev_v 2 K2) {K10 : Kt Unit} (h10 : Sd pX9_hoursGo ev_v 10 K10) : Sd pX9_hoursGo ev_v 37 (bX9_hoursGo_37 K2 K10) := sd_aload_n dX9_hoursGo_37 rfl <| sd_gR flX9_28 dX9_hoursGo_38 <| sd_iload_n dX9_hoursGo_41 rfl <| sd_bipush dX9_hoursGo_42 rfl <| sd_isub dX9_hoursGo_44 <| sd_aI dX9_hoursGo_45 <| sd_bipush dX9_hoursGo_46 rfl <| sd_ceq (tgt := 82) dX9_hoursGo_48 (by decide) (sX9_hoursGo_82 h2 h10) <| (sX9_hoursGo_51 h2 h10)
def bX9_hoursGo_27 (K2 : Kt Unit) (K10 : Kt Unit) : Kt Unit := o_ild 2 <| o_dvc 3 <| o_ald 0 <| o_gI 8 2 <| o_cge (bX9_hoursGo_82 K2 K10) <| (bX9_hoursGo_37 K2 K10)
set_option maxRecDepth 100000 in
theorem sX9_hoursGo_27 {K2 : Kt Unit} (h2 : Sd pX9_hoursGo ev_v 2 K2) {K10 : Kt Unit} (h10 : Sd pX9_hoursGo ev_v 10 K10) : Sd pX9_hoursGo ev_v 27 (bX9_hoursGo_27 K2 K10) := sd_iload_n dX9_hoursGo_27 rfl <| sd_dvc (by decide) <| sd_iconst dX9_hoursGo_28 rfl <| sd_idiv dX9_hoursGo_29 <| sd_aload_n dX9_hoursGo_30 rfl <| sd_gI flX9_154 dX9_hoursGo_31 <| sd_cge (tgt := 82) dX9_hoursGo_34 (by decide) (sX9_hoursGo_82 h2 h10) <| (sX9_hoursGo_37 h2 h10)
def bX9_hoursGo_16 (K2 : Kt Unit) (K10 : Kt Unit) : Kt Unit := o_psh (.int 15) <| o_ild 1 <| o_i2 o_mul <| o_ild 2 <| o_i2 o_add <| o_ist 3 <| o_ild 1 <| o_zle (bX9_hoursGo_82 K2 K10) <| (bX9_hoursGo_27 K2 K10)
set_option maxRecDepth 100000 in
theorem sX9_hoursGo_16 {K2 : Kt Unit} (h2 : Sd pX9_hoursGo ev_v 2 K2) {K10 : Kt Unit} (h10 : Sd pX9_hoursGo ev_v 10 K10) : Sd pX9_hoursGo ev_v 16 (bX9_hoursGo_16 K2 K10) := sd_bipush dX9_hoursGo_16 rfl <| sd_iload_n dX9_hoursGo_18 rfl <| sd_imul dX9_hoursGo_19 <| sd_iload_n dX9_hoursGo_20 rfl <| sd_iadd dX9_hoursGo_21 <| sd_istore_n dX9_hoursGo_22 rfl (by decide) <| sd_iload_n dX9_hoursGo_23 rfl <| sd_zle (tgt := 82) dX9_hoursGo_24 (by decide) (sX9_hoursGo_82 h2 h10) <| (sX9_hoursGo_27 h2 h10)
def bX9_hoursGo_10 (K2 : Kt Unit) (K10 : Kt Unit) : Kt Unit := o_ild 2 <| o_psh (.int 15) <| o_cge (o_fg 2 (bX9_hoursGo_142 K2)) <| (bX9_hoursGo_16 K2 K10)
set_option maxRecDepth 100000 in
theorem sX9_hoursGo_10 {K2 : Kt Unit} (h2 : Sd pX9_hoursGo ev_v 2 K2) {K10 : Kt Unit} (h10 : Sd pX9_hoursGo ev_v 10 K10) : Sd pX9_hoursGo ev_v 10 (bX9_hoursGo_10 K2 K10) := sd_iload_n dX9_hoursGo_10 rfl <| sd_bipush dX9_hoursGo_11 rfl <| sd_cge (tgt := 142) dX9_hoursGo_13 (by decide) (sd_fg (i := 2) (sX9_hoursGo_142 h2)) <| (sX9_hoursGo_16 h2 h10)
def bX9_hoursGo_8 (K2 : Kt Unit) : Kt Unit := o_psh (.int 0) <| o_ist 2 <| (o_lp (bX9_hoursGo_10 K2) fu)
set_option maxRecDepth 100000 in
theorem sX9_hoursGo_8 {K2 : Kt Unit} (h2 : Sd pX9_hoursGo ev_v 2 K2) : Sd pX9_hoursGo ev_v 8 (bX9_hoursGo_8 K2) := sd_iconst dX9_hoursGo_8 rfl <| sd_istore_n dX9_hoursGo_9 rfl (by decide) <| (sd_lp (fun K h => sX9_hoursGo_10 h2 h) fu)
def bX9_hoursGo_2 (K2 : Kt Unit) : Kt Unit := o_ild 1 <| o_psh (.int 10) <| o_cge (o_fg 0 (o_fg 1 bX9_hoursGo_219)) <| (bX9_hoursGo_8 K2)
set_option maxRecDepth 100000 in
theorem sX9_hoursGo_2 {K2 : Kt Unit} (h2 : Sd pX9_hoursGo ev_v 2 K2) : Sd pX9_hoursGo ev_v 2 (bX9_hoursGo_2 K2) := sd_iload_n dX9_hoursGo_2 rfl <| sd_bipush dX9_hoursGo_3 rfl <| sd_cge (tgt := 219) dX9_hoursGo_5 (by decide) (sd_fg (i := 0) (sd_fg (i := 1) sX9_hoursGo_219)) <| (sX9_hoursGo_8 h2)
def bX9_hoursGo_0 : Kt Unit := o_psh (.int 0) <| o_ist 1 <| (o_lp (bX9_hoursGo_2) fu)
set_option maxRecDepth 100000 in
theorem sX9_hoursGo_0 : Sd pX9_hoursGo ev_v 0 (bX9_hoursGo_0) := sd_iconst dX9_hoursGo_0 rfl <| sd_istore_n dX9_hoursGo_1 rfl (by decide) <| (sd_lp (fun K h => sX9_hoursGo_2 h) fu)
def fX9_hoursGo : Mt Unit := mk_f 5 bX9_hoursGo_0
theorem tX9_hoursGo : Ct ev_v yX9_hoursGo cX9_hoursGo 5 none 3 67 fX9_hoursGo := ct_of (by decide +kernel) sX9_hoursGo_0
abbrev pX9_hoursOf : Px := (cX9_hoursOf, 5, RX9, "hoursOf", (some .int), 3, 67, fun _ => True)
def bX9_hoursOf_67 : Kt Int32 := o_ild 3 <| o_rI
set_option maxRecDepth 100000 in
theorem sX9_hoursOf_67 : Sd pX9_hoursOf ev_i 67 (bX9_hoursOf_67) := sd_iload_n dX9_hoursOf_67 rfl <| (sd_rI rfl dX9_hoursOf_68)
def bX9_hoursOf_59 (K5 : Kt Int32) : Kt Int32 := o_i2 o_or <| o_ist 3 <| o_inc 4 1 <| K5
set_option maxRecDepth 100000 in
theorem sX9_hoursOf_59 {K5 : Kt Int32} (h5 : Sd pX9_hoursOf ev_i 5 K5) : Sd pX9_hoursOf ev_i 59 (bX9_hoursOf_59 K5) := sd_ior dX9_hoursOf_59 <| sd_istore_n dX9_hoursOf_60 rfl (by decide) <| sd_iinc dX9_hoursOf_61 rfl (by decide) <| (sd_goto (tgt := 5) dX9_hoursOf_64 (by decide) h5)
def bX9_hoursOf_58 (K5 : Kt Int32) : Kt Int32 := o_psh (.int 0) <| (bX9_hoursOf_59 K5)
set_option maxRecDepth 100000 in
theorem sX9_hoursOf_58 {K5 : Kt Int32} (h5 : Sd pX9_hoursOf ev_i 5 K5) : Sd pX9_hoursOf ev_i 58 (bX9_hoursOf_58 K5) := sd_iconst dX9_hoursOf_58 rfl <| (sX9_hoursOf_59 h5)
def bX9_hoursOf_51 (K5 : Kt Int32) : Kt Int32 := o_psh (.int 1) <| o_ild 4 <| o_i2 o_shl <| (bX9_hoursOf_59 K5)
set_option maxRecDepth 100000 in
theorem sX9_hoursOf_51 {K5 : Kt Int32} (h5 : Sd pX9_hoursOf ev_i 5 K5) : Sd pX9_hoursOf ev_i 51 (bX9_hoursOf_51 K5) := sd_iconst dX9_hoursOf_51 rfl <| sd_iload dX9_hoursOf_52 <| sd_ishl dX9_hoursOf_54 <| (sd_goto (tgt := 59) dX9_hoursOf_55 (by decide) (sX9_hoursOf_59 h5))
def bX9_hoursOf_42 (K5 : Kt Int32) : Kt Int32 := o_ald 0 <| o_ild 4 <| o_vc ev_i 8 2 fX9_doesSee <| o_zeq (bX9_hoursOf_58 K5) <| (bX9_hoursOf_51 K5)
set_option maxRecDepth 100000 in
theorem sX9_hoursOf_42 {K5 : Kt Int32} (h5 : Sd pX9_hoursOf ev_i 5 K5) : Sd pX9_hoursOf ev_i 42 (bX9_hoursOf_42 K5) := sd_aload_n dX9_hoursOf_42 rfl <| sd_iload dX9_hoursOf_43 <| sd_vc tX9_doesSee (fun _ _ => rfl) rfl mwX9_doesSee mvX9_doesSee tw_697 (by decide) dX9_hoursOf_45 <| sd_zeq (tgt := 58) dX9_hoursOf_48 (by decide) (sX9_hoursOf_58 h5) <| (sX9_hoursOf_51 h5)
def bX9_hoursOf_38 (K5 : Kt Int32) : Kt Int32 := o_ild 2 <| o_zeq (bX9_hoursOf_51 K5) <| (bX9_hoursOf_42 K5)
set_option maxRecDepth 100000 in
theorem sX9_hoursOf_38 {K5 : Kt Int32} (h5 : Sd pX9_hoursOf ev_i 5 K5) : Sd pX9_hoursOf ev_i 38 (bX9_hoursOf_38 K5) := sd_iload_n dX9_hoursOf_38 rfl <| sd_zeq (tgt := 51) dX9_hoursOf_39 (by decide) (sX9_hoursOf_51 h5) <| (sX9_hoursOf_42 h5)
def bX9_hoursOf_28 (K5 : Kt Int32) : Kt Int32 := o_ald 0 <| o_ild 4 <| o_vc ev_i 8 2 fX9_hasIt <| o_ild 1 <| o_cne (bX9_hoursOf_58 K5) <| (bX9_hoursOf_38 K5)
set_option maxRecDepth 100000 in
theorem sX9_hoursOf_28 {K5 : Kt Int32} (h5 : Sd pX9_hoursOf ev_i 5 K5) : Sd pX9_hoursOf ev_i 28 (bX9_hoursOf_28 K5) := sd_aload_n dX9_hoursOf_28 rfl <| sd_iload dX9_hoursOf_29 <| sd_vc tX9_hasIt (fun _ _ => rfl) rfl mwX9_hasIt mvX9_hasIt tw_689 (by decide) dX9_hoursOf_31 <| sd_iload_n dX9_hoursOf_34 rfl <| sd_cne (tgt := 58) dX9_hoursOf_35 (by decide) (sX9_hoursOf_58 h5) <| (sX9_hoursOf_38 h5)
def bX9_hoursOf_22 (K5 : Kt Int32) : Kt Int32 := o_ild 1 <| o_psh (.int (-4)) <| o_ceq (bX9_hoursOf_38 K5) <| (bX9_hoursOf_28 K5)
set_option maxRecDepth 100000 in
theorem sX9_hoursOf_22 {K5 : Kt Int32} (h5 : Sd pX9_hoursOf ev_i 5 K5) : Sd pX9_hoursOf ev_i 22 (bX9_hoursOf_22 K5) := sd_iload_n dX9_hoursOf_22 rfl <| sd_bipush dX9_hoursOf_23 rfl <| sd_ceq (tgt := 38) dX9_hoursOf_25 (by decide) (sX9_hoursOf_38 h5) <| (sX9_hoursOf_28 h5)
def bX9_hoursOf_12 (K5 : Kt Int32) : Kt Int32 := o_ild 3 <| o_ald 0 <| o_ild 4 <| o_vc ev_i 8 2 fX9_hasIt <| o_zlt (o_fg 3 (bX9_hoursOf_58 K5)) <| (o_fg 3 (bX9_hoursOf_22 K5))
set_option maxRecDepth 100000 in
theorem sX9_hoursOf_12 {K5 : Kt Int32} (h5 : Sd pX9_hoursOf ev_i 5 K5) : Sd pX9_hoursOf ev_i 12 (bX9_hoursOf_12 K5) := sd_iload_n dX9_hoursOf_12 rfl <| sd_aload_n dX9_hoursOf_13 rfl <| sd_iload dX9_hoursOf_14 <| sd_vc tX9_hasIt (fun _ _ => rfl) rfl mwX9_hasIt mvX9_hasIt tw_689 (by decide) dX9_hoursOf_16 <| sd_zlt (tgt := 58) dX9_hoursOf_19 (by decide) (sd_fg (i := 3) (sX9_hoursOf_58 h5)) <| (sd_fg (i := 3) (sX9_hoursOf_22 h5))
def bX9_hoursOf_5 (K5 : Kt Int32) : Kt Int32 := o_ild 4 <| o_psh (.int 10) <| o_cge (o_fg 0 (o_fg 1 (o_fg 2 (o_fg 4 bX9_hoursOf_67)))) <| (bX9_hoursOf_12 K5)
set_option maxRecDepth 100000 in
theorem sX9_hoursOf_5 {K5 : Kt Int32} (h5 : Sd pX9_hoursOf ev_i 5 K5) : Sd pX9_hoursOf ev_i 5 (bX9_hoursOf_5 K5) := sd_iload dX9_hoursOf_5 <| sd_bipush dX9_hoursOf_7 rfl <| sd_cge (tgt := 67) dX9_hoursOf_9 (by decide) (sd_fg (i := 0) (sd_fg (i := 1) (sd_fg (i := 2) (sd_fg (i := 4) sX9_hoursOf_67)))) <| (sX9_hoursOf_12 h5)
def bX9_hoursOf_0 : Kt Int32 := o_psh (.int 0) <| o_ist 3 <| o_psh (.int 0) <| o_ist 4 <| (o_lp (bX9_hoursOf_5) fu)
set_option maxRecDepth 100000 in
theorem sX9_hoursOf_0 : Sd pX9_hoursOf ev_i 0 (bX9_hoursOf_0) := sd_iconst dX9_hoursOf_0 rfl <| sd_istore_n dX9_hoursOf_1 rfl (by decide) <| sd_iconst dX9_hoursOf_2 rfl <| sd_istore dX9_hoursOf_3 (by decide) <| (sd_lp (fun K h => sX9_hoursOf_5 h) fu)
def fX9_hoursOf : Mt Int32 := mk_f 5 bX9_hoursOf_0
theorem tX9_hoursOf : Ct ev_i yX9_hoursOf cX9_hoursOf 5 (some .int) 3 67 fX9_hoursOf := ct_of (by decide +kernel) sX9_hoursOf_0
abbrev pX9_rule : Px := (cX9_rule, 2, RX9, "rule", (some .int), 4, 91, fun _ => True)
def bX9_rule_82 : Kt Int32 := o_psh (.int (-1)) <| o_rI
set_option maxRecDepth 100000 in
theorem sX9_rule_82 : Sd pX9_rule ev_i 82 (bX9_rule_82) := sd_iconst dX9_rule_82 rfl <| (sd_rI rfl dX9_rule_83)
def bX9_rule_77 : Kt Int32 := o_ald 0 <| o_vc ev_i 8 1 fX9_seeing <| o_rI
set_option maxRecDepth 100000 in
theorem sX9_rule_77 : Sd pX9_rule ev_i 77 (bX9_rule_77) := sd_aload_n dX9_rule_77 rfl <| sd_vc tX9_seeing (fun _ _ => rfl) rfl mwX9_seeing mvX9_seeing tw_713 (by decide) dX9_rule_78 <| (sd_rI rfl dX9_rule_81)
def bX9_rule_69 : Kt Int32 := o_ald 0 <| o_psh (.int (-4)) <| o_psh (.int 0) <| o_vc ev_i 8 3 fX9_hoursOf <| o_rI
set_option maxRecDepth 100000 in
theorem sX9_rule_69 : Sd pX9_rule ev_i 69 (bX9_rule_69) := sd_aload_n dX9_rule_69 rfl <| sd_bipush dX9_rule_70 rfl <| sd_iconst dX9_rule_72 rfl <| sd_vc tX9_hoursOf (fun _ _ => rfl) rfl mwX9_hoursOf mvX9_hoursOf tw_709 (by decide) dX9_rule_73 <| (sd_rI rfl dX9_rule_76)
def bX9_rule_61 : Kt Int32 := o_ald 0 <| o_gR 8 0 <| o_psh (.int 73) <| o_aI <| o_rI
set_option maxRecDepth 100000 in
theorem sX9_rule_61 : Sd pX9_rule ev_i 61 (bX9_rule_61) := sd_aload_n dX9_rule_61 rfl <| sd_gR flX9_7 dX9_rule_62 <| sd_bipush dX9_rule_65 rfl <| sd_aI dX9_rule_67 <| (sd_rI rfl dX9_rule_68)
def bX9_rule_53 : Kt Int32 := o_ald 0 <| o_gR 8 0 <| o_psh (.int 56) <| o_aI <| o_rI
set_option maxRecDepth 100000 in
theorem sX9_rule_53 : Sd pX9_rule ev_i 53 (bX9_rule_53) := sd_aload_n dX9_rule_53 rfl <| sd_gR flX9_7 dX9_rule_54 <| sd_bipush dX9_rule_57 rfl <| sd_aI dX9_rule_59 <| (sd_rI rfl dX9_rule_60)
def bX9_rule_45 : Kt Int32 := o_ald 0 <| o_gR 8 0 <| o_psh (.int 25) <| o_aI <| o_rI
set_option maxRecDepth 100000 in
theorem sX9_rule_45 : Sd pX9_rule ev_i 45 (bX9_rule_45) := sd_aload_n dX9_rule_45 rfl <| sd_gR flX9_7 dX9_rule_46 <| sd_bipush dX9_rule_49 rfl <| sd_aI dX9_rule_51 <| (sd_rI rfl dX9_rule_52)
def bX9_rule_40 : Kt Int32 := o_ald 0 <| o_gI 8 2 <| o_rI
set_option maxRecDepth 100000 in
theorem sX9_rule_40 : Sd pX9_rule ev_i 40 (bX9_rule_40) := sd_aload_n dX9_rule_40 rfl <| sd_gI flX9_154 dX9_rule_41 <| (sd_rI rfl dX9_rule_44)
def bX9_rule_0 : Kt Int32 := o_ild 1 <| o_sw [(0, (o_fg 1 bX9_rule_40)), (1, (o_fg 1 bX9_rule_45)), (2, (o_fg 1 bX9_rule_53)), (3, (o_fg 1 bX9_rule_61)), (4, (o_fg 1 bX9_rule_69)), (5, (o_fg 1 bX9_rule_77))] (o_fg 0 (o_fg 1 bX9_rule_82))
set_option maxRecDepth 100000 in
theorem sX9_rule_0 : Sd pX9_rule ev_i 0 (bX9_rule_0) := sd_iload_n dX9_rule_0 rfl <| (sd_tsw (td := 82) dX9_rule_1 (by decide) rfl (sd_fg (i := 0) (sd_fg (i := 1) sX9_rule_82)) ⟨⟨rfl, 40, by decide, (sd_fg (i := 1) sX9_rule_40)⟩, ⟨rfl, 45, by decide, (sd_fg (i := 1) sX9_rule_45)⟩, ⟨rfl, 53, by decide, (sd_fg (i := 1) sX9_rule_53)⟩, ⟨rfl, 61, by decide, (sd_fg (i := 1) sX9_rule_61)⟩, ⟨rfl, 69, by decide, (sd_fg (i := 1) sX9_rule_69)⟩, ⟨rfl, 77, by decide, (sd_fg (i := 1) sX9_rule_77)⟩, trivial⟩)
def fX9_rule : Mt Int32 := mk_f 2 bX9_rule_0
theorem tX9_rule : Ct ev_i yX9_rule cX9_rule 2 (some .int) 4 91 fX9_rule := ct_of (by decide +kernel) sX9_rule_0
abbrev pX9_one : Px := (cX9_one, 3, RX9, "one", (some .int), 4, 91, fun _ => True)
def bX9_one_81 : Kt Int32 := o_psh (.int (-1)) <| o_rI
set_option maxRecDepth 100000 in
theorem sX9_one_81 : Sd pX9_one ev_i 81 (bX9_one_81) := sd_iconst dX9_one_81 rfl <| (sd_rI rfl dX9_one_82)
def bX9_one_74 : Kt Int32 := o_ald 0 <| o_ild 1 <| o_psh (.int 1) <| o_vc ev_i 8 3 fX9_hoursOf <| o_rI
set_option maxRecDepth 100000 in
theorem sX9_one_74 : Sd pX9_one ev_i 74 (bX9_one_74) := sd_aload_n dX9_one_74 rfl <| sd_iload_n dX9_one_75 rfl <| sd_iconst dX9_one_76 rfl <| sd_vc tX9_hoursOf (fun _ _ => rfl) rfl mwX9_hoursOf mvX9_hoursOf tw_709 (by decide) dX9_one_77 <| (sd_rI rfl dX9_one_80)
def bX9_one_67 : Kt Int32 := o_ald 0 <| o_ild 1 <| o_psh (.int 0) <| o_vc ev_i 8 3 fX9_hoursOf <| o_rI
set_option maxRecDepth 100000 in
theorem sX9_one_67 : Sd pX9_one ev_i 67 (bX9_one_67) := sd_aload_n dX9_one_67 rfl <| sd_iload_n dX9_one_68 rfl <| sd_iconst dX9_one_69 rfl <| sd_vc tX9_hoursOf (fun _ _ => rfl) rfl mwX9_hoursOf mvX9_hoursOf tw_709 (by decide) dX9_one_70 <| (sd_rI rfl dX9_one_73)
def bX9_one_55 : Kt Int32 := o_ald 0 <| o_gR 8 1 <| o_ald 0 <| o_gR 8 0 <| o_ild 1 <| o_aI <| o_aI <| o_rI
set_option maxRecDepth 100000 in
theorem sX9_one_55 : Sd pX9_one ev_i 55 (bX9_one_55) := sd_aload_n dX9_one_55 rfl <| sd_gR flX9_13 dX9_one_56 <| sd_aload_n dX9_one_59 rfl <| sd_gR flX9_7 dX9_one_60 <| sd_iload_n dX9_one_63 rfl <| sd_aI dX9_one_64 <| sd_aI dX9_one_65 <| (sd_rI rfl dX9_one_66)
def bX9_one_44 : Kt Int32 := o_ald 0 <| o_gR 8 0 <| o_psh (.int 5) <| o_ild 2 <| o_i2 o_mul <| o_ild 1 <| o_i2 o_add <| o_aI <| o_rI
set_option maxRecDepth 100000 in
theorem sX9_one_44 : Sd pX9_one ev_i 44 (bX9_one_44) := sd_aload_n dX9_one_44 rfl <| sd_gR flX9_7 dX9_one_45 <| sd_iconst dX9_one_48 rfl <| sd_iload_n dX9_one_49 rfl <| sd_imul dX9_one_50 <| sd_iload_n dX9_one_51 rfl <| sd_iadd dX9_one_52 <| sd_aI dX9_one_53 <| (sd_rI rfl dX9_one_54)
def bX9_one_10 : Kt Int32 := o_ild 2 <| o_sw [(0, bX9_one_44), (1, bX9_one_44), (2, (o_fg 2 bX9_one_55)), (3, (o_fg 2 bX9_one_67)), (4, (o_fg 2 bX9_one_74))] (o_fg 0 (o_fg 1 (o_fg 2 bX9_one_81)))
set_option maxRecDepth 100000 in
theorem sX9_one_10 : Sd pX9_one ev_i 10 (bX9_one_10) := sd_iload_n dX9_one_10 rfl <| (sd_tsw (td := 81) dX9_one_11 (by decide) rfl (sd_fg (i := 0) (sd_fg (i := 1) (sd_fg (i := 2) sX9_one_81))) ⟨⟨rfl, 44, by decide, sX9_one_44⟩, ⟨rfl, 44, by decide, sX9_one_44⟩, ⟨rfl, 55, by decide, (sd_fg (i := 2) sX9_one_55)⟩, ⟨rfl, 67, by decide, (sd_fg (i := 2) sX9_one_67)⟩, ⟨rfl, 74, by decide, (sd_fg (i := 2) sX9_one_74)⟩, trivial⟩)
def bX9_one_8 : Kt Int32 := o_psh (.int (-1)) <| o_rI
set_option maxRecDepth 100000 in
theorem sX9_one_8 : Sd pX9_one ev_i 8 (bX9_one_8) := sd_iconst dX9_one_8 rfl <| (sd_rI rfl dX9_one_9)
def bX9_one_0 : Kt Int32 := o_ald 0 <| o_ild 1 <| o_vc ev_i 8 2 fX9_isOne <| o_zne bX9_one_10 <| (o_fg 0 (o_fg 1 (o_fg 2 bX9_one_8)))
set_option maxRecDepth 100000 in
theorem sX9_one_0 : Sd pX9_one ev_i 0 (bX9_one_0) := sd_aload_n dX9_one_0 rfl <| sd_iload_n dX9_one_1 rfl <| sd_vc tX9_isOne (fun _ _ => rfl) rfl mwX9_isOne mvX9_isOne tw_717 (by decide) dX9_one_2 <| sd_zne (tgt := 10) dX9_one_5 (by decide) sX9_one_10 <| (sd_fg (i := 0) (sd_fg (i := 1) (sd_fg (i := 2) sX9_one_8)))
def fX9_one : Mt Int32 := mk_f 3 bX9_one_0
theorem tX9_one : Ct ev_i yX9_one cX9_one 3 (some .int) 4 91 fX9_one := ct_of (by decide +kernel) sX9_one_0
abbrev pX9_thing : Px := (cX9_thing, 3, RX9, "thing", (some .int), 2, 45, fun _ => True)
def bX9_thing_22 : Kt Int32 := o_ald 0 <| o_ild 1 <| o_ild 2 <| o_vc ev_i 8 3 fX9_valueAt <| o_rI
set_option maxRecDepth 100000 in
theorem sX9_thing_22 : Sd pX9_thing ev_i 22 (bX9_thing_22) := sd_aload_n dX9_thing_22 rfl <| sd_iload_n dX9_thing_23 rfl <| sd_iload_n dX9_thing_24 rfl <| sd_vc tX9_valueAt (fun _ _ => rfl) rfl mwX9_valueAt mvX9_valueAt tw_701 (by decide) dX9_thing_25 <| (sd_rI rfl dX9_thing_28)
def bX9_thing_20 : Kt Int32 := o_psh (.int (-1)) <| o_rI
set_option maxRecDepth 100000 in
theorem sX9_thing_20 : Sd pX9_thing ev_i 20 (bX9_thing_20) := sd_iconst dX9_thing_20 rfl <| (sd_rI rfl dX9_thing_21)
def bX9_thing_13 : Kt Int32 := o_ild 2 <| o_sc ev_i 1 fX9_isHour <| o_zne bX9_thing_22 <| (o_fg 0 (o_fg 1 (o_fg 2 bX9_thing_20)))
set_option maxRecDepth 100000 in
theorem sX9_thing_13 : Sd pX9_thing ev_i 13 (bX9_thing_13) := sd_iload_n dX9_thing_13 rfl <| sd_sc tX9_isHour (fun _ _ => rfl) mwX9_isHour mvX9_isHour tw_723 (by decide) dX9_thing_14 <| sd_zne (tgt := 22) dX9_thing_17 (by decide) sX9_thing_22 <| (sd_fg (i := 0) (sd_fg (i := 1) (sd_fg (i := 2) sX9_thing_20)))
def bX9_thing_7 : Kt Int32 := o_ild 2 <| o_psh (.int (-4)) <| o_ceq bX9_thing_22 <| bX9_thing_13
set_option maxRecDepth 100000 in
theorem sX9_thing_7 : Sd pX9_thing ev_i 7 (bX9_thing_7) := sd_iload_n dX9_thing_7 rfl <| sd_bipush dX9_thing_8 rfl <| sd_ceq (tgt := 22) dX9_thing_10 (by decide) sX9_thing_22 <| sX9_thing_13
def bX9_thing_0 : Kt Int32 := o_ild 1 <| o_sc ev_i 1 fX9_isThing <| o_zeq (o_fg 0 (o_fg 1 (o_fg 2 bX9_thing_20))) <| bX9_thing_7
set_option maxRecDepth 100000 in
theorem sX9_thing_0 : Sd pX9_thing ev_i 0 (bX9_thing_0) := sd_iload_n dX9_thing_0 rfl <| sd_sc tX9_isThing (fun _ _ => rfl) mwX9_isThing mvX9_isThing tw_720 (by decide) dX9_thing_1 <| sd_zeq (tgt := 20) dX9_thing_4 (by decide) (sd_fg (i := 0) (sd_fg (i := 1) (sd_fg (i := 2) sX9_thing_20))) <| sX9_thing_7
def fX9_thing : Mt Int32 := mk_f 3 bX9_thing_0
theorem tX9_thing : Ct ev_i yX9_thing cX9_thing 3 (some .int) 2 45 fX9_thing := ct_of (by decide +kernel) sX9_thing_0
abbrev pX9_orNone : Px := (cX9_orNone, 1, RX9, "orNone", (some .int), 0, 0, fun _ => True)
def bX9_orNone_10 : Kt Int32 := o_rI
set_option maxRecDepth 100000 in
theorem sX9_orNone_10 : Sd pX9_orNone ev_i 10 (bX9_orNone_10) := (sd_rI rfl dX9_orNone_10)
def bX9_orNone_9 : Kt Int32 := o_ild 0 <| (o_fg 0 bX9_orNone_10)
set_option maxRecDepth 100000 in
theorem sX9_orNone_9 : Sd pX9_orNone ev_i 9 (bX9_orNone_9) := sd_iload_n dX9_orNone_9 rfl <| (sd_fg (i := 0) sX9_orNone_10)
def bX9_orNone_4 : Kt Int32 := o_psh (.int (-4)) <| bX9_orNone_10
set_option maxRecDepth 100000 in
theorem sX9_orNone_4 : Sd pX9_orNone ev_i 4 (bX9_orNone_4) := sd_bipush dX9_orNone_4 rfl <| (sd_goto (tgt := 10) dX9_orNone_6 (by decide) sX9_orNone_10)
def bX9_orNone_0 : Kt Int32 := o_ild 0 <| o_zge bX9_orNone_9 <| (o_fg 0 bX9_orNone_4)
set_option maxRecDepth 100000 in
theorem sX9_orNone_0 : Sd pX9_orNone ev_i 0 (bX9_orNone_0) := sd_iload_n dX9_orNone_0 rfl <| sd_zge (tgt := 9) dX9_orNone_1 (by decide) sX9_orNone_9 <| (sd_fg (i := 0) sX9_orNone_4)
def fX9_orNone : Mt Int32 := mk_f 1 bX9_orNone_0
theorem tX9_orNone : Ct ev_i yX9_orNone cX9_orNone 1 (some .int) 0 0 fX9_orNone := ct_of (by decide +kernel) sX9_orNone_0
abbrev pX9_rota : Px := (cX9_rota, 2, RX9, "rota", (some .int), 2, 45, fun _ => True)
def bX9_rota_19 : Kt Int32 := o_rI
set_option maxRecDepth 100000 in
theorem sX9_rota_19 : Sd pX9_rota ev_i 19 (bX9_rota_19) := (sd_rI rfl dX9_rota_19)
def bX9_rota_18 : Kt Int32 := o_psh (.int (-1)) <| bX9_rota_19
set_option maxRecDepth 100000 in
theorem sX9_rota_18 : Sd pX9_rota ev_i 18 (bX9_rota_18) := sd_iconst dX9_rota_18 rfl <| sX9_rota_19
def bX9_rota_7 : Kt Int32 := o_ald 0 <| o_ild 1 <| o_vc ev_i 8 2 fX9_hasIt <| o_sc ev_i 1 fX9_orNone <| (o_fg 0 (o_fg 1 bX9_rota_19))
set_option maxRecDepth 100000 in
theorem sX9_rota_7 : Sd pX9_rota ev_i 7 (bX9_rota_7) := sd_aload_n dX9_rota_7 rfl <| sd_iload_n dX9_rota_8 rfl <| sd_vc tX9_hasIt (fun _ _ => rfl) rfl mwX9_hasIt mvX9_hasIt tw_689 (by decide) dX9_rota_9 <| sd_sc tX9_orNone (fun _ _ => rfl) mwX9_orNone mvX9_orNone tw_726 (by decide) dX9_rota_12 <| (sd_goto (tgt := 19) dX9_rota_15 (by decide) (sd_fg (i := 0) (sd_fg (i := 1) sX9_rota_19)))
def bX9_rota_0 : Kt Int32 := o_ild 1 <| o_sc ev_i 1 fX9_isHour <| o_zeq (o_fg 0 (o_fg 1 bX9_rota_18)) <| bX9_rota_7
set_option maxRecDepth 100000 in
theorem sX9_rota_0 : Sd pX9_rota ev_i 0 (bX9_rota_0) := sd_iload_n dX9_rota_0 rfl <| sd_sc tX9_isHour (fun _ _ => rfl) mwX9_isHour mvX9_isHour tw_723 (by decide) dX9_rota_1 <| sd_zeq (tgt := 18) dX9_rota_4 (by decide) (sd_fg (i := 0) (sd_fg (i := 1) sX9_rota_18)) <| sX9_rota_7
def fX9_rota : Mt Int32 := mk_f 2 bX9_rota_0
theorem tX9_rota : Ct ev_i yX9_rota cX9_rota 2 (some .int) 2 45 fX9_rota := ct_of (by decide +kernel) sX9_rota_0
abbrev pX9_turn : Px := (cX9_turn, 3, RX9, "turn", (some .int), 1, 25, fun _ => True)
def bX9_turn_48 : Kt Int32 := o_rI
set_option maxRecDepth 100000 in
theorem sX9_turn_48 : Sd pX9_turn ev_i 48 (bX9_turn_48) := (sd_rI rfl dX9_turn_48)
def bX9_turn_47 : Kt Int32 := o_psh (.int (-1)) <| bX9_turn_48
set_option maxRecDepth 100000 in
theorem sX9_turn_47 : Sd pX9_turn ev_i 47 (bX9_turn_47) := sd_iconst dX9_turn_47 rfl <| sX9_turn_48
def bX9_turn_31 : Kt Int32 := o_ald 0 <| o_gR 8 0 <| o_psh (.int 13) <| o_psh (.int 3) <| o_ild 1 <| o_i2 o_mul <| o_i2 o_add <| o_ild 2 <| o_i2 o_add <| o_aI <| (o_fg 0 (o_fg 1 (o_fg 2 bX9_turn_48)))
set_option maxRecDepth 100000 in
theorem sX9_turn_31 : Sd pX9_turn ev_i 31 (bX9_turn_31) := sd_aload_n dX9_turn_31 rfl <| sd_gR flX9_7 dX9_turn_32 <| sd_bipush dX9_turn_35 rfl <| sd_iconst dX9_turn_37 rfl <| sd_iload_n dX9_turn_38 rfl <| sd_imul dX9_turn_39 <| sd_iadd dX9_turn_40 <| sd_iload_n dX9_turn_41 rfl <| sd_iadd dX9_turn_42 <| sd_aI dX9_turn_43 <| (sd_goto (tgt := 48) dX9_turn_44 (by decide) (sd_fg (i := 0) (sd_fg (i := 1) (sd_fg (i := 2) sX9_turn_48))))
def bX9_turn_19 : Kt Int32 := o_ild 2 <| o_i2l <| o_psh (.long 0) <| o_psh (.long 2) <| o_sc ev_i 3 fX9_in <| o_zeq (o_fg 0 (o_fg 1 (o_fg 2 bX9_turn_47))) <| bX9_turn_31
set_option maxRecDepth 100000 in
theorem sX9_turn_19 : Sd pX9_turn ev_i 19 (bX9_turn_19) := sd_iload_n dX9_turn_19 rfl <| sd_i2l dX9_turn_20 <| sd_lconst dX9_turn_21 rfl <| sd_ldc2 tw_681 dX9_turn_22 <| sd_sc tX9_in (fun _ _ => rfl) mwX9_in mvX9_in tw_611 (by decide) dX9_turn_25 <| sd_zeq (tgt := 47) dX9_turn_28 (by decide) (sd_fg (i := 0) (sd_fg (i := 1) (sd_fg (i := 2) sX9_turn_47))) <| sX9_turn_31
def bX9_turn_0 : Kt Int32 := o_ild 1 <| o_i2l <| o_psh (.long 0) <| o_ald 0 <| o_gR 8 0 <| o_psh (.int 25) <| o_aI <| o_psh (.int 1) <| o_i2 o_sub <| o_i2l <| o_sc ev_i 3 fX9_in <| o_zeq (o_fg 0 (o_fg 1 (o_fg 2 bX9_turn_47))) <| bX9_turn_19
set_option maxRecDepth 100000 in
theorem sX9_turn_0 : Sd pX9_turn ev_i 0 (bX9_turn_0) := sd_iload_n dX9_turn_0 rfl <| sd_i2l dX9_turn_1 <| sd_lconst dX9_turn_2 rfl <| sd_aload_n dX9_turn_3 rfl <| sd_gR flX9_7 dX9_turn_4 <| sd_bipush dX9_turn_7 rfl <| sd_aI dX9_turn_9 <| sd_iconst dX9_turn_10 rfl <| sd_isub dX9_turn_11 <| sd_i2l dX9_turn_12 <| sd_sc tX9_in (fun _ _ => rfl) mwX9_in mvX9_in tw_611 (by decide) dX9_turn_13 <| sd_zeq (tgt := 47) dX9_turn_16 (by decide) (sd_fg (i := 0) (sd_fg (i := 1) (sd_fg (i := 2) sX9_turn_47))) <| sX9_turn_19
def fX9_turn : Mt Int32 := mk_f 3 bX9_turn_0
theorem tX9_turn : Ct ev_i yX9_turn cX9_turn 3 (some .int) 1 25 fX9_turn := ct_of (by decide +kernel) sX9_turn_0
abbrev pX9_isDone : Px := (cX9_isDone, 6, RX9, "isDone", (some .boolean), 1, 21, fun _ => True)
def bX9_isDone_76 : Kt Int32 := o_ild 4 <| o_rZ
set_option maxRecDepth 100000 in
theorem sX9_isDone_76 : Sd pX9_isDone ev_i 76 (bX9_isDone_76) := sd_iload dX9_isDone_76 <| (sd_rZ rfl dX9_isDone_78)
def bX9_isDone_68 (K20 : Kt Int32) : Kt Int32 := o_ist 4 <| o_inc 5 1 <| K20
set_option maxRecDepth 100000 in
theorem sX9_isDone_68 {K20 : Kt Int32} (h20 : Sd pX9_isDone ev_i 20 K20) : Sd pX9_isDone ev_i 68 (bX9_isDone_68 K20) := sd_istore dX9_isDone_68 (by decide) <| sd_iinc dX9_isDone_70 rfl (by decide) <| (sd_goto (tgt := 20) dX9_isDone_73 (by decide) h20)
def bX9_isDone_67 (K20 : Kt Int32) : Kt Int32 := o_psh (.int 0) <| (bX9_isDone_68 K20)
set_option maxRecDepth 100000 in
theorem sX9_isDone_67 {K20 : Kt Int32} (h20 : Sd pX9_isDone ev_i 20 K20) : Sd pX9_isDone ev_i 67 (bX9_isDone_67 K20) := sd_iconst dX9_isDone_67 rfl <| (sX9_isDone_68 h20)
def bX9_isDone_63 (K20 : Kt Int32) : Kt Int32 := o_psh (.int 1) <| (bX9_isDone_68 K20)
set_option maxRecDepth 100000 in
theorem sX9_isDone_63 {K20 : Kt Int32} (h20 : Sd pX9_isDone ev_i 20 K20) : Sd pX9_isDone ev_i 63 (bX9_isDone_63 K20) := sd_iconst dX9_isDone_63 rfl <| (sd_goto (tgt := 68) dX9_isDone_64 (by decide) (sX9_isDone_68 h20))
def bX9_isDone_48 (K20 : Kt Int32) : Kt Int32 := o_ald 0 <| o_ild 5 <| o_vc ev_i 8 2 fX9_hasIt <| o_ald 0 <| o_gR 8 0 <| o_ild 3 <| o_aI <| o_cne (bX9_isDone_67 K20) <| (bX9_isDone_63 K20)
set_option maxRecDepth 100000 in
theorem sX9_isDone_48 {K20 : Kt Int32} (h20 : Sd pX9_isDone ev_i 20 K20) : Sd pX9_isDone ev_i 48 (bX9_isDone_48 K20) := sd_aload_n dX9_isDone_48 rfl <| sd_iload dX9_isDone_49 <| sd_vc tX9_hasIt (fun _ _ => rfl) rfl mwX9_hasIt mvX9_hasIt tw_689 (by decide) dX9_isDone_51 <| sd_aload_n dX9_isDone_54 rfl <| sd_gR flX9_7 dX9_isDone_55 <| sd_iload_n dX9_isDone_58 rfl <| sd_aI dX9_isDone_59 <| sd_cne (tgt := 67) dX9_isDone_60 (by decide) (sX9_isDone_67 h20) <| (sX9_isDone_63 h20)
def bX9_isDone_38 (K20 : Kt Int32) : Kt Int32 := o_ild 2 <| o_ild 5 <| o_i2 o_shr <| o_psh (.int 1) <| o_i2 o_and <| o_psh (.int 1) <| o_cne (bX9_isDone_67 K20) <| (bX9_isDone_48 K20)
set_option maxRecDepth 100000 in
theorem sX9_isDone_38 {K20 : Kt Int32} (h20 : Sd pX9_isDone ev_i 20 K20) : Sd pX9_isDone ev_i 38 (bX9_isDone_38 K20) := sd_iload_n dX9_isDone_38 rfl <| sd_iload dX9_isDone_39 <| sd_ishr dX9_isDone_41 <| sd_iconst dX9_isDone_42 rfl <| sd_iand dX9_isDone_43 <| sd_iconst dX9_isDone_44 rfl <| sd_cne (tgt := 67) dX9_isDone_45 (by decide) (sX9_isDone_67 h20) <| (sX9_isDone_48 h20)
def bX9_isDone_33 (K20 : Kt Int32) : Kt Int32 := o_ild 4 <| o_zne (o_fg 4 (bX9_isDone_63 K20)) <| (o_fg 4 (bX9_isDone_38 K20))
set_option maxRecDepth 100000 in
theorem sX9_isDone_33 {K20 : Kt Int32} (h20 : Sd pX9_isDone ev_i 20 K20) : Sd pX9_isDone ev_i 33 (bX9_isDone_33 K20) := sd_iload dX9_isDone_33 <| sd_zne (tgt := 63) dX9_isDone_35 (by decide) (sd_fg (i := 4) (sX9_isDone_63 h20)) <| (sd_fg (i := 4) (sX9_isDone_38 h20))
def bX9_isDone_20 (K20 : Kt Int32) : Kt Int32 := o_ild 5 <| o_ald 0 <| o_gR 8 0 <| o_ild 3 <| o_psh (.int 2) <| o_i2 o_add <| o_aI <| o_cgt (o_fg 0 (o_fg 2 (o_fg 3 (o_fg 5 bX9_isDone_76)))) <| (bX9_isDone_33 K20)
set_option maxRecDepth 100000 in
theorem sX9_isDone_20 {K20 : Kt Int32} (h20 : Sd pX9_isDone ev_i 20 K20) : Sd pX9_isDone ev_i 20 (bX9_isDone_20 K20) := sd_iload dX9_isDone_20 <| sd_aload_n dX9_isDone_22 rfl <| sd_gR flX9_7 dX9_isDone_23 <| sd_iload_n dX9_isDone_26 rfl <| sd_iconst dX9_isDone_27 rfl <| sd_iadd dX9_isDone_28 <| sd_aI dX9_isDone_29 <| sd_cgt (tgt := 76) dX9_isDone_30 (by decide) (sd_fg (i := 0) (sd_fg (i := 2) (sd_fg (i := 3) (sd_fg (i := 5) sX9_isDone_76)))) <| (sX9_isDone_33 h20)
def bX9_isDone_0 : Kt Int32 := o_psh (.int 36) <| o_psh (.int 4) <| o_ild 1 <| o_i2 o_mul <| o_i2 o_add <| o_ist 3 <| o_psh (.int 0) <| o_ist 4 <| o_ald 0 <| o_gR 8 0 <| o_ild 3 <| o_psh (.int 1) <| o_i2 o_add <| o_aI <| o_ist 5 <| (o_fg 1 (o_lp (bX9_isDone_20) fu))
set_option maxRecDepth 100000 in
theorem sX9_isDone_0 : Sd pX9_isDone ev_i 0 (bX9_isDone_0) := sd_bipush dX9_isDone_0 rfl <| sd_iconst dX9_isDone_2 rfl <| sd_iload_n dX9_isDone_3 rfl <| sd_imul dX9_isDone_4 <| sd_iadd dX9_isDone_5 <| sd_istore_n dX9_isDone_6 rfl (by decide) <| sd_iconst dX9_isDone_7 rfl <| sd_istore dX9_isDone_8 (by decide) <| sd_aload_n dX9_isDone_10 rfl <| sd_gR flX9_7 dX9_isDone_11 <| sd_iload_n dX9_isDone_14 rfl <| sd_iconst dX9_isDone_15 rfl <| sd_iadd dX9_isDone_16 <| sd_aI dX9_isDone_17 <| sd_istore dX9_isDone_18 (by decide) <| (sd_fg (i := 1) (sd_lp (fun K h => sX9_isDone_20 h) fu))
def fX9_isDone : Mt Int32 := mk_f 6 bX9_isDone_0
theorem tX9_isDone : Ct ev_i yX9_isDone cX9_isDone 6 (some .boolean) 1 21 fX9_isDone := ct_of (by decide +kernel) sX9_isDone_0
abbrev pX9_doneBy : Px := (cX9_doneBy, 4, RX9, "doneBy", (some .int), 2, 46, fun _ => True)
def bX9_doneBy_40 : Kt Int32 := o_ild 2 <| o_rI
set_option maxRecDepth 100000 in
theorem sX9_doneBy_40 : Sd pX9_doneBy ev_i 40 (bX9_doneBy_40) := sd_iload_n dX9_doneBy_40 rfl <| (sd_rI rfl dX9_doneBy_41)
def bX9_doneBy_32 (K4 : Kt Int32) : Kt Int32 := o_i2 o_or <| o_ist 2 <| o_inc 3 1 <| K4
set_option maxRecDepth 100000 in
theorem sX9_doneBy_32 {K4 : Kt Int32} (h4 : Sd pX9_doneBy ev_i 4 K4) : Sd pX9_doneBy ev_i 32 (bX9_doneBy_32 K4) := sd_ior dX9_doneBy_32 <| sd_istore_n dX9_doneBy_33 rfl (by decide) <| sd_iinc dX9_doneBy_34 rfl (by decide) <| (sd_goto (tgt := 4) dX9_doneBy_37 (by decide) h4)
def bX9_doneBy_31 (K4 : Kt Int32) : Kt Int32 := o_psh (.int 0) <| (bX9_doneBy_32 K4)
set_option maxRecDepth 100000 in
theorem sX9_doneBy_31 {K4 : Kt Int32} (h4 : Sd pX9_doneBy ev_i 4 K4) : Sd pX9_doneBy ev_i 31 (bX9_doneBy_31 K4) := sd_iconst dX9_doneBy_31 rfl <| (sX9_doneBy_32 h4)
def bX9_doneBy_25 (K4 : Kt Int32) : Kt Int32 := o_psh (.int 1) <| o_ild 3 <| o_i2 o_shl <| (bX9_doneBy_32 K4)
set_option maxRecDepth 100000 in
theorem sX9_doneBy_25 {K4 : Kt Int32} (h4 : Sd pX9_doneBy ev_i 4 K4) : Sd pX9_doneBy ev_i 25 (bX9_doneBy_25 K4) := sd_iconst dX9_doneBy_25 rfl <| sd_iload_n dX9_doneBy_26 rfl <| sd_ishl dX9_doneBy_27 <| (sd_goto (tgt := 32) dX9_doneBy_28 (by decide) (sX9_doneBy_32 h4))
def bX9_doneBy_15 (K4 : Kt Int32) : Kt Int32 := o_ild 2 <| o_ald 0 <| o_ild 3 <| o_ild 1 <| o_vc ev_i 8 3 fX9_isDone <| o_zeq (o_fg 2 (bX9_doneBy_31 K4)) <| (o_fg 2 (bX9_doneBy_25 K4))
set_option maxRecDepth 100000 in
theorem sX9_doneBy_15 {K4 : Kt Int32} (h4 : Sd pX9_doneBy ev_i 4 K4) : Sd pX9_doneBy ev_i 15 (bX9_doneBy_15 K4) := sd_iload_n dX9_doneBy_15 rfl <| sd_aload_n dX9_doneBy_16 rfl <| sd_iload_n dX9_doneBy_17 rfl <| sd_iload_n dX9_doneBy_18 rfl <| sd_vc tX9_isDone (fun _ _ => rfl) rfl mwX9_isDone mvX9_isDone tw_730 (by decide) dX9_doneBy_19 <| sd_zeq (tgt := 31) dX9_doneBy_22 (by decide) (sd_fg (i := 2) (sX9_doneBy_31 h4)) <| (sd_fg (i := 2) (sX9_doneBy_25 h4))
def bX9_doneBy_4 (K4 : Kt Int32) : Kt Int32 := o_ild 3 <| o_ald 0 <| o_gR 8 0 <| o_psh (.int 56) <| o_aI <| o_cge (o_fg 0 (o_fg 1 (o_fg 3 bX9_doneBy_40))) <| (bX9_doneBy_15 K4)
set_option maxRecDepth 100000 in
theorem sX9_doneBy_4 {K4 : Kt Int32} (h4 : Sd pX9_doneBy ev_i 4 K4) : Sd pX9_doneBy ev_i 4 (bX9_doneBy_4 K4) := sd_iload_n dX9_doneBy_4 rfl <| sd_aload_n dX9_doneBy_5 rfl <| sd_gR flX9_7 dX9_doneBy_6 <| sd_bipush dX9_doneBy_9 rfl <| sd_aI dX9_doneBy_11 <| sd_cge (tgt := 40) dX9_doneBy_12 (by decide) (sd_fg (i := 0) (sd_fg (i := 1) (sd_fg (i := 3) sX9_doneBy_40))) <| (sX9_doneBy_15 h4)
def bX9_doneBy_0 : Kt Int32 := o_psh (.int 0) <| o_ist 2 <| o_psh (.int 0) <| o_ist 3 <| (o_lp (bX9_doneBy_4) fu)
set_option maxRecDepth 100000 in
theorem sX9_doneBy_0 : Sd pX9_doneBy ev_i 0 (bX9_doneBy_0) := sd_iconst dX9_doneBy_0 rfl <| sd_istore_n dX9_doneBy_1 rfl (by decide) <| sd_iconst dX9_doneBy_2 rfl <| sd_istore_n dX9_doneBy_3 rfl (by decide) <| (sd_lp (fun K h => sX9_doneBy_4 h) fu)
def fX9_doneBy : Mt Int32 := mk_f 4 bX9_doneBy_0
theorem tX9_doneBy : Ct ev_i yX9_doneBy cX9_doneBy 4 (some .int) 2 46 fX9_doneBy := ct_of (by decide +kernel) sX9_doneBy_0
abbrev pX9_worthOf : Px := (cX9_worthOf, 4, RX9, "worthOf", (some .int), 0, 0, fun _ => True)
def bX9_worthOf_50 : Kt Int32 := o_ild 2 <| o_rI
set_option maxRecDepth 100000 in
theorem sX9_worthOf_50 : Sd pX9_worthOf ev_i 50 (bX9_worthOf_50) := sd_iload_n dX9_worthOf_50 rfl <| (sd_rI rfl dX9_worthOf_51)
def bX9_worthOf_42 (K4 : Kt Int32) : Kt Int32 := o_i2 o_add <| o_ist 2 <| o_inc 3 1 <| K4
set_option maxRecDepth 100000 in
theorem sX9_worthOf_42 {K4 : Kt Int32} (h4 : Sd pX9_worthOf ev_i 4 K4) : Sd pX9_worthOf ev_i 42 (bX9_worthOf_42 K4) := sd_iadd dX9_worthOf_42 <| sd_istore_n dX9_worthOf_43 rfl (by decide) <| sd_iinc dX9_worthOf_44 rfl (by decide) <| (sd_goto (tgt := 4) dX9_worthOf_47 (by decide) h4)
def bX9_worthOf_41 (K4 : Kt Int32) : Kt Int32 := o_psh (.int 0) <| (bX9_worthOf_42 K4)
set_option maxRecDepth 100000 in
theorem sX9_worthOf_41 {K4 : Kt Int32} (h4 : Sd pX9_worthOf ev_i 4 K4) : Sd pX9_worthOf ev_i 41 (bX9_worthOf_41 K4) := sd_iconst dX9_worthOf_41 rfl <| (sX9_worthOf_42 h4)
def bX9_worthOf_25 (K4 : Kt Int32) : Kt Int32 := o_ald 0 <| o_gR 8 0 <| o_psh (.int 36) <| o_psh (.int 4) <| o_ild 3 <| o_i2 o_mul <| o_i2 o_add <| o_psh (.int 3) <| o_i2 o_add <| o_aI <| (bX9_worthOf_42 K4)
set_option maxRecDepth 100000 in
theorem sX9_worthOf_25 {K4 : Kt Int32} (h4 : Sd pX9_worthOf ev_i 4 K4) : Sd pX9_worthOf ev_i 25 (bX9_worthOf_25 K4) := sd_aload_n dX9_worthOf_25 rfl <| sd_gR flX9_7 dX9_worthOf_26 <| sd_bipush dX9_worthOf_29 rfl <| sd_iconst dX9_worthOf_31 rfl <| sd_iload_n dX9_worthOf_32 rfl <| sd_imul dX9_worthOf_33 <| sd_iadd dX9_worthOf_34 <| sd_iconst dX9_worthOf_35 rfl <| sd_iadd dX9_worthOf_36 <| sd_aI dX9_worthOf_37 <| (sd_goto (tgt := 42) dX9_worthOf_38 (by decide) (sX9_worthOf_42 h4))
def bX9_worthOf_15 (K4 : Kt Int32) : Kt Int32 := o_ild 2 <| o_ild 1 <| o_ild 3 <| o_i2 o_shr <| o_psh (.int 1) <| o_i2 o_and <| o_psh (.int 1) <| o_cne (o_fg 2 (bX9_worthOf_41 K4)) <| (o_fg 2 (bX9_worthOf_25 K4))
set_option maxRecDepth 100000 in
theorem sX9_worthOf_15 {K4 : Kt Int32} (h4 : Sd pX9_worthOf ev_i 4 K4) : Sd pX9_worthOf ev_i 15 (bX9_worthOf_15 K4) := sd_iload_n dX9_worthOf_15 rfl <| sd_iload_n dX9_worthOf_16 rfl <| sd_iload_n dX9_worthOf_17 rfl <| sd_ishr dX9_worthOf_18 <| sd_iconst dX9_worthOf_19 rfl <| sd_iand dX9_worthOf_20 <| sd_iconst dX9_worthOf_21 rfl <| sd_cne (tgt := 41) dX9_worthOf_22 (by decide) (sd_fg (i := 2) (sX9_worthOf_41 h4)) <| (sd_fg (i := 2) (sX9_worthOf_25 h4))
def bX9_worthOf_4 (K4 : Kt Int32) : Kt Int32 := o_ild 3 <| o_ald 0 <| o_gR 8 0 <| o_psh (.int 56) <| o_aI <| o_cge (o_fg 0 (o_fg 1 (o_fg 3 bX9_worthOf_50))) <| (bX9_worthOf_15 K4)
set_option maxRecDepth 100000 in
theorem sX9_worthOf_4 {K4 : Kt Int32} (h4 : Sd pX9_worthOf ev_i 4 K4) : Sd pX9_worthOf ev_i 4 (bX9_worthOf_4 K4) := sd_iload_n dX9_worthOf_4 rfl <| sd_aload_n dX9_worthOf_5 rfl <| sd_gR flX9_7 dX9_worthOf_6 <| sd_bipush dX9_worthOf_9 rfl <| sd_aI dX9_worthOf_11 <| sd_cge (tgt := 50) dX9_worthOf_12 (by decide) (sd_fg (i := 0) (sd_fg (i := 1) (sd_fg (i := 3) sX9_worthOf_50))) <| (sX9_worthOf_15 h4)
def bX9_worthOf_0 : Kt Int32 := o_psh (.int 0) <| o_ist 2 <| o_psh (.int 0) <| o_ist 3 <| (o_lp (bX9_worthOf_4) fu)
set_option maxRecDepth 100000 in
theorem sX9_worthOf_0 : Sd pX9_worthOf ev_i 0 (bX9_worthOf_0) := sd_iconst dX9_worthOf_0 rfl <| sd_istore_n dX9_worthOf_1 rfl (by decide) <| sd_iconst dX9_worthOf_2 rfl <| sd_istore_n dX9_worthOf_3 rfl (by decide) <| (sd_lp (fun K h => sX9_worthOf_4 h) fu)
def fX9_worthOf : Mt Int32 := mk_f 4 bX9_worthOf_0
theorem tX9_worthOf : Ct ev_i yX9_worthOf cX9_worthOf 4 (some .int) 0 0 fX9_worthOf := ct_of (by decide +kernel) sX9_worthOf_0
abbrev pX9_worthNow : Px := (cX9_worthNow, 1, RX9, "worthNow", (some .int), 4, 89, fun _ => True)
def bX9_worthNow_0 : Kt Int32 := o_ald 0 <| o_ald 0 <| o_ald 0 <| o_vc ev_i 8 1 fX9_seeing <| o_vc ev_i 8 2 fX9_doneBy <| o_vc ev_i 8 2 fX9_worthOf <| o_rI
set_option maxRecDepth 100000 in
theorem sX9_worthNow_0 : Sd pX9_worthNow ev_i 0 (bX9_worthNow_0) := sd_aload_n dX9_worthNow_0 rfl <| sd_aload_n dX9_worthNow_1 rfl <| sd_aload_n dX9_worthNow_2 rfl <| sd_vc tX9_seeing (fun _ _ => rfl) rfl mwX9_seeing mvX9_seeing tw_713 (by decide) dX9_worthNow_3 <| sd_vc tX9_doneBy (fun _ _ => rfl) rfl mwX9_doneBy mvX9_doneBy tw_734 (by decide) dX9_worthNow_6 <| sd_vc tX9_worthOf (fun _ _ => rfl) rfl mwX9_worthOf mvX9_worthOf tw_738 (by decide) dX9_worthNow_9 <| (sd_rI rfl dX9_worthNow_12)
def fX9_worthNow : Mt Int32 := mk_f 1 bX9_worthNow_0
theorem tX9_worthNow : Ct ev_i yX9_worthNow cX9_worthNow 1 (some .int) 4 89 fX9_worthNow := ct_of (by decide +kernel) sX9_worthNow_0
abbrev pX9_work : Px := (cX9_work, 3, RX9, "work", (some .int), 4, 89, fun _ => True)
def bX9_work_71 : Kt Int32 := o_rI
set_option maxRecDepth 100000 in
theorem sX9_work_71 : Sd pX9_work ev_i 71 (bX9_work_71) := (sd_rI rfl dX9_work_71)
def bX9_work_70 : Kt Int32 := o_psh (.int 0) <| bX9_work_71
set_option maxRecDepth 100000 in
theorem sX9_work_70 : Sd pX9_work ev_i 70 (bX9_work_70) := sd_iconst dX9_work_70 rfl <| sX9_work_71
def bX9_work_66 : Kt Int32 := o_psh (.int 1) <| bX9_work_71
set_option maxRecDepth 100000 in
theorem sX9_work_66 : Sd pX9_work ev_i 66 (bX9_work_66) := sd_iconst dX9_work_66 rfl <| (sd_goto (tgt := 71) dX9_work_67 (by decide) sX9_work_71)
def bX9_work_54 : Kt Int32 := o_ald 0 <| o_ild 1 <| o_ald 0 <| o_vc ev_i 8 1 fX9_seeing <| o_vc ev_i 8 3 fX9_isDone <| o_zeq (o_fg 0 (o_fg 1 bX9_work_70)) <| (o_fg 0 (o_fg 1 bX9_work_66))
set_option maxRecDepth 100000 in
theorem sX9_work_54 : Sd pX9_work ev_i 54 (bX9_work_54) := sd_aload_n dX9_work_54 rfl <| sd_iload_n dX9_work_55 rfl <| sd_aload_n dX9_work_56 rfl <| sd_vc tX9_seeing (fun _ _ => rfl) rfl mwX9_seeing mvX9_seeing tw_713 (by decide) dX9_work_57 <| sd_vc tX9_isDone (fun _ _ => rfl) rfl mwX9_isDone mvX9_isDone tw_730 (by decide) dX9_work_60 <| sd_zeq (tgt := 70) dX9_work_63 (by decide) (sd_fg (i := 0) (sd_fg (i := 1) sX9_work_70)) <| (sd_fg (i := 0) (sd_fg (i := 1) sX9_work_66))
def bX9_work_38 : Kt Int32 := o_ald 0 <| o_gR 8 0 <| o_psh (.int 36) <| o_psh (.int 4) <| o_ild 1 <| o_i2 o_mul <| o_i2 o_add <| o_ild 2 <| o_i2 o_add <| o_aI <| (o_fg 0 (o_fg 1 (o_fg 2 bX9_work_71)))
set_option maxRecDepth 100000 in
theorem sX9_work_38 : Sd pX9_work ev_i 38 (bX9_work_38) := sd_aload_n dX9_work_38 rfl <| sd_gR flX9_7 dX9_work_39 <| sd_bipush dX9_work_42 rfl <| sd_iconst dX9_work_44 rfl <| sd_iload_n dX9_work_45 rfl <| sd_imul dX9_work_46 <| sd_iadd dX9_work_47 <| sd_iload_n dX9_work_48 rfl <| sd_iadd dX9_work_49 <| sd_aI dX9_work_50 <| (sd_goto (tgt := 71) dX9_work_51 (by decide) (sd_fg (i := 0) (sd_fg (i := 1) (sd_fg (i := 2) sX9_work_71))))
def bX9_work_33 : Kt Int32 := o_ild 2 <| o_psh (.int 4) <| o_cge (o_fg 2 bX9_work_54) <| bX9_work_38
set_option maxRecDepth 100000 in
theorem sX9_work_33 : Sd pX9_work ev_i 33 (bX9_work_33) := sd_iload_n dX9_work_33 rfl <| sd_iconst dX9_work_34 rfl <| sd_cge (tgt := 54) dX9_work_35 (by decide) (sd_fg (i := 2) sX9_work_54) <| sX9_work_38
def bX9_work_31 : Kt Int32 := o_psh (.int (-1)) <| o_rI
set_option maxRecDepth 100000 in
theorem sX9_work_31 : Sd pX9_work ev_i 31 (bX9_work_31) := sd_iconst dX9_work_31 rfl <| (sd_rI rfl dX9_work_32)
def bX9_work_19 : Kt Int32 := o_ild 2 <| o_i2l <| o_psh (.long 0) <| o_psh (.long 4) <| o_sc ev_i 3 fX9_in <| o_zne bX9_work_33 <| (o_fg 0 (o_fg 1 (o_fg 2 bX9_work_31)))
set_option maxRecDepth 100000 in
theorem sX9_work_19 : Sd pX9_work ev_i 19 (bX9_work_19) := sd_iload_n dX9_work_19 rfl <| sd_i2l dX9_work_20 <| sd_lconst dX9_work_21 rfl <| sd_ldc2 tw_739 dX9_work_22 <| sd_sc tX9_in (fun _ _ => rfl) mwX9_in mvX9_in tw_611 (by decide) dX9_work_25 <| sd_zne (tgt := 33) dX9_work_28 (by decide) sX9_work_33 <| (sd_fg (i := 0) (sd_fg (i := 1) (sd_fg (i := 2) sX9_work_31)))
def bX9_work_0 : Kt Int32 := o_ild 1 <| o_i2l <| o_psh (.long 0) <| o_ald 0 <| o_gR 8 0 <| o_psh (.int 56) <| o_aI <| o_psh (.int 1) <| o_i2 o_sub <| o_i2l <| o_sc ev_i 3 fX9_in <| o_zeq (o_fg 0 (o_fg 1 (o_fg 2 bX9_work_31))) <| bX9_work_19
set_option maxRecDepth 100000 in
theorem sX9_work_0 : Sd pX9_work ev_i 0 (bX9_work_0) := sd_iload_n dX9_work_0 rfl <| sd_i2l dX9_work_1 <| sd_lconst dX9_work_2 rfl <| sd_aload_n dX9_work_3 rfl <| sd_gR flX9_7 dX9_work_4 <| sd_bipush dX9_work_7 rfl <| sd_aI dX9_work_9 <| sd_iconst dX9_work_10 rfl <| sd_isub dX9_work_11 <| sd_i2l dX9_work_12 <| sd_sc tX9_in (fun _ _ => rfl) mwX9_in mvX9_in tw_611 (by decide) dX9_work_13 <| sd_zeq (tgt := 31) dX9_work_16 (by decide) (sd_fg (i := 0) (sd_fg (i := 1) (sd_fg (i := 2) sX9_work_31))) <| sX9_work_19
def fX9_work : Mt Int32 := mk_f 3 bX9_work_0
theorem tX9_work : Ct ev_i yX9_work cX9_work 3 (some .int) 4 89 fX9_work := ct_of (by decide +kernel) sX9_work_0
abbrev pX9_telling : Px := (cX9_telling, 3, RX9, "telling", (some .int), 1, 25, fun _ => True)
def bX9_telling_48 : Kt Int32 := o_rI
set_option maxRecDepth 100000 in
theorem sX9_telling_48 : Sd pX9_telling ev_i 48 (bX9_telling_48) := (sd_rI rfl dX9_telling_48)
def bX9_telling_47 : Kt Int32 := o_psh (.int (-1)) <| bX9_telling_48
set_option maxRecDepth 100000 in
theorem sX9_telling_47 : Sd pX9_telling ev_i 47 (bX9_telling_47) := sd_iconst dX9_telling_47 rfl <| sX9_telling_48
def bX9_telling_31 : Kt Int32 := o_ald 0 <| o_gR 8 0 <| o_psh (.int 57) <| o_psh (.int 4) <| o_ild 1 <| o_i2 o_mul <| o_i2 o_add <| o_ild 2 <| o_i2 o_add <| o_aI <| (o_fg 0 (o_fg 1 (o_fg 2 bX9_telling_48)))
set_option maxRecDepth 100000 in
theorem sX9_telling_31 : Sd pX9_telling ev_i 31 (bX9_telling_31) := sd_aload_n dX9_telling_31 rfl <| sd_gR flX9_7 dX9_telling_32 <| sd_bipush dX9_telling_35 rfl <| sd_iconst dX9_telling_37 rfl <| sd_iload_n dX9_telling_38 rfl <| sd_imul dX9_telling_39 <| sd_iadd dX9_telling_40 <| sd_iload_n dX9_telling_41 rfl <| sd_iadd dX9_telling_42 <| sd_aI dX9_telling_43 <| (sd_goto (tgt := 48) dX9_telling_44 (by decide) (sd_fg (i := 0) (sd_fg (i := 1) (sd_fg (i := 2) sX9_telling_48))))
def bX9_telling_19 : Kt Int32 := o_ild 2 <| o_i2l <| o_psh (.long 0) <| o_psh (.long 3) <| o_sc ev_i 3 fX9_in <| o_zeq (o_fg 0 (o_fg 1 (o_fg 2 bX9_telling_47))) <| bX9_telling_31
set_option maxRecDepth 100000 in
theorem sX9_telling_19 : Sd pX9_telling ev_i 19 (bX9_telling_19) := sd_iload_n dX9_telling_19 rfl <| sd_i2l dX9_telling_20 <| sd_lconst dX9_telling_21 rfl <| sd_ldc2 tw_740 dX9_telling_22 <| sd_sc tX9_in (fun _ _ => rfl) mwX9_in mvX9_in tw_611 (by decide) dX9_telling_25 <| sd_zeq (tgt := 47) dX9_telling_28 (by decide) (sd_fg (i := 0) (sd_fg (i := 1) (sd_fg (i := 2) sX9_telling_47))) <| sX9_telling_31
def bX9_telling_0 : Kt Int32 := o_ild 1 <| o_i2l <| o_psh (.long 0) <| o_ald 0 <| o_gR 8 0 <| o_psh (.int 73) <| o_aI <| o_psh (.int 1) <| o_i2 o_sub <| o_i2l <| o_sc ev_i 3 fX9_in <| o_zeq (o_fg 0 (o_fg 1 (o_fg 2 bX9_telling_47))) <| bX9_telling_19
set_option maxRecDepth 100000 in
theorem sX9_telling_0 : Sd pX9_telling ev_i 0 (bX9_telling_0) := sd_iload_n dX9_telling_0 rfl <| sd_i2l dX9_telling_1 <| sd_lconst dX9_telling_2 rfl <| sd_aload_n dX9_telling_3 rfl <| sd_gR flX9_7 dX9_telling_4 <| sd_bipush dX9_telling_7 rfl <| sd_aI dX9_telling_9 <| sd_iconst dX9_telling_10 rfl <| sd_isub dX9_telling_11 <| sd_i2l dX9_telling_12 <| sd_sc tX9_in (fun _ _ => rfl) mwX9_in mvX9_in tw_611 (by decide) dX9_telling_13 <| sd_zeq (tgt := 47) dX9_telling_16 (by decide) (sd_fg (i := 0) (sd_fg (i := 1) (sd_fg (i := 2) sX9_telling_47))) <| sX9_telling_19
def fX9_telling : Mt Int32 := mk_f 3 bX9_telling_0
theorem tX9_telling : Ct ev_i yX9_telling cX9_telling 3 (some .int) 1 25 fX9_telling := ct_of (by decide +kernel) sX9_telling_0
abbrev pX9_puts : Px := (cX9_puts, 5, RX9, "puts", (some .int), 0, 0, fun _ => True)
def bX9_puts_6 : Kt Int32 := o_ald 0 <| o_gR 8 0 <| o_ild 2 <| o_aI <| o_ist 4 <| o_ald 0 <| o_gR 8 0 <| o_ild 2 <| o_ild 3 <| o_sI <| o_ild 4 <| o_rI
set_option maxRecDepth 100000 in
theorem sX9_puts_6 : Sd pX9_puts ev_i 6 (bX9_puts_6) := sd_aload_n dX9_puts_6 rfl <| sd_gR flX9_7 dX9_puts_7 <| sd_iload_n dX9_puts_10 rfl <| sd_aI dX9_puts_11 <| sd_istore dX9_puts_12 (by decide) <| sd_aload_n dX9_puts_14 rfl <| sd_gR flX9_7 dX9_puts_15 <| sd_iload_n dX9_puts_18 rfl <| sd_iload_n dX9_puts_19 rfl <| sd_sI dX9_puts_20 <| sd_iload dX9_puts_21 <| (sd_rI rfl dX9_puts_23)
def bX9_puts_4 : Kt Int32 := o_psh (.int (-1)) <| o_rI
set_option maxRecDepth 100000 in
theorem sX9_puts_4 : Sd pX9_puts ev_i 4 (bX9_puts_4) := sd_iconst dX9_puts_4 rfl <| (sd_rI rfl dX9_puts_5)
def bX9_puts_0 : Kt Int32 := o_ild 1 <| o_zne (o_fg 1 bX9_puts_6) <| (o_fg 0 (o_fg 1 (o_fg 2 (o_fg 3 bX9_puts_4))))
set_option maxRecDepth 100000 in
theorem sX9_puts_0 : Sd pX9_puts ev_i 0 (bX9_puts_0) := sd_iload_n dX9_puts_0 rfl <| sd_zne (tgt := 6) dX9_puts_1 (by decide) (sd_fg (i := 1) sX9_puts_6) <| (sd_fg (i := 0) (sd_fg (i := 1) (sd_fg (i := 2) (sd_fg (i := 3) sX9_puts_4))))
def fX9_puts : Mt Int32 := mk_f 5 bX9_puts_0
theorem tX9_puts : Ct ev_i yX9_puts cX9_puts 5 (some .int) 0 0 fX9_puts := ct_of (by decide +kernel) sX9_puts_0
abbrev pX9_alter : Px := (cX9_alter, 4, RX9, "alter", (some .int), 2, 46, fun _ => True)
def bX9_alter_42 : Kt Int32 := o_psh (.int 5) <| o_ild 2 <| o_i2 o_mul <| o_ild 1 <| o_i2 o_add <| o_ild 3 <| o_vc ev_i 8 4 fX9_puts <| o_rI
set_option maxRecDepth 100000 in
theorem sX9_alter_42 : Sd pX9_alter ev_i 42 (bX9_alter_42) := sd_iconst dX9_alter_42 rfl <| sd_iload_n dX9_alter_43 rfl <| sd_imul dX9_alter_44 <| sd_iload_n dX9_alter_45 rfl <| sd_iadd dX9_alter_46 <| sd_iload_n dX9_alter_47 rfl <| sd_vc tX9_puts (fun _ _ => rfl) rfl mwX9_puts mvX9_puts tw_744 (by decide) dX9_alter_48 <| (sd_rI rfl dX9_alter_51)
def bX9_alter_41 : Kt Int32 := o_psh (.int 0) <| bX9_alter_42
set_option maxRecDepth 100000 in
theorem sX9_alter_41 : Sd pX9_alter ev_i 41 (bX9_alter_41) := sd_iconst dX9_alter_41 rfl <| sX9_alter_42
def bX9_alter_37 : Kt Int32 := o_psh (.int 1) <| bX9_alter_42
set_option maxRecDepth 100000 in
theorem sX9_alter_37 : Sd pX9_alter ev_i 37 (bX9_alter_37) := sd_iconst dX9_alter_37 rfl <| (sd_goto (tgt := 42) dX9_alter_38 (by decide) sX9_alter_42)
def bX9_alter_30 : Kt Int32 := o_ild 3 <| o_sc ev_i 1 fX9_isThing <| o_zeq bX9_alter_41 <| bX9_alter_37
set_option maxRecDepth 100000 in
theorem sX9_alter_30 : Sd pX9_alter ev_i 30 (bX9_alter_30) := sd_iload_n dX9_alter_30 rfl <| sd_sc tX9_isThing (fun _ _ => rfl) mwX9_isThing mvX9_isThing tw_720 (by decide) dX9_alter_31 <| sd_zeq (tgt := 41) dX9_alter_34 (by decide) sX9_alter_41 <| sX9_alter_37
def bX9_alter_25 : Kt Int32 := o_ild 2 <| o_psh (.int 1) <| o_cne bX9_alter_41 <| bX9_alter_30
set_option maxRecDepth 100000 in
theorem sX9_alter_25 : Sd pX9_alter ev_i 25 (bX9_alter_25) := sd_iload_n dX9_alter_25 rfl <| sd_iconst dX9_alter_26 rfl <| sd_cne (tgt := 41) dX9_alter_27 (by decide) sX9_alter_41 <| sX9_alter_30
def bX9_alter_13 : Kt Int32 := o_ild 3 <| o_i2l <| o_psh (.long 0) <| o_psh (.long 3) <| o_sc ev_i 3 fX9_in <| o_zne bX9_alter_37 <| bX9_alter_25
set_option maxRecDepth 100000 in
theorem sX9_alter_13 : Sd pX9_alter ev_i 13 (bX9_alter_13) := sd_iload_n dX9_alter_13 rfl <| sd_i2l dX9_alter_14 <| sd_lconst dX9_alter_15 rfl <| sd_ldc2 tw_740 dX9_alter_16 <| sd_sc tX9_in (fun _ _ => rfl) mwX9_in mvX9_in tw_611 (by decide) dX9_alter_19 <| sd_zne (tgt := 37) dX9_alter_22 (by decide) sX9_alter_37 <| sX9_alter_25
def bX9_alter_9 : Kt Int32 := o_ild 2 <| o_zne bX9_alter_25 <| bX9_alter_13
set_option maxRecDepth 100000 in
theorem sX9_alter_9 : Sd pX9_alter ev_i 9 (bX9_alter_9) := sd_iload_n dX9_alter_9 rfl <| sd_zne (tgt := 25) dX9_alter_10 (by decide) sX9_alter_25 <| sX9_alter_13
def bX9_alter_0 : Kt Int32 := o_ald 0 <| o_ald 0 <| o_ild 1 <| o_vc ev_i 8 2 fX9_isOne <| o_zeq (o_fg 0 bX9_alter_41) <| (o_fg 0 bX9_alter_9)
set_option maxRecDepth 100000 in
theorem sX9_alter_0 : Sd pX9_alter ev_i 0 (bX9_alter_0) := sd_aload_n dX9_alter_0 rfl <| sd_aload_n dX9_alter_1 rfl <| sd_iload_n dX9_alter_2 rfl <| sd_vc tX9_isOne (fun _ _ => rfl) rfl mwX9_isOne mvX9_isOne tw_717 (by decide) dX9_alter_3 <| sd_zeq (tgt := 41) dX9_alter_6 (by decide) (sd_fg (i := 0) sX9_alter_41) <| (sd_fg (i := 0) sX9_alter_9)
def fX9_alter : Mt Int32 := mk_f 4 bX9_alter_0
theorem tX9_alter : Ct ev_i yX9_alter cX9_alter 4 (some .int) 2 46 fX9_alter := ct_of (by decide +kernel) sX9_alter_0
abbrev pX9_paint : Px := (cX9_paint, 3, RX9, "paint", (some .int), 2, 45, fun _ => True)
def bX9_paint_25 : Kt Int32 := o_psh (.int 10) <| o_ild 1 <| o_i2 o_add <| o_ild 2 <| o_vc ev_i 8 4 fX9_puts <| o_rI
set_option maxRecDepth 100000 in
theorem sX9_paint_25 : Sd pX9_paint ev_i 25 (bX9_paint_25) := sd_bipush dX9_paint_25 rfl <| sd_iload_n dX9_paint_27 rfl <| sd_iadd dX9_paint_28 <| sd_iload_n dX9_paint_29 rfl <| sd_vc tX9_puts (fun _ _ => rfl) rfl mwX9_puts mvX9_puts tw_744 (by decide) dX9_paint_30 <| (sd_rI rfl dX9_paint_33)
def bX9_paint_24 : Kt Int32 := o_psh (.int 0) <| bX9_paint_25
set_option maxRecDepth 100000 in
theorem sX9_paint_24 : Sd pX9_paint ev_i 24 (bX9_paint_24) := sd_iconst dX9_paint_24 rfl <| sX9_paint_25
def bX9_paint_20 : Kt Int32 := o_psh (.int 1) <| bX9_paint_25
set_option maxRecDepth 100000 in
theorem sX9_paint_20 : Sd pX9_paint ev_i 20 (bX9_paint_20) := sd_iconst dX9_paint_20 rfl <| (sd_goto (tgt := 25) dX9_paint_21 (by decide) sX9_paint_25)
def bX9_paint_8 : Kt Int32 := o_ild 2 <| o_i2l <| o_psh (.long 0) <| o_psh (.long 9) <| o_sc ev_i 3 fX9_in <| o_zeq bX9_paint_24 <| bX9_paint_20
set_option maxRecDepth 100000 in
theorem sX9_paint_8 : Sd pX9_paint ev_i 8 (bX9_paint_8) := sd_iload_n dX9_paint_8 rfl <| sd_i2l dX9_paint_9 <| sd_lconst dX9_paint_10 rfl <| sd_ldc2 tw_680 dX9_paint_11 <| sd_sc tX9_in (fun _ _ => rfl) mwX9_in mvX9_in tw_611 (by decide) dX9_paint_14 <| sd_zeq (tgt := 24) dX9_paint_17 (by decide) sX9_paint_24 <| sX9_paint_20
def bX9_paint_0 : Kt Int32 := o_ald 0 <| o_ild 1 <| o_sc ev_i 1 fX9_isThing <| o_zeq (o_fg 0 bX9_paint_24) <| (o_fg 0 bX9_paint_8)
set_option maxRecDepth 100000 in
theorem sX9_paint_0 : Sd pX9_paint ev_i 0 (bX9_paint_0) := sd_aload_n dX9_paint_0 rfl <| sd_iload_n dX9_paint_1 rfl <| sd_sc tX9_isThing (fun _ _ => rfl) mwX9_isThing mvX9_isThing tw_720 (by decide) dX9_paint_2 <| sd_zeq (tgt := 24) dX9_paint_5 (by decide) (sd_fg (i := 0) sX9_paint_24) <| (sd_fg (i := 0) sX9_paint_8)
def fX9_paint : Mt Int32 := mk_f 3 bX9_paint_0
theorem tX9_paint : Ct ev_i yX9_paint cX9_paint 3 (some .int) 2 45 fX9_paint := ct_of (by decide +kernel) sX9_paint_0
abbrev pX9_shifts : Px := (cX9_shifts, 4, RX9, "shifts", (some .int), 2, 46, fun _ => True)
def bX9_shifts_50 : Kt Int32 := o_sI <| o_ild 3 <| o_sc ev_i 1 fX9_orNone <| o_rI
set_option maxRecDepth 100000 in
theorem sX9_shifts_50 : Sd pX9_shifts ev_i 50 (bX9_shifts_50) := sd_sI dX9_shifts_50 <| sd_iload_n dX9_shifts_51 rfl <| sd_sc tX9_orNone (fun _ _ => rfl) mwX9_orNone mvX9_orNone tw_726 (by decide) dX9_shifts_52 <| (sd_rI rfl dX9_shifts_55)
def bX9_shifts_47 : Kt Int32 := o_ild 2 <| o_psh (.int 1) <| o_i2 o_add <| (o_fg 2 bX9_shifts_50)
set_option maxRecDepth 100000 in
theorem sX9_shifts_47 : Sd pX9_shifts ev_i 47 (bX9_shifts_47) := sd_iload_n dX9_shifts_47 rfl <| sd_iconst dX9_shifts_48 rfl <| sd_iadd dX9_shifts_49 <| (sd_fg (i := 2) sX9_shifts_50)
def bX9_shifts_43 : Kt Int32 := o_psh (.int 0) <| bX9_shifts_50
set_option maxRecDepth 100000 in
theorem sX9_shifts_43 : Sd pX9_shifts ev_i 43 (bX9_shifts_43) := sd_iconst dX9_shifts_43 rfl <| (sd_goto (tgt := 50) dX9_shifts_44 (by decide) sX9_shifts_50)
def bX9_shifts_23 : Kt Int32 := o_ald 0 <| o_ild 1 <| o_vc ev_i 8 2 fX9_hasIt <| o_ist 3 <| o_ald 0 <| o_gR 8 0 <| o_psh (.int 26) <| o_ild 1 <| o_i2 o_add <| o_ild 2 <| o_psh (.int (-4)) <| o_cne (o_fg 0 (o_fg 1 bX9_shifts_47)) <| (o_fg 0 (o_fg 1 (o_fg 2 bX9_shifts_43)))
set_option maxRecDepth 100000 in
theorem sX9_shifts_23 : Sd pX9_shifts ev_i 23 (bX9_shifts_23) := sd_aload_n dX9_shifts_23 rfl <| sd_iload_n dX9_shifts_24 rfl <| sd_vc tX9_hasIt (fun _ _ => rfl) rfl mwX9_hasIt mvX9_hasIt tw_689 (by decide) dX9_shifts_25 <| sd_istore_n dX9_shifts_28 rfl (by decide) <| sd_aload_n dX9_shifts_29 rfl <| sd_gR flX9_7 dX9_shifts_30 <| sd_bipush dX9_shifts_33 rfl <| sd_iload_n dX9_shifts_35 rfl <| sd_iadd dX9_shifts_36 <| sd_iload_n dX9_shifts_37 rfl <| sd_bipush dX9_shifts_38 rfl <| sd_cne (tgt := 47) dX9_shifts_40 (by decide) (sd_fg (i := 0) (sd_fg (i := 1) sX9_shifts_47)) <| (sd_fg (i := 0) (sd_fg (i := 1) (sd_fg (i := 2) sX9_shifts_43)))
def bX9_shifts_21 : Kt Int32 := o_psh (.int (-1)) <| o_rI
set_option maxRecDepth 100000 in
theorem sX9_shifts_21 : Sd pX9_shifts ev_i 21 (bX9_shifts_21) := sd_iconst dX9_shifts_21 rfl <| (sd_rI rfl dX9_shifts_22)
def bX9_shifts_13 : Kt Int32 := o_ald 0 <| o_ild 2 <| o_vc ev_i 8 2 fX9_isOne <| o_zne bX9_shifts_23 <| (o_fg 0 (o_fg 1 (o_fg 2 bX9_shifts_21)))
set_option maxRecDepth 100000 in
theorem sX9_shifts_13 : Sd pX9_shifts ev_i 13 (bX9_shifts_13) := sd_aload_n dX9_shifts_13 rfl <| sd_iload_n dX9_shifts_14 rfl <| sd_vc tX9_isOne (fun _ _ => rfl) rfl mwX9_isOne mvX9_isOne tw_717 (by decide) dX9_shifts_15 <| sd_zne (tgt := 23) dX9_shifts_18 (by decide) sX9_shifts_23 <| (sd_fg (i := 0) (sd_fg (i := 1) (sd_fg (i := 2) sX9_shifts_21)))
def bX9_shifts_7 : Kt Int32 := o_ild 2 <| o_psh (.int (-4)) <| o_ceq bX9_shifts_23 <| bX9_shifts_13
set_option maxRecDepth 100000 in
theorem sX9_shifts_7 : Sd pX9_shifts ev_i 7 (bX9_shifts_7) := sd_iload_n dX9_shifts_7 rfl <| sd_bipush dX9_shifts_8 rfl <| sd_ceq (tgt := 23) dX9_shifts_10 (by decide) sX9_shifts_23 <| sX9_shifts_13
def bX9_shifts_0 : Kt Int32 := o_ild 1 <| o_sc ev_i 1 fX9_isHour <| o_zeq (o_fg 0 (o_fg 1 (o_fg 2 bX9_shifts_21))) <| bX9_shifts_7
set_option maxRecDepth 100000 in
theorem sX9_shifts_0 : Sd pX9_shifts ev_i 0 (bX9_shifts_0) := sd_iload_n dX9_shifts_0 rfl <| sd_sc tX9_isHour (fun _ _ => rfl) mwX9_isHour mvX9_isHour tw_723 (by decide) dX9_shifts_1 <| sd_zeq (tgt := 21) dX9_shifts_4 (by decide) (sd_fg (i := 0) (sd_fg (i := 1) (sd_fg (i := 2) sX9_shifts_21))) <| sX9_shifts_7
def fX9_shifts : Mt Int32 := mk_f 4 bX9_shifts_0
theorem tX9_shifts : Ct ev_i yX9_shifts cX9_shifts 4 (some .int) 2 46 fX9_shifts := ct_of (by decide +kernel) sX9_shifts_0
abbrev pX9_shift : Px := (cX9_shift, 3, RX9, "shift", (some .int), 3, 69, fun _ => True)
def bX9_shift_0 : Kt Int32 := o_ald 0 <| o_ild 1 <| o_ild 2 <| o_vc ev_i 8 3 fX9_shifts <| o_rI
set_option maxRecDepth 100000 in
theorem sX9_shift_0 : Sd pX9_shift ev_i 0 (bX9_shift_0) := sd_aload_n dX9_shift_0 rfl <| sd_iload_n dX9_shift_1 rfl <| sd_iload_n dX9_shift_2 rfl <| sd_vc tX9_shifts (fun _ _ => rfl) rfl mwX9_shifts mvX9_shifts tw_748 (by decide) dX9_shift_3 <| (sd_rI rfl dX9_shift_6)
def fX9_shift : Mt Int32 := mk_f 3 bX9_shift_0
theorem tX9_shift : Ct ev_i yX9_shift cX9_shift 3 (some .int) 3 69 fX9_shift := ct_of (by decide +kernel) sX9_shift_0
abbrev pX9_assign : Px := (cX9_assign, 6, RX9, "assign", (some .int), 2, 46, fun _ => True)
def bX9_assign_118 : Kt Int32 := o_psh (.int 1) <| o_i2 o_add <| o_sI <| o_ald 0 <| o_gR 8 0 <| o_psh (.int 56) <| o_aI <| o_rI
set_option maxRecDepth 100000 in
theorem sX9_assign_118 : Sd pX9_assign ev_i 118 (bX9_assign_118) := sd_iconst dX9_assign_118 rfl <| sd_iadd dX9_assign_119 <| sd_sI dX9_assign_120 <| sd_aload_n dX9_assign_121 rfl <| sd_gR flX9_7 dX9_assign_122 <| sd_bipush dX9_assign_125 rfl <| sd_aI dX9_assign_127 <| (sd_rI rfl dX9_assign_128)
def bX9_assign_57 : Kt Int32 := o_psh (.int 36) <| o_psh (.int 4) <| o_ald 0 <| o_gR 8 0 <| o_psh (.int 56) <| o_aI <| o_i2 o_mul <| o_i2 o_add <| o_ist 5 <| o_ald 0 <| o_gR 8 0 <| o_ild 5 <| o_ild 1 <| o_sI <| o_ald 0 <| o_gR 8 0 <| o_ild 5 <| o_psh (.int 1) <| o_i2 o_add <| o_ild 2 <| o_sI <| o_ald 0 <| o_gR 8 0 <| o_ild 5 <| o_psh (.int 2) <| o_i2 o_add <| o_ild 3 <| o_sI <| o_ald 0 <| o_gR 8 0 <| o_ild 5 <| o_psh (.int 3) <| o_i2 o_add <| o_ild 4 <| o_sI <| o_ald 0 <| o_gR 8 0 <| o_psh (.int 56) <| o_du2 <| o_aI <| (o_fg 1 (o_fg 2 (o_fg 3 (o_fg 4 (o_fg 5 bX9_assign_118)))))
set_option maxRecDepth 100000 in
theorem sX9_assign_57 : Sd pX9_assign ev_i 57 (bX9_assign_57) := sd_bipush dX9_assign_57 rfl <| sd_iconst dX9_assign_59 rfl <| sd_aload_n dX9_assign_60 rfl <| sd_gR flX9_7 dX9_assign_61 <| sd_bipush dX9_assign_64 rfl <| sd_aI dX9_assign_66 <| sd_imul dX9_assign_67 <| sd_iadd dX9_assign_68 <| sd_istore dX9_assign_69 (by decide) <| sd_aload_n dX9_assign_71 rfl <| sd_gR flX9_7 dX9_assign_72 <| sd_iload dX9_assign_75 <| sd_iload_n dX9_assign_77 rfl <| sd_sI dX9_assign_78 <| sd_aload_n dX9_assign_79 rfl <| sd_gR flX9_7 dX9_assign_80 <| sd_iload dX9_assign_83 <| sd_iconst dX9_assign_85 rfl <| sd_iadd dX9_assign_86 <| sd_iload_n dX9_assign_87 rfl <| sd_sI dX9_assign_88 <| sd_aload_n dX9_assign_89 rfl <| sd_gR flX9_7 dX9_assign_90 <| sd_iload dX9_assign_93 <| sd_iconst dX9_assign_95 rfl <| sd_iadd dX9_assign_96 <| sd_iload_n dX9_assign_97 rfl <| sd_sI dX9_assign_98 <| sd_aload_n dX9_assign_99 rfl <| sd_gR flX9_7 dX9_assign_100 <| sd_iload dX9_assign_103 <| sd_iconst dX9_assign_105 rfl <| sd_iadd dX9_assign_106 <| sd_iload dX9_assign_107 <| sd_sI dX9_assign_109 <| sd_aload_n dX9_assign_110 rfl <| sd_gR flX9_7 dX9_assign_111 <| sd_bipush dX9_assign_114 rfl <| sd_dup2 dX9_assign_116 <| sd_aI dX9_assign_117 <| (sd_fg (i := 1) (sd_fg (i := 2) (sd_fg (i := 3) (sd_fg (i := 4) (sd_fg (i := 5) sX9_assign_118)))))
def bX9_assign_54 : Kt Int32 := o_psh (.int (-3)) <| o_rI
set_option maxRecDepth 100000 in
theorem sX9_assign_54 : Sd pX9_assign ev_i 54 (bX9_assign_54) := sd_bipush dX9_assign_54 rfl <| (sd_rI rfl dX9_assign_56)
def bX9_assign_43 : Kt Int32 := o_ald 0 <| o_gR 8 0 <| o_psh (.int 56) <| o_aI <| o_psh (.int 5) <| o_cne bX9_assign_57 <| (o_fg 0 (o_fg 1 (o_fg 2 (o_fg 3 (o_fg 4 bX9_assign_54)))))
set_option maxRecDepth 100000 in
theorem sX9_assign_43 : Sd pX9_assign ev_i 43 (bX9_assign_43) := sd_aload_n dX9_assign_43 rfl <| sd_gR flX9_7 dX9_assign_44 <| sd_bipush dX9_assign_47 rfl <| sd_aI dX9_assign_49 <| sd_iconst dX9_assign_50 rfl <| sd_cne (tgt := 57) dX9_assign_51 (by decide) sX9_assign_57 <| (sd_fg (i := 0) (sd_fg (i := 1) (sd_fg (i := 2) (sd_fg (i := 3) (sd_fg (i := 4) sX9_assign_54)))))
def bX9_assign_41 : Kt Int32 := o_psh (.int (-1)) <| o_rI
set_option maxRecDepth 100000 in
theorem sX9_assign_41 : Sd pX9_assign ev_i 41 (bX9_assign_41) := sd_iconst dX9_assign_41 rfl <| (sd_rI rfl dX9_assign_42)
def bX9_assign_28 : Kt Int32 := o_ild 4 <| o_i2l <| o_psh (.long 1) <| o_psh (.long 9) <| o_sc ev_i 3 fX9_in <| o_zne bX9_assign_43 <| (o_fg 0 (o_fg 1 (o_fg 2 (o_fg 3 (o_fg 4 bX9_assign_41)))))
set_option maxRecDepth 100000 in
theorem sX9_assign_28 : Sd pX9_assign ev_i 28 (bX9_assign_28) := sd_iload dX9_assign_28 <| sd_i2l dX9_assign_30 <| sd_lconst dX9_assign_31 rfl <| sd_ldc2 tw_680 dX9_assign_32 <| sd_sc tX9_in (fun _ _ => rfl) mwX9_in mvX9_in tw_611 (by decide) dX9_assign_35 <| sd_zne (tgt := 43) dX9_assign_38 (by decide) sX9_assign_43 <| (sd_fg (i := 0) (sd_fg (i := 1) (sd_fg (i := 2) (sd_fg (i := 3) (sd_fg (i := 4) sX9_assign_41)))))
def bX9_assign_15 : Kt Int32 := o_ild 3 <| o_i2l <| o_ild 2 <| o_i2l <| o_psh (.long 9) <| o_sc ev_i 3 fX9_in <| o_zeq (o_fg 0 (o_fg 1 (o_fg 2 (o_fg 3 (o_fg 4 bX9_assign_41))))) <| bX9_assign_28
set_option maxRecDepth 100000 in
theorem sX9_assign_15 : Sd pX9_assign ev_i 15 (bX9_assign_15) := sd_iload_n dX9_assign_15 rfl <| sd_i2l dX9_assign_16 <| sd_iload_n dX9_assign_17 rfl <| sd_i2l dX9_assign_18 <| sd_ldc2 tw_680 dX9_assign_19 <| sd_sc tX9_in (fun _ _ => rfl) mwX9_in mvX9_in tw_611 (by decide) dX9_assign_22 <| sd_zeq (tgt := 41) dX9_assign_25 (by decide) (sd_fg (i := 0) (sd_fg (i := 1) (sd_fg (i := 2) (sd_fg (i := 3) (sd_fg (i := 4) sX9_assign_41))))) <| sX9_assign_28
def bX9_assign_8 : Kt Int32 := o_ild 2 <| o_sc ev_i 1 fX9_isHour <| o_zeq (o_fg 0 (o_fg 1 (o_fg 2 (o_fg 3 (o_fg 4 bX9_assign_41))))) <| bX9_assign_15
set_option maxRecDepth 100000 in
theorem sX9_assign_8 : Sd pX9_assign ev_i 8 (bX9_assign_8) := sd_iload_n dX9_assign_8 rfl <| sd_sc tX9_isHour (fun _ _ => rfl) mwX9_isHour mvX9_isHour tw_723 (by decide) dX9_assign_9 <| sd_zeq (tgt := 41) dX9_assign_12 (by decide) (sd_fg (i := 0) (sd_fg (i := 1) (sd_fg (i := 2) (sd_fg (i := 3) (sd_fg (i := 4) sX9_assign_41))))) <| sX9_assign_15
def bX9_assign_0 : Kt Int32 := o_ald 0 <| o_ild 1 <| o_vc ev_i 8 2 fX9_isOne <| o_zeq (o_fg 0 (o_fg 1 (o_fg 2 (o_fg 3 (o_fg 4 bX9_assign_41))))) <| bX9_assign_8
set_option maxRecDepth 100000 in
theorem sX9_assign_0 : Sd pX9_assign ev_i 0 (bX9_assign_0) := sd_aload_n dX9_assign_0 rfl <| sd_iload_n dX9_assign_1 rfl <| sd_vc tX9_isOne (fun _ _ => rfl) rfl mwX9_isOne mvX9_isOne tw_717 (by decide) dX9_assign_2 <| sd_zeq (tgt := 41) dX9_assign_5 (by decide) (sd_fg (i := 0) (sd_fg (i := 1) (sd_fg (i := 2) (sd_fg (i := 3) (sd_fg (i := 4) sX9_assign_41))))) <| sX9_assign_8
def fX9_assign : Mt Int32 := mk_f 6 bX9_assign_0
theorem tX9_assign : Ct ev_i yX9_assign cX9_assign 6 (some .int) 2 46 fX9_assign := ct_of (by decide +kernel) sX9_assign_0
