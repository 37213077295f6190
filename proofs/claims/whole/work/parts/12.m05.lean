abbrev pX8_see : Px := (cX8_see, 5, RX8, "see", (some .int), 3, 68, fun _ => True)
def bX8_see_42 : Kt Int32 := o_ald 0 <| o_gR 7 3 <| o_ild 1 <| o_ild 2 <| o_ild 3 <| o_ild 4 <| o_vc ev_i 5 5 fX6_add <| o_rI
set_option maxRecDepth 100000 in
theorem sX8_see_42 : Sd pX8_see ev_i 42 (bX8_see_42) := sd_aload_n dX8_see_42 rfl <| sd_gR flX8_29 dX8_see_43 <| sd_iload_n dX8_see_46 rfl <| sd_iload_n dX8_see_47 rfl <| sd_iload_n dX8_see_48 rfl <| sd_iload dX8_see_49 <| sd_vc tX6_add (fun _ _ => rfl) rfl mwX6_add mvX6_add tw_404 (by decide) dX8_see_51 <| (sd_rI rfl dX8_see_54)
def bX8_see_40 : Kt Int32 := o_psh (.int (-1)) <| o_rI
set_option maxRecDepth 100000 in
theorem sX8_see_40 : Sd pX8_see ev_i 40 (bX8_see_40) := sd_iconst dX8_see_40 rfl <| (sd_rI rfl dX8_see_41)
def bX8_see_32 : Kt Int32 := o_ild 4 <| o_sc ev_i 1 fX8_isValue <| o_zne bX8_see_42 <| (o_fg 0 (o_fg 1 (o_fg 2 (o_fg 3 (o_fg 4 bX8_see_40)))))
set_option maxRecDepth 100000 in
theorem sX8_see_32 : Sd pX8_see ev_i 32 (bX8_see_32) := sd_iload dX8_see_32 <| sd_sc tX8_isValue (fun _ _ => rfl) mwX8_isValue mvX8_isValue tw_466 (by decide) dX8_see_34 <| sd_zne (tgt := 42) dX8_see_37 (by decide) sX8_see_42 <| (sd_fg (i := 0) (sd_fg (i := 1) (sd_fg (i := 2) (sd_fg (i := 3) (sd_fg (i := 4) sX8_see_40)))))
def bX8_see_25 : Kt Int32 := o_ild 4 <| o_psh (.int (-4)) <| o_ceq bX8_see_42 <| bX8_see_32
set_option maxRecDepth 100000 in
theorem sX8_see_25 : Sd pX8_see ev_i 25 (bX8_see_25) := sd_iload dX8_see_25 <| sd_bipush dX8_see_27 rfl <| sd_ceq (tgt := 42) dX8_see_29 (by decide) sX8_see_42 <| sX8_see_32
def bX8_see_18 : Kt Int32 := o_ild 3 <| o_sc ev_i 1 fX8_isHour <| o_zeq (o_fg 0 (o_fg 1 (o_fg 2 (o_fg 3 (o_fg 4 bX8_see_40))))) <| bX8_see_25
set_option maxRecDepth 100000 in
theorem sX8_see_18 : Sd pX8_see ev_i 18 (bX8_see_18) := sd_iload_n dX8_see_18 rfl <| sd_sc tX8_isHour (fun _ _ => rfl) mwX8_isHour mvX8_isHour tw_455 (by decide) dX8_see_19 <| sd_zeq (tgt := 40) dX8_see_22 (by decide) (sd_fg (i := 0) (sd_fg (i := 1) (sd_fg (i := 2) (sd_fg (i := 3) (sd_fg (i := 4) sX8_see_40))))) <| sX8_see_25
def bX8_see_11 : Kt Int32 := o_ild 2 <| o_sc ev_i 1 fX8_isThing <| o_zeq (o_fg 0 (o_fg 1 (o_fg 2 (o_fg 3 (o_fg 4 bX8_see_40))))) <| bX8_see_18
set_option maxRecDepth 100000 in
theorem sX8_see_11 : Sd pX8_see ev_i 11 (bX8_see_11) := sd_iload_n dX8_see_11 rfl <| sd_sc tX8_isThing (fun _ _ => rfl) mwX8_isThing mvX8_isThing tw_452 (by decide) dX8_see_12 <| sd_zeq (tgt := 40) dX8_see_15 (by decide) (sd_fg (i := 0) (sd_fg (i := 1) (sd_fg (i := 2) (sd_fg (i := 3) (sd_fg (i := 4) sX8_see_40))))) <| sX8_see_18
def bX8_see_0 : Kt Int32 := o_ald 0 <| o_gR 7 0 <| o_ild 1 <| o_vc ev_i 1 2 fX1_isOne <| o_zeq (o_fg 0 (o_fg 1 (o_fg 2 (o_fg 3 (o_fg 4 bX8_see_40))))) <| bX8_see_11
set_option maxRecDepth 100000 in
theorem sX8_see_0 : Sd pX8_see ev_i 0 (bX8_see_0) := sd_aload_n dX8_see_0 rfl <| sd_gR flX8_10 dX8_see_1 <| sd_iload_n dX8_see_4 rfl <| sd_vc tX1_isOne (fun _ _ => rfl) rfl mwX1_isOne mvX1_isOne tw_440 (by decide) dX8_see_5 <| sd_zeq (tgt := 40) dX8_see_8 (by decide) (sd_fg (i := 0) (sd_fg (i := 1) (sd_fg (i := 2) (sd_fg (i := 3) (sd_fg (i := 4) sX8_see_40))))) <| sX8_see_11
def fX8_see : Mt Int32 := mk_f 5 bX8_see_0
theorem tX8_see : Ct ev_i yX8_see cX8_see 5 (some .int) 3 68 fX8_see := ct_of (by decide +kernel) sX8_see_0
abbrev pX8_forget : Px := (cX8_forget, 2, RX8, "forget", (some .int), 1, 22, fun _ => True)
def bX8_forget_0 : Kt Int32 := o_ald 0 <| o_gR 7 3 <| o_ild 1 <| o_vc ev_i 5 2 fX6_cutTo <| o_rI
set_option maxRecDepth 100000 in
theorem sX8_forget_0 : Sd pX8_forget ev_i 0 (bX8_forget_0) := sd_aload_n dX8_forget_0 rfl <| sd_gR flX8_29 dX8_forget_1 <| sd_iload_n dX8_forget_4 rfl <| sd_vc tX6_cutTo (fun _ _ => rfl) rfl mwX6_cutTo mvX6_cutTo tw_408 (by decide) dX8_forget_5 <| (sd_rI rfl dX8_forget_8)
def fX8_forget : Mt Int32 := mk_f 2 bX8_forget_0
theorem tX8_forget : Ct ev_i yX8_forget cX8_forget 2 (some .int) 1 22 fX8_forget := ct_of (by decide +kernel) sX8_forget_0
abbrev pX8_possibleHolders : Px := (cX8_possibleHolders, 5, RX8, "possibleHolders", (some .int), 5, 117, fun _ => True)
def bX8_possibleHolders_119 : Kt Int32 := o_ild 2 <| o_rI
set_option maxRecDepth 100000 in
theorem sX8_possibleHolders_119 : Sd pX8_possibleHolders ev_i 119 (bX8_possibleHolders_119) := sd_iload_n dX8_possibleHolders_119 rfl <| (sd_rI rfl dX8_possibleHolders_120)
def bX8_possibleHolders_113 (K8 : Kt Int32) : Kt Int32 := o_inc 3 1 <| K8
set_option maxRecDepth 100000 in
theorem sX8_possibleHolders_113 {K8 : Kt Int32} (h8 : Sd pX8_possibleHolders ev_i 8 K8) : Sd pX8_possibleHolders ev_i 113 (bX8_possibleHolders_113 K8) := sd_iinc dX8_possibleHolders_113 rfl (by decide) <| (sd_goto (tgt := 8) dX8_possibleHolders_116 (by decide) h8)
def bX8_possibleHolders_111 (K8 : Kt Int32) : Kt Int32 := o_i2 o_or <| o_ist 2 <| (bX8_possibleHolders_113 K8)
set_option maxRecDepth 100000 in
theorem sX8_possibleHolders_111 {K8 : Kt Int32} (h8 : Sd pX8_possibleHolders ev_i 8 K8) : Sd pX8_possibleHolders ev_i 111 (bX8_possibleHolders_111 K8) := sd_ior dX8_possibleHolders_111 <| sd_istore_n dX8_possibleHolders_112 rfl (by decide) <| (sX8_possibleHolders_113 h8)
def bX8_possibleHolders_110 (K8 : Kt Int32) : Kt Int32 := o_psh (.int 0) <| (bX8_possibleHolders_111 K8)
set_option maxRecDepth 100000 in
theorem sX8_possibleHolders_110 {K8 : Kt Int32} (h8 : Sd pX8_possibleHolders ev_i 8 K8) : Sd pX8_possibleHolders ev_i 110 (bX8_possibleHolders_110 K8) := sd_iconst dX8_possibleHolders_110 rfl <| (sX8_possibleHolders_111 h8)
def bX8_possibleHolders_104 (K8 : Kt Int32) : Kt Int32 := o_psh (.int 1) <| o_ild 3 <| o_i2 o_shl <| (bX8_possibleHolders_111 K8)
set_option maxRecDepth 100000 in
theorem sX8_possibleHolders_104 {K8 : Kt Int32} (h8 : Sd pX8_possibleHolders ev_i 8 K8) : Sd pX8_possibleHolders ev_i 104 (bX8_possibleHolders_104 K8) := sd_iconst dX8_possibleHolders_104 rfl <| sd_iload_n dX8_possibleHolders_105 rfl <| sd_ishl dX8_possibleHolders_106 <| (sd_goto (tgt := 111) dX8_possibleHolders_107 (by decide) (sX8_possibleHolders_111 h8))
def bX8_possibleHolders_57 (K8 : Kt Int32) : Kt Int32 := o_sI <| o_ald 0 <| o_gR 7 8 <| o_ald 0 <| o_gR 7 0 <| o_ald 0 <| o_gR 7 10 <| o_vc ev_v 0 3 fX0_live <| o_ald 0 <| o_gR 7 8 <| o_ald 0 <| o_gR 7 11 <| o_ild 3 <| o_psh (.int 5) <| o_i2 o_mul <| o_psh (.int 3) <| o_i2 o_mul <| o_vc ev_v 0 3 fX0_copyLast <| o_ild 2 <| o_ald 0 <| o_gR 7 8 <| o_ald 0 <| o_gR 7 3 <| o_vc ev_i 0 2 fX0_isAsSeen <| o_zeq (o_fg 2 (bX8_possibleHolders_110 K8)) <| (o_fg 2 (bX8_possibleHolders_104 K8))
set_option maxRecDepth 100000 in
theorem sX8_possibleHolders_57 {K8 : Kt Int32} (h8 : Sd pX8_possibleHolders ev_i 8 K8) : Sd pX8_possibleHolders ev_i 57 (bX8_possibleHolders_57 K8) := sd_sI dX8_possibleHolders_57 <| sd_aload_n dX8_possibleHolders_58 rfl <| sd_gR flX8_61 dX8_possibleHolders_59 <| sd_aload_n dX8_possibleHolders_62 rfl <| sd_gR flX8_10 dX8_possibleHolders_63 <| sd_aload_n dX8_possibleHolders_66 rfl <| sd_gR flX8_72 dX8_possibleHolders_67 <| sd_vc tX0_live (fun _ _ => rfl) rfl mwX0_live mvX0_live tw_476 (by decide) dX8_possibleHolders_70 <| sd_aload_n dX8_possibleHolders_73 rfl <| sd_gR flX8_61 dX8_possibleHolders_74 <| sd_aload_n dX8_possibleHolders_77 rfl <| sd_gR flX8_76 dX8_possibleHolders_78 <| sd_iload_n dX8_possibleHolders_81 rfl <| sd_iconst dX8_possibleHolders_82 rfl <| sd_imul dX8_possibleHolders_83 <| sd_iconst dX8_possibleHolders_84 rfl <| sd_imul dX8_possibleHolders_85 <| sd_vc tX0_copyLast (fun _ _ => rfl) rfl mwX0_copyLast mvX0_copyLast tw_537 (by decide) dX8_possibleHolders_86 <| sd_iload_n dX8_possibleHolders_89 rfl <| sd_aload_n dX8_possibleHolders_90 rfl <| sd_gR flX8_61 dX8_possibleHolders_91 <| sd_aload_n dX8_possibleHolders_94 rfl <| sd_gR flX8_29 dX8_possibleHolders_95 <| sd_vc tX0_isAsSeen (fun _ _ => rfl) rfl mwX0_isAsSeen mvX0_isAsSeen tw_541 (by decide) dX8_possibleHolders_98 <| sd_zeq (tgt := 110) dX8_possibleHolders_101 (by decide) (sd_fg (i := 2) (sX8_possibleHolders_110 h8)) <| (sd_fg (i := 2) (sX8_possibleHolders_104 h8))
def bX8_possibleHolders_56 (K8 : Kt Int32) : Kt Int32 := o_ild 3 <| (bX8_possibleHolders_57 K8)
set_option maxRecDepth 100000 in
theorem sX8_possibleHolders_56 {K8 : Kt Int32} (h8 : Sd pX8_possibleHolders ev_i 8 K8) : Sd pX8_possibleHolders ev_i 56 (bX8_possibleHolders_56 K8) := sd_iload_n dX8_possibleHolders_56 rfl <| (sX8_possibleHolders_57 h8)
def bX8_possibleHolders_51 (K8 : Kt Int32) : Kt Int32 := o_psh (.int (-4)) <| (bX8_possibleHolders_57 K8)
set_option maxRecDepth 100000 in
theorem sX8_possibleHolders_51 {K8 : Kt Int32} (h8 : Sd pX8_possibleHolders ev_i 8 K8) : Sd pX8_possibleHolders ev_i 51 (bX8_possibleHolders_51 K8) := sd_bipush dX8_possibleHolders_51 rfl <| (sd_goto (tgt := 57) dX8_possibleHolders_53 (by decide) (sX8_possibleHolders_57 h8))
def bX8_possibleHolders_41 (K8 : Kt Int32) : Kt Int32 := o_ald 0 <| o_gR 7 10 <| o_ild 1 <| o_ild 4 <| o_zeq (o_fg 4 (bX8_possibleHolders_56 K8)) <| (o_fg 4 (bX8_possibleHolders_51 K8))
set_option maxRecDepth 100000 in
theorem sX8_possibleHolders_41 {K8 : Kt Int32} (h8 : Sd pX8_possibleHolders ev_i 8 K8) : Sd pX8_possibleHolders ev_i 41 (bX8_possibleHolders_41 K8) := sd_aload_n dX8_possibleHolders_41 rfl <| sd_gR flX8_72 dX8_possibleHolders_42 <| sd_iload_n dX8_possibleHolders_45 rfl <| sd_iload dX8_possibleHolders_46 <| sd_zeq (tgt := 56) dX8_possibleHolders_48 (by decide) (sd_fg (i := 4) (sX8_possibleHolders_56 h8)) <| (sd_fg (i := 4) (sX8_possibleHolders_51 h8))
def bX8_possibleHolders_30 (K8 : Kt Int32) : Kt Int32 := o_ald 0 <| o_gR 7 0 <| o_ild 3 <| o_vc ev_i 1 2 fX1_isOne <| o_zeq (o_fg 4 (bX8_possibleHolders_113 K8)) <| (bX8_possibleHolders_41 K8)
set_option maxRecDepth 100000 in
theorem sX8_possibleHolders_30 {K8 : Kt Int32} (h8 : Sd pX8_possibleHolders ev_i 8 K8) : Sd pX8_possibleHolders ev_i 30 (bX8_possibleHolders_30 K8) := sd_aload_n dX8_possibleHolders_30 rfl <| sd_gR flX8_10 dX8_possibleHolders_31 <| sd_iload_n dX8_possibleHolders_34 rfl <| sd_vc tX1_isOne (fun _ _ => rfl) rfl mwX1_isOne mvX1_isOne tw_440 (by decide) dX8_possibleHolders_35 <| sd_zeq (tgt := 113) dX8_possibleHolders_38 (by decide) (sd_fg (i := 4) (sX8_possibleHolders_113 h8)) <| (sX8_possibleHolders_41 h8)
def bX8_possibleHolders_23 (K8 : Kt Int32) : Kt Int32 := o_ist 4 <| o_ild 4 <| o_zne (bX8_possibleHolders_41 K8) <| (bX8_possibleHolders_30 K8)
set_option maxRecDepth 100000 in
theorem sX8_possibleHolders_23 {K8 : Kt Int32} (h8 : Sd pX8_possibleHolders ev_i 8 K8) : Sd pX8_possibleHolders ev_i 23 (bX8_possibleHolders_23 K8) := sd_istore dX8_possibleHolders_23 (by decide) <| sd_iload dX8_possibleHolders_25 <| sd_zne (tgt := 41) dX8_possibleHolders_27 (by decide) (sX8_possibleHolders_41 h8) <| (sX8_possibleHolders_30 h8)
def bX8_possibleHolders_22 (K8 : Kt Int32) : Kt Int32 := o_psh (.int 0) <| (bX8_possibleHolders_23 K8)
set_option maxRecDepth 100000 in
theorem sX8_possibleHolders_22 {K8 : Kt Int32} (h8 : Sd pX8_possibleHolders ev_i 8 K8) : Sd pX8_possibleHolders ev_i 22 (bX8_possibleHolders_22 K8) := sd_iconst dX8_possibleHolders_22 rfl <| (sX8_possibleHolders_23 h8)
def bX8_possibleHolders_18 (K8 : Kt Int32) : Kt Int32 := o_psh (.int 1) <| (bX8_possibleHolders_23 K8)
set_option maxRecDepth 100000 in
theorem sX8_possibleHolders_18 {K8 : Kt Int32} (h8 : Sd pX8_possibleHolders ev_i 8 K8) : Sd pX8_possibleHolders ev_i 18 (bX8_possibleHolders_18 K8) := sd_iconst dX8_possibleHolders_18 rfl <| (sd_goto (tgt := 23) dX8_possibleHolders_19 (by decide) (sX8_possibleHolders_23 h8))
def bX8_possibleHolders_13 (K8 : Kt Int32) : Kt Int32 := o_ild 3 <| o_psh (.int 5) <| o_cne (bX8_possibleHolders_22 K8) <| (bX8_possibleHolders_18 K8)
set_option maxRecDepth 100000 in
theorem sX8_possibleHolders_13 {K8 : Kt Int32} (h8 : Sd pX8_possibleHolders ev_i 8 K8) : Sd pX8_possibleHolders ev_i 13 (bX8_possibleHolders_13 K8) := sd_iload_n dX8_possibleHolders_13 rfl <| sd_iconst dX8_possibleHolders_14 rfl <| sd_cne (tgt := 22) dX8_possibleHolders_15 (by decide) (sX8_possibleHolders_22 h8) <| (sX8_possibleHolders_18 h8)
def bX8_possibleHolders_8 (K8 : Kt Int32) : Kt Int32 := o_ild 3 <| o_psh (.int 5) <| o_cgt (o_fg 0 (o_fg 1 (o_fg 3 bX8_possibleHolders_119))) <| (bX8_possibleHolders_13 K8)
set_option maxRecDepth 100000 in
theorem sX8_possibleHolders_8 {K8 : Kt Int32} (h8 : Sd pX8_possibleHolders ev_i 8 K8) : Sd pX8_possibleHolders ev_i 8 (bX8_possibleHolders_8 K8) := sd_iload_n dX8_possibleHolders_8 rfl <| sd_iconst dX8_possibleHolders_9 rfl <| sd_cgt (tgt := 119) dX8_possibleHolders_10 (by decide) (sd_fg (i := 0) (sd_fg (i := 1) (sd_fg (i := 3) sX8_possibleHolders_119))) <| (sX8_possibleHolders_13 h8)
def bX8_possibleHolders_0 : Kt Int32 := o_ald 0 <| o_vc ev_v 7 1 fX8_takeTrial <| o_psh (.int 0) <| o_ist 2 <| o_psh (.int 0) <| o_ist 3 <| (o_lp (bX8_possibleHolders_8) fu)
set_option maxRecDepth 100000 in
theorem sX8_possibleHolders_0 : Sd pX8_possibleHolders ev_i 0 (bX8_possibleHolders_0) := sd_aload_n dX8_possibleHolders_0 rfl <| sd_vc tX8_takeTrial (fun _ _ => rfl) rfl mwX8_takeTrial mvX8_takeTrial tw_505 (by decide) dX8_possibleHolders_1 <| sd_iconst dX8_possibleHolders_4 rfl <| sd_istore_n dX8_possibleHolders_5 rfl (by decide) <| sd_iconst dX8_possibleHolders_6 rfl <| sd_istore_n dX8_possibleHolders_7 rfl (by decide) <| (sd_lp (fun K h => sX8_possibleHolders_8 h) fu)
def fX8_possibleHolders : Mt Int32 := mk_f 5 bX8_possibleHolders_0
theorem tX8_possibleHolders : Ct ev_i yX8_possibleHolders cX8_possibleHolders 5 (some .int) 5 117 fX8_possibleHolders := ct_of (by decide +kernel) sX8_possibleHolders_0
abbrev pX8_may : Px := (cX8_may, 2, RX8, "may", (some .int), 6, 141, fun _ => True)
def bX8_may_16 : Kt Int32 := o_rI
set_option maxRecDepth 100000 in
theorem sX8_may_16 : Sd pX8_may ev_i 16 (bX8_may_16) := (sd_rI rfl dX8_may_16)
def bX8_may_15 : Kt Int32 := o_psh (.int (-1)) <| bX8_may_16
set_option maxRecDepth 100000 in
theorem sX8_may_15 : Sd pX8_may ev_i 15 (bX8_may_15) := sd_iconst dX8_may_15 rfl <| sX8_may_16
def bX8_may_7 : Kt Int32 := o_ald 0 <| o_ild 1 <| o_vc ev_i 7 2 fX8_possibleHolders <| (o_fg 0 (o_fg 1 bX8_may_16))
set_option maxRecDepth 100000 in
theorem sX8_may_7 : Sd pX8_may ev_i 7 (bX8_may_7) := sd_aload_n dX8_may_7 rfl <| sd_iload_n dX8_may_8 rfl <| sd_vc tX8_possibleHolders (fun _ _ => rfl) rfl mwX8_possibleHolders mvX8_possibleHolders tw_545 (by decide) dX8_may_9 <| (sd_goto (tgt := 16) dX8_may_12 (by decide) (sd_fg (i := 0) (sd_fg (i := 1) sX8_may_16)))
def bX8_may_0 : Kt Int32 := o_ild 1 <| o_sc ev_i 1 fX8_isHour <| o_zeq (o_fg 0 (o_fg 1 bX8_may_15)) <| bX8_may_7
set_option maxRecDepth 100000 in
theorem sX8_may_0 : Sd pX8_may ev_i 0 (bX8_may_0) := sd_iload_n dX8_may_0 rfl <| sd_sc tX8_isHour (fun _ _ => rfl) mwX8_isHour mvX8_isHour tw_455 (by decide) dX8_may_1 <| sd_zeq (tgt := 15) dX8_may_4 (by decide) (sd_fg (i := 0) (sd_fg (i := 1) sX8_may_15)) <| sX8_may_7
def fX8_may : Mt Int32 := mk_f 2 bX8_may_0
theorem tX8_may : Ct ev_i yX8_may cX8_may 2 (some .int) 6 141 fX8_may := ct_of (by decide +kernel) sX8_may_0
abbrev pX8_answerBy : Px := (cX8_answerBy, 4, RX8, "answerBy", (some .int), 0, 0, fun _ => True)
def bX8_answerBy_0 : Kt Int32 := o_ald 0 <| o_gR 7 11 <| o_ild 1 <| o_psh (.int 5) <| o_i2 o_mul <| o_ild 2 <| o_i2 o_add <| o_psh (.int 3) <| o_i2 o_mul <| o_ild 3 <| o_i2 o_add <| o_aI <| o_rI
set_option maxRecDepth 100000 in
theorem sX8_answerBy_0 : Sd pX8_answerBy ev_i 0 (bX8_answerBy_0) := sd_aload_n dX8_answerBy_0 rfl <| sd_gR flX8_76 dX8_answerBy_1 <| sd_iload_n dX8_answerBy_4 rfl <| sd_iconst dX8_answerBy_5 rfl <| sd_imul dX8_answerBy_6 <| sd_iload_n dX8_answerBy_7 rfl <| sd_iadd dX8_answerBy_8 <| sd_iconst dX8_answerBy_9 rfl <| sd_imul dX8_answerBy_10 <| sd_iload_n dX8_answerBy_11 rfl <| sd_iadd dX8_answerBy_12 <| sd_aI dX8_answerBy_13 <| (sd_rI rfl dX8_answerBy_14)
def fX8_answerBy : Mt Int32 := mk_f 4 bX8_answerBy_0
theorem tX8_answerBy : Ct ev_i yX8_answerBy cX8_answerBy 4 (some .int) 0 0 fX8_answerBy := ct_of (by decide +kernel) sX8_answerBy_0
abbrev pX8_leftAtWorst : Px := (cX8_leftAtWorst, 9, RX8, "leftAtWorst", (some .int), 1, 23, fun _ => True)
def bX8_leftAtWorst_97 : Kt Int32 := o_ild 4 <| o_rI
set_option maxRecDepth 100000 in
theorem sX8_leftAtWorst_97 : Sd pX8_leftAtWorst ev_i 97 (bX8_leftAtWorst_97) := sd_iload dX8_leftAtWorst_97 <| (sd_rI rfl dX8_leftAtWorst_99)
def bX8_leftAtWorst_82 (K6 : Kt Int32) : Kt Int32 := o_ild 4 <| o_ild 6 <| o_m2 o_max <| o_ist 4 <| o_inc 5 1 <| (o_fg 6 K6)
set_option maxRecDepth 100000 in
theorem sX8_leftAtWorst_82 {K6 : Kt Int32} (h6 : Sd pX8_leftAtWorst ev_i 6 K6) : Sd pX8_leftAtWorst ev_i 82 (bX8_leftAtWorst_82 K6) := sd_iload dX8_leftAtWorst_82 <| sd_iload dX8_leftAtWorst_84 <| sd_mmax ⟨tw_550, tw_32, tw_33, tw_34⟩ (by decide) dX8_leftAtWorst_86 <| sd_istore dX8_leftAtWorst_89 (by decide) <| sd_iinc dX8_leftAtWorst_91 rfl (by decide) <| (sd_goto (tgt := 6) dX8_leftAtWorst_94 (by decide) (sd_fg (i := 6) h6))
def bX8_leftAtWorst_76 (K6 : Kt Int32) (K18 : Kt Int32) : Kt Int32 := o_inc 7 1 <| K18
set_option maxRecDepth 100000 in
theorem sX8_leftAtWorst_76 {K6 : Kt Int32} (h6 : Sd pX8_leftAtWorst ev_i 6 K6) {K18 : Kt Int32} (h18 : Sd pX8_leftAtWorst ev_i 18 K18) : Sd pX8_leftAtWorst ev_i 76 (bX8_leftAtWorst_76 K6 K18) := sd_iinc dX8_leftAtWorst_76 rfl (by decide) <| (sd_goto (tgt := 18) dX8_leftAtWorst_79 (by decide) h18)
def bX8_leftAtWorst_73 (K6 : Kt Int32) (K18 : Kt Int32) : Kt Int32 := o_inc 6 1 <| (bX8_leftAtWorst_76 K6 K18)
set_option maxRecDepth 100000 in
theorem sX8_leftAtWorst_73 {K6 : Kt Int32} (h6 : Sd pX8_leftAtWorst ev_i 6 K6) {K18 : Kt Int32} (h18 : Sd pX8_leftAtWorst ev_i 18 K18) : Sd pX8_leftAtWorst ev_i 73 (bX8_leftAtWorst_73 K6 K18) := sd_iinc dX8_leftAtWorst_73 rfl (by decide) <| (sX8_leftAtWorst_76 h6 h18)
def bX8_leftAtWorst_54 (K6 : Kt Int32) (K18 : Kt Int32) : Kt Int32 := o_ald 0 <| o_ild 5 <| o_ild 2 <| o_ild 3 <| o_vc ev_i 7 4 fX8_answerBy <| o_ald 0 <| o_ild 7 <| o_ild 2 <| o_ild 3 <| o_vc ev_i 7 4 fX8_answerBy <| o_cne (bX8_leftAtWorst_76 K6 K18) <| (bX8_leftAtWorst_73 K6 K18)
set_option maxRecDepth 100000 in
theorem sX8_leftAtWorst_54 {K6 : Kt Int32} (h6 : Sd pX8_leftAtWorst ev_i 6 K6) {K18 : Kt Int32} (h18 : Sd pX8_leftAtWorst ev_i 18 K18) : Sd pX8_leftAtWorst ev_i 54 (bX8_leftAtWorst_54 K6 K18) := sd_aload_n dX8_leftAtWorst_54 rfl <| sd_iload dX8_leftAtWorst_55 <| sd_iload_n dX8_leftAtWorst_57 rfl <| sd_iload_n dX8_leftAtWorst_58 rfl <| sd_vc tX8_answerBy (fun _ _ => rfl) rfl mwX8_answerBy mvX8_answerBy tw_549 (by decide) dX8_leftAtWorst_59 <| sd_aload_n dX8_leftAtWorst_62 rfl <| sd_iload dX8_leftAtWorst_63 <| sd_iload_n dX8_leftAtWorst_65 rfl <| sd_iload_n dX8_leftAtWorst_66 rfl <| sd_vc tX8_answerBy (fun _ _ => rfl) rfl mwX8_answerBy mvX8_answerBy tw_549 (by decide) dX8_leftAtWorst_67 <| sd_cne (tgt := 76) dX8_leftAtWorst_70 (by decide) (sX8_leftAtWorst_76 h6 h18) <| (sX8_leftAtWorst_73 h6 h18)
def bX8_leftAtWorst_47 (K6 : Kt Int32) (K18 : Kt Int32) : Kt Int32 := o_ist 8 <| o_ild 8 <| o_zeq (o_fg 8 (bX8_leftAtWorst_76 K6 K18)) <| (o_fg 8 (bX8_leftAtWorst_54 K6 K18))
set_option maxRecDepth 100000 in
theorem sX8_leftAtWorst_47 {K6 : Kt Int32} (h6 : Sd pX8_leftAtWorst ev_i 6 K6) {K18 : Kt Int32} (h18 : Sd pX8_leftAtWorst ev_i 18 K18) : Sd pX8_leftAtWorst ev_i 47 (bX8_leftAtWorst_47 K6 K18) := sd_istore dX8_leftAtWorst_47 (by decide) <| sd_iload dX8_leftAtWorst_49 <| sd_zeq (tgt := 76) dX8_leftAtWorst_51 (by decide) (sd_fg (i := 8) (sX8_leftAtWorst_76 h6 h18)) <| (sd_fg (i := 8) (sX8_leftAtWorst_54 h6 h18))
def bX8_leftAtWorst_46 (K6 : Kt Int32) (K18 : Kt Int32) : Kt Int32 := o_psh (.int 0) <| (bX8_leftAtWorst_47 K6 K18)
set_option maxRecDepth 100000 in
theorem sX8_leftAtWorst_46 {K6 : Kt Int32} (h6 : Sd pX8_leftAtWorst ev_i 6 K6) {K18 : Kt Int32} (h18 : Sd pX8_leftAtWorst ev_i 18 K18) : Sd pX8_leftAtWorst ev_i 46 (bX8_leftAtWorst_46 K6 K18) := sd_iconst dX8_leftAtWorst_46 rfl <| (sX8_leftAtWorst_47 h6 h18)
def bX8_leftAtWorst_42 (K6 : Kt Int32) (K18 : Kt Int32) : Kt Int32 := o_psh (.int 1) <| (bX8_leftAtWorst_47 K6 K18)
set_option maxRecDepth 100000 in
theorem sX8_leftAtWorst_42 {K6 : Kt Int32} (h6 : Sd pX8_leftAtWorst ev_i 6 K6) {K18 : Kt Int32} (h18 : Sd pX8_leftAtWorst ev_i 18 K18) : Sd pX8_leftAtWorst ev_i 42 (bX8_leftAtWorst_42 K6 K18) := sd_iconst dX8_leftAtWorst_42 rfl <| (sd_goto (tgt := 47) dX8_leftAtWorst_43 (by decide) (sX8_leftAtWorst_47 h6 h18))
def bX8_leftAtWorst_33 (K6 : Kt Int32) (K18 : Kt Int32) : Kt Int32 := o_ild 1 <| o_psh (.int 1) <| o_ild 7 <| o_i2 o_shl <| o_i2 o_and <| o_zeq (bX8_leftAtWorst_46 K6 K18) <| (bX8_leftAtWorst_42 K6 K18)
set_option maxRecDepth 100000 in
theorem sX8_leftAtWorst_33 {K6 : Kt Int32} (h6 : Sd pX8_leftAtWorst ev_i 6 K6) {K18 : Kt Int32} (h18 : Sd pX8_leftAtWorst ev_i 18 K18) : Sd pX8_leftAtWorst ev_i 33 (bX8_leftAtWorst_33 K6 K18) := sd_iload_n dX8_leftAtWorst_33 rfl <| sd_iconst dX8_leftAtWorst_34 rfl <| sd_iload dX8_leftAtWorst_35 <| sd_ishl dX8_leftAtWorst_37 <| sd_iand dX8_leftAtWorst_38 <| sd_zeq (tgt := 46) dX8_leftAtWorst_39 (by decide) (sX8_leftAtWorst_46 h6 h18) <| (sX8_leftAtWorst_42 h6 h18)
def bX8_leftAtWorst_24 (K6 : Kt Int32) (K18 : Kt Int32) : Kt Int32 := o_ild 1 <| o_psh (.int 1) <| o_ild 5 <| o_i2 o_shl <| o_i2 o_and <| o_zeq (bX8_leftAtWorst_46 K6 K18) <| (bX8_leftAtWorst_33 K6 K18)
set_option maxRecDepth 100000 in
theorem sX8_leftAtWorst_24 {K6 : Kt Int32} (h6 : Sd pX8_leftAtWorst ev_i 6 K6) {K18 : Kt Int32} (h18 : Sd pX8_leftAtWorst ev_i 18 K18) : Sd pX8_leftAtWorst ev_i 24 (bX8_leftAtWorst_24 K6 K18) := sd_iload_n dX8_leftAtWorst_24 rfl <| sd_iconst dX8_leftAtWorst_25 rfl <| sd_iload dX8_leftAtWorst_26 <| sd_ishl dX8_leftAtWorst_28 <| sd_iand dX8_leftAtWorst_29 <| sd_zeq (tgt := 46) dX8_leftAtWorst_30 (by decide) (sX8_leftAtWorst_46 h6 h18) <| (sX8_leftAtWorst_33 h6 h18)
def bX8_leftAtWorst_18 (K6 : Kt Int32) (K18 : Kt Int32) : Kt Int32 := o_ild 7 <| o_psh (.int 5) <| o_cgt (o_fg 7 (bX8_leftAtWorst_82 K6)) <| (bX8_leftAtWorst_24 K6 K18)
set_option maxRecDepth 100000 in
theorem sX8_leftAtWorst_18 {K6 : Kt Int32} (h6 : Sd pX8_leftAtWorst ev_i 6 K6) {K18 : Kt Int32} (h18 : Sd pX8_leftAtWorst ev_i 18 K18) : Sd pX8_leftAtWorst ev_i 18 (bX8_leftAtWorst_18 K6 K18) := sd_iload dX8_leftAtWorst_18 <| sd_iconst dX8_leftAtWorst_20 rfl <| sd_cgt (tgt := 82) dX8_leftAtWorst_21 (by decide) (sd_fg (i := 7) (sX8_leftAtWorst_82 h6)) <| (sX8_leftAtWorst_24 h6 h18)
def bX8_leftAtWorst_12 (K6 : Kt Int32) : Kt Int32 := o_psh (.int 0) <| o_ist 6 <| o_psh (.int 0) <| o_ist 7 <| (o_lp (bX8_leftAtWorst_18 K6) fu)
set_option maxRecDepth 100000 in
theorem sX8_leftAtWorst_12 {K6 : Kt Int32} (h6 : Sd pX8_leftAtWorst ev_i 6 K6) : Sd pX8_leftAtWorst ev_i 12 (bX8_leftAtWorst_12 K6) := sd_iconst dX8_leftAtWorst_12 rfl <| sd_istore dX8_leftAtWorst_13 (by decide) <| sd_iconst dX8_leftAtWorst_15 rfl <| sd_istore dX8_leftAtWorst_16 (by decide) <| (sd_lp (fun K h => sX8_leftAtWorst_18 h6 h) fu)
def bX8_leftAtWorst_6 (K6 : Kt Int32) : Kt Int32 := o_ild 5 <| o_psh (.int 5) <| o_cgt (o_fg 0 (o_fg 1 (o_fg 2 (o_fg 3 (o_fg 5 bX8_leftAtWorst_97))))) <| (bX8_leftAtWorst_12 K6)
set_option maxRecDepth 100000 in
theorem sX8_leftAtWorst_6 {K6 : Kt Int32} (h6 : Sd pX8_leftAtWorst ev_i 6 K6) : Sd pX8_leftAtWorst ev_i 6 (bX8_leftAtWorst_6 K6) := sd_iload dX8_leftAtWorst_6 <| sd_iconst dX8_leftAtWorst_8 rfl <| sd_cgt (tgt := 97) dX8_leftAtWorst_9 (by decide) (sd_fg (i := 0) (sd_fg (i := 1) (sd_fg (i := 2) (sd_fg (i := 3) (sd_fg (i := 5) sX8_leftAtWorst_97))))) <| (sX8_leftAtWorst_12 h6)
def bX8_leftAtWorst_0 : Kt Int32 := o_psh (.int 0) <| o_ist 4 <| o_psh (.int 0) <| o_ist 5 <| (o_lp (bX8_leftAtWorst_6) fu)
set_option maxRecDepth 100000 in
theorem sX8_leftAtWorst_0 : Sd pX8_leftAtWorst ev_i 0 (bX8_leftAtWorst_0) := sd_iconst dX8_leftAtWorst_0 rfl <| sd_istore dX8_leftAtWorst_1 (by decide) <| sd_iconst dX8_leftAtWorst_3 rfl <| sd_istore dX8_leftAtWorst_4 (by decide) <| (sd_lp (fun K h => sX8_leftAtWorst_6 h) fu)
def fX8_leftAtWorst : Mt Int32 := mk_f 9 bX8_leftAtWorst_0
theorem tX8_leftAtWorst : Ct ev_i yX8_leftAtWorst cX8_leftAtWorst 9 (some .int) 1 23 fX8_leftAtWorst := ct_of (by decide +kernel) sX8_leftAtWorst_0
abbrev pX8_ask : Px := (cX8_ask, 9, RX8, "ask", (some .int), 6, 141, fun _ => True)
def bX8_ask_121 : Kt Int32 := o_rI
set_option maxRecDepth 100000 in
theorem sX8_ask_121 : Sd pX8_ask ev_i 121 (bX8_ask_121) := (sd_rI rfl dX8_ask_121)
def bX8_ask_119 : Kt Int32 := o_ild 4 <| (o_fg 4 bX8_ask_121)
set_option maxRecDepth 100000 in
theorem sX8_ask_119 : Sd pX8_ask ev_i 119 (bX8_ask_119) := sd_iload dX8_ask_119 <| (sd_fg (i := 4) sX8_ask_121)
def bX8_ask_114 : Kt Int32 := o_ild 5 <| (o_fg 5 bX8_ask_121)
set_option maxRecDepth 100000 in
theorem sX8_ask_114 : Sd pX8_ask ev_i 114 (bX8_ask_114) := sd_iload dX8_ask_114 <| (sd_goto (tgt := 121) dX8_ask_116 (by decide) (sd_fg (i := 5) sX8_ask_121))
def bX8_ask_110 : Kt Int32 := o_ild 2 <| o_zne (o_fg 2 (o_fg 5 bX8_ask_119)) <| (o_fg 2 (o_fg 4 bX8_ask_114))
set_option maxRecDepth 100000 in
theorem sX8_ask_110 : Sd pX8_ask ev_i 110 (bX8_ask_110) := sd_iload_n dX8_ask_110 rfl <| sd_zne (tgt := 119) dX8_ask_111 (by decide) (sd_fg (i := 2) (sd_fg (i := 5) sX8_ask_119)) <| (sd_fg (i := 2) (sd_fg (i := 4) sX8_ask_114))
def bX8_ask_103 : Kt Int32 := o_ild 5 <| o_psh (.int (-4)) <| o_ceq (o_fg 2 (o_fg 4 bX8_ask_114)) <| bX8_ask_110
set_option maxRecDepth 100000 in
theorem sX8_ask_103 : Sd pX8_ask ev_i 103 (bX8_ask_103) := sd_iload dX8_ask_103 <| sd_bipush dX8_ask_105 rfl <| sd_ceq (tgt := 114) dX8_ask_107 (by decide) (sd_fg (i := 2) (sd_fg (i := 4) sX8_ask_114)) <| sX8_ask_110
def bX8_ask_97 (K35 : Kt Int32) : Kt Int32 := o_inc 6 1 <| K35
set_option maxRecDepth 100000 in
theorem sX8_ask_97 {K35 : Kt Int32} (h35 : Sd pX8_ask ev_i 35 K35) : Sd pX8_ask ev_i 97 (bX8_ask_97 K35) := sd_iinc dX8_ask_97 rfl (by decide) <| (sd_goto (tgt := 35) dX8_ask_100 (by decide) h35)
def bX8_ask_91 (K35 : Kt Int32) (K53 : Kt Int32) : Kt Int32 := o_inc 7 1 <| K53
set_option maxRecDepth 100000 in
theorem sX8_ask_91 {K35 : Kt Int32} (h35 : Sd pX8_ask ev_i 35 K35) {K53 : Kt Int32} (h53 : Sd pX8_ask ev_i 53 K53) : Sd pX8_ask ev_i 91 (bX8_ask_91 K35 K53) := sd_iinc dX8_ask_91 rfl (by decide) <| (sd_goto (tgt := 53) dX8_ask_94 (by decide) h53)
def bX8_ask_77 (K35 : Kt Int32) (K53 : Kt Int32) : Kt Int32 := o_ild 8 <| o_ist 4 <| o_psh (.int 10) <| o_ild 6 <| o_i2 o_mul <| o_ild 7 <| o_i2 o_add <| o_ist 5 <| (o_fg 8 (bX8_ask_91 K35 K53))
set_option maxRecDepth 100000 in
theorem sX8_ask_77 {K35 : Kt Int32} (h35 : Sd pX8_ask ev_i 35 K35) {K53 : Kt Int32} (h53 : Sd pX8_ask ev_i 53 K53) : Sd pX8_ask ev_i 77 (bX8_ask_77 K35 K53) := sd_iload dX8_ask_77 <| sd_istore dX8_ask_79 (by decide) <| sd_bipush dX8_ask_81 rfl <| sd_iload dX8_ask_83 <| sd_imul dX8_ask_85 <| sd_iload dX8_ask_86 <| sd_iadd dX8_ask_88 <| sd_istore dX8_ask_89 (by decide) <| (sd_fg (i := 8) (sX8_ask_91 h35 h53))
def bX8_ask_59 (K35 : Kt Int32) (K53 : Kt Int32) : Kt Int32 := o_ald 0 <| o_ild 3 <| o_ild 6 <| o_ild 7 <| o_vc ev_i 7 4 fX8_leftAtWorst <| o_ist 8 <| o_ild 8 <| o_ild 4 <| o_cge (o_fg 8 (bX8_ask_91 K35 K53)) <| (o_fg 4 (o_fg 5 (bX8_ask_77 K35 K53)))
set_option maxRecDepth 100000 in
theorem sX8_ask_59 {K35 : Kt Int32} (h35 : Sd pX8_ask ev_i 35 K35) {K53 : Kt Int32} (h53 : Sd pX8_ask ev_i 53 K53) : Sd pX8_ask ev_i 59 (bX8_ask_59 K35 K53) := sd_aload_n dX8_ask_59 rfl <| sd_iload_n dX8_ask_60 rfl <| sd_iload dX8_ask_61 <| sd_iload dX8_ask_63 <| sd_vc tX8_leftAtWorst (fun _ _ => rfl) rfl mwX8_leftAtWorst mvX8_leftAtWorst tw_554 (by decide) dX8_ask_65 <| sd_istore dX8_ask_68 (by decide) <| sd_iload dX8_ask_70 <| sd_iload dX8_ask_72 <| sd_cge (tgt := 91) dX8_ask_74 (by decide) (sd_fg (i := 8) (sX8_ask_91 h35 h53)) <| (sd_fg (i := 4) (sd_fg (i := 5) (sX8_ask_77 h35 h53)))
def bX8_ask_53 (K35 : Kt Int32) (K53 : Kt Int32) : Kt Int32 := o_ild 7 <| o_psh (.int 3) <| o_cge (o_fg 7 (bX8_ask_97 K35)) <| (bX8_ask_59 K35 K53)
set_option maxRecDepth 100000 in
theorem sX8_ask_53 {K35 : Kt Int32} (h35 : Sd pX8_ask ev_i 35 K35) {K53 : Kt Int32} (h53 : Sd pX8_ask ev_i 53 K53) : Sd pX8_ask ev_i 53 (bX8_ask_53 K35 K53) := sd_iload dX8_ask_53 <| sd_iconst dX8_ask_55 rfl <| sd_cge (tgt := 97) dX8_ask_56 (by decide) (sd_fg (i := 7) (sX8_ask_97 h35)) <| (sX8_ask_59 h35 h53)
def bX8_ask_50 (K35 : Kt Int32) : Kt Int32 := o_psh (.int 0) <| o_ist 7 <| (o_lp (bX8_ask_53 K35) fu)
set_option maxRecDepth 100000 in
theorem sX8_ask_50 {K35 : Kt Int32} (h35 : Sd pX8_ask ev_i 35 K35) : Sd pX8_ask ev_i 50 (bX8_ask_50 K35) := sd_iconst dX8_ask_50 rfl <| sd_istore dX8_ask_51 (by decide) <| (sd_lp (fun K h => sX8_ask_53 h35 h) fu)
def bX8_ask_35 (K35 : Kt Int32) : Kt Int32 := o_ild 6 <| o_ald 0 <| o_gR 7 0 <| o_gR 1 0 <| o_gI 5 3 <| o_cge (o_fg 0 (o_fg 3 (o_fg 6 bX8_ask_103))) <| (bX8_ask_50 K35)
set_option maxRecDepth 100000 in
theorem sX8_ask_35 {K35 : Kt Int32} (h35 : Sd pX8_ask ev_i 35 K35) : Sd pX8_ask ev_i 35 (bX8_ask_35 K35) := sd_iload dX8_ask_35 <| sd_aload_n dX8_ask_37 rfl <| sd_gR flX8_10 dX8_ask_38 <| sd_gR flX8_111 dX8_ask_41 <| sd_gI flX8_114 dX8_ask_44 <| sd_cge (tgt := 103) dX8_ask_47 (by decide) (sd_fg (i := 0) (sd_fg (i := 3) (sd_fg (i := 6) sX8_ask_103))) <| (sX8_ask_50 h35)
def bX8_ask_16 : Kt Int32 := o_ald 0 <| o_ild 1 <| o_vc ev_i 7 2 fX8_possibleHolders <| o_ist 3 <| o_ild 3 <| o_sc ev_i 1 fJ6_bitCount_0f7a4 <| o_ist 4 <| o_psh (.int (-4)) <| o_ist 5 <| o_psh (.int 0) <| o_ist 6 <| (o_fg 1 (o_lp (bX8_ask_35) fu))
set_option maxRecDepth 100000 in
theorem sX8_ask_16 : Sd pX8_ask ev_i 16 (bX8_ask_16) := sd_aload_n dX8_ask_16 rfl <| sd_iload_n dX8_ask_17 rfl <| sd_vc tX8_possibleHolders (fun _ _ => rfl) rfl mwX8_possibleHolders mvX8_possibleHolders tw_545 (by decide) dX8_ask_18 <| sd_istore_n dX8_ask_21 rfl (by decide) <| sd_iload_n dX8_ask_22 rfl <| sd_sc tJ6_bitCount_0f7a4 (fun _ _ => rfl) mwJ6_bitCount_0f7a4 mvJ6_bitCount_0f7a4 tw_521 (by decide) dX8_ask_23 <| sd_istore dX8_ask_26 (by decide) <| sd_bipush dX8_ask_28 rfl <| sd_istore dX8_ask_30 (by decide) <| sd_iconst dX8_ask_32 rfl <| sd_istore dX8_ask_33 (by decide) <| (sd_fg (i := 1) (sd_lp (fun K h => sX8_ask_35 h) fu))
def bX8_ask_14 : Kt Int32 := o_psh (.int (-1)) <| o_rI
set_option maxRecDepth 100000 in
theorem sX8_ask_14 : Sd pX8_ask ev_i 14 (bX8_ask_14) := sd_iconst dX8_ask_14 rfl <| (sd_rI rfl dX8_ask_15)
def bX8_ask_7 : Kt Int32 := o_ild 2 <| o_sc ev_i 1 fX8_isFlag <| o_zne bX8_ask_16 <| (o_fg 0 (o_fg 1 (o_fg 2 bX8_ask_14)))
set_option maxRecDepth 100000 in
theorem sX8_ask_7 : Sd pX8_ask ev_i 7 (bX8_ask_7) := sd_iload_n dX8_ask_7 rfl <| sd_sc tX8_isFlag (fun _ _ => rfl) mwX8_isFlag mvX8_isFlag tw_462 (by decide) dX8_ask_8 <| sd_zne (tgt := 16) dX8_ask_11 (by decide) sX8_ask_16 <| (sd_fg (i := 0) (sd_fg (i := 1) (sd_fg (i := 2) sX8_ask_14)))
def bX8_ask_0 : Kt Int32 := o_ild 1 <| o_sc ev_i 1 fX8_isHour <| o_zeq (o_fg 0 (o_fg 1 (o_fg 2 bX8_ask_14))) <| bX8_ask_7
set_option maxRecDepth 100000 in
theorem sX8_ask_0 : Sd pX8_ask ev_i 0 (bX8_ask_0) := sd_iload_n dX8_ask_0 rfl <| sd_sc tX8_isHour (fun _ _ => rfl) mwX8_isHour mvX8_isHour tw_455 (by decide) dX8_ask_1 <| sd_zeq (tgt := 14) dX8_ask_4 (by decide) (sd_fg (i := 0) (sd_fg (i := 1) (sd_fg (i := 2) sX8_ask_14))) <| sX8_ask_7
def fX8_ask : Mt Int32 := mk_f 9 bX8_ask_0
theorem tX8_ask : Ct ev_i yX8_ask cX8_ask 9 (some .int) 6 141 fX8_ask := ct_of (by decide +kernel) sX8_ask_0
abbrev pX8_nextSeed : Px := (cX8_nextSeed, 1, RX8, "nextSeed", (some .int), 0, 0, fun _ => True)
def bX8_nextSeed_0 : Kt Int32 := o_ild 0 <| o_psh (.int 1103515245) <| o_i2 o_mul <| o_psh (.int 12345) <| o_i2 o_add <| o_rI
set_option maxRecDepth 100000 in
theorem sX8_nextSeed_0 : Sd pX8_nextSeed ev_i 0 (bX8_nextSeed_0) := sd_iload_n dX8_nextSeed_0 rfl <| sd_ldcw tw_555 dX8_nextSeed_1 <| sd_imul dX8_nextSeed_4 <| sd_sipush dX8_nextSeed_5 rfl <| sd_iadd dX8_nextSeed_8 <| (sd_rI rfl dX8_nextSeed_9)
def fX8_nextSeed : Mt Int32 := mk_f 1 bX8_nextSeed_0
theorem tX8_nextSeed : Ct ev_i yX8_nextSeed cX8_nextSeed 1 (some .int) 0 0 fX8_nextSeed := ct_of (by decide +kernel) sX8_nextSeed_0
abbrev pX8_drawn : Px := (cX8_drawn, 1, RX8, "drawn", (some .int), 0, 0, fun _ => True)
def bX8_drawn_0 : Kt Int32 := o_ild 0 <| o_psh (.int 16) <| o_i2 o_ushr <| o_psh (.int 32767) <| o_i2 o_and <| o_rI
set_option maxRecDepth 100000 in
theorem sX8_drawn_0 : Sd pX8_drawn ev_i 0 (bX8_drawn_0) := sd_iload_n dX8_drawn_0 rfl <| sd_bipush dX8_drawn_1 rfl <| sd_iushr dX8_drawn_3 <| sd_sipush dX8_drawn_4 rfl <| sd_iand dX8_drawn_7 <| (sd_rI rfl dX8_drawn_8)
def fX8_drawn : Mt Int32 := mk_f 1 bX8_drawn_0
theorem tX8_drawn : Ct ev_i yX8_drawn cX8_drawn 1 (some .int) 0 0 fX8_drawn := ct_of (by decide +kernel) sX8_drawn_0
abbrev pX8_drift : Px := (cX8_drift, 10, RX8, "drift", (some .int), 5, 113, fun _ => True)
def bX8_drift_152 : Kt Int32 := o_rI
set_option maxRecDepth 100000 in
theorem sX8_drift_152 : Sd pX8_drift ev_i 152 (bX8_drift_152) := (sd_rI rfl dX8_drift_152)
def bX8_drift_145 : Kt Int32 := o_ald 0 <| o_gR 7 7 <| o_vc ev_i 6 1 fX7_hoursSeen <| (o_fg 0 bX8_drift_152)
set_option maxRecDepth 100000 in
theorem sX8_drift_145 : Sd pX8_drift ev_i 145 (bX8_drift_145) := sd_aload_n dX8_drift_145 rfl <| sd_gR flX8_54 dX8_drift_146 <| sd_vc tX7_hoursSeen (fun _ _ => rfl) rfl mwX7_hoursSeen mvX7_hoursSeen tw_439 (by decide) dX8_drift_149 <| (sd_fg (i := 0) sX8_drift_152)
def bX8_drift_140 : Kt Int32 := o_ild 5 <| (o_fg 5 bX8_drift_152)
set_option maxRecDepth 100000 in
theorem sX8_drift_140 : Sd pX8_drift ev_i 140 (bX8_drift_140) := sd_iload dX8_drift_140 <| (sd_goto (tgt := 152) dX8_drift_142 (by decide) (sd_fg (i := 5) sX8_drift_152))
def bX8_drift_136 : Kt Int32 := o_ild 3 <| o_zne (o_fg 3 (o_fg 5 bX8_drift_145)) <| (o_fg 0 (o_fg 3 bX8_drift_140))
set_option maxRecDepth 100000 in
theorem sX8_drift_136 : Sd pX8_drift ev_i 136 (bX8_drift_136) := sd_iload_n dX8_drift_136 rfl <| sd_zne (tgt := 145) dX8_drift_137 (by decide) (sd_fg (i := 3) (sd_fg (i := 5) sX8_drift_145)) <| (sd_fg (i := 0) (sd_fg (i := 3) sX8_drift_140))
def bX8_drift_116 (K54 : Kt Int32) : Kt Int32 := o_sI <| o_ild 5 <| o_ald 0 <| o_ald 0 <| o_gR 7 10 <| o_vc ev_i 7 2 fX8_worthBy <| o_i2 o_add <| o_ist 5 <| o_inc 7 1 <| K54
set_option maxRecDepth 100000 in
theorem sX8_drift_116 {K54 : Kt Int32} (h54 : Sd pX8_drift ev_i 54 K54) : Sd pX8_drift ev_i 116 (bX8_drift_116 K54) := sd_sI dX8_drift_116 <| sd_iload dX8_drift_117 <| sd_aload_n dX8_drift_119 rfl <| sd_aload_n dX8_drift_120 rfl <| sd_gR flX8_72 dX8_drift_121 <| sd_vc tX8_worthBy (fun _ _ => rfl) rfl mwX8_worthBy mvX8_worthBy tw_509 (by decide) dX8_drift_124 <| sd_iadd dX8_drift_127 <| sd_istore dX8_drift_128 (by decide) <| sd_iinc dX8_drift_130 rfl (by decide) <| (sd_goto (tgt := 54) dX8_drift_133 (by decide) h54)
def bX8_drift_114 (K54 : Kt Int32) : Kt Int32 := o_ild 9 <| (o_fg 9 (bX8_drift_116 K54))
set_option maxRecDepth 100000 in
theorem sX8_drift_114 {K54 : Kt Int32} (h54 : Sd pX8_drift ev_i 54 K54) : Sd pX8_drift ev_i 114 (bX8_drift_114 K54) := sd_iload dX8_drift_114 <| (sd_fg (i := 9) (sX8_drift_116 h54))
def bX8_drift_109 (K54 : Kt Int32) : Kt Int32 := o_psh (.int (-4)) <| (bX8_drift_116 K54)
set_option maxRecDepth 100000 in
theorem sX8_drift_109 {K54 : Kt Int32} (h54 : Sd pX8_drift ev_i 54 K54) : Sd pX8_drift ev_i 109 (bX8_drift_109 K54) := sd_bipush dX8_drift_109 rfl <| (sd_goto (tgt := 116) dX8_drift_111 (by decide) (sX8_drift_116 h54))
def bX8_drift_94 (K54 : Kt Int32) : Kt Int32 := o_ist 9 <| o_ald 0 <| o_gR 7 10 <| o_ild 8 <| o_ild 9 <| o_ild 4 <| o_cne (o_fg 8 (bX8_drift_114 K54)) <| (o_fg 8 (o_fg 9 (bX8_drift_109 K54)))
set_option maxRecDepth 100000 in
theorem sX8_drift_94 {K54 : Kt Int32} (h54 : Sd pX8_drift ev_i 54 K54) : Sd pX8_drift ev_i 94 (bX8_drift_94 K54) := sd_istore dX8_drift_94 (by decide) <| sd_aload_n dX8_drift_96 rfl <| sd_gR flX8_72 dX8_drift_97 <| sd_iload dX8_drift_100 <| sd_iload dX8_drift_102 <| sd_iload dX8_drift_104 <| sd_cne (tgt := 114) dX8_drift_106 (by decide) (sd_fg (i := 8) (sX8_drift_114 h54)) <| (sd_fg (i := 8) (sd_fg (i := 9) (sX8_drift_109 h54)))
def bX8_drift_75 (K54 : Kt Int32) : Kt Int32 := o_ist 8 <| o_ild 6 <| o_sc ev_i 1 fX8_nextSeed <| o_ist 6 <| o_ild 6 <| o_sc ev_i 1 fX8_drawn <| o_ild 4 <| o_psh (.int 1) <| o_i2 o_add <| o_irm <| (bX8_drift_94 K54)
set_option maxRecDepth 100000 in
theorem sX8_drift_75 {K54 : Kt Int32} (h54 : Sd pX8_drift ev_i 54 K54) : Sd pX8_drift ev_i 75 (bX8_drift_75 K54) := sd_istore dX8_drift_75 (by decide) <| sd_iload dX8_drift_77 <| sd_sc tX8_nextSeed (fun _ _ => rfl) mwX8_nextSeed mvX8_nextSeed tw_558 (by decide) dX8_drift_79 <| sd_istore dX8_drift_82 (by decide) <| sd_iload dX8_drift_84 <| sd_sc tX8_drawn (fun _ _ => rfl) mwX8_drawn mvX8_drawn tw_561 (by decide) dX8_drift_86 <| sd_iload dX8_drift_89 <| sd_iconst dX8_drift_91 rfl <| sd_iadd dX8_drift_92 <| sd_irem dX8_drift_93 <| (sX8_drift_94 h54)
def bX8_drift_60 (K54 : Kt Int32) : Kt Int32 := o_ild 6 <| o_sc ev_i 1 fX8_nextSeed <| o_ist 6 <| o_ild 6 <| o_sc ev_i 1 fX8_drawn <| o_rmc 10 <| (bX8_drift_75 K54)
set_option maxRecDepth 100000 in
theorem sX8_drift_60 {K54 : Kt Int32} (h54 : Sd pX8_drift ev_i 54 K54) : Sd pX8_drift ev_i 60 (bX8_drift_60 K54) := sd_iload dX8_drift_60 <| sd_sc tX8_nextSeed (fun _ _ => rfl) mwX8_nextSeed mvX8_nextSeed tw_558 (by decide) dX8_drift_62 <| sd_istore dX8_drift_65 (by decide) <| sd_iload dX8_drift_67 <| sd_sc tX8_drawn (fun _ _ => rfl) mwX8_drawn mvX8_drawn tw_561 (by decide) dX8_drift_69 <| sd_rmc (by decide) <| sd_bipush dX8_drift_72 rfl <| sd_irem dX8_drift_74 <| (sX8_drift_75 h54)
def bX8_drift_54 (K54 : Kt Int32) : Kt Int32 := o_ild 7 <| o_ild 2 <| o_cge (o_fg 2 (o_fg 4 (o_fg 6 (o_fg 7 bX8_drift_136)))) <| (bX8_drift_60 K54)
set_option maxRecDepth 100000 in
theorem sX8_drift_54 {K54 : Kt Int32} (h54 : Sd pX8_drift ev_i 54 K54) : Sd pX8_drift ev_i 54 (bX8_drift_54 K54) := sd_iload dX8_drift_54 <| sd_iload_n dX8_drift_56 rfl <| sd_cge (tgt := 136) dX8_drift_57 (by decide) (sd_fg (i := 2) (sd_fg (i := 4) (sd_fg (i := 6) (sd_fg (i := 7) sX8_drift_136)))) <| (sX8_drift_60 h54)
def bX8_drift_41 : Kt Int32 := o_ald 0 <| o_vc ev_v 7 1 fX8_takeTrial <| o_psh (.int 0) <| o_ist 5 <| o_ild 1 <| o_ist 6 <| o_psh (.int 0) <| o_ist 7 <| (o_fg 1 (o_lp (bX8_drift_54) fu))
set_option maxRecDepth 100000 in
theorem sX8_drift_41 : Sd pX8_drift ev_i 41 (bX8_drift_41) := sd_aload_n dX8_drift_41 rfl <| sd_vc tX8_takeTrial (fun _ _ => rfl) rfl mwX8_takeTrial mvX8_takeTrial tw_505 (by decide) dX8_drift_42 <| sd_iconst dX8_drift_45 rfl <| sd_istore dX8_drift_46 (by decide) <| sd_iload_n dX8_drift_48 rfl <| sd_istore dX8_drift_49 (by decide) <| sd_iconst dX8_drift_51 rfl <| sd_istore dX8_drift_52 (by decide) <| (sd_fg (i := 1) (sd_lp (fun K h => sX8_drift_54 h) fu))
def bX8_drift_38 : Kt Int32 := o_psh (.int (-2)) <| o_rI
set_option maxRecDepth 100000 in
theorem sX8_drift_38 : Sd pX8_drift ev_i 38 (bX8_drift_38) := sd_bipush dX8_drift_38 rfl <| (sd_rI rfl dX8_drift_40)
def bX8_drift_20 : Kt Int32 := o_ald 0 <| o_gR 7 0 <| o_gR 1 0 <| o_gI 5 3 <| o_ist 4 <| o_ild 4 <| o_psh (.int 1) <| o_cge bX8_drift_41 <| (o_fg 0 (o_fg 1 (o_fg 2 (o_fg 3 (o_fg 4 bX8_drift_38)))))
set_option maxRecDepth 100000 in
theorem sX8_drift_20 : Sd pX8_drift ev_i 20 (bX8_drift_20) := sd_aload_n dX8_drift_20 rfl <| sd_gR flX8_10 dX8_drift_21 <| sd_gR flX8_111 dX8_drift_24 <| sd_gI flX8_114 dX8_drift_27 <| sd_istore dX8_drift_30 (by decide) <| sd_iload dX8_drift_32 <| sd_iconst dX8_drift_34 rfl <| sd_cge (tgt := 41) dX8_drift_35 (by decide) sX8_drift_41 <| (sd_fg (i := 0) (sd_fg (i := 1) (sd_fg (i := 2) (sd_fg (i := 3) (sd_fg (i := 4) sX8_drift_38)))))
def bX8_drift_18 : Kt Int32 := o_psh (.int (-1)) <| o_rI
set_option maxRecDepth 100000 in
theorem sX8_drift_18 : Sd pX8_drift ev_i 18 (bX8_drift_18) := sd_iconst dX8_drift_18 rfl <| (sd_rI rfl dX8_drift_19)
def bX8_drift_11 : Kt Int32 := o_ild 3 <| o_sc ev_i 1 fX8_isFlag <| o_zne bX8_drift_20 <| (o_fg 0 (o_fg 1 (o_fg 2 (o_fg 3 bX8_drift_18))))
set_option maxRecDepth 100000 in
theorem sX8_drift_11 : Sd pX8_drift ev_i 11 (bX8_drift_11) := sd_iload_n dX8_drift_11 rfl <| sd_sc tX8_isFlag (fun _ _ => rfl) mwX8_isFlag mvX8_isFlag tw_462 (by decide) dX8_drift_12 <| sd_zne (tgt := 20) dX8_drift_15 (by decide) sX8_drift_20 <| (sd_fg (i := 0) (sd_fg (i := 1) (sd_fg (i := 2) (sd_fg (i := 3) sX8_drift_18))))
def bX8_drift_5 : Kt Int32 := o_ild 2 <| o_psh (.int 60) <| o_cgt (o_fg 0 (o_fg 1 (o_fg 2 (o_fg 3 bX8_drift_18)))) <| bX8_drift_11
set_option maxRecDepth 100000 in
theorem sX8_drift_5 : Sd pX8_drift ev_i 5 (bX8_drift_5) := sd_iload_n dX8_drift_5 rfl <| sd_bipush dX8_drift_6 rfl <| sd_cgt (tgt := 18) dX8_drift_8 (by decide) (sd_fg (i := 0) (sd_fg (i := 1) (sd_fg (i := 2) (sd_fg (i := 3) sX8_drift_18)))) <| sX8_drift_11
def bX8_drift_0 : Kt Int32 := o_ild 2 <| o_psh (.int 1) <| o_clt (o_fg 0 (o_fg 1 (o_fg 2 (o_fg 3 bX8_drift_18)))) <| bX8_drift_5
set_option maxRecDepth 100000 in
theorem sX8_drift_0 : Sd pX8_drift ev_i 0 (bX8_drift_0) := sd_iload_n dX8_drift_0 rfl <| sd_iconst dX8_drift_1 rfl <| sd_clt (tgt := 18) dX8_drift_2 (by decide) (sd_fg (i := 0) (sd_fg (i := 1) (sd_fg (i := 2) (sd_fg (i := 3) sX8_drift_18)))) <| sX8_drift_5
def fX8_drift : Mt Int32 := mk_f 10 bX8_drift_0
theorem tX8_drift : Ct ev_i yX8_drift cX8_drift 10 (some .int) 5 113 fX8_drift := ct_of (by decide +kernel) sX8_drift_0
abbrev pX8_keep : Px := (cX8_keep, 3, RX8, "keep", (some .int), 3, 68, fun _ => True)
def bX8_keep_25 : Kt Int32 := o_ist 2 <| o_ald 0 <| o_gR 7 1 <| o_ild 1 <| o_aR 2 <| o_ald 0 <| o_gR 7 0 <| o_vc ev_v 1 2 fX1_copyFrom <| o_ald 0 <| o_gR 7 2 <| o_ild 1 <| o_psh (.int 1) <| o_sZ <| o_ild 2 <| o_rI
set_option maxRecDepth 100000 in
theorem sX8_keep_25 : Sd pX8_keep ev_i 25 (bX8_keep_25) := sd_istore_n dX8_keep_25 rfl (by decide) <| sd_aload_n dX8_keep_26 rfl <| sd_gR flX8_16 dX8_keep_27 <| sd_iload_n dX8_keep_30 rfl <| sd_aR (t := 2) (fun _ => rfl) dX8_keep_31 <| sd_aload_n dX8_keep_32 rfl <| sd_gR flX8_10 dX8_keep_33 <| sd_vc tX1_copyFrom (fun _ _ => rfl) rfl mwX1_copyFrom mvX1_copyFrom tw_420 (by decide) dX8_keep_36 <| sd_aload_n dX8_keep_39 rfl <| sd_gR flX8_20 dX8_keep_40 <| sd_iload_n dX8_keep_43 rfl <| sd_iconst dX8_keep_44 rfl <| sd_sZ dX8_keep_45 <| sd_iload_n dX8_keep_46 rfl <| (sd_rI rfl dX8_keep_47)
def bX8_keep_24 : Kt Int32 := o_psh (.int 0) <| bX8_keep_25
set_option maxRecDepth 100000 in
theorem sX8_keep_24 : Sd pX8_keep ev_i 24 (bX8_keep_24) := sd_iconst dX8_keep_24 rfl <| sX8_keep_25
def bX8_keep_20 : Kt Int32 := o_psh (.int 1) <| bX8_keep_25
set_option maxRecDepth 100000 in
theorem sX8_keep_20 : Sd pX8_keep ev_i 20 (bX8_keep_20) := sd_iconst dX8_keep_20 rfl <| (sd_goto (tgt := 25) dX8_keep_21 (by decide) sX8_keep_25)
def bX8_keep_11 : Kt Int32 := o_ald 0 <| o_gR 7 2 <| o_ild 1 <| o_aZ <| o_zeq bX8_keep_24 <| bX8_keep_20
set_option maxRecDepth 100000 in
theorem sX8_keep_11 : Sd pX8_keep ev_i 11 (bX8_keep_11) := sd_aload_n dX8_keep_11 rfl <| sd_gR flX8_20 dX8_keep_12 <| sd_iload_n dX8_keep_15 rfl <| sd_aZ dX8_keep_16 <| sd_zeq (tgt := 24) dX8_keep_17 (by decide) sX8_keep_24 <| sX8_keep_20
def bX8_keep_9 : Kt Int32 := o_psh (.int (-1)) <| o_rI
set_option maxRecDepth 100000 in
theorem sX8_keep_9 : Sd pX8_keep ev_i 9 (bX8_keep_9) := sd_iconst dX8_keep_9 rfl <| (sd_rI rfl dX8_keep_10)
def bX8_keep_4 : Kt Int32 := o_ild 1 <| o_psh (.int 2) <| o_clt bX8_keep_11 <| (o_fg 0 (o_fg 1 bX8_keep_9))
set_option maxRecDepth 100000 in
theorem sX8_keep_4 : Sd pX8_keep ev_i 4 (bX8_keep_4) := sd_iload_n dX8_keep_4 rfl <| sd_iconst dX8_keep_5 rfl <| sd_clt (tgt := 11) dX8_keep_6 (by decide) sX8_keep_11 <| (sd_fg (i := 0) (sd_fg (i := 1) sX8_keep_9))
def bX8_keep_0 : Kt Int32 := o_ild 1 <| o_zlt (o_fg 0 (o_fg 1 bX8_keep_9)) <| bX8_keep_4
set_option maxRecDepth 100000 in
theorem sX8_keep_0 : Sd pX8_keep ev_i 0 (bX8_keep_0) := sd_iload_n dX8_keep_0 rfl <| sd_zlt (tgt := 9) dX8_keep_1 (by decide) (sd_fg (i := 0) (sd_fg (i := 1) sX8_keep_9)) <| sX8_keep_4
def fX8_keep : Mt Int32 := mk_f 3 bX8_keep_0
theorem tX8_keep : Ct ev_i yX8_keep cX8_keep 3 (some .int) 3 68 fX8_keep := ct_of (by decide +kernel) sX8_keep_0
abbrev pX8_back : Px := (cX8_back, 2, RX8, "back", (some .int), 3, 68, fun _ => True)
def bX8_back_23 : Kt Int32 := o_ald 0 <| o_gR 7 0 <| o_ald 0 <| o_gR 7 1 <| o_ild 1 <| o_aR 2 <| o_vc ev_v 1 2 fX1_copyFrom <| o_ald 0 <| o_gR 7 0 <| o_gR 1 0 <| o_gI 5 3 <| o_rI
set_option maxRecDepth 100000 in
theorem sX8_back_23 : Sd pX8_back ev_i 23 (bX8_back_23) := sd_aload_n dX8_back_23 rfl <| sd_gR flX8_10 dX8_back_24 <| sd_aload_n dX8_back_27 rfl <| sd_gR flX8_16 dX8_back_28 <| sd_iload_n dX8_back_31 rfl <| sd_aR (t := 2) (fun _ => rfl) dX8_back_32 <| sd_vc tX1_copyFrom (fun _ _ => rfl) rfl mwX1_copyFrom mvX1_copyFrom tw_420 (by decide) dX8_back_33 <| sd_aload_n dX8_back_36 rfl <| sd_gR flX8_10 dX8_back_37 <| sd_gR flX8_111 dX8_back_40 <| sd_gI flX8_114 dX8_back_43 <| (sd_rI rfl dX8_back_46)
def bX8_back_20 : Kt Int32 := o_psh (.int (-2)) <| o_rI
set_option maxRecDepth 100000 in
theorem sX8_back_20 : Sd pX8_back ev_i 20 (bX8_back_20) := sd_bipush dX8_back_20 rfl <| (sd_rI rfl dX8_back_22)
def bX8_back_11 : Kt Int32 := o_ald 0 <| o_gR 7 2 <| o_ild 1 <| o_aZ <| o_zne bX8_back_23 <| (o_fg 0 (o_fg 1 bX8_back_20))
set_option maxRecDepth 100000 in
theorem sX8_back_11 : Sd pX8_back ev_i 11 (bX8_back_11) := sd_aload_n dX8_back_11 rfl <| sd_gR flX8_20 dX8_back_12 <| sd_iload_n dX8_back_15 rfl <| sd_aZ dX8_back_16 <| sd_zne (tgt := 23) dX8_back_17 (by decide) sX8_back_23 <| (sd_fg (i := 0) (sd_fg (i := 1) sX8_back_20))
def bX8_back_9 : Kt Int32 := o_psh (.int (-1)) <| o_rI
set_option maxRecDepth 100000 in
theorem sX8_back_9 : Sd pX8_back ev_i 9 (bX8_back_9) := sd_iconst dX8_back_9 rfl <| (sd_rI rfl dX8_back_10)
def bX8_back_4 : Kt Int32 := o_ild 1 <| o_psh (.int 2) <| o_clt bX8_back_11 <| (o_fg 0 (o_fg 1 bX8_back_9))
set_option maxRecDepth 100000 in
theorem sX8_back_4 : Sd pX8_back ev_i 4 (bX8_back_4) := sd_iload_n dX8_back_4 rfl <| sd_iconst dX8_back_5 rfl <| sd_clt (tgt := 11) dX8_back_6 (by decide) sX8_back_11 <| (sd_fg (i := 0) (sd_fg (i := 1) sX8_back_9))
def bX8_back_0 : Kt Int32 := o_ild 1 <| o_zlt (o_fg 0 (o_fg 1 bX8_back_9)) <| bX8_back_4
set_option maxRecDepth 100000 in
theorem sX8_back_0 : Sd pX8_back ev_i 0 (bX8_back_0) := sd_iload_n dX8_back_0 rfl <| sd_zlt (tgt := 9) dX8_back_1 (by decide) (sd_fg (i := 0) (sd_fg (i := 1) sX8_back_9)) <| sX8_back_4
def fX8_back : Mt Int32 := mk_f 2 bX8_back_0
theorem tX8_back : Ct ev_i yX8_back cX8_back 2 (some .int) 3 68 fX8_back := ct_of (by decide +kernel) sX8_back_0
abbrev pX8_isSheet : Px := (cX8_isSheet, 1, RX8, "isSheet", (some .boolean), 0, 0, fun _ => True)
def bX8_isSheet_14 : Kt Int32 := o_rZ
set_option maxRecDepth 100000 in
theorem sX8_isSheet_14 : Sd pX8_isSheet ev_i 14 (bX8_isSheet_14) := (sd_rZ rfl dX8_isSheet_14)
def bX8_isSheet_13 : Kt Int32 := o_psh (.int 0) <| bX8_isSheet_14
set_option maxRecDepth 100000 in
theorem sX8_isSheet_13 : Sd pX8_isSheet ev_i 13 (bX8_isSheet_13) := sd_iconst dX8_isSheet_13 rfl <| sX8_isSheet_14
def bX8_isSheet_9 : Kt Int32 := o_psh (.int 1) <| bX8_isSheet_14
set_option maxRecDepth 100000 in
theorem sX8_isSheet_9 : Sd pX8_isSheet ev_i 9 (bX8_isSheet_9) := sd_iconst dX8_isSheet_9 rfl <| (sd_goto (tgt := 14) dX8_isSheet_10 (by decide) sX8_isSheet_14)
def bX8_isSheet_4 : Kt Int32 := o_ild 0 <| o_psh (.int 4) <| o_cge (o_fg 0 bX8_isSheet_13) <| (o_fg 0 bX8_isSheet_9)
set_option maxRecDepth 100000 in
theorem sX8_isSheet_4 : Sd pX8_isSheet ev_i 4 (bX8_isSheet_4) := sd_iload_n dX8_isSheet_4 rfl <| sd_iconst dX8_isSheet_5 rfl <| sd_cge (tgt := 13) dX8_isSheet_6 (by decide) (sd_fg (i := 0) sX8_isSheet_13) <| (sd_fg (i := 0) sX8_isSheet_9)
def bX8_isSheet_0 : Kt Int32 := o_ild 0 <| o_zlt (o_fg 0 bX8_isSheet_13) <| bX8_isSheet_4
set_option maxRecDepth 100000 in
theorem sX8_isSheet_0 : Sd pX8_isSheet ev_i 0 (bX8_isSheet_0) := sd_iload_n dX8_isSheet_0 rfl <| sd_zlt (tgt := 13) dX8_isSheet_1 (by decide) (sd_fg (i := 0) sX8_isSheet_13) <| sX8_isSheet_4
def fX8_isSheet : Mt Int32 := mk_f 1 bX8_isSheet_0
theorem tX8_isSheet : Ct ev_i yX8_isSheet cX8_isSheet 1 (some .boolean) 0 0 fX8_isSheet := ct_of (by decide +kernel) sX8_isSheet_0
abbrev pX8_isLane : Px := (cX8_isLane, 1, RX8, "isLane", (some .boolean), 0, 0, fun _ => True)
def bX8_isLane_14 : Kt Int32 := o_rZ
set_option maxRecDepth 100000 in
theorem sX8_isLane_14 : Sd pX8_isLane ev_i 14 (bX8_isLane_14) := (sd_rZ rfl dX8_isLane_14)
def bX8_isLane_13 : Kt Int32 := o_psh (.int 0) <| bX8_isLane_14
set_option maxRecDepth 100000 in
theorem sX8_isLane_13 : Sd pX8_isLane ev_i 13 (bX8_isLane_13) := sd_iconst dX8_isLane_13 rfl <| sX8_isLane_14
def bX8_isLane_9 : Kt Int32 := o_psh (.int 1) <| bX8_isLane_14
set_option maxRecDepth 100000 in
theorem sX8_isLane_9 : Sd pX8_isLane ev_i 9 (bX8_isLane_9) := sd_iconst dX8_isLane_9 rfl <| (sd_goto (tgt := 14) dX8_isLane_10 (by decide) sX8_isLane_14)
def bX8_isLane_4 : Kt Int32 := o_ild 0 <| o_psh (.int 3) <| o_cge (o_fg 0 bX8_isLane_13) <| (o_fg 0 bX8_isLane_9)
set_option maxRecDepth 100000 in
theorem sX8_isLane_4 : Sd pX8_isLane ev_i 4 (bX8_isLane_4) := sd_iload_n dX8_isLane_4 rfl <| sd_iconst dX8_isLane_5 rfl <| sd_cge (tgt := 13) dX8_isLane_6 (by decide) (sd_fg (i := 0) sX8_isLane_13) <| (sd_fg (i := 0) sX8_isLane_9)
def bX8_isLane_0 : Kt Int32 := o_ild 0 <| o_zlt (o_fg 0 bX8_isLane_13) <| bX8_isLane_4
set_option maxRecDepth 100000 in
theorem sX8_isLane_0 : Sd pX8_isLane ev_i 0 (bX8_isLane_0) := sd_iload_n dX8_isLane_0 rfl <| sd_zlt (tgt := 13) dX8_isLane_1 (by decide) (sd_fg (i := 0) sX8_isLane_13) <| sX8_isLane_4
def fX8_isLane : Mt Int32 := mk_f 1 bX8_isLane_0
theorem tX8_isLane : Ct ev_i yX8_isLane cX8_isLane 1 (some .boolean) 0 0 fX8_isLane := ct_of (by decide +kernel) sX8_isLane_0
abbrev pX8_sheet : Px := (cX8_sheet, 4, RX8, "sheet", (some .int), 2, 44, fun _ => True)
def bX8_sheet_29 : Kt Int32 := o_ald 0 <| o_gR 7 6 <| o_ild 1 <| o_aR 3 <| o_ild 2 <| o_ild 3 <| o_vc ev_v 2 3 fX3_makeNew <| o_psh (.int 1) <| o_rI
set_option maxRecDepth 100000 in
theorem sX8_sheet_29 : Sd pX8_sheet ev_i 29 (bX8_sheet_29) := sd_aload_n dX8_sheet_29 rfl <| sd_gR flX8_47 dX8_sheet_30 <| sd_iload_n dX8_sheet_33 rfl <| sd_aR (t := 3) (fun _ => rfl) dX8_sheet_34 <| sd_iload_n dX8_sheet_35 rfl <| sd_iload_n dX8_sheet_36 rfl <| sd_vc tX3_makeNew (fun _ _ => rfl) rfl mwX3_makeNew mvX3_makeNew tw_571 (by decide) dX8_sheet_37 <| sd_iconst dX8_sheet_40 rfl <| (sd_rI rfl dX8_sheet_41)
def bX8_sheet_26 : Kt Int32 := o_psh (.int (-14)) <| o_rI
set_option maxRecDepth 100000 in
theorem sX8_sheet_26 : Sd pX8_sheet ev_i 26 (bX8_sheet_26) := sd_bipush dX8_sheet_26 rfl <| (sd_rI rfl dX8_sheet_28)
def bX8_sheet_22 : Kt Int32 := o_ild 3 <| o_zge bX8_sheet_29 <| (o_fg 0 (o_fg 1 (o_fg 2 (o_fg 3 bX8_sheet_26))))
set_option maxRecDepth 100000 in
theorem sX8_sheet_22 : Sd pX8_sheet ev_i 22 (bX8_sheet_22) := sd_iload_n dX8_sheet_22 rfl <| sd_zge (tgt := 29) dX8_sheet_23 (by decide) sX8_sheet_29 <| (sd_fg (i := 0) (sd_fg (i := 1) (sd_fg (i := 2) (sd_fg (i := 3) sX8_sheet_26))))
def bX8_sheet_20 : Kt Int32 := o_psh (.int (-1)) <| o_rI
set_option maxRecDepth 100000 in
theorem sX8_sheet_20 : Sd pX8_sheet ev_i 20 (bX8_sheet_20) := sd_iconst dX8_sheet_20 rfl <| (sd_rI rfl dX8_sheet_21)
def bX8_sheet_14 : Kt Int32 := o_ild 3 <| o_psh (.int 40) <| o_cle bX8_sheet_22 <| (o_fg 0 (o_fg 1 (o_fg 2 (o_fg 3 bX8_sheet_20))))
set_option maxRecDepth 100000 in
theorem sX8_sheet_14 : Sd pX8_sheet ev_i 14 (bX8_sheet_14) := sd_iload_n dX8_sheet_14 rfl <| sd_bipush dX8_sheet_15 rfl <| sd_cle (tgt := 22) dX8_sheet_17 (by decide) sX8_sheet_22 <| (sd_fg (i := 0) (sd_fg (i := 1) (sd_fg (i := 2) (sd_fg (i := 3) sX8_sheet_20))))
def bX8_sheet_7 : Kt Int32 := o_ild 2 <| o_sc ev_i 1 fX8_isLane <| o_zeq (o_fg 0 (o_fg 1 (o_fg 2 (o_fg 3 bX8_sheet_20)))) <| bX8_sheet_14
set_option maxRecDepth 100000 in
theorem sX8_sheet_7 : Sd pX8_sheet ev_i 7 (bX8_sheet_7) := sd_iload_n dX8_sheet_7 rfl <| sd_sc tX8_isLane (fun _ _ => rfl) mwX8_isLane mvX8_isLane tw_567 (by decide) dX8_sheet_8 <| sd_zeq (tgt := 20) dX8_sheet_11 (by decide) (sd_fg (i := 0) (sd_fg (i := 1) (sd_fg (i := 2) (sd_fg (i := 3) sX8_sheet_20)))) <| sX8_sheet_14
def bX8_sheet_0 : Kt Int32 := o_ild 1 <| o_sc ev_i 1 fX8_isSheet <| o_zeq (o_fg 0 (o_fg 1 (o_fg 2 (o_fg 3 bX8_sheet_20)))) <| bX8_sheet_7
set_option maxRecDepth 100000 in
theorem sX8_sheet_0 : Sd pX8_sheet ev_i 0 (bX8_sheet_0) := sd_iload_n dX8_sheet_0 rfl <| sd_sc tX8_isSheet (fun _ _ => rfl) mwX8_isSheet mvX8_isSheet tw_564 (by decide) dX8_sheet_1 <| sd_zeq (tgt := 20) dX8_sheet_4 (by decide) (sd_fg (i := 0) (sd_fg (i := 1) (sd_fg (i := 2) (sd_fg (i := 3) sX8_sheet_20)))) <| sX8_sheet_7
def fX8_sheet : Mt Int32 := mk_f 4 bX8_sheet_0
theorem tX8_sheet : Ct ev_i yX8_sheet cX8_sheet 4 (some .int) 2 44 fX8_sheet := ct_of (by decide +kernel) sX8_sheet_0
abbrev pX8_lay : Px := (cX8_lay, 6, RX8, "lay", (some .int), 1, 22, fun _ => True)
def bX8_lay_36 : Kt Int32 := o_ald 4 <| o_ild 2 <| o_ild 3 <| o_vc ev_v 2 3 fX3_putCell <| o_psh (.int 1) <| o_rI
set_option maxRecDepth 100000 in
theorem sX8_lay_36 : Sd pX8_lay ev_i 36 (bX8_lay_36) := sd_aload dX8_lay_36 <| sd_iload_n dX8_lay_38 rfl <| sd_iload_n dX8_lay_39 rfl <| sd_vc tX3_putCell (fun _ _ => rfl) rfl mwX3_putCell mvX3_putCell tw_576 (by decide) dX8_lay_40 <| sd_iconst dX8_lay_43 rfl <| (sd_rI rfl dX8_lay_44)
def bX8_lay_30 : Kt Int32 := o_psh (.int (-10)) <| o_ild 5 <| o_i2 o_sub <| o_rI
set_option maxRecDepth 100000 in
theorem sX8_lay_30 : Sd pX8_lay ev_i 30 (bX8_lay_30) := sd_bipush dX8_lay_30 rfl <| sd_iload dX8_lay_32 <| sd_isub dX8_lay_34 <| (sd_rI rfl dX8_lay_35)
def bX8_lay_9 : Kt Int32 := o_ald 0 <| o_gR 7 6 <| o_ild 1 <| o_aR 3 <| o_ast 4 <| o_ald 4 <| o_ild 2 <| o_vc ev_i 2 2 fX3_faultAt <| o_ist 5 <| o_ild 5 <| o_zeq (o_fg 0 (o_fg 1 (o_fg 5 bX8_lay_36))) <| (o_fg 0 (o_fg 1 (o_fg 2 (o_fg 3 (o_fg 4 bX8_lay_30)))))
set_option maxRecDepth 100000 in
theorem sX8_lay_9 : Sd pX8_lay ev_i 9 (bX8_lay_9) := sd_aload_n dX8_lay_9 rfl <| sd_gR flX8_47 dX8_lay_10 <| sd_iload_n dX8_lay_13 rfl <| sd_aR (t := 3) (fun _ => rfl) dX8_lay_14 <| sd_astore dX8_lay_15 (by decide) <| sd_aload dX8_lay_17 <| sd_iload_n dX8_lay_19 rfl <| sd_vc tX3_faultAt (fun _ _ => rfl) rfl mwX3_faultAt mvX3_faultAt tw_572 (by decide) dX8_lay_20 <| sd_istore dX8_lay_23 (by decide) <| sd_iload dX8_lay_25 <| sd_zeq (tgt := 36) dX8_lay_27 (by decide) (sd_fg (i := 0) (sd_fg (i := 1) (sd_fg (i := 5) sX8_lay_36))) <| (sd_fg (i := 0) (sd_fg (i := 1) (sd_fg (i := 2) (sd_fg (i := 3) (sd_fg (i := 4) sX8_lay_30)))))
def bX8_lay_7 : Kt Int32 := o_psh (.int (-1)) <| o_rI
set_option maxRecDepth 100000 in
theorem sX8_lay_7 : Sd pX8_lay ev_i 7 (bX8_lay_7) := sd_iconst dX8_lay_7 rfl <| (sd_rI rfl dX8_lay_8)
def bX8_lay_0 : Kt Int32 := o_ild 1 <| o_sc ev_i 1 fX8_isSheet <| o_zne bX8_lay_9 <| (o_fg 0 (o_fg 1 (o_fg 2 (o_fg 3 bX8_lay_7))))
set_option maxRecDepth 100000 in
theorem sX8_lay_0 : Sd pX8_lay ev_i 0 (bX8_lay_0) := sd_iload_n dX8_lay_0 rfl <| sd_sc tX8_isSheet (fun _ _ => rfl) mwX8_isSheet mvX8_isSheet tw_564 (by decide) dX8_lay_1 <| sd_zne (tgt := 9) dX8_lay_4 (by decide) sX8_lay_9 <| (sd_fg (i := 0) (sd_fg (i := 1) (sd_fg (i := 2) (sd_fg (i := 3) sX8_lay_7))))
def fX8_lay : Mt Int32 := mk_f 6 bX8_lay_0
theorem tX8_lay : Ct ev_i yX8_lay cX8_lay 6 (some .int) 1 22 fX8_lay := ct_of (by decide +kernel) sX8_lay_0
abbrev pX8_read : Px := (cX8_read, 11, RX8, "read", (some .int), 3, 64, fun _ => True)
def bX8_read_133 : Kt Int32 := o_ald 0 <| o_gR 7 10 <| o_psh (.int 0) <| o_ald 0 <| o_gR 7 0 <| o_gR 1 5 <| o_psh (.int 0) <| o_psh (.int 10) <| o_cpy <| o_ald 0 <| o_ild 7 <| o_pI 7 13 <| o_ild 6 <| o_rI
set_option maxRecDepth 100000 in
theorem sX8_read_133 : Sd pX8_read ev_i 133 (bX8_read_133) := sd_aload_n dX8_read_133 rfl <| sd_gR flX8_72 dX8_read_134 <| sd_iconst dX8_read_137 rfl <| sd_aload_n dX8_read_138 rfl <| sd_gR flX8_10 dX8_read_139 <| sd_gR flX8_130 dX8_read_142 <| sd_iconst dX8_read_145 rfl <| sd_bipush dX8_read_146 rfl <| sd_cpy ⟨tw_501, tw_53, tw_54, tw_55⟩ (by decide) dX8_read_148 <| sd_aload_n dX8_read_151 rfl <| sd_iload dX8_read_152 <| sd_pI fpX8_309 dX8_read_154 <| sd_iload dX8_read_157 <| (sd_rI rfl dX8_read_159)
def bX8_read_130 (K46 : Kt Int32) : Kt Int32 := K46
set_option maxRecDepth 100000 in
theorem sX8_read_130 {K46 : Kt Int32} (h46 : Sd pX8_read ev_i 46 K46) : Sd pX8_read ev_i 130 (bX8_read_130 K46) := (sd_goto (tgt := 46) dX8_read_130 (by decide) h46)
def bX8_read_118 (K46 : Kt Int32) : Kt Int32 := o_ald 0 <| o_gR 7 10 <| o_ild 9 <| o_ild 10 <| o_sI <| o_inc 6 1 <| (o_fg 9 (o_fg 10 (bX8_read_130 K46)))
set_option maxRecDepth 100000 in
theorem sX8_read_118 {K46 : Kt Int32} (h46 : Sd pX8_read ev_i 46 K46) : Sd pX8_read ev_i 118 (bX8_read_118 K46) := sd_aload_n dX8_read_118 rfl <| sd_gR flX8_72 dX8_read_119 <| sd_iload dX8_read_122 <| sd_iload dX8_read_124 <| sd_sI dX8_read_126 <| sd_iinc dX8_read_127 rfl (by decide) <| (sd_fg (i := 9) (sd_fg (i := 10) (sX8_read_130 h46)))
def bX8_read_112 (K46 : Kt Int32) : Kt Int32 := o_psh (.int (-20)) <| o_ild 6 <| o_i2 o_sub <| o_rI
set_option maxRecDepth 100000 in
theorem sX8_read_112 {K46 : Kt Int32} (h46 : Sd pX8_read ev_i 46 K46) : Sd pX8_read ev_i 112 (bX8_read_112 K46) := sd_bipush dX8_read_112 rfl <| sd_iload dX8_read_114 <| sd_isub dX8_read_116 <| (sd_rI rfl dX8_read_117)
def bX8_read_81 (K46 : Kt Int32) : Kt Int32 := o_ald 5 <| o_ild 8 <| o_vc ev_i 2 2 fX3_cellAt <| o_ist 9 <| o_ald 5 <| o_ild 8 <| o_psh (.int 1) <| o_i2 o_add <| o_vc ev_i 2 2 fX3_cellAt <| o_ist 10 <| o_ald 0 <| o_ild 9 <| o_ild 10 <| o_vc ev_i 7 3 fX8_isShift <| o_zne (o_fg 8 (bX8_read_118 K46)) <| (o_fg 0 (o_fg 2 (o_fg 3 (o_fg 4 (o_fg 5 (o_fg 7 (o_fg 8 (o_fg 9 (o_fg 10 (bX8_read_112 K46))))))))))
set_option maxRecDepth 100000 in
theorem sX8_read_81 {K46 : Kt Int32} (h46 : Sd pX8_read ev_i 46 K46) : Sd pX8_read ev_i 81 (bX8_read_81 K46) := sd_aload dX8_read_81 <| sd_iload dX8_read_83 <| sd_vc tX3_cellAt (fun _ _ => rfl) rfl mwX3_cellAt mvX3_cellAt tw_584 (by decide) dX8_read_85 <| sd_istore dX8_read_88 (by decide) <| sd_aload dX8_read_90 <| sd_iload dX8_read_92 <| sd_iconst dX8_read_94 rfl <| sd_iadd dX8_read_95 <| sd_vc tX3_cellAt (fun _ _ => rfl) rfl mwX3_cellAt mvX3_cellAt tw_584 (by decide) dX8_read_96 <| sd_istore dX8_read_99 (by decide) <| sd_aload_n dX8_read_101 rfl <| sd_iload dX8_read_102 <| sd_iload dX8_read_104 <| sd_vc tX8_isShift (fun _ _ => rfl) rfl mwX8_isShift mvX8_isShift tw_471 (by decide) dX8_read_106 <| sd_zne (tgt := 118) dX8_read_109 (by decide) (sd_fg (i := 8) (sX8_read_118 h46)) <| (sd_fg (i := 0) (sd_fg (i := 2) (sd_fg (i := 3) (sd_fg (i := 4) (sd_fg (i := 5) (sd_fg (i := 7) (sd_fg (i := 8) (sd_fg (i := 9) (sd_fg (i := 10) (sX8_read_112 h46))))))))))
def bX8_read_58 (K46 : Kt Int32) : Kt Int32 := o_ild 3 <| o_psh (.int 2) <| o_ild 6 <| o_i2 o_mul <| o_i2 o_add <| o_ist 8 <| o_ald 5 <| o_ild 2 <| o_ild 8 <| o_vc ev_i 2 3 fX3_faultOfPair <| o_ist 7 <| o_ild 7 <| o_zne (o_fg 8 (bX8_read_130 K46)) <| (bX8_read_81 K46)
set_option maxRecDepth 100000 in
theorem sX8_read_58 {K46 : Kt Int32} (h46 : Sd pX8_read ev_i 46 K46) : Sd pX8_read ev_i 58 (bX8_read_58 K46) := sd_iload_n dX8_read_58 rfl <| sd_iconst dX8_read_59 rfl <| sd_iload dX8_read_60 <| sd_imul dX8_read_62 <| sd_iadd dX8_read_63 <| sd_istore dX8_read_64 (by decide) <| sd_aload dX8_read_66 <| sd_iload_n dX8_read_68 rfl <| sd_iload dX8_read_69 <| sd_vc tX3_faultOfPair (fun _ _ => rfl) rfl mwX3_faultOfPair mvX3_faultOfPair tw_580 (by decide) dX8_read_71 <| sd_istore dX8_read_74 (by decide) <| sd_iload dX8_read_76 <| sd_zne (tgt := 130) dX8_read_78 (by decide) (sd_fg (i := 8) (sX8_read_130 h46)) <| (sX8_read_81 h46)
def bX8_read_53 (K46 : Kt Int32) : Kt Int32 := o_ild 7 <| o_zne (o_fg 2 (o_fg 3 (o_fg 4 (o_fg 5 bX8_read_133)))) <| (o_fg 7 (bX8_read_58 K46))
set_option maxRecDepth 100000 in
theorem sX8_read_53 {K46 : Kt Int32} (h46 : Sd pX8_read ev_i 46 K46) : Sd pX8_read ev_i 53 (bX8_read_53 K46) := sd_iload dX8_read_53 <| sd_zne (tgt := 133) dX8_read_55 (by decide) (sd_fg (i := 2) (sd_fg (i := 3) (sd_fg (i := 4) (sd_fg (i := 5) sX8_read_133)))) <| (sd_fg (i := 7) (sX8_read_58 h46))
def bX8_read_46 (K46 : Kt Int32) : Kt Int32 := o_ild 6 <| o_ild 4 <| o_cge (o_fg 2 (o_fg 3 (o_fg 4 (o_fg 5 bX8_read_133)))) <| (bX8_read_53 K46)
set_option maxRecDepth 100000 in
theorem sX8_read_46 {K46 : Kt Int32} (h46 : Sd pX8_read ev_i 46 K46) : Sd pX8_read ev_i 46 (bX8_read_46 K46) := sd_iload dX8_read_46 <| sd_iload dX8_read_48 <| sd_cge (tgt := 133) dX8_read_50 (by decide) (sd_fg (i := 2) (sd_fg (i := 3) (sd_fg (i := 4) (sd_fg (i := 5) sX8_read_133)))) <| (sX8_read_53 h46)
def bX8_read_28 : Kt Int32 := o_ald 0 <| o_gR 7 6 <| o_ild 1 <| o_aR 3 <| o_ast 5 <| o_ald 0 <| o_vc ev_v 7 1 fX8_takeTrial <| o_psh (.int 0) <| o_ist 6 <| o_psh (.int 0) <| o_ist 7 <| (o_fg 1 (o_lp (bX8_read_46) fu))
set_option maxRecDepth 100000 in
theorem sX8_read_28 : Sd pX8_read ev_i 28 (bX8_read_28) := sd_aload_n dX8_read_28 rfl <| sd_gR flX8_47 dX8_read_29 <| sd_iload_n dX8_read_32 rfl <| sd_aR (t := 3) (fun _ => rfl) dX8_read_33 <| sd_astore dX8_read_34 (by decide) <| sd_aload_n dX8_read_36 rfl <| sd_vc tX8_takeTrial (fun _ _ => rfl) rfl mwX8_takeTrial mvX8_takeTrial tw_505 (by decide) dX8_read_37 <| sd_iconst dX8_read_40 rfl <| sd_istore dX8_read_41 (by decide) <| sd_iconst dX8_read_43 rfl <| sd_istore dX8_read_44 (by decide) <| (sd_fg (i := 1) (sd_lp (fun K h => sX8_read_46 h) fu))
def bX8_read_26 : Kt Int32 := o_psh (.int (-1)) <| o_rI
set_option maxRecDepth 100000 in
theorem sX8_read_26 : Sd pX8_read ev_i 26 (bX8_read_26) := sd_iconst dX8_read_26 rfl <| (sd_rI rfl dX8_read_27)
def bX8_read_19 : Kt Int32 := o_ild 4 <| o_psh (.int 20) <| o_cle bX8_read_28 <| (o_fg 0 (o_fg 1 (o_fg 2 (o_fg 3 (o_fg 4 bX8_read_26)))))
set_option maxRecDepth 100000 in
theorem sX8_read_19 : Sd pX8_read ev_i 19 (bX8_read_19) := sd_iload dX8_read_19 <| sd_bipush dX8_read_21 rfl <| sd_cle (tgt := 28) dX8_read_23 (by decide) sX8_read_28 <| (sd_fg (i := 0) (sd_fg (i := 1) (sd_fg (i := 2) (sd_fg (i := 3) (sd_fg (i := 4) sX8_read_26)))))
def bX8_read_14 : Kt Int32 := o_ild 4 <| o_zlt (o_fg 0 (o_fg 1 (o_fg 2 (o_fg 3 (o_fg 4 bX8_read_26))))) <| bX8_read_19
set_option maxRecDepth 100000 in
theorem sX8_read_14 : Sd pX8_read ev_i 14 (bX8_read_14) := sd_iload dX8_read_14 <| sd_zlt (tgt := 26) dX8_read_16 (by decide) (sd_fg (i := 0) (sd_fg (i := 1) (sd_fg (i := 2) (sd_fg (i := 3) (sd_fg (i := 4) sX8_read_26))))) <| sX8_read_19
def bX8_read_7 : Kt Int32 := o_ild 2 <| o_sc ev_i 1 fX8_isLane <| o_zeq (o_fg 0 (o_fg 1 (o_fg 2 (o_fg 3 (o_fg 4 bX8_read_26))))) <| bX8_read_14
set_option maxRecDepth 100000 in
theorem sX8_read_7 : Sd pX8_read ev_i 7 (bX8_read_7) := sd_iload_n dX8_read_7 rfl <| sd_sc tX8_isLane (fun _ _ => rfl) mwX8_isLane mvX8_isLane tw_567 (by decide) dX8_read_8 <| sd_zeq (tgt := 26) dX8_read_11 (by decide) (sd_fg (i := 0) (sd_fg (i := 1) (sd_fg (i := 2) (sd_fg (i := 3) (sd_fg (i := 4) sX8_read_26))))) <| sX8_read_14
def bX8_read_0 : Kt Int32 := o_ild 1 <| o_sc ev_i 1 fX8_isSheet <| o_zeq (o_fg 0 (o_fg 1 (o_fg 2 (o_fg 3 (o_fg 4 bX8_read_26))))) <| bX8_read_7
set_option maxRecDepth 100000 in
theorem sX8_read_0 : Sd pX8_read ev_i 0 (bX8_read_0) := sd_iload_n dX8_read_0 rfl <| sd_sc tX8_isSheet (fun _ _ => rfl) mwX8_isSheet mvX8_isSheet tw_564 (by decide) dX8_read_1 <| sd_zeq (tgt := 26) dX8_read_4 (by decide) (sd_fg (i := 0) (sd_fg (i := 1) (sd_fg (i := 2) (sd_fg (i := 3) (sd_fg (i := 4) sX8_read_26))))) <| sX8_read_7
def fX8_read : Mt Int32 := mk_f 11 bX8_read_0
theorem tX8_read : Ct ev_i yX8_read cX8_read 11 (some .int) 3 64 fX8_read := ct_of (by decide +kernel) sX8_read_0
abbrev pX8_torn : Px := (cX8_torn, 1, RX8, "torn", (some .int), 0, 0, fun _ => True)
def bX8_torn_0 : Kt Int32 := o_ald 0 <| o_gI 7 13 <| o_rI
set_option maxRecDepth 100000 in
theorem sX8_torn_0 : Sd pX8_torn ev_i 0 (bX8_torn_0) := sd_aload_n dX8_torn_0 rfl <| sd_gI flX8_309 dX8_torn_1 <| (sd_rI rfl dX8_torn_4)
def fX8_torn : Mt Int32 := mk_f 1 bX8_torn_0
theorem tX8_torn : Ct ev_i yX8_torn cX8_torn 1 (some .int) 0 0 fX8_torn := ct_of (by decide +kernel) sX8_torn_0
abbrev pX8_count : Px := (cX8_count, 2, RX8, "count", (some .int), 4, 92, fun _ => True)
def bX8_count_143 : Kt Int32 := o_psh (.int (-1)) <| o_rI
set_option maxRecDepth 100000 in
theorem sX8_count_143 : Sd pX8_count ev_i 143 (bX8_count_143) := sd_iconst dX8_count_143 rfl <| (sd_rI rfl dX8_count_144)
def bX8_count_104 : Kt Int32 := o_ald 0 <| o_gR 7 7 <| o_ald 0 <| o_gR 7 0 <| o_ald 0 <| o_gR 7 0 <| o_gR 1 5 <| o_vc ev_v 6 3 fX7_look <| o_ald 0 <| o_gR 7 0 <| o_vc ev_i 1 1 fX1_hoursHeld <| o_ald 0 <| o_gR 7 7 <| o_vc ev_i 6 1 fX7_hoursSeen <| o_psh (.int (-1)) <| o_i2 o_xor <| o_i2 o_and <| o_sc ev_i 1 fJ6_bitCount_0f7a4 <| o_rI
set_option maxRecDepth 100000 in
theorem sX8_count_104 : Sd pX8_count ev_i 104 (bX8_count_104) := sd_aload_n dX8_count_104 rfl <| sd_gR flX8_54 dX8_count_105 <| sd_aload_n dX8_count_108 rfl <| sd_gR flX8_10 dX8_count_109 <| sd_aload_n dX8_count_112 rfl <| sd_gR flX8_10 dX8_count_113 <| sd_gR flX8_130 dX8_count_116 <| sd_vc tX7_look (fun _ _ => rfl) rfl mwX7_look mvX7_look tw_435 (by decide) dX8_count_119 <| sd_aload_n dX8_count_122 rfl <| sd_gR flX8_10 dX8_count_123 <| sd_vc tX1_hoursHeld (fun _ _ => rfl) rfl mwX1_hoursHeld mvX1_hoursHeld tw_430 (by decide) dX8_count_126 <| sd_aload_n dX8_count_129 rfl <| sd_gR flX8_54 dX8_count_130 <| sd_vc tX7_hoursSeen (fun _ _ => rfl) rfl mwX7_hoursSeen mvX7_hoursSeen tw_439 (by decide) dX8_count_133 <| sd_iconst dX8_count_136 rfl <| sd_ixor dX8_count_137 <| sd_iand dX8_count_138 <| sd_sc tJ6_bitCount_0f7a4 (fun _ _ => rfl) mwJ6_bitCount_0f7a4 mvJ6_bitCount_0f7a4 tw_521 (by decide) dX8_count_139 <| (sd_rI rfl dX8_count_142)
def bX8_count_96 : Kt Int32 := o_ald 0 <| o_gR 7 0 <| o_vc ev_i 1 1 fX1_allWorth <| o_rI
set_option maxRecDepth 100000 in
theorem sX8_count_96 : Sd pX8_count ev_i 96 (bX8_count_96) := sd_aload_n dX8_count_96 rfl <| sd_gR flX8_10 dX8_count_97 <| sd_vc tX1_allWorth (fun _ _ => rfl) rfl mwX1_allWorth mvX1_allWorth tw_590 (by decide) dX8_count_100 <| (sd_rI rfl dX8_count_103)
def bX8_count_86 : Kt Int32 := o_ald 0 <| o_gR 7 6 <| o_psh (.int 0) <| o_aR 3 <| o_gI 2 2 <| o_rI
set_option maxRecDepth 100000 in
theorem sX8_count_86 : Sd pX8_count ev_i 86 (bX8_count_86) := sd_aload_n dX8_count_86 rfl <| sd_gR flX8_47 dX8_count_87 <| sd_iconst dX8_count_90 rfl <| sd_aR (t := 3) (fun _ => rfl) dX8_count_91 <| sd_gI flX8_312 dX8_count_92 <| (sd_rI rfl dX8_count_95)
def bX8_count_78 : Kt Int32 := o_ald 0 <| o_gR 7 4 <| o_gI 5 3 <| o_rI
set_option maxRecDepth 100000 in
theorem sX8_count_78 : Sd pX8_count ev_i 78 (bX8_count_78) := sd_aload_n dX8_count_78 rfl <| sd_gR flX8_33 dX8_count_79 <| sd_gI flX8_114 dX8_count_82 <| (sd_rI rfl dX8_count_85)
def bX8_count_76 : Kt Int32 := o_i2 o_add <| o_rI
set_option maxRecDepth 100000 in
theorem sX8_count_76 : Sd pX8_count ev_i 76 (bX8_count_76) := sd_iadd dX8_count_76 <| (sd_rI rfl dX8_count_77)
def bX8_count_75 : Kt Int32 := o_psh (.int 0) <| bX8_count_76
set_option maxRecDepth 100000 in
theorem sX8_count_75 : Sd pX8_count ev_i 75 (bX8_count_75) := sd_iconst dX8_count_75 rfl <| sX8_count_76
def bX8_count_71 : Kt Int32 := o_psh (.int 1) <| bX8_count_76
set_option maxRecDepth 100000 in
theorem sX8_count_71 : Sd pX8_count ev_i 71 (bX8_count_71) := sd_iconst dX8_count_71 rfl <| (sd_goto (tgt := 76) dX8_count_72 (by decide) sX8_count_76)
def bX8_count_62 : Kt Int32 := o_ald 0 <| o_gR 7 2 <| o_psh (.int 1) <| o_aZ <| o_zeq (o_fg 0 bX8_count_75) <| (o_fg 0 bX8_count_71)
set_option maxRecDepth 100000 in
theorem sX8_count_62 : Sd pX8_count ev_i 62 (bX8_count_62) := sd_aload_n dX8_count_62 rfl <| sd_gR flX8_20 dX8_count_63 <| sd_iconst dX8_count_66 rfl <| sd_aZ dX8_count_67 <| sd_zeq (tgt := 75) dX8_count_68 (by decide) (sd_fg (i := 0) sX8_count_75) <| (sd_fg (i := 0) sX8_count_71)
def bX8_count_61 : Kt Int32 := o_psh (.int 0) <| bX8_count_62
set_option maxRecDepth 100000 in
theorem sX8_count_61 : Sd pX8_count ev_i 61 (bX8_count_61) := sd_iconst dX8_count_61 rfl <| sX8_count_62
def bX8_count_57 : Kt Int32 := o_psh (.int 1) <| bX8_count_62
set_option maxRecDepth 100000 in
theorem sX8_count_57 : Sd pX8_count ev_i 57 (bX8_count_57) := sd_iconst dX8_count_57 rfl <| (sd_goto (tgt := 62) dX8_count_58 (by decide) sX8_count_62)
def bX8_count_48 : Kt Int32 := o_ald 0 <| o_gR 7 2 <| o_psh (.int 0) <| o_aZ <| o_zeq bX8_count_61 <| bX8_count_57
set_option maxRecDepth 100000 in
theorem sX8_count_48 : Sd pX8_count ev_i 48 (bX8_count_48) := sd_aload_n dX8_count_48 rfl <| sd_gR flX8_20 dX8_count_49 <| sd_iconst dX8_count_52 rfl <| sd_aZ dX8_count_53 <| sd_zeq (tgt := 61) dX8_count_54 (by decide) sX8_count_61 <| sX8_count_57
def bX8_count_40 : Kt Int32 := o_ald 0 <| o_gR 7 3 <| o_gI 5 3 <| o_rI
set_option maxRecDepth 100000 in
theorem sX8_count_40 : Sd pX8_count ev_i 40 (bX8_count_40) := sd_aload_n dX8_count_40 rfl <| sd_gR flX8_29 dX8_count_41 <| sd_gI flX8_114 dX8_count_44 <| (sd_rI rfl dX8_count_47)
def bX8_count_0 : Kt Int32 := o_ild 1 <| o_sw [(0, (o_fg 1 bX8_count_40)), (1, (o_fg 1 bX8_count_48)), (2, (o_fg 1 bX8_count_78)), (3, (o_fg 1 bX8_count_86)), (4, (o_fg 1 bX8_count_96)), (5, (o_fg 1 bX8_count_104))] (o_fg 0 (o_fg 1 bX8_count_143))
set_option maxRecDepth 100000 in
theorem sX8_count_0 : Sd pX8_count ev_i 0 (bX8_count_0) := sd_iload_n dX8_count_0 rfl <| (sd_tsw (td := 143) dX8_count_1 (by decide) rfl (sd_fg (i := 0) (sd_fg (i := 1) sX8_count_143)) ⟨⟨rfl, 40, by decide, (sd_fg (i := 1) sX8_count_40)⟩, ⟨rfl, 48, by decide, (sd_fg (i := 1) sX8_count_48)⟩, ⟨rfl, 78, by decide, (sd_fg (i := 1) sX8_count_78)⟩, ⟨rfl, 86, by decide, (sd_fg (i := 1) sX8_count_86)⟩, ⟨rfl, 96, by decide, (sd_fg (i := 1) sX8_count_96)⟩, ⟨rfl, 104, by decide, (sd_fg (i := 1) sX8_count_104)⟩, trivial⟩)
def fX8_count : Mt Int32 := mk_f 2 bX8_count_0
theorem tX8_count : Ct ev_i yX8_count cX8_count 2 (some .int) 4 92 fX8_count := ct_of (by decide +kernel) sX8_count_0
abbrev pX9_init : Px := (cX9_init, 1, RX9, "<init>", none, 1, 20, fun _ => True)
def bX9_init_426 : Kt Unit := o_sI <| o_dup <| o_psh (.int 2) <| o_psh (.int (-4)) <| o_sI <| o_dup <| o_psh (.int 3) <| o_psh (.int (-4)) <| o_sI <| o_pR 8 28 <| o_ald 0 <| o_psh (.int 4) <| o_nwI 0 <| o_pR 8 29 <| o_ald 0 <| o_psh (.int 160) <| o_nwI 0 <| o_pR 8 30 <| o_rV
set_option maxRecDepth 100000 in
theorem sX9_init_426 : Sd pX9_init ev_v 426 (bX9_init_426) := sd_sI dX9_init_426 <| sd_dup dX9_init_427 <| sd_iconst dX9_init_428 rfl <| sd_bipush dX9_init_429 rfl <| sd_sI dX9_init_431 <| sd_dup dX9_init_432 <| sd_iconst dX9_init_433 rfl <| sd_bipush dX9_init_434 rfl <| sd_sI dX9_init_436 <| sd_pR rfl (Or.inr ⟨_, rfl⟩) fpX9_47 dX9_init_437 <| sd_aload_n dX9_init_440 rfl <| sd_iconst dX9_init_441 rfl <| sd_nwI (t := 0) (aty := .int) (tn := .int) rfl rfl (fun _ => rfl) (fun _ _ h => h) hby_int tw_37 dX9_init_442 <| sd_pR rfl (Or.inr ⟨_, rfl⟩) fpX9_50 dX9_init_444 <| sd_aload_n dX9_init_447 rfl <| sd_sipush dX9_init_448 rfl <| sd_nwI (t := 0) (aty := .int) (tn := .int) rfl rfl (fun _ => rfl) (fun _ _ h => h) hby_int tw_37 dX9_init_451 <| sd_pR rfl (Or.inr ⟨_, rfl⟩) fpX9_53 dX9_init_453 <| (sd_rV rfl dX9_init_456)
def bX9_init_353 : Kt Unit := o_sI <| o_dup <| o_psh (.int 40) <| o_psh (.int 108) <| o_sI <| o_pR 8 19 <| o_ald 0 <| o_psh (.int 150) <| o_nwI 0 <| o_pR 8 20 <| o_ald 0 <| o_psh (.int 150) <| o_nwI 0 <| o_pR 8 21 <| o_ald 0 <| o_psh (.int 2112) <| o_nwI 0 <| o_pR 8 22 <| o_ald 0 <| o_psh (.int 24) <| o_nwI 0 <| o_pR 8 23 <| o_ald 0 <| o_psh (.int 90) <| o_nwI 0 <| o_pR 8 25 <| o_ald 0 <| o_psh (.int 2) <| o_nwI 1 <| o_pR 8 27 <| o_ald 0 <| o_psh (.int 4) <| o_nwI 0 <| o_dup <| o_psh (.int 0) <| o_psh (.int (-4)) <| o_sI <| o_dup <| o_psh (.int 1) <| o_psh (.int (-4)) <| bX9_init_426
set_option maxRecDepth 100000 in
theorem sX9_init_353 : Sd pX9_init ev_v 353 (bX9_init_353) := sd_sI dX9_init_353 <| sd_dup dX9_init_354 <| sd_bipush dX9_init_355 rfl <| sd_bipush dX9_init_357 rfl <| sd_sI dX9_init_359 <| sd_pR rfl (Or.inr ⟨_, rfl⟩) fpX9_25 dX9_init_360 <| sd_aload_n dX9_init_363 rfl <| sd_sipush dX9_init_364 rfl <| sd_nwI (t := 0) (aty := .int) (tn := .int) rfl rfl (fun _ => rfl) (fun _ _ h => h) hby_int tw_37 dX9_init_367 <| sd_pR rfl (Or.inr ⟨_, rfl⟩) fpX9_28 dX9_init_369 <| sd_aload_n dX9_init_372 rfl <| sd_sipush dX9_init_373 rfl <| sd_nwI (t := 0) (aty := .int) (tn := .int) rfl rfl (fun _ => rfl) (fun _ _ h => h) hby_int tw_37 dX9_init_376 <| sd_pR rfl (Or.inr ⟨_, rfl⟩) fpX9_31 dX9_init_378 <| sd_aload_n dX9_init_381 rfl <| sd_sipush dX9_init_382 rfl <| sd_nwI (t := 0) (aty := .int) (tn := .int) rfl rfl (fun _ => rfl) (fun _ _ h => h) hby_int tw_37 dX9_init_385 <| sd_pR rfl (Or.inr ⟨_, rfl⟩) fpX9_34 dX9_init_387 <| sd_aload_n dX9_init_390 rfl <| sd_bipush dX9_init_391 rfl <| sd_nwI (t := 0) (aty := .int) (tn := .int) rfl rfl (fun _ => rfl) (fun _ _ h => h) hby_int tw_37 dX9_init_393 <| sd_pR rfl (Or.inr ⟨_, rfl⟩) fpX9_37 dX9_init_395 <| sd_aload_n dX9_init_398 rfl <| sd_bipush dX9_init_399 rfl <| sd_nwI (t := 0) (aty := .int) (tn := .int) rfl rfl (fun _ => rfl) (fun _ _ h => h) hby_int tw_37 dX9_init_401 <| sd_pR rfl (Or.inr ⟨_, rfl⟩) fpX9_40 dX9_init_403 <| sd_aload_n dX9_init_406 rfl <| sd_iconst dX9_init_407 rfl <| sd_nwI (t := 1) (aty := .boolean) (tn := .boolean) rfl rfl (fun _ => rfl) (fun _ _ h => h) hby_boolean tw_365 dX9_init_408 <| sd_pR rfl (Or.inr ⟨_, rfl⟩) fpX9_43 dX9_init_410 <| sd_aload_n dX9_init_413 rfl <| sd_iconst dX9_init_414 rfl <| sd_nwI (t := 0) (aty := .int) (tn := .int) rfl rfl (fun _ => rfl) (fun _ _ h => h) hby_int tw_37 dX9_init_415 <| sd_dup dX9_init_417 <| sd_iconst dX9_init_418 rfl <| sd_bipush dX9_init_419 rfl <| sd_sI dX9_init_421 <| sd_dup dX9_init_422 <| sd_iconst dX9_init_423 rfl <| sd_bipush dX9_init_424 rfl <| sX9_init_426
def bX9_init_293 : Kt Unit := o_sI <| o_dup <| o_psh (.int 30) <| o_psh (.int 111) <| o_sI <| o_dup <| o_psh (.int 31) <| o_psh (.int 116) <| o_sI <| o_dup <| o_psh (.int 32) <| o_psh (.int 97) <| o_sI <| o_dup <| o_psh (.int 33) <| o_psh (.int 119) <| o_sI <| o_dup <| o_psh (.int 34) <| o_psh (.int 111) <| o_sI <| o_dup <| o_psh (.int 35) <| o_psh (.int 114) <| o_sI <| o_dup <| o_psh (.int 36) <| o_psh (.int 107) <| o_sI <| o_dup <| o_psh (.int 37) <| o_psh (.int 116) <| o_sI <| o_dup <| o_psh (.int 38) <| o_psh (.int 101) <| o_sI <| o_dup <| o_psh (.int 39) <| o_psh (.int 108) <| bX9_init_353
set_option maxRecDepth 100000 in
theorem sX9_init_293 : Sd pX9_init ev_v 293 (bX9_init_293) := sd_sI dX9_init_293 <| sd_dup dX9_init_294 <| sd_bipush dX9_init_295 rfl <| sd_bipush dX9_init_297 rfl <| sd_sI dX9_init_299 <| sd_dup dX9_init_300 <| sd_bipush dX9_init_301 rfl <| sd_bipush dX9_init_303 rfl <| sd_sI dX9_init_305 <| sd_dup dX9_init_306 <| sd_bipush dX9_init_307 rfl <| sd_bipush dX9_init_309 rfl <| sd_sI dX9_init_311 <| sd_dup dX9_init_312 <| sd_bipush dX9_init_313 rfl <| sd_bipush dX9_init_315 rfl <| sd_sI dX9_init_317 <| sd_dup dX9_init_318 <| sd_bipush dX9_init_319 rfl <| sd_bipush dX9_init_321 rfl <| sd_sI dX9_init_323 <| sd_dup dX9_init_324 <| sd_bipush dX9_init_325 rfl <| sd_bipush dX9_init_327 rfl <| sd_sI dX9_init_329 <| sd_dup dX9_init_330 <| sd_bipush dX9_init_331 rfl <| sd_bipush dX9_init_333 rfl <| sd_sI dX9_init_335 <| sd_dup dX9_init_336 <| sd_bipush dX9_init_337 rfl <| sd_bipush dX9_init_339 rfl <| sd_sI dX9_init_341 <| sd_dup dX9_init_342 <| sd_bipush dX9_init_343 rfl <| sd_bipush dX9_init_345 rfl <| sd_sI dX9_init_347 <| sd_dup dX9_init_348 <| sd_bipush dX9_init_349 rfl <| sd_bipush dX9_init_351 rfl <| sX9_init_353
def bX9_init_233 : Kt Unit := o_sI <| o_dup <| o_psh (.int 20) <| o_psh (.int 116) <| o_sI <| o_dup <| o_psh (.int 21) <| o_psh (.int 104) <| o_sI <| o_dup <| o_psh (.int 22) <| o_psh (.int 105) <| o_sI <| o_dup <| o_psh (.int 23) <| o_psh (.int 110) <| o_sI <| o_dup <| o_psh (.int 24) <| o_psh (.int 103) <| o_sI <| o_dup <| o_psh (.int 25) <| o_psh (.int 116) <| o_sI <| o_dup <| o_psh (.int 26) <| o_psh (.int 117) <| o_sI <| o_dup <| o_psh (.int 27) <| o_psh (.int 114) <| o_sI <| o_dup <| o_psh (.int 28) <| o_psh (.int 110) <| o_sI <| o_dup <| o_psh (.int 29) <| o_psh (.int 114) <| bX9_init_293
set_option maxRecDepth 100000 in
theorem sX9_init_233 : Sd pX9_init ev_v 233 (bX9_init_233) := sd_sI dX9_init_233 <| sd_dup dX9_init_234 <| sd_bipush dX9_init_235 rfl <| sd_bipush dX9_init_237 rfl <| sd_sI dX9_init_239 <| sd_dup dX9_init_240 <| sd_bipush dX9_init_241 rfl <| sd_bipush dX9_init_243 rfl <| sd_sI dX9_init_245 <| sd_dup dX9_init_246 <| sd_bipush dX9_init_247 rfl <| sd_bipush dX9_init_249 rfl <| sd_sI dX9_init_251 <| sd_dup dX9_init_252 <| sd_bipush dX9_init_253 rfl <| sd_bipush dX9_init_255 rfl <| sd_sI dX9_init_257 <| sd_dup dX9_init_258 <| sd_bipush dX9_init_259 rfl <| sd_bipush dX9_init_261 rfl <| sd_sI dX9_init_263 <| sd_dup dX9_init_264 <| sd_bipush dX9_init_265 rfl <| sd_bipush dX9_init_267 rfl <| sd_sI dX9_init_269 <| sd_dup dX9_init_270 <| sd_bipush dX9_init_271 rfl <| sd_bipush dX9_init_273 rfl <| sd_sI dX9_init_275 <| sd_dup dX9_init_276 <| sd_bipush dX9_init_277 rfl <| sd_bipush dX9_init_279 rfl <| sd_sI dX9_init_281 <| sd_dup dX9_init_282 <| sd_bipush dX9_init_283 rfl <| sd_bipush dX9_init_285 rfl <| sd_sI dX9_init_287 <| sd_dup dX9_init_288 <| sd_bipush dX9_init_289 rfl <| sd_bipush dX9_init_291 rfl <| sX9_init_293
def bX9_init_173 : Kt Unit := o_sI <| o_dup <| o_psh (.int 10) <| o_psh (.int 111) <| o_sI <| o_dup <| o_psh (.int 11) <| o_psh (.int 108) <| o_sI <| o_dup <| o_psh (.int 12) <| o_psh (.int 100) <| o_sI <| o_dup <| o_psh (.int 13) <| o_psh (.int 100) <| o_sI <| o_dup <| o_psh (.int 14) <| o_psh (.int 114) <| o_sI <| o_dup <| o_psh (.int 15) <| o_psh (.int 101) <| o_sI <| o_dup <| o_psh (.int 16) <| o_psh (.int 97) <| o_sI <| o_dup <| o_psh (.int 17) <| o_psh (.int 109) <| o_sI <| o_dup <| o_psh (.int 18) <| o_psh (.int 101) <| o_sI <| o_dup <| o_psh (.int 19) <| o_psh (.int 114) <| bX9_init_233
set_option maxRecDepth 100000 in
theorem sX9_init_173 : Sd pX9_init ev_v 173 (bX9_init_173) := sd_sI dX9_init_173 <| sd_dup dX9_init_174 <| sd_bipush dX9_init_175 rfl <| sd_bipush dX9_init_177 rfl <| sd_sI dX9_init_179 <| sd_dup dX9_init_180 <| sd_bipush dX9_init_181 rfl <| sd_bipush dX9_init_183 rfl <| sd_sI dX9_init_185 <| sd_dup dX9_init_186 <| sd_bipush dX9_init_187 rfl <| sd_bipush dX9_init_189 rfl <| sd_sI dX9_init_191 <| sd_dup dX9_init_192 <| sd_bipush dX9_init_193 rfl <| sd_bipush dX9_init_195 rfl <| sd_sI dX9_init_197 <| sd_dup dX9_init_198 <| sd_bipush dX9_init_199 rfl <| sd_bipush dX9_init_201 rfl <| sd_sI dX9_init_203 <| sd_dup dX9_init_204 <| sd_bipush dX9_init_205 rfl <| sd_bipush dX9_init_207 rfl <| sd_sI dX9_init_209 <| sd_dup dX9_init_210 <| sd_bipush dX9_init_211 rfl <| sd_bipush dX9_init_213 rfl <| sd_sI dX9_init_215 <| sd_dup dX9_init_216 <| sd_bipush dX9_init_217 rfl <| sd_bipush dX9_init_219 rfl <| sd_sI dX9_init_221 <| sd_dup dX9_init_222 <| sd_bipush dX9_init_223 rfl <| sd_bipush dX9_init_225 rfl <| sd_sI dX9_init_227 <| sd_dup dX9_init_228 <| sd_bipush dX9_init_229 rfl <| sd_bipush dX9_init_231 rfl <| sX9_init_233
def bX9_init_118 : Kt Unit := o_nwI 0 <| o_dup <| o_psh (.int 0) <| o_psh (.int 112) <| o_sI <| o_dup <| o_psh (.int 1) <| o_psh (.int 108) <| o_sI <| o_dup <| o_psh (.int 2) <| o_psh (.int 97) <| o_sI <| o_dup <| o_psh (.int 3) <| o_psh (.int 105) <| o_sI <| o_dup <| o_psh (.int 4) <| o_psh (.int 110) <| o_sI <| o_dup <| o_psh (.int 5) <| o_psh (.int 121) <| o_sI <| o_dup <| o_psh (.int 6) <| o_psh (.int 111) <| o_sI <| o_dup <| o_psh (.int 7) <| o_psh (.int 117) <| o_sI <| o_dup <| o_psh (.int 8) <| o_psh (.int 110) <| o_sI <| o_dup <| o_psh (.int 9) <| o_psh (.int 103) <| bX9_init_173
set_option maxRecDepth 100000 in
theorem sX9_init_118 : Sd pX9_init ev_v 118 (bX9_init_118) := sd_nwI (t := 0) (aty := .int) (tn := .int) rfl rfl (fun _ => rfl) (fun _ _ h => h) hby_int tw_37 dX9_init_118 <| sd_dup dX9_init_120 <| sd_iconst dX9_init_121 rfl <| sd_bipush dX9_init_122 rfl <| sd_sI dX9_init_124 <| sd_dup dX9_init_125 <| sd_iconst dX9_init_126 rfl <| sd_bipush dX9_init_127 rfl <| sd_sI dX9_init_129 <| sd_dup dX9_init_130 <| sd_iconst dX9_init_131 rfl <| sd_bipush dX9_init_132 rfl <| sd_sI dX9_init_134 <| sd_dup dX9_init_135 <| sd_iconst dX9_init_136 rfl <| sd_bipush dX9_init_137 rfl <| sd_sI dX9_init_139 <| sd_dup dX9_init_140 <| sd_iconst dX9_init_141 rfl <| sd_bipush dX9_init_142 rfl <| sd_sI dX9_init_144 <| sd_dup dX9_init_145 <| sd_iconst dX9_init_146 rfl <| sd_bipush dX9_init_147 rfl <| sd_sI dX9_init_149 <| sd_dup dX9_init_150 <| sd_bipush dX9_init_151 rfl <| sd_bipush dX9_init_153 rfl <| sd_sI dX9_init_155 <| sd_dup dX9_init_156 <| sd_bipush dX9_init_157 rfl <| sd_bipush dX9_init_159 rfl <| sd_sI dX9_init_161 <| sd_dup dX9_init_162 <| sd_bipush dX9_init_163 rfl <| sd_bipush dX9_init_165 rfl <| sd_sI dX9_init_167 <| sd_dup dX9_init_168 <| sd_bipush dX9_init_169 rfl <| sd_bipush dX9_init_171 rfl <| sX9_init_173
def bX9_init_63 : Kt Unit := o_sI <| o_dup <| o_psh (.int 1) <| o_psh (.int 5) <| o_sI <| o_dup <| o_psh (.int 2) <| o_psh (.int 10) <| o_sI <| o_dup <| o_psh (.int 3) <| o_psh (.int 13) <| o_sI <| o_dup <| o_psh (.int 4) <| o_psh (.int 20) <| o_sI <| o_dup <| o_psh (.int 5) <| o_psh (.int 25) <| o_sI <| o_dup <| o_psh (.int 6) <| o_psh (.int 29) <| o_sI <| o_dup <| o_psh (.int 7) <| o_psh (.int 33) <| o_sI <| o_dup <| o_psh (.int 8) <| o_psh (.int 37) <| o_sI <| o_dup <| o_psh (.int 9) <| o_psh (.int 41) <| o_sI <| o_pR 8 18 <| o_ald 0 <| o_psh (.int 41) <| bX9_init_118
set_option maxRecDepth 100000 in
theorem sX9_init_63 : Sd pX9_init ev_v 63 (bX9_init_63) := sd_sI dX9_init_63 <| sd_dup dX9_init_64 <| sd_iconst dX9_init_65 rfl <| sd_iconst dX9_init_66 rfl <| sd_sI dX9_init_67 <| sd_dup dX9_init_68 <| sd_iconst dX9_init_69 rfl <| sd_bipush dX9_init_70 rfl <| sd_sI dX9_init_72 <| sd_dup dX9_init_73 <| sd_iconst dX9_init_74 rfl <| sd_bipush dX9_init_75 rfl <| sd_sI dX9_init_77 <| sd_dup dX9_init_78 <| sd_iconst dX9_init_79 rfl <| sd_bipush dX9_init_80 rfl <| sd_sI dX9_init_82 <| sd_dup dX9_init_83 <| sd_iconst dX9_init_84 rfl <| sd_bipush dX9_init_85 rfl <| sd_sI dX9_init_87 <| sd_dup dX9_init_88 <| sd_bipush dX9_init_89 rfl <| sd_bipush dX9_init_91 rfl <| sd_sI dX9_init_93 <| sd_dup dX9_init_94 <| sd_bipush dX9_init_95 rfl <| sd_bipush dX9_init_97 rfl <| sd_sI dX9_init_99 <| sd_dup dX9_init_100 <| sd_bipush dX9_init_101 rfl <| sd_bipush dX9_init_103 rfl <| sd_sI dX9_init_105 <| sd_dup dX9_init_106 <| sd_bipush dX9_init_107 rfl <| sd_bipush dX9_init_109 rfl <| sd_sI dX9_init_111 <| sd_pR rfl (Or.inr ⟨_, rfl⟩) fpX9_22 dX9_init_112 <| sd_aload_n dX9_init_115 rfl <| sd_bipush dX9_init_116 rfl <| sX9_init_118
def bX9_init_0 : Kt Unit := o_ald 0 <| o_oin <| o_ald 0 <| o_psh (.int 296) <| o_nwI 0 <| o_pR 8 0 <| o_ald 0 <| o_psh (.int 4) <| o_nwI 0 <| o_dup <| o_psh (.int 0) <| o_psh (.int 3) <| o_sI <| o_dup <| o_psh (.int 1) <| o_psh (.int 2) <| o_sI <| o_dup <| o_psh (.int 2) <| o_psh (.int 9) <| o_sI <| o_dup <| o_psh (.int 3) <| o_psh (.int 6) <| o_sI <| o_pR 8 1 <| o_ald 0 <| o_psh (.int 74) <| o_nwI 0 <| o_pR 8 3 <| o_ald 0 <| o_psh (.int 160) <| o_nwI 0 <| o_pR 8 9 <| o_ald 0 <| o_psh (.int 10) <| o_nwI 0 <| o_dup <| o_psh (.int 0) <| o_psh (.int 0) <| bX9_init_63
set_option maxRecDepth 100000 in
theorem sX9_init_0 : Sd pX9_init ev_v 0 (bX9_init_0) := sd_aload_n dX9_init_0 rfl <| sd_oin ⟨tw_591, tw_29, tw_30⟩ (by decide) dX9_init_1 <| sd_aload_n dX9_init_4 rfl <| sd_sipush dX9_init_5 rfl <| sd_nwI (t := 0) (aty := .int) (tn := .int) rfl rfl (fun _ => rfl) (fun _ _ h => h) hby_int tw_37 dX9_init_8 <| sd_pR rfl (Or.inr ⟨_, rfl⟩) fpX9_7 dX9_init_10 <| sd_aload_n dX9_init_13 rfl <| sd_iconst dX9_init_14 rfl <| sd_nwI (t := 0) (aty := .int) (tn := .int) rfl rfl (fun _ => rfl) (fun _ _ h => h) hby_int tw_37 dX9_init_15 <| sd_dup dX9_init_17 <| sd_iconst dX9_init_18 rfl <| sd_iconst dX9_init_19 rfl <| sd_sI dX9_init_20 <| sd_dup dX9_init_21 <| sd_iconst dX9_init_22 rfl <| sd_iconst dX9_init_23 rfl <| sd_sI dX9_init_24 <| sd_dup dX9_init_25 <| sd_iconst dX9_init_26 rfl <| sd_bipush dX9_init_27 rfl <| sd_sI dX9_init_29 <| sd_dup dX9_init_30 <| sd_iconst dX9_init_31 rfl <| sd_bipush dX9_init_32 rfl <| sd_sI dX9_init_34 <| sd_pR rfl (Or.inr ⟨_, rfl⟩) fpX9_13 dX9_init_35 <| sd_aload_n dX9_init_38 rfl <| sd_bipush dX9_init_39 rfl <| sd_nwI (t := 0) (aty := .int) (tn := .int) rfl rfl (fun _ => rfl) (fun _ _ h => h) hby_int tw_37 dX9_init_41 <| sd_pR rfl (Or.inr ⟨_, rfl⟩) fpX9_16 dX9_init_43 <| sd_aload_n dX9_init_46 rfl <| sd_sipush dX9_init_47 rfl <| sd_nwI (t := 0) (aty := .int) (tn := .int) rfl rfl (fun _ => rfl) (fun _ _ h => h) hby_int tw_37 dX9_init_50 <| sd_pR rfl (Or.inr ⟨_, rfl⟩) fpX9_19 dX9_init_52 <| sd_aload_n dX9_init_55 rfl <| sd_bipush dX9_init_56 rfl <| sd_nwI (t := 0) (aty := .int) (tn := .int) rfl rfl (fun _ => rfl) (fun _ _ h => h) hby_int tw_37 dX9_init_58 <| sd_dup dX9_init_60 <| sd_iconst dX9_init_61 rfl <| sd_iconst dX9_init_62 rfl <| sX9_init_63
def fX9_init : Mt Unit := mk_f 1 bX9_init_0
theorem tX9_init : Ct ev_v yX9_init cX9_init 1 none 1 20 fX9_init := ct_of (by decide +kernel) sX9_init_0
abbrev pX9_in : Px := (cX9_in, 6, RX9, "in", (some .boolean), 0, 0, fun _ => True)
def bX9_in_18 : Kt Int32 := o_rZ
set_option maxRecDepth 100000 in
theorem sX9_in_18 : Sd pX9_in ev_i 18 (bX9_in_18) := (sd_rZ rfl dX9_in_18)
def bX9_in_17 : Kt Int32 := o_psh (.int 0) <| bX9_in_18
set_option maxRecDepth 100000 in
theorem sX9_in_17 : Sd pX9_in ev_i 17 (bX9_in_17) := sd_iconst dX9_in_17 rfl <| sX9_in_18
def bX9_in_13 : Kt Int32 := o_psh (.int 1) <| bX9_in_18
set_option maxRecDepth 100000 in
theorem sX9_in_13 : Sd pX9_in ev_i 13 (bX9_in_13) := sd_iconst dX9_in_13 rfl <| (sd_goto (tgt := 18) dX9_in_14 (by decide) sX9_in_18)
def bX9_in_6 : Kt Int32 := o_lld 0 <| o_lld 4 <| o_lcm <| o_zgt (o_fg 0 (o_fg 4 bX9_in_17)) <| (o_fg 0 (o_fg 4 bX9_in_13))
set_option maxRecDepth 100000 in
theorem sX9_in_6 : Sd pX9_in ev_i 6 (bX9_in_6) := sd_lload_n dX9_in_6 rfl <| sd_lload dX9_in_7 <| sd_lcmp dX9_in_9 <| sd_zgt (tgt := 17) dX9_in_10 (by decide) (sd_fg (i := 0) (sd_fg (i := 4) sX9_in_17)) <| (sd_fg (i := 0) (sd_fg (i := 4) sX9_in_13))
def bX9_in_0 : Kt Int32 := o_lld 0 <| o_lld 2 <| o_lcm <| o_zlt (o_fg 0 (o_fg 2 (o_fg 4 bX9_in_17))) <| (o_fg 2 bX9_in_6)
set_option maxRecDepth 100000 in
theorem sX9_in_0 : Sd pX9_in ev_i 0 (bX9_in_0) := sd_lload_n dX9_in_0 rfl <| sd_lload_n dX9_in_1 rfl <| sd_lcmp dX9_in_2 <| sd_zlt (tgt := 17) dX9_in_3 (by decide) (sd_fg (i := 0) (sd_fg (i := 2) (sd_fg (i := 4) sX9_in_17))) <| (sd_fg (i := 2) sX9_in_6)
def fX9_in : Mt Int32 := mk_f 6 bX9_in_0
theorem tX9_in : Ct ev_i yX9_in cX9_in 6 (some .boolean) 0 0 fX9_in := ct_of (by decide +kernel) sX9_in_0
