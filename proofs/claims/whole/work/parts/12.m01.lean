abbrev pJ6_bitCount_0f7a4 : Px := (cJ6_bitCount_0f7a4, 1, RJ6, "bitCount", (some .int), 0, 0, fun _ => True)
def bJ6_bitCount_0f7a4_51 : Kt Int32 := o_i2 o_and <| o_rI
set_option maxRecDepth 100000 in
theorem sJ6_bitCount_0f7a4_51 : Sd pJ6_bitCount_0f7a4 ev_i 51 (bJ6_bitCount_0f7a4_51) := sd_iand dJ6_bitCount_0f7a4_51 <| (sd_rI rfl dJ6_bitCount_0f7a4_52)
def bJ6_bitCount_0f7a4_0 : Kt Int32 := o_ild 0 <| o_ild 0 <| o_psh (.int 1) <| o_i2 o_ushr <| o_psh (.int 1431655765) <| o_i2 o_and <| o_i2 o_sub <| o_ist 0 <| o_ild 0 <| o_psh (.int 858993459) <| o_i2 o_and <| o_ild 0 <| o_psh (.int 2) <| o_i2 o_ushr <| o_psh (.int 858993459) <| o_i2 o_and <| o_i2 o_add <| o_ist 0 <| o_ild 0 <| o_ild 0 <| o_psh (.int 4) <| o_i2 o_ushr <| o_i2 o_add <| o_psh (.int 252645135) <| o_i2 o_and <| o_ist 0 <| o_ild 0 <| o_ild 0 <| o_psh (.int 8) <| o_i2 o_ushr <| o_i2 o_add <| o_ist 0 <| o_ild 0 <| o_ild 0 <| o_psh (.int 16) <| o_i2 o_ushr <| o_i2 o_add <| o_ist 0 <| o_ild 0 <| o_psh (.int 63) <| (o_fg 0 bJ6_bitCount_0f7a4_51)
set_option maxRecDepth 100000 in
theorem sJ6_bitCount_0f7a4_0 : Sd pJ6_bitCount_0f7a4 ev_i 0 (bJ6_bitCount_0f7a4_0) := sd_iload_n dJ6_bitCount_0f7a4_0 rfl <| sd_iload_n dJ6_bitCount_0f7a4_1 rfl <| sd_iconst dJ6_bitCount_0f7a4_2 rfl <| sd_iushr dJ6_bitCount_0f7a4_3 <| sd_ldcw tw_1 dJ6_bitCount_0f7a4_4 <| sd_iand dJ6_bitCount_0f7a4_7 <| sd_isub dJ6_bitCount_0f7a4_8 <| sd_istore_n dJ6_bitCount_0f7a4_9 rfl (by decide) <| sd_iload_n dJ6_bitCount_0f7a4_10 rfl <| sd_ldcw tw_2 dJ6_bitCount_0f7a4_11 <| sd_iand dJ6_bitCount_0f7a4_14 <| sd_iload_n dJ6_bitCount_0f7a4_15 rfl <| sd_iconst dJ6_bitCount_0f7a4_16 rfl <| sd_iushr dJ6_bitCount_0f7a4_17 <| sd_ldcw tw_2 dJ6_bitCount_0f7a4_18 <| sd_iand dJ6_bitCount_0f7a4_21 <| sd_iadd dJ6_bitCount_0f7a4_22 <| sd_istore_n dJ6_bitCount_0f7a4_23 rfl (by decide) <| sd_iload_n dJ6_bitCount_0f7a4_24 rfl <| sd_iload_n dJ6_bitCount_0f7a4_25 rfl <| sd_iconst dJ6_bitCount_0f7a4_26 rfl <| sd_iushr dJ6_bitCount_0f7a4_27 <| sd_iadd dJ6_bitCount_0f7a4_28 <| sd_ldcw tw_3 dJ6_bitCount_0f7a4_29 <| sd_iand dJ6_bitCount_0f7a4_32 <| sd_istore_n dJ6_bitCount_0f7a4_33 rfl (by decide) <| sd_iload_n dJ6_bitCount_0f7a4_34 rfl <| sd_iload_n dJ6_bitCount_0f7a4_35 rfl <| sd_bipush dJ6_bitCount_0f7a4_36 rfl <| sd_iushr dJ6_bitCount_0f7a4_38 <| sd_iadd dJ6_bitCount_0f7a4_39 <| sd_istore_n dJ6_bitCount_0f7a4_40 rfl (by decide) <| sd_iload_n dJ6_bitCount_0f7a4_41 rfl <| sd_iload_n dJ6_bitCount_0f7a4_42 rfl <| sd_bipush dJ6_bitCount_0f7a4_43 rfl <| sd_iushr dJ6_bitCount_0f7a4_45 <| sd_iadd dJ6_bitCount_0f7a4_46 <| sd_istore_n dJ6_bitCount_0f7a4_47 rfl (by decide) <| sd_iload_n dJ6_bitCount_0f7a4_48 rfl <| sd_bipush dJ6_bitCount_0f7a4_49 rfl <| (sd_fg (i := 0) sJ6_bitCount_0f7a4_51)
def fJ6_bitCount_0f7a4 : Mt Int32 := mk_f 1 bJ6_bitCount_0f7a4_0
theorem tJ6_bitCount_0f7a4 : Ct ev_i yJ6_bitCount_0f7a4 cJ6_bitCount_0f7a4 1 (some .int) 0 0 fJ6_bitCount_0f7a4 := ct_of (by decide +kernel) sJ6_bitCount_0f7a4_0
abbrev pJ0_coder_7d493 : Px := (cJ0_coder_7d493, 1, RJ0, "coder", (some .byte), 0, 0, fun _ => True)
def bJ0_coder_7d493_14 : Kt Int32 := o_rN .byte
set_option maxRecDepth 100000 in
theorem sJ0_coder_7d493_14 : Sd pJ0_coder_7d493 ev_i 14 (bJ0_coder_7d493_14) := (sd_rN rfl dJ0_coder_7d493_14)
def bJ0_coder_7d493_13 : Kt Int32 := o_psh (.int 1) <| bJ0_coder_7d493_14
set_option maxRecDepth 100000 in
theorem sJ0_coder_7d493_13 : Sd pJ0_coder_7d493 ev_i 13 (bJ0_coder_7d493_13) := sd_iconst dJ0_coder_7d493_13 rfl <| sJ0_coder_7d493_14
def bJ0_coder_7d493_6 : Kt Int32 := o_ald 0 <| o_xco <| (o_fg 0 bJ0_coder_7d493_14)
set_option maxRecDepth 100000 in
theorem sJ0_coder_7d493_6 : Sd pJ0_coder_7d493 ev_i 6 (bJ0_coder_7d493_6) := sd_aload_n dJ0_coder_7d493_6 rfl <| sd_xco tw_5 dJ0_coder_7d493_7 <| (sd_goto (tgt := 14) dJ0_coder_7d493_10 (by decide) (sd_fg (i := 0) sJ0_coder_7d493_14))
def bJ0_coder_7d493_0 : Kt Int32 := o_psh (.int 1) <| o_zeq (o_fg 0 bJ0_coder_7d493_13) <| bJ0_coder_7d493_6
set_option maxRecDepth 100000 in
theorem sJ0_coder_7d493_0 : Sd pJ0_coder_7d493 ev_i 0 (bJ0_coder_7d493_0) := sd_gcs tw_4 dJ0_coder_7d493_0 <| sd_zeq (tgt := 13) dJ0_coder_7d493_3 (by decide) (sd_fg (i := 0) sJ0_coder_7d493_13) <| sJ0_coder_7d493_6
def fJ0_coder_7d493 : Mt Int32 := mk_f 1 bJ0_coder_7d493_0
theorem tJ0_coder_7d493 : Ct ev_i yJ0_coder_7d493 cJ0_coder_7d493 1 (some .byte) 0 0 fJ0_coder_7d493 := ct_of (by decide +kernel) sJ0_coder_7d493_0
abbrev pJ0_length_8abf5 : Px := (cJ0_length_8abf5, 1, RJ0, "length", (some .int), 1, 20, fun _ => True)
def bJ0_length_8abf5_0 : Kt Int32 := o_ald 0 <| o_xva <| o_xbl <| o_ald 0 <| o_xvc ev_i 1 fJ0_coder_7d493 <| o_i2 o_shr <| o_rI
set_option maxRecDepth 100000 in
theorem sJ0_length_8abf5_0 : Sd pJ0_length_8abf5 ev_i 0 (bJ0_length_8abf5_0) := sd_aload_n dJ0_length_8abf5_0 rfl <| sd_xva tw_6 dJ0_length_8abf5_1 <| sd_xbl dJ0_length_8abf5_4 <| sd_aload_n dJ0_length_8abf5_5 rfl <| sd_xvc tJ0_coder_7d493 (fun _ _ => rfl) rfl mwJ0_coder_7d493 mvJ0_coder_7d493 tw_11 (by decide) dJ0_length_8abf5_6 <| sd_ishr dJ0_length_8abf5_9 <| (sd_rI rfl dJ0_length_8abf5_10)
def fJ0_length_8abf5 : Mt Int32 := mk_f 1 bJ0_length_8abf5_0
theorem tJ0_length_8abf5 : Ct ev_i yJ0_length_8abf5 cJ0_length_8abf5 1 (some .int) 1 20 fJ0_length_8abf5 := ct_of (by decide +kernel) sJ0_length_8abf5_0
abbrev pJ0_isLatin1_aae02 : Px := (cJ0_isLatin1_aae02, 1, RJ0, "isLatin1", (some .boolean), 0, 0, fun _ => True)
def bJ0_isLatin1_aae02_18 : Kt Int32 := o_rZ
set_option maxRecDepth 100000 in
theorem sJ0_isLatin1_aae02_18 : Sd pJ0_isLatin1_aae02 ev_i 18 (bJ0_isLatin1_aae02_18) := (sd_rZ rfl dJ0_isLatin1_aae02_18)
def bJ0_isLatin1_aae02_17 : Kt Int32 := o_psh (.int 0) <| bJ0_isLatin1_aae02_18
set_option maxRecDepth 100000 in
theorem sJ0_isLatin1_aae02_17 : Sd pJ0_isLatin1_aae02 ev_i 17 (bJ0_isLatin1_aae02_17) := sd_iconst dJ0_isLatin1_aae02_17 rfl <| sJ0_isLatin1_aae02_18
def bJ0_isLatin1_aae02_13 : Kt Int32 := o_psh (.int 1) <| bJ0_isLatin1_aae02_18
set_option maxRecDepth 100000 in
theorem sJ0_isLatin1_aae02_13 : Sd pJ0_isLatin1_aae02 ev_i 13 (bJ0_isLatin1_aae02_13) := sd_iconst dJ0_isLatin1_aae02_13 rfl <| (sd_goto (tgt := 18) dJ0_isLatin1_aae02_14 (by decide) sJ0_isLatin1_aae02_18)
def bJ0_isLatin1_aae02_6 : Kt Int32 := o_ald 0 <| o_xco <| o_zne (o_fg 0 bJ0_isLatin1_aae02_17) <| (o_fg 0 bJ0_isLatin1_aae02_13)
set_option maxRecDepth 100000 in
theorem sJ0_isLatin1_aae02_6 : Sd pJ0_isLatin1_aae02 ev_i 6 (bJ0_isLatin1_aae02_6) := sd_aload_n dJ0_isLatin1_aae02_6 rfl <| sd_xco tw_5 dJ0_isLatin1_aae02_7 <| sd_zne (tgt := 17) dJ0_isLatin1_aae02_10 (by decide) (sd_fg (i := 0) sJ0_isLatin1_aae02_17) <| (sd_fg (i := 0) sJ0_isLatin1_aae02_13)
def bJ0_isLatin1_aae02_0 : Kt Int32 := o_psh (.int 1) <| o_zeq (o_fg 0 bJ0_isLatin1_aae02_17) <| bJ0_isLatin1_aae02_6
set_option maxRecDepth 100000 in
theorem sJ0_isLatin1_aae02_0 : Sd pJ0_isLatin1_aae02 ev_i 0 (bJ0_isLatin1_aae02_0) := sd_gcs tw_4 dJ0_isLatin1_aae02_0 <| sd_zeq (tgt := 17) dJ0_isLatin1_aae02_3 (by decide) (sd_fg (i := 0) sJ0_isLatin1_aae02_17) <| sJ0_isLatin1_aae02_6
def fJ0_isLatin1_aae02 : Mt Int32 := mk_f 1 bJ0_isLatin1_aae02_0
theorem tJ0_isLatin1_aae02 : Ct ev_i yJ0_isLatin1_aae02 cJ0_isLatin1_aae02 1 (some .boolean) 0 0 fJ0_isLatin1_aae02 := ct_of (by decide +kernel) sJ0_isLatin1_aae02_0
abbrev pJ3_checkIndex_8e157 : Px := (cJ3_checkIndex_8e157, 3, RJ3, "checkIndex", (some .int), 0, 0, fun _ => True)
def bJ3_checkIndex_8e157_16 : Kt Int32 := o_ild 0 <| o_rI
set_option maxRecDepth 100000 in
theorem sJ3_checkIndex_8e157_16 : Sd pJ3_checkIndex_8e157 ev_i 16 (bJ3_checkIndex_8e157_16) := sd_iload_n dJ3_checkIndex_8e157_16 rfl <| (sd_rI rfl dJ3_checkIndex_8e157_17)
def bJ3_checkIndex_8e157_4 : Kt Int32 := o_ild 0 <| o_ild 1 <| o_clt (o_fg 1 bJ3_checkIndex_8e157_16) <| o_no
set_option maxRecDepth 100000 in
theorem sJ3_checkIndex_8e157_4 : Sd pJ3_checkIndex_8e157 ev_i 4 (bJ3_checkIndex_8e157_4) := sd_iload_n dJ3_checkIndex_8e157_4 rfl <| sd_iload_n dJ3_checkIndex_8e157_5 rfl <| sd_clt (tgt := 16) dJ3_checkIndex_8e157_6 (by decide) (sd_fg (i := 1) sJ3_checkIndex_8e157_16) <| sd_no
def bJ3_checkIndex_8e157_0 : Kt Int32 := o_ild 0 <| o_zlt o_no <| (o_fg 2 bJ3_checkIndex_8e157_4)
set_option maxRecDepth 100000 in
theorem sJ3_checkIndex_8e157_0 : Sd pJ3_checkIndex_8e157 ev_i 0 (bJ3_checkIndex_8e157_0) := sd_iload_n dJ3_checkIndex_8e157_0 rfl <| sd_zlt (tgt := 9) dJ3_checkIndex_8e157_1 (by decide) sd_no <| (sd_fg (i := 2) sJ3_checkIndex_8e157_4)
def fJ3_checkIndex_8e157 : Mt Int32 := mk_f 3 bJ3_checkIndex_8e157_0
theorem tJ3_checkIndex_8e157 : Ct ev_i yJ3_checkIndex_8e157 cJ3_checkIndex_8e157 3 (some .int) 0 0 fJ3_checkIndex_8e157 := ct_of (by decide +kernel) sJ3_checkIndex_8e157_0
abbrev pJ0_checkIndex_df160 : Px := (cJ0_checkIndex_df160, 2, RJ0, "checkIndex", none, 1, 22, fun _ => True)
def bJ0_checkIndex_df160_0 : Kt Unit := o_ild 0 <| o_ild 1 <| o_psh (.retAddr 0) <| o_sc ev_i 3 fJ3_checkIndex_8e157 <| o_pop <| o_rV
set_option maxRecDepth 100000 in
theorem sJ0_checkIndex_df160_0 : Sd pJ0_checkIndex_df160 ev_v 0 (bJ0_checkIndex_df160_0) := sd_iload_n dJ0_checkIndex_df160_0 rfl <| sd_iload_n dJ0_checkIndex_df160_1 rfl <| sd_gsi tw_12 dJ0_checkIndex_df160_2 <| sd_sc tJ3_checkIndex_8e157 (fun _ _ => rfl) mwJ3_checkIndex_8e157 mvJ3_checkIndex_8e157 tw_16 (by decide) dJ0_checkIndex_df160_5 <| sd_pop dJ0_checkIndex_df160_8 <| (sd_rV rfl dJ0_checkIndex_df160_9)
def fJ0_checkIndex_df160 : Mt Unit := mk_f 2 bJ0_checkIndex_df160_0
theorem tJ0_checkIndex_df160 : Ct ev_v yJ0_checkIndex_df160 cJ0_checkIndex_df160 2 none 1 22 fJ0_checkIndex_df160 := ct_of (by decide +kernel) sJ0_checkIndex_df160_0
abbrev pJ1_charAt_3b067 : Px := (cJ1_charAt_3b067, 2, RJ1, "charAt", (some .char), 2, 43, fun _ => True)
def bJ1_charAt_3b067_0 : Kt Int32 := o_ild 1 <| o_ald 0 <| o_xbl <| o_sc ev_v 2 fJ0_checkIndex_df160 <| o_ald 0 <| o_ild 1 <| o_xbb <| o_psh (.int 255) <| o_i2 o_and <| o_i1 o_i2c <| o_rN .char
set_option maxRecDepth 100000 in
theorem sJ1_charAt_3b067_0 : Sd pJ1_charAt_3b067 ev_i 0 (bJ1_charAt_3b067_0) := sd_iload_n dJ1_charAt_3b067_0 rfl <| sd_aload_n dJ1_charAt_3b067_1 rfl <| sd_xbl dJ1_charAt_3b067_2 <| sd_sc tJ0_checkIndex_df160 (fun _ _ => rfl) mwJ0_checkIndex_df160 mvJ0_checkIndex_df160 tw_19 (by decide) dJ1_charAt_3b067_3 <| sd_aload_n dJ1_charAt_3b067_6 rfl <| sd_iload_n dJ1_charAt_3b067_7 rfl <| sd_xbb dJ1_charAt_3b067_8 <| sd_sipush dJ1_charAt_3b067_9 rfl <| sd_iand dJ1_charAt_3b067_12 <| sd_i2c dJ1_charAt_3b067_13 <| (sd_rN rfl dJ1_charAt_3b067_14)
def fJ1_charAt_3b067 : Mt Int32 := mk_f 2 bJ1_charAt_3b067_0
theorem tJ1_charAt_3b067 : Ct ev_i yJ1_charAt_3b067 cJ1_charAt_3b067 2 (some .char) 2 43 fJ1_charAt_3b067 := ct_of (by decide +kernel) sJ1_charAt_3b067_0
abbrev pJ0_charAt_5068e : Px := (cJ0_charAt_5068e, 2, RJ0, "charAt", (some .char), 3, 64, fun _ => True)
def bJ0_charAt_5068e_7 : Kt Int32 := o_ald 0 <| o_xva <| o_ild 1 <| o_sc ev_i 2 fJ1_charAt_3b067 <| o_rN .char
set_option maxRecDepth 100000 in
theorem sJ0_charAt_5068e_7 : Sd pJ0_charAt_5068e ev_i 7 (bJ0_charAt_5068e_7) := sd_aload_n dJ0_charAt_5068e_7 rfl <| sd_xva tw_6 dJ0_charAt_5068e_8 <| sd_iload_n dJ0_charAt_5068e_11 rfl <| sd_sc tJ1_charAt_3b067 (fun _ _ => rfl) mwJ1_charAt_3b067 mvJ1_charAt_3b067 tw_27 (by decide) dJ0_charAt_5068e_12 <| (sd_rN rfl dJ0_charAt_5068e_15)
def bJ0_charAt_5068e_0 : Kt Int32 := o_ald 0 <| o_xvc ev_i 1 fJ0_isLatin1_aae02 <| o_zeq o_no <| bJ0_charAt_5068e_7
set_option maxRecDepth 100000 in
theorem sJ0_charAt_5068e_0 : Sd pJ0_charAt_5068e ev_i 0 (bJ0_charAt_5068e_0) := sd_aload_n dJ0_charAt_5068e_0 rfl <| sd_xvc tJ0_isLatin1_aae02 (fun _ _ => rfl) rfl mwJ0_isLatin1_aae02 mvJ0_isLatin1_aae02 tw_23 (by decide) dJ0_charAt_5068e_1 <| sd_zeq (tgt := 16) dJ0_charAt_5068e_4 (by decide) sd_no <| sJ0_charAt_5068e_7
def fJ0_charAt_5068e : Mt Int32 := mk_f 2 bJ0_charAt_5068e_0
theorem tJ0_charAt_5068e : Ct ev_i yJ0_charAt_5068e cJ0_charAt_5068e 2 (some .char) 3 64 fJ0_charAt_5068e := ct_of (by decide +kernel) sJ0_charAt_5068e_0
abbrev pX6_init : Px := (cX6_init, 3, RX6, "<init>", none, 1, 21, fun _ => True)
def bX6_init_0 : Kt Unit := o_ald 0 <| o_oin <| o_ald 0 <| o_psh (.int 0) <| o_ild 1 <| o_m2 o_max <| o_pI 5 0 <| o_ald 0 <| o_psh (.int 0) <| o_ild 2 <| o_m2 o_max <| o_pI 5 1 <| o_ald 0 <| o_ald 0 <| o_gI 5 0 <| o_ald 0 <| o_gI 5 1 <| o_i2 o_mul <| o_nwI 0 <| o_pR 5 2 <| o_rV
set_option maxRecDepth 100000 in
theorem sX6_init_0 : Sd pX6_init ev_v 0 (bX6_init_0) := sd_aload_n dX6_init_0 rfl <| sd_oin ⟨tw_28, tw_29, tw_30⟩ (by decide) dX6_init_1 <| sd_aload_n dX6_init_4 rfl <| sd_iconst dX6_init_5 rfl <| sd_iload_n dX6_init_6 rfl <| sd_mmax ⟨tw_31, tw_32, tw_33, tw_34⟩ (by decide) dX6_init_7 <| sd_pIF rfl fpX6_15 dX6_init_10 <| sd_aload_n dX6_init_13 rfl <| sd_iconst dX6_init_14 rfl <| sd_iload_n dX6_init_15 rfl <| sd_mmax ⟨tw_31, tw_32, tw_33, tw_34⟩ (by decide) dX6_init_16 <| sd_pIF rfl fpX6_21 dX6_init_19 <| sd_aload_n dX6_init_22 rfl <| sd_aload_n dX6_init_23 rfl <| sd_gI flX6_15 dX6_init_24 <| sd_aload_n dX6_init_27 rfl <| sd_gI flX6_21 dX6_init_28 <| sd_imul dX6_init_31 <| sd_nwI (t := 0) (aty := .int) (tn := .int) rfl rfl (fun _ => rfl) (fun _ _ h => h) hby_int tw_37 dX6_init_32 <| sd_pR rfl (Or.inr ⟨_, rfl⟩) fpX6_24 dX6_init_34 <| (sd_rV rfl dX6_init_37)
def fX6_init : Mt Unit := mk_f 3 bX6_init_0
theorem tX6_init : Ct ev_v yX6_init cX6_init 3 none 1 21 fX6_init := ct_of (by decide +kernel) sX6_init_0
abbrev pX6_has : Px := (cX6_has, 2, RX6, "has", (some .boolean), 0, 0, fun _ => True)
def bX6_has_17 : Kt Int32 := o_rZ
set_option maxRecDepth 100000 in
theorem sX6_has_17 : Sd pX6_has ev_i 17 (bX6_has_17) := (sd_rZ rfl dX6_has_17)
def bX6_has_16 : Kt Int32 := o_psh (.int 0) <| bX6_has_17
set_option maxRecDepth 100000 in
theorem sX6_has_16 : Sd pX6_has ev_i 16 (bX6_has_16) := sd_iconst dX6_has_16 rfl <| sX6_has_17
def bX6_has_12 : Kt Int32 := o_psh (.int 1) <| bX6_has_17
set_option maxRecDepth 100000 in
theorem sX6_has_12 : Sd pX6_has ev_i 12 (bX6_has_12) := sd_iconst dX6_has_12 rfl <| (sd_goto (tgt := 17) dX6_has_13 (by decide) sX6_has_17)
def bX6_has_4 : Kt Int32 := o_ild 1 <| o_ald 0 <| o_gI 5 3 <| o_cge (o_fg 0 (o_fg 1 bX6_has_16)) <| (o_fg 0 (o_fg 1 bX6_has_12))
set_option maxRecDepth 100000 in
theorem sX6_has_4 : Sd pX6_has ev_i 4 (bX6_has_4) := sd_iload_n dX6_has_4 rfl <| sd_aload_n dX6_has_5 rfl <| sd_gI flX6_28 dX6_has_6 <| sd_cge (tgt := 16) dX6_has_9 (by decide) (sd_fg (i := 0) (sd_fg (i := 1) sX6_has_16)) <| (sd_fg (i := 0) (sd_fg (i := 1) sX6_has_12))
def bX6_has_0 : Kt Int32 := o_ild 1 <| o_zlt (o_fg 0 (o_fg 1 bX6_has_16)) <| bX6_has_4
set_option maxRecDepth 100000 in
theorem sX6_has_0 : Sd pX6_has ev_i 0 (bX6_has_0) := sd_iload_n dX6_has_0 rfl <| sd_zlt (tgt := 16) dX6_has_1 (by decide) (sd_fg (i := 0) (sd_fg (i := 1) sX6_has_16)) <| sX6_has_4
def fX6_has : Mt Int32 := mk_f 2 bX6_has_0
theorem tX6_has : Ct ev_i yX6_has cX6_has 2 (some .boolean) 0 0 fX6_has := ct_of (by decide +kernel) sX6_has_0
abbrev pX6_at : Px := (cX6_at, 4, RX6, "at", (some .int), 0, 0, fun _ => True)
def bX6_at_51 : Kt Int32 := o_rI
set_option maxRecDepth 100000 in
theorem sX6_at_51 : Sd pX6_at ev_i 51 (bX6_at_51) := (sd_rI rfl dX6_at_51)
def bX6_at_50 : Kt Int32 := o_psh (.int (-1)) <| bX6_at_51
set_option maxRecDepth 100000 in
theorem sX6_at_50 : Sd pX6_at ev_i 50 (bX6_at_50) := sd_iconst dX6_at_50 rfl <| sX6_at_51
def bX6_at_34 : Kt Int32 := o_ald 0 <| o_gR 5 2 <| o_ild 1 <| o_ald 0 <| o_gI 5 0 <| o_i2 o_mul <| o_ild 2 <| o_i2 o_add <| o_aI <| (o_fg 0 (o_fg 1 (o_fg 2 bX6_at_51)))
set_option maxRecDepth 100000 in
theorem sX6_at_34 : Sd pX6_at ev_i 34 (bX6_at_34) := sd_aload_n dX6_at_34 rfl <| sd_gR flX6_24 dX6_at_35 <| sd_iload_n dX6_at_38 rfl <| sd_aload_n dX6_at_39 rfl <| sd_gI flX6_15 dX6_at_40 <| sd_imul dX6_at_43 <| sd_iload_n dX6_at_44 rfl <| sd_iadd dX6_at_45 <| sd_aI dX6_at_46 <| (sd_goto (tgt := 51) dX6_at_47 (by decide) (sd_fg (i := 0) (sd_fg (i := 1) (sd_fg (i := 2) sX6_at_51))))
def bX6_at_29 : Kt Int32 := o_ist 3 <| o_ild 3 <| o_zeq (o_fg 0 (o_fg 1 (o_fg 2 (o_fg 3 bX6_at_50)))) <| (o_fg 3 bX6_at_34)
set_option maxRecDepth 100000 in
theorem sX6_at_29 : Sd pX6_at ev_i 29 (bX6_at_29) := sd_istore_n dX6_at_29 rfl (by decide) <| sd_iload_n dX6_at_30 rfl <| sd_zeq (tgt := 50) dX6_at_31 (by decide) (sd_fg (i := 0) (sd_fg (i := 1) (sd_fg (i := 2) (sd_fg (i := 3) sX6_at_50)))) <| (sd_fg (i := 3) sX6_at_34)
def bX6_at_28 : Kt Int32 := o_psh (.int 0) <| bX6_at_29
set_option maxRecDepth 100000 in
theorem sX6_at_28 : Sd pX6_at ev_i 28 (bX6_at_28) := sd_iconst dX6_at_28 rfl <| sX6_at_29
def bX6_at_24 : Kt Int32 := o_psh (.int 1) <| bX6_at_29
set_option maxRecDepth 100000 in
theorem sX6_at_24 : Sd pX6_at ev_i 24 (bX6_at_24) := sd_iconst dX6_at_24 rfl <| (sd_goto (tgt := 29) dX6_at_25 (by decide) sX6_at_29)
def bX6_at_16 : Kt Int32 := o_ild 2 <| o_ald 0 <| o_gI 5 0 <| o_cge bX6_at_28 <| bX6_at_24
set_option maxRecDepth 100000 in
theorem sX6_at_16 : Sd pX6_at ev_i 16 (bX6_at_16) := sd_iload_n dX6_at_16 rfl <| sd_aload_n dX6_at_17 rfl <| sd_gI flX6_15 dX6_at_18 <| sd_cge (tgt := 28) dX6_at_21 (by decide) sX6_at_28 <| sX6_at_24
def bX6_at_12 : Kt Int32 := o_ild 2 <| o_zlt bX6_at_28 <| bX6_at_16
set_option maxRecDepth 100000 in
theorem sX6_at_12 : Sd pX6_at ev_i 12 (bX6_at_12) := sd_iload_n dX6_at_12 rfl <| sd_zlt (tgt := 28) dX6_at_13 (by decide) sX6_at_28 <| sX6_at_16
def bX6_at_4 : Kt Int32 := o_ild 1 <| o_ald 0 <| o_gI 5 3 <| o_cge bX6_at_28 <| bX6_at_12
set_option maxRecDepth 100000 in
theorem sX6_at_4 : Sd pX6_at ev_i 4 (bX6_at_4) := sd_iload_n dX6_at_4 rfl <| sd_aload_n dX6_at_5 rfl <| sd_gI flX6_28 dX6_at_6 <| sd_cge (tgt := 28) dX6_at_9 (by decide) sX6_at_28 <| sX6_at_12
def bX6_at_0 : Kt Int32 := o_ild 1 <| o_zlt bX6_at_28 <| bX6_at_4
set_option maxRecDepth 100000 in
theorem sX6_at_0 : Sd pX6_at ev_i 0 (bX6_at_0) := sd_iload_n dX6_at_0 rfl <| sd_zlt (tgt := 28) dX6_at_1 (by decide) sX6_at_28 <| sX6_at_4
def fX6_at : Mt Int32 := mk_f 4 bX6_at_0
theorem tX6_at : Ct ev_i yX6_at cX6_at 4 (some .int) 0 0 fX6_at := ct_of (by decide +kernel) sX6_at_0
abbrev pX6_put : Px := (cX6_put, 4, RX6, "put", none, 1, 21, fun _ => True)
def bX6_put_34 : Kt Unit := o_rV
set_option maxRecDepth 100000 in
theorem sX6_put_34 : Sd pX6_put ev_v 34 (bX6_put_34) := (sd_rV rfl dX6_put_34)
def bX6_put_20 : Kt Unit := o_ald 0 <| o_gR 5 2 <| o_ild 1 <| o_ald 0 <| o_gI 5 0 <| o_i2 o_mul <| o_ild 2 <| o_i2 o_add <| o_ild 3 <| o_sI <| (o_fg 0 (o_fg 1 (o_fg 2 (o_fg 3 bX6_put_34))))
set_option maxRecDepth 100000 in
theorem sX6_put_20 : Sd pX6_put ev_v 20 (bX6_put_20) := sd_aload_n dX6_put_20 rfl <| sd_gR flX6_24 dX6_put_21 <| sd_iload_n dX6_put_24 rfl <| sd_aload_n dX6_put_25 rfl <| sd_gI flX6_15 dX6_put_26 <| sd_imul dX6_put_29 <| sd_iload_n dX6_put_30 rfl <| sd_iadd dX6_put_31 <| sd_iload_n dX6_put_32 rfl <| sd_sI dX6_put_33 <| (sd_fg (i := 0) (sd_fg (i := 1) (sd_fg (i := 2) (sd_fg (i := 3) sX6_put_34))))
def bX6_put_12 : Kt Unit := o_ild 2 <| o_ald 0 <| o_gI 5 0 <| o_cge (o_fg 0 (o_fg 1 (o_fg 2 (o_fg 3 bX6_put_34)))) <| bX6_put_20
set_option maxRecDepth 100000 in
theorem sX6_put_12 : Sd pX6_put ev_v 12 (bX6_put_12) := sd_iload_n dX6_put_12 rfl <| sd_aload_n dX6_put_13 rfl <| sd_gI flX6_15 dX6_put_14 <| sd_cge (tgt := 34) dX6_put_17 (by decide) (sd_fg (i := 0) (sd_fg (i := 1) (sd_fg (i := 2) (sd_fg (i := 3) sX6_put_34)))) <| sX6_put_20
def bX6_put_8 : Kt Unit := o_ild 2 <| o_zlt (o_fg 0 (o_fg 1 (o_fg 2 (o_fg 3 bX6_put_34)))) <| bX6_put_12
set_option maxRecDepth 100000 in
theorem sX6_put_8 : Sd pX6_put ev_v 8 (bX6_put_8) := sd_iload_n dX6_put_8 rfl <| sd_zlt (tgt := 34) dX6_put_9 (by decide) (sd_fg (i := 0) (sd_fg (i := 1) (sd_fg (i := 2) (sd_fg (i := 3) sX6_put_34)))) <| sX6_put_12
def bX6_put_0 : Kt Unit := o_ald 0 <| o_ild 1 <| o_vc ev_i 5 2 fX6_has <| o_zeq (o_fg 0 (o_fg 1 (o_fg 2 (o_fg 3 bX6_put_34)))) <| bX6_put_8
set_option maxRecDepth 100000 in
theorem sX6_put_0 : Sd pX6_put ev_v 0 (bX6_put_0) := sd_aload_n dX6_put_0 rfl <| sd_iload_n dX6_put_1 rfl <| sd_vc tX6_has (fun _ _ => rfl) rfl mwX6_has mvX6_has tw_44 (by decide) dX6_put_2 <| sd_zeq (tgt := 34) dX6_put_5 (by decide) (sd_fg (i := 0) (sd_fg (i := 1) (sd_fg (i := 2) (sd_fg (i := 3) sX6_put_34)))) <| sX6_put_8
def fX6_put : Mt Unit := mk_f 4 bX6_put_0
theorem tX6_put : Ct ev_v yX6_put cX6_put 4 none 1 21 fX6_put := ct_of (by decide +kernel) sX6_put_0
abbrev pX6_add : Px := (cX6_add, 5, RX6, "add", (some .int), 2, 44, fun _ => True)
def bX6_add_77 : Kt Int32 := o_rI
set_option maxRecDepth 100000 in
theorem sX6_add_77 : Sd pX6_add ev_i 77 (bX6_add_77) := (sd_rI rfl dX6_add_77)
def bX6_add_14 : Kt Int32 := o_ald 0 <| o_dup <| o_gI 5 3 <| o_psh (.int 1) <| o_i2 o_add <| o_pI 5 3 <| o_ald 0 <| o_ald 0 <| o_gI 5 3 <| o_psh (.int 1) <| o_i2 o_sub <| o_psh (.int 0) <| o_ild 1 <| o_vc ev_v 5 4 fX6_put <| o_ald 0 <| o_ald 0 <| o_gI 5 3 <| o_psh (.int 1) <| o_i2 o_sub <| o_psh (.int 1) <| o_ild 2 <| o_vc ev_v 5 4 fX6_put <| o_ald 0 <| o_ald 0 <| o_gI 5 3 <| o_psh (.int 1) <| o_i2 o_sub <| o_psh (.int 2) <| o_ild 3 <| o_vc ev_v 5 4 fX6_put <| o_ald 0 <| o_ald 0 <| o_gI 5 3 <| o_psh (.int 1) <| o_i2 o_sub <| o_psh (.int 3) <| o_ild 4 <| o_vc ev_v 5 4 fX6_put <| o_ald 0 <| o_gI 5 3 <| (o_fg 0 (o_fg 1 (o_fg 2 (o_fg 3 (o_fg 4 bX6_add_77)))))
set_option maxRecDepth 100000 in
theorem sX6_add_14 : Sd pX6_add ev_i 14 (bX6_add_14) := sd_aload_n dX6_add_14 rfl <| sd_dup dX6_add_15 <| sd_gI flX6_28 dX6_add_16 <| sd_iconst dX6_add_19 rfl <| sd_iadd dX6_add_20 <| sd_pI fpX6_28 dX6_add_21 <| sd_aload_n dX6_add_24 rfl <| sd_aload_n dX6_add_25 rfl <| sd_gI flX6_28 dX6_add_26 <| sd_iconst dX6_add_29 rfl <| sd_isub dX6_add_30 <| sd_iconst dX6_add_31 rfl <| sd_iload_n dX6_add_32 rfl <| sd_vc tX6_put (fun _ _ => rfl) rfl mwX6_put mvX6_put tw_48 (by decide) dX6_add_33 <| sd_aload_n dX6_add_36 rfl <| sd_aload_n dX6_add_37 rfl <| sd_gI flX6_28 dX6_add_38 <| sd_iconst dX6_add_41 rfl <| sd_isub dX6_add_42 <| sd_iconst dX6_add_43 rfl <| sd_iload_n dX6_add_44 rfl <| sd_vc tX6_put (fun _ _ => rfl) rfl mwX6_put mvX6_put tw_48 (by decide) dX6_add_45 <| sd_aload_n dX6_add_48 rfl <| sd_aload_n dX6_add_49 rfl <| sd_gI flX6_28 dX6_add_50 <| sd_iconst dX6_add_53 rfl <| sd_isub dX6_add_54 <| sd_iconst dX6_add_55 rfl <| sd_iload_n dX6_add_56 rfl <| sd_vc tX6_put (fun _ _ => rfl) rfl mwX6_put mvX6_put tw_48 (by decide) dX6_add_57 <| sd_aload_n dX6_add_60 rfl <| sd_aload_n dX6_add_61 rfl <| sd_gI flX6_28 dX6_add_62 <| sd_iconst dX6_add_65 rfl <| sd_isub dX6_add_66 <| sd_iconst dX6_add_67 rfl <| sd_iload dX6_add_68 <| sd_vc tX6_put (fun _ _ => rfl) rfl mwX6_put mvX6_put tw_48 (by decide) dX6_add_70 <| sd_aload_n dX6_add_73 rfl <| sd_gI flX6_28 dX6_add_74 <| (sd_fg (i := 0) (sd_fg (i := 1) (sd_fg (i := 2) (sd_fg (i := 3) (sd_fg (i := 4) sX6_add_77)))))
def bX6_add_11 : Kt Int32 := o_psh (.int (-3)) <| o_rI
set_option maxRecDepth 100000 in
theorem sX6_add_11 : Sd pX6_add ev_i 11 (bX6_add_11) := sd_bipush dX6_add_11 rfl <| (sd_rI rfl dX6_add_13)
def bX6_add_0 : Kt Int32 := o_ald 0 <| o_gI 5 3 <| o_ald 0 <| o_gI 5 1 <| o_clt bX6_add_14 <| (o_fg 0 (o_fg 1 (o_fg 2 (o_fg 3 (o_fg 4 bX6_add_11)))))
set_option maxRecDepth 100000 in
theorem sX6_add_0 : Sd pX6_add ev_i 0 (bX6_add_0) := sd_aload_n dX6_add_0 rfl <| sd_gI flX6_28 dX6_add_1 <| sd_aload_n dX6_add_4 rfl <| sd_gI flX6_21 dX6_add_5 <| sd_clt (tgt := 14) dX6_add_8 (by decide) sX6_add_14 <| (sd_fg (i := 0) (sd_fg (i := 1) (sd_fg (i := 2) (sd_fg (i := 3) (sd_fg (i := 4) sX6_add_11)))))
def fX6_add : Mt Int32 := mk_f 5 bX6_add_0
theorem tX6_add : Ct ev_i yX6_add cX6_add 5 (some .int) 2 44 fX6_add := ct_of (by decide +kernel) sX6_add_0
abbrev pX6_cutTo : Px := (cX6_cutTo, 3, RX6, "cutTo", (some .int), 0, 0, fun _ => True)
def bX6_cutTo_14 : Kt Int32 := o_ald 0 <| o_gI 5 3 <| o_ist 2 <| o_ald 0 <| o_ild 1 <| o_pI 5 3 <| o_ild 2 <| o_rI
set_option maxRecDepth 100000 in
theorem sX6_cutTo_14 : Sd pX6_cutTo ev_i 14 (bX6_cutTo_14) := sd_aload_n dX6_cutTo_14 rfl <| sd_gI flX6_28 dX6_cutTo_15 <| sd_istore_n dX6_cutTo_18 rfl (by decide) <| sd_aload_n dX6_cutTo_19 rfl <| sd_iload_n dX6_cutTo_20 rfl <| sd_pI fpX6_28 dX6_cutTo_21 <| sd_iload_n dX6_cutTo_24 rfl <| (sd_rI rfl dX6_cutTo_25)
def bX6_cutTo_12 : Kt Int32 := o_psh (.int (-1)) <| o_rI
set_option maxRecDepth 100000 in
theorem sX6_cutTo_12 : Sd pX6_cutTo ev_i 12 (bX6_cutTo_12) := sd_iconst dX6_cutTo_12 rfl <| (sd_rI rfl dX6_cutTo_13)
def bX6_cutTo_4 : Kt Int32 := o_ild 1 <| o_ald 0 <| o_gI 5 3 <| o_cle bX6_cutTo_14 <| (o_fg 0 (o_fg 1 bX6_cutTo_12))
set_option maxRecDepth 100000 in
theorem sX6_cutTo_4 : Sd pX6_cutTo ev_i 4 (bX6_cutTo_4) := sd_iload_n dX6_cutTo_4 rfl <| sd_aload_n dX6_cutTo_5 rfl <| sd_gI flX6_28 dX6_cutTo_6 <| sd_cle (tgt := 14) dX6_cutTo_9 (by decide) sX6_cutTo_14 <| (sd_fg (i := 0) (sd_fg (i := 1) sX6_cutTo_12))
def bX6_cutTo_0 : Kt Int32 := o_ild 1 <| o_zlt (o_fg 0 (o_fg 1 bX6_cutTo_12)) <| bX6_cutTo_4
set_option maxRecDepth 100000 in
theorem sX6_cutTo_0 : Sd pX6_cutTo ev_i 0 (bX6_cutTo_0) := sd_iload_n dX6_cutTo_0 rfl <| sd_zlt (tgt := 12) dX6_cutTo_1 (by decide) (sd_fg (i := 0) (sd_fg (i := 1) sX6_cutTo_12)) <| sX6_cutTo_4
def fX6_cutTo : Mt Int32 := mk_f 3 bX6_cutTo_0
theorem tX6_cutTo : Ct ev_i yX6_cutTo cX6_cutTo 3 (some .int) 0 0 fX6_cutTo := ct_of (by decide +kernel) sX6_cutTo_0
abbrev pX6_copyFrom : Px := (cX6_copyFrom, 2, RX6, "copyFrom", none, 1, 26, fun _ => True)
def bX6_copyFrom_0 : Kt Unit := o_ald 1 <| o_gR 5 2 <| o_psh (.int 0) <| o_ald 0 <| o_gR 5 2 <| o_psh (.int 0) <| o_ald 0 <| o_gR 5 2 <| o_aln <| o_ald 1 <| o_gR 5 2 <| o_aln <| o_m2 o_min <| o_cpy <| o_ald 0 <| o_ald 0 <| o_gI 5 1 <| o_ald 1 <| o_gI 5 3 <| o_m2 o_min <| o_pI 5 3 <| o_rV
set_option maxRecDepth 100000 in
theorem sX6_copyFrom_0 : Sd pX6_copyFrom ev_v 0 (bX6_copyFrom_0) := sd_aload_n dX6_copyFrom_0 rfl <| sd_gR flX6_24 dX6_copyFrom_1 <| sd_iconst dX6_copyFrom_4 rfl <| sd_aload_n dX6_copyFrom_5 rfl <| sd_gR flX6_24 dX6_copyFrom_6 <| sd_iconst dX6_copyFrom_9 rfl <| sd_aload_n dX6_copyFrom_10 rfl <| sd_gR flX6_24 dX6_copyFrom_11 <| sd_aln dX6_copyFrom_14 <| sd_aload_n dX6_copyFrom_15 rfl <| sd_gR flX6_24 dX6_copyFrom_16 <| sd_aln dX6_copyFrom_19 <| sd_mmin ⟨tw_49, tw_50, tw_33, tw_51⟩ (by decide) dX6_copyFrom_20 <| sd_cpy ⟨tw_52, tw_53, tw_54, tw_55⟩ (by decide) dX6_copyFrom_23 <| sd_aload_n dX6_copyFrom_26 rfl <| sd_aload_n dX6_copyFrom_27 rfl <| sd_gI flX6_21 dX6_copyFrom_28 <| sd_aload_n dX6_copyFrom_31 rfl <| sd_gI flX6_28 dX6_copyFrom_32 <| sd_mmin ⟨tw_49, tw_50, tw_33, tw_51⟩ (by decide) dX6_copyFrom_35 <| sd_pI fpX6_28 dX6_copyFrom_38 <| (sd_rV rfl dX6_copyFrom_41)
def fX6_copyFrom : Mt Unit := mk_f 2 bX6_copyFrom_0
theorem tX6_copyFrom : Ct ev_v yX6_copyFrom cX6_copyFrom 2 none 1 26 fX6_copyFrom := ct_of (by decide +kernel) sX6_copyFrom_0
abbrev pX6_isLike : Px := (cX6_isLike, 3, RX6, "isLike", (some .boolean), 0, 0, fun _ => True)
def bX6_isLike_62 : Kt Int32 := o_psh (.int 1) <| o_rZ
set_option maxRecDepth 100000 in
theorem sX6_isLike_62 : Sd pX6_isLike ev_i 62 (bX6_isLike_62) := sd_iconst dX6_isLike_62 rfl <| (sd_rZ rfl dX6_isLike_63)
def bX6_isLike_56 (K26 : Kt Int32) : Kt Int32 := o_inc 2 1 <| K26
set_option maxRecDepth 100000 in
theorem sX6_isLike_56 {K26 : Kt Int32} (h26 : Sd pX6_isLike ev_i 26 K26) : Sd pX6_isLike ev_i 56 (bX6_isLike_56 K26) := sd_iinc dX6_isLike_56 rfl (by decide) <| (sd_goto (tgt := 26) dX6_isLike_59 (by decide) h26)
def bX6_isLike_54 (K26 : Kt Int32) : Kt Int32 := o_psh (.int 0) <| o_rZ
set_option maxRecDepth 100000 in
theorem sX6_isLike_54 {K26 : Kt Int32} (h26 : Sd pX6_isLike ev_i 26 K26) : Sd pX6_isLike ev_i 54 (bX6_isLike_54 K26) := sd_iconst dX6_isLike_54 rfl <| (sd_rZ rfl dX6_isLike_55)
def bX6_isLike_39 (K26 : Kt Int32) : Kt Int32 := o_ald 0 <| o_gR 5 2 <| o_ild 2 <| o_aI <| o_ald 1 <| o_gR 5 2 <| o_ild 2 <| o_aI <| o_ceq (bX6_isLike_56 K26) <| (o_fg 0 (o_fg 1 (o_fg 2 (bX6_isLike_54 K26))))
set_option maxRecDepth 100000 in
theorem sX6_isLike_39 {K26 : Kt Int32} (h26 : Sd pX6_isLike ev_i 26 K26) : Sd pX6_isLike ev_i 39 (bX6_isLike_39 K26) := sd_aload_n dX6_isLike_39 rfl <| sd_gR flX6_24 dX6_isLike_40 <| sd_iload_n dX6_isLike_43 rfl <| sd_aI dX6_isLike_44 <| sd_aload_n dX6_isLike_45 rfl <| sd_gR flX6_24 dX6_isLike_46 <| sd_iload_n dX6_isLike_49 rfl <| sd_aI dX6_isLike_50 <| sd_ceq (tgt := 56) dX6_isLike_51 (by decide) (sX6_isLike_56 h26) <| (sd_fg (i := 0) (sd_fg (i := 1) (sd_fg (i := 2) (sX6_isLike_54 h26))))
def bX6_isLike_26 (K26 : Kt Int32) : Kt Int32 := o_ild 2 <| o_ald 0 <| o_gI 5 3 <| o_ald 0 <| o_gI 5 0 <| o_i2 o_mul <| o_cge (o_fg 0 (o_fg 1 (o_fg 2 bX6_isLike_62))) <| (bX6_isLike_39 K26)
set_option maxRecDepth 100000 in
theorem sX6_isLike_26 {K26 : Kt Int32} (h26 : Sd pX6_isLike ev_i 26 K26) : Sd pX6_isLike ev_i 26 (bX6_isLike_26 K26) := sd_iload_n dX6_isLike_26 rfl <| sd_aload_n dX6_isLike_27 rfl <| sd_gI flX6_28 dX6_isLike_28 <| sd_aload_n dX6_isLike_31 rfl <| sd_gI flX6_15 dX6_isLike_32 <| sd_imul dX6_isLike_35 <| sd_cge (tgt := 62) dX6_isLike_36 (by decide) (sd_fg (i := 0) (sd_fg (i := 1) (sd_fg (i := 2) sX6_isLike_62))) <| (sX6_isLike_39 h26)
def bX6_isLike_24 : Kt Int32 := o_psh (.int 0) <| o_ist 2 <| (o_lp (bX6_isLike_26) fu)
set_option maxRecDepth 100000 in
theorem sX6_isLike_24 : Sd pX6_isLike ev_i 24 (bX6_isLike_24) := sd_iconst dX6_isLike_24 rfl <| sd_istore_n dX6_isLike_25 rfl (by decide) <| (sd_lp (fun K h => sX6_isLike_26 h) fu)
def bX6_isLike_22 : Kt Int32 := o_psh (.int 0) <| o_rZ
set_option maxRecDepth 100000 in
theorem sX6_isLike_22 : Sd pX6_isLike ev_i 22 (bX6_isLike_22) := sd_iconst dX6_isLike_22 rfl <| (sd_rZ rfl dX6_isLike_23)
def bX6_isLike_11 : Kt Int32 := o_ald 0 <| o_gI 5 0 <| o_ald 1 <| o_gI 5 0 <| o_ceq bX6_isLike_24 <| (o_fg 0 (o_fg 1 bX6_isLike_22))
set_option maxRecDepth 100000 in
theorem sX6_isLike_11 : Sd pX6_isLike ev_i 11 (bX6_isLike_11) := sd_aload_n dX6_isLike_11 rfl <| sd_gI flX6_15 dX6_isLike_12 <| sd_aload_n dX6_isLike_15 rfl <| sd_gI flX6_15 dX6_isLike_16 <| sd_ceq (tgt := 24) dX6_isLike_19 (by decide) sX6_isLike_24 <| (sd_fg (i := 0) (sd_fg (i := 1) sX6_isLike_22))
def bX6_isLike_0 : Kt Int32 := o_ald 0 <| o_gI 5 3 <| o_ald 1 <| o_gI 5 3 <| o_cne (o_fg 0 (o_fg 1 bX6_isLike_22)) <| bX6_isLike_11
set_option maxRecDepth 100000 in
theorem sX6_isLike_0 : Sd pX6_isLike ev_i 0 (bX6_isLike_0) := sd_aload_n dX6_isLike_0 rfl <| sd_gI flX6_28 dX6_isLike_1 <| sd_aload_n dX6_isLike_4 rfl <| sd_gI flX6_28 dX6_isLike_5 <| sd_cne (tgt := 22) dX6_isLike_8 (by decide) (sd_fg (i := 0) (sd_fg (i := 1) sX6_isLike_22)) <| sX6_isLike_11
def fX6_isLike : Mt Int32 := mk_f 3 bX6_isLike_0
theorem tX6_isLike : Ct ev_i yX6_isLike cX6_isLike 3 (some .boolean) 0 0 fX6_isLike := ct_of (by decide +kernel) sX6_isLike_0
abbrev pX2_shareMet : Px := (cX2_shareMet, 5, RX2, "shareMet", (some .long), 0, 0, fun _ => True)
def bX2_shareMet_34 : Kt Int64 := o_psh (.long 100000) <| o_lld 2 <| o_l2 o_lsub <| o_rL
set_option maxRecDepth 100000 in
theorem sX2_shareMet_34 : Sd pX2_shareMet ev_l 34 (bX2_shareMet_34) := sd_ldc2 tw_56 dX2_shareMet_34 <| sd_lload_n dX2_shareMet_37 rfl <| sd_lsub dX2_shareMet_38 <| (sd_rL rfl dX2_shareMet_39)
def bX2_shareMet_19 (K7 : Kt Int64) : Kt Int64 := o_lld 2 <| o_lvc 10 <| o_ild 0 <| o_i2l <| o_l2 o_lmul <| o_lst 2 <| o_inc 4 1 <| K7
set_option maxRecDepth 100000 in
theorem sX2_shareMet_19 {K7 : Kt Int64} (h7 : Sd pX2_shareMet ev_l 7 K7) : Sd pX2_shareMet ev_l 19 (bX2_shareMet_19 K7) := sd_lload_n dX2_shareMet_19 rfl <| sd_lvc (by decide) <| sd_ldc2 tw_57 dX2_shareMet_20 <| sd_ldiv dX2_shareMet_23 <| sd_iload_n dX2_shareMet_24 rfl <| sd_i2l dX2_shareMet_25 <| sd_lmul dX2_shareMet_26 <| sd_lstore_n dX2_shareMet_27 rfl (by decide) <| sd_iinc dX2_shareMet_28 rfl (by decide) <| (sd_goto (tgt := 7) dX2_shareMet_31 (by decide) h7)
def bX2_shareMet_13 (K7 : Kt Int64) : Kt Int64 := o_ild 4 <| o_psh (.int 5) <| o_cge (o_fg 0 (o_fg 1 (o_fg 4 bX2_shareMet_34))) <| (bX2_shareMet_19 K7)
set_option maxRecDepth 100000 in
theorem sX2_shareMet_13 {K7 : Kt Int64} (h7 : Sd pX2_shareMet ev_l 7 K7) : Sd pX2_shareMet ev_l 13 (bX2_shareMet_13 K7) := sd_iload dX2_shareMet_13 <| sd_iconst dX2_shareMet_15 rfl <| sd_cge (tgt := 34) dX2_shareMet_16 (by decide) (sd_fg (i := 0) (sd_fg (i := 1) (sd_fg (i := 4) sX2_shareMet_34))) <| (sX2_shareMet_19 h7)
def bX2_shareMet_7 (K7 : Kt Int64) : Kt Int64 := o_ild 4 <| o_ild 1 <| o_cge (o_fg 0 (o_fg 1 (o_fg 4 bX2_shareMet_34))) <| (bX2_shareMet_13 K7)
set_option maxRecDepth 100000 in
theorem sX2_shareMet_7 {K7 : Kt Int64} (h7 : Sd pX2_shareMet ev_l 7 K7) : Sd pX2_shareMet ev_l 7 (bX2_shareMet_7 K7) := sd_iload dX2_shareMet_7 <| sd_iload_n dX2_shareMet_9 rfl <| sd_cge (tgt := 34) dX2_shareMet_10 (by decide) (sd_fg (i := 0) (sd_fg (i := 1) (sd_fg (i := 4) sX2_shareMet_34))) <| (sX2_shareMet_13 h7)
def bX2_shareMet_0 : Kt Int64 := o_psh (.long 100000) <| o_lst 2 <| o_psh (.int 0) <| o_ist 4 <| (o_lp (bX2_shareMet_7) fu)
set_option maxRecDepth 100000 in
theorem sX2_shareMet_0 : Sd pX2_shareMet ev_l 0 (bX2_shareMet_0) := sd_ldc2 tw_56 dX2_shareMet_0 <| sd_lstore_n dX2_shareMet_3 rfl (by decide) <| sd_iconst dX2_shareMet_4 rfl <| sd_istore dX2_shareMet_5 (by decide) <| (sd_lp (fun K h => sX2_shareMet_7 h) fu)
def fX2_shareMet : Mt Int64 := mk_f 5 bX2_shareMet_0
theorem tX2_shareMet : Ct ev_l yX2_shareMet cX2_shareMet 5 (some .long) 0 0 fX2_shareMet := ct_of (by decide +kernel) sX2_shareMet_0
abbrev pX2_greatestCommon : Px := (cX2_greatestCommon, 11, RX2, "greatestCommon", (some .long), 0, 0, fun _ => True)
def bX2_greatestCommon_44 : Kt Int64 := o_lld 6 <| o_rL
set_option maxRecDepth 100000 in
theorem sX2_greatestCommon_44 : Sd pX2_greatestCommon ev_l 44 (bX2_greatestCommon_44) := sd_lload dX2_greatestCommon_44 <| (sd_rL rfl dX2_greatestCommon_46)
def bX2_greatestCommon_23 (K9 : Kt Int64) : Kt Int64 := o_lld 6 <| o_lld 4 <| o_lrm <| o_lst 9 <| o_lld 4 <| o_lst 6 <| o_lld 9 <| o_lst 4 <| o_inc 8 1 <| (o_fg 9 K9)
set_option maxRecDepth 100000 in
theorem sX2_greatestCommon_23 {K9 : Kt Int64} (h9 : Sd pX2_greatestCommon ev_l 9 K9) : Sd pX2_greatestCommon ev_l 23 (bX2_greatestCommon_23 K9) := sd_lload dX2_greatestCommon_23 <| sd_lload dX2_greatestCommon_25 <| sd_lrem dX2_greatestCommon_27 <| sd_lstore dX2_greatestCommon_28 (by decide) <| sd_lload dX2_greatestCommon_30 <| sd_lstore dX2_greatestCommon_32 (by decide) <| sd_lload dX2_greatestCommon_34 <| sd_lstore dX2_greatestCommon_36 (by decide) <| sd_iinc dX2_greatestCommon_38 rfl (by decide) <| (sd_goto (tgt := 9) dX2_greatestCommon_41 (by decide) (sd_fg (i := 9) h9))
def bX2_greatestCommon_16 (K9 : Kt Int64) : Kt Int64 := o_lld 4 <| o_psh (.long 0) <| o_lcm <| o_zeq (o_fg 4 (o_fg 8 bX2_greatestCommon_44)) <| (bX2_greatestCommon_23 K9)
set_option maxRecDepth 100000 in
theorem sX2_greatestCommon_16 {K9 : Kt Int64} (h9 : Sd pX2_greatestCommon ev_l 9 K9) : Sd pX2_greatestCommon ev_l 16 (bX2_greatestCommon_16 K9) := sd_lload dX2_greatestCommon_16 <| sd_lconst dX2_greatestCommon_18 rfl <| sd_lcmp dX2_greatestCommon_19 <| sd_zeq (tgt := 44) dX2_greatestCommon_20 (by decide) (sd_fg (i := 4) (sd_fg (i := 8) sX2_greatestCommon_44)) <| (sX2_greatestCommon_23 h9)
def bX2_greatestCommon_9 (K9 : Kt Int64) : Kt Int64 := o_ild 8 <| o_psh (.int 100) <| o_cge (o_fg 4 (o_fg 8 bX2_greatestCommon_44)) <| (bX2_greatestCommon_16 K9)
set_option maxRecDepth 100000 in
theorem sX2_greatestCommon_9 {K9 : Kt Int64} (h9 : Sd pX2_greatestCommon ev_l 9 K9) : Sd pX2_greatestCommon ev_l 9 (bX2_greatestCommon_9 K9) := sd_iload dX2_greatestCommon_9 <| sd_bipush dX2_greatestCommon_11 rfl <| sd_cge (tgt := 44) dX2_greatestCommon_13 (by decide) (sd_fg (i := 4) (sd_fg (i := 8) sX2_greatestCommon_44)) <| (sX2_greatestCommon_16 h9)
def bX2_greatestCommon_0 : Kt Int64 := o_lld 0 <| o_lst 4 <| o_lld 2 <| o_lst 6 <| o_psh (.int 0) <| o_ist 8 <| (o_fg 0 (o_fg 2 (o_lp (bX2_greatestCommon_9) fu)))
set_option maxRecDepth 100000 in
theorem sX2_greatestCommon_0 : Sd pX2_greatestCommon ev_l 0 (bX2_greatestCommon_0) := sd_lload_n dX2_greatestCommon_0 rfl <| sd_lstore dX2_greatestCommon_1 (by decide) <| sd_lload_n dX2_greatestCommon_3 rfl <| sd_lstore dX2_greatestCommon_4 (by decide) <| sd_iconst dX2_greatestCommon_6 rfl <| sd_istore dX2_greatestCommon_7 (by decide) <| (sd_fg (i := 0) (sd_fg (i := 2) (sd_lp (fun K h => sX2_greatestCommon_9 h) fu)))
def fX2_greatestCommon : Mt Int64 := mk_f 11 bX2_greatestCommon_0
theorem tX2_greatestCommon : Ct ev_l yX2_greatestCommon cX2_greatestCommon 11 (some .long) 0 0 fX2_greatestCommon := ct_of (by decide +kernel) sX2_greatestCommon_0
abbrev pX2_part : Px := (cX2_part, 5, RX2, "part", (some .long), 1, 30, fun _ => True)
def bX2_part_29 : Kt Int64 := o_lld 3 <| o_ldv <| o_rL
set_option maxRecDepth 100000 in
theorem sX2_part_29 : Sd pX2_part ev_l 29 (bX2_part_29) := sd_lload_n dX2_part_29 rfl <| sd_ldiv dX2_part_30 <| (sd_rL rfl dX2_part_31)
def bX2_part_26 : Kt Int64 := o_psh (.long 100000) <| bX2_part_29
set_option maxRecDepth 100000 in
theorem sX2_part_26 : Sd pX2_part ev_l 26 (bX2_part_26) := sd_ldc2 tw_56 dX2_part_26 <| sX2_part_29
def bX2_part_22 : Kt Int64 := o_lld 0 <| (o_fg 0 bX2_part_29)
set_option maxRecDepth 100000 in
theorem sX2_part_22 : Sd pX2_part ev_l 22 (bX2_part_22) := sd_lload_n dX2_part_22 rfl <| (sd_goto (tgt := 29) dX2_part_23 (by decide) (sd_fg (i := 0) sX2_part_29))
def bX2_part_18 : Kt Int64 := o_ild 2 <| o_zne (o_fg 0 (o_fg 2 bX2_part_26)) <| (o_fg 2 bX2_part_22)
set_option maxRecDepth 100000 in
theorem sX2_part_18 : Sd pX2_part ev_l 18 (bX2_part_18) := sd_iload_n dX2_part_18 rfl <| sd_zne (tgt := 26) dX2_part_19 (by decide) (sd_fg (i := 0) (sd_fg (i := 2) sX2_part_26)) <| (sd_fg (i := 2) sX2_part_22)
def bX2_part_14 : Kt Int64 := o_psh (.long (-1)) <| o_rL
set_option maxRecDepth 100000 in
theorem sX2_part_14 : Sd pX2_part ev_l 14 (bX2_part_14) := sd_ldc2 tw_62 dX2_part_14 <| (sd_rL rfl dX2_part_17)
def bX2_part_0 : Kt Int64 := o_lld 0 <| o_psh (.long 100000) <| o_sc ev_l 2 fX2_greatestCommon <| o_lst 3 <| o_lld 3 <| o_psh (.long 1) <| o_lcm <| o_zge bX2_part_18 <| (o_fg 0 (o_fg 2 (o_fg 3 bX2_part_14)))
set_option maxRecDepth 100000 in
theorem sX2_part_0 : Sd pX2_part ev_l 0 (bX2_part_0) := sd_lload_n dX2_part_0 rfl <| sd_ldc2 tw_56 dX2_part_1 <| sd_sc tX2_greatestCommon (fun _ _ => rfl) mwX2_greatestCommon mvX2_greatestCommon tw_61 (by decide) dX2_part_4 <| sd_lstore_n dX2_part_7 rfl (by decide) <| sd_lload_n dX2_part_8 rfl <| sd_lconst dX2_part_9 rfl <| sd_lcmp dX2_part_10 <| sd_zge (tgt := 18) dX2_part_11 (by decide) sX2_part_18 <| (sd_fg (i := 0) (sd_fg (i := 2) (sd_fg (i := 3) sX2_part_14)))
def fX2_part : Mt Int64 := mk_f 5 bX2_part_0
theorem tX2_part : Ct ev_l yX2_part cX2_part 5 (some .long) 1 30 fX2_part := ct_of (by decide +kernel) sX2_part_0
abbrev pX3_init : Px := (cX3_init, 1, RX3, "<init>", none, 1, 20, fun _ => True)
def bX3_init_0 : Kt Unit := o_ald 0 <| o_oin <| o_ald 0 <| o_psh (.int 40) <| o_nwI 0 <| o_pR 2 0 <| o_ald 0 <| o_psh (.int (-4)) <| o_pI 2 2 <| o_rV
set_option maxRecDepth 100000 in
theorem sX3_init_0 : Sd pX3_init ev_v 0 (bX3_init_0) := sd_aload_n dX3_init_0 rfl <| sd_oin ⟨tw_63, tw_29, tw_30⟩ (by decide) dX3_init_1 <| sd_aload_n dX3_init_4 rfl <| sd_bipush dX3_init_5 rfl <| sd_nwI (t := 0) (aty := .int) (tn := .int) rfl rfl (fun _ => rfl) (fun _ _ h => h) hby_int tw_37 dX3_init_7 <| sd_pR rfl (Or.inr ⟨_, rfl⟩) fpX3_9 dX3_init_9 <| sd_aload_n dX3_init_12 rfl <| sd_bipush dX3_init_13 rfl <| sd_pI fpX3_15 dX3_init_15 <| (sd_rV rfl dX3_init_18)
def fX3_init : Mt Unit := mk_f 1 bX3_init_0
theorem tX3_init : Ct ev_v yX3_init cX3_init 1 none 1 20 fX3_init := ct_of (by decide +kernel) sX3_init_0
abbrev pX3_makeNew : Px := (cX3_makeNew, 4, RX3, "makeNew", none, 1, 21, fun _ => True)
def bX3_makeNew_36 : Kt Unit := o_rV
set_option maxRecDepth 100000 in
theorem sX3_makeNew_36 : Sd pX3_makeNew ev_v 36 (bX3_makeNew_36) := (sd_rV rfl dX3_makeNew_36)
def bX3_makeNew_23 (K17 : Kt Unit) : Kt Unit := o_ald 0 <| o_gR 2 0 <| o_ild 3 <| o_psh (.int 0) <| o_sI <| o_inc 3 1 <| K17
set_option maxRecDepth 100000 in
theorem sX3_makeNew_23 {K17 : Kt Unit} (h17 : Sd pX3_makeNew ev_v 17 K17) : Sd pX3_makeNew ev_v 23 (bX3_makeNew_23 K17) := sd_aload_n dX3_makeNew_23 rfl <| sd_gR flX3_9 dX3_makeNew_24 <| sd_iload_n dX3_makeNew_27 rfl <| sd_iconst dX3_makeNew_28 rfl <| sd_sI dX3_makeNew_29 <| sd_iinc dX3_makeNew_30 rfl (by decide) <| (sd_goto (tgt := 17) dX3_makeNew_33 (by decide) h17)
def bX3_makeNew_17 (K17 : Kt Unit) : Kt Unit := o_ild 3 <| o_psh (.int 40) <| o_cge (o_fg 0 (o_fg 3 bX3_makeNew_36)) <| (bX3_makeNew_23 K17)
set_option maxRecDepth 100000 in
theorem sX3_makeNew_17 {K17 : Kt Unit} (h17 : Sd pX3_makeNew ev_v 17 K17) : Sd pX3_makeNew ev_v 17 (bX3_makeNew_17 K17) := sd_iload_n dX3_makeNew_17 rfl <| sd_bipush dX3_makeNew_18 rfl <| sd_cge (tgt := 36) dX3_makeNew_20 (by decide) (sd_fg (i := 0) (sd_fg (i := 3) sX3_makeNew_36)) <| (sX3_makeNew_23 h17)
def bX3_makeNew_0 : Kt Unit := o_ald 0 <| o_ild 1 <| o_pI 2 1 <| o_ald 0 <| o_ild 2 <| o_psh (.int 40) <| o_m2 o_min <| o_pI 2 2 <| o_psh (.int 0) <| o_ist 3 <| (o_fg 1 (o_fg 2 (o_lp (bX3_makeNew_17) fu)))
set_option maxRecDepth 100000 in
theorem sX3_makeNew_0 : Sd pX3_makeNew ev_v 0 (bX3_makeNew_0) := sd_aload_n dX3_makeNew_0 rfl <| sd_iload_n dX3_makeNew_1 rfl <| sd_pI fpX3_19 dX3_makeNew_2 <| sd_aload_n dX3_makeNew_5 rfl <| sd_iload_n dX3_makeNew_6 rfl <| sd_bipush dX3_makeNew_7 rfl <| sd_mmin ⟨tw_67, tw_50, tw_33, tw_51⟩ (by decide) dX3_makeNew_9 <| sd_pI fpX3_15 dX3_makeNew_12 <| sd_iconst dX3_makeNew_15 rfl <| sd_istore_n dX3_makeNew_16 rfl (by decide) <| (sd_fg (i := 1) (sd_fg (i := 2) (sd_lp (fun K h => sX3_makeNew_17 h) fu)))
def fX3_makeNew : Mt Unit := mk_f 4 bX3_makeNew_0
theorem tX3_makeNew : Ct ev_v yX3_makeNew cX3_makeNew 4 none 1 21 fX3_makeNew := ct_of (by decide +kernel) sX3_makeNew_0
abbrev pX3_faultAt : Px := (cX3_faultAt, 2, RX3, "faultAt", (some .int), 0, 0, fun _ => True)
def bX3_faultAt_28 : Kt Int32 := o_rI
set_option maxRecDepth 100000 in
theorem sX3_faultAt_28 : Sd pX3_faultAt ev_i 28 (bX3_faultAt_28) := (sd_rI rfl dX3_faultAt_28)
def bX3_faultAt_27 : Kt Int32 := o_psh (.int 0) <| bX3_faultAt_28
set_option maxRecDepth 100000 in
theorem sX3_faultAt_27 : Sd pX3_faultAt ev_i 27 (bX3_faultAt_27) := sd_iconst dX3_faultAt_27 rfl <| sX3_faultAt_28
def bX3_faultAt_23 : Kt Int32 := o_psh (.int 2) <| bX3_faultAt_28
set_option maxRecDepth 100000 in
theorem sX3_faultAt_23 : Sd pX3_faultAt ev_i 23 (bX3_faultAt_23) := sd_iconst dX3_faultAt_23 rfl <| (sd_goto (tgt := 28) dX3_faultAt_24 (by decide) sX3_faultAt_28)
def bX3_faultAt_15 : Kt Int32 := o_ild 1 <| o_ald 0 <| o_gI 2 2 <| o_clt (o_fg 0 (o_fg 1 bX3_faultAt_27)) <| (o_fg 0 (o_fg 1 bX3_faultAt_23))
set_option maxRecDepth 100000 in
theorem sX3_faultAt_15 : Sd pX3_faultAt ev_i 15 (bX3_faultAt_15) := sd_iload_n dX3_faultAt_15 rfl <| sd_aload_n dX3_faultAt_16 rfl <| sd_gI flX3_15 dX3_faultAt_17 <| sd_clt (tgt := 27) dX3_faultAt_20 (by decide) (sd_fg (i := 0) (sd_fg (i := 1) sX3_faultAt_27)) <| (sd_fg (i := 0) (sd_fg (i := 1) sX3_faultAt_23))
def bX3_faultAt_11 : Kt Int32 := o_ild 1 <| o_zlt (o_fg 0 (o_fg 1 bX3_faultAt_23)) <| bX3_faultAt_15
set_option maxRecDepth 100000 in
theorem sX3_faultAt_11 : Sd pX3_faultAt ev_i 11 (bX3_faultAt_11) := sd_iload_n dX3_faultAt_11 rfl <| sd_zlt (tgt := 23) dX3_faultAt_12 (by decide) (sd_fg (i := 0) (sd_fg (i := 1) sX3_faultAt_23)) <| sX3_faultAt_15
def bX3_faultAt_9 : Kt Int32 := o_psh (.int 1) <| o_rI
set_option maxRecDepth 100000 in
theorem sX3_faultAt_9 : Sd pX3_faultAt ev_i 9 (bX3_faultAt_9) := sd_iconst dX3_faultAt_9 rfl <| (sd_rI rfl dX3_faultAt_10)
def bX3_faultAt_0 : Kt Int32 := o_ald 0 <| o_gI 2 2 <| o_psh (.int (-4)) <| o_cne bX3_faultAt_11 <| (o_fg 0 (o_fg 1 bX3_faultAt_9))
set_option maxRecDepth 100000 in
theorem sX3_faultAt_0 : Sd pX3_faultAt ev_i 0 (bX3_faultAt_0) := sd_aload_n dX3_faultAt_0 rfl <| sd_gI flX3_15 dX3_faultAt_1 <| sd_bipush dX3_faultAt_4 rfl <| sd_cne (tgt := 11) dX3_faultAt_6 (by decide) sX3_faultAt_11 <| (sd_fg (i := 0) (sd_fg (i := 1) sX3_faultAt_9))
def fX3_faultAt : Mt Int32 := mk_f 2 bX3_faultAt_0
theorem tX3_faultAt : Ct ev_i yX3_faultAt cX3_faultAt 2 (some .int) 0 0 fX3_faultAt := ct_of (by decide +kernel) sX3_faultAt_0
abbrev pX3_faultOfPair : Px := (cX3_faultOfPair, 4, RX3, "faultOfPair", (some .int), 1, 21, fun _ => True)
def bX3_faultOfPair_40 : Kt Int32 := o_rI
set_option maxRecDepth 100000 in
theorem sX3_faultOfPair_40 : Sd pX3_faultOfPair ev_i 40 (bX3_faultOfPair_40) := (sd_rI rfl dX3_faultOfPair_40)
def bX3_faultOfPair_33 : Kt Int32 := o_ald 0 <| o_ild 2 <| o_psh (.int 1) <| o_i2 o_add <| o_vc ev_i 2 2 fX3_faultAt <| (o_fg 0 (o_fg 2 bX3_faultOfPair_40))
set_option maxRecDepth 100000 in
theorem sX3_faultOfPair_33 : Sd pX3_faultOfPair ev_i 33 (bX3_faultOfPair_33) := sd_aload_n dX3_faultOfPair_33 rfl <| sd_iload_n dX3_faultOfPair_34 rfl <| sd_iconst dX3_faultOfPair_35 rfl <| sd_iadd dX3_faultOfPair_36 <| sd_vc tX3_faultAt (fun _ _ => rfl) rfl mwX3_faultAt mvX3_faultAt tw_72 (by decide) dX3_faultOfPair_37 <| (sd_fg (i := 0) (sd_fg (i := 2) sX3_faultOfPair_40))
def bX3_faultOfPair_29 : Kt Int32 := o_ild 3 <| (o_fg 3 bX3_faultOfPair_40)
set_option maxRecDepth 100000 in
theorem sX3_faultOfPair_29 : Sd pX3_faultOfPair ev_i 29 (bX3_faultOfPair_29) := sd_iload_n dX3_faultOfPair_29 rfl <| (sd_goto (tgt := 40) dX3_faultOfPair_30 (by decide) (sd_fg (i := 3) sX3_faultOfPair_40))
def bX3_faultOfPair_19 : Kt Int32 := o_ald 0 <| o_ild 2 <| o_vc ev_i 2 2 fX3_faultAt <| o_ist 3 <| o_ild 3 <| o_zeq (o_fg 3 bX3_faultOfPair_33) <| (o_fg 0 (o_fg 2 bX3_faultOfPair_29))
set_option maxRecDepth 100000 in
theorem sX3_faultOfPair_19 : Sd pX3_faultOfPair ev_i 19 (bX3_faultOfPair_19) := sd_aload_n dX3_faultOfPair_19 rfl <| sd_iload_n dX3_faultOfPair_20 rfl <| sd_vc tX3_faultAt (fun _ _ => rfl) rfl mwX3_faultAt mvX3_faultAt tw_72 (by decide) dX3_faultOfPair_21 <| sd_istore_n dX3_faultOfPair_24 rfl (by decide) <| sd_iload_n dX3_faultOfPair_25 rfl <| sd_zeq (tgt := 33) dX3_faultOfPair_26 (by decide) (sd_fg (i := 3) sX3_faultOfPair_33) <| (sd_fg (i := 0) (sd_fg (i := 2) sX3_faultOfPair_29))
def bX3_faultOfPair_17 : Kt Int32 := o_psh (.int 3) <| o_rI
set_option maxRecDepth 100000 in
theorem sX3_faultOfPair_17 : Sd pX3_faultOfPair ev_i 17 (bX3_faultOfPair_17) := sd_iconst dX3_faultOfPair_17 rfl <| (sd_rI rfl dX3_faultOfPair_18)
def bX3_faultOfPair_9 : Kt Int32 := o_ald 0 <| o_gI 2 1 <| o_ild 1 <| o_ceq (o_fg 1 bX3_faultOfPair_19) <| (o_fg 0 (o_fg 1 (o_fg 2 bX3_faultOfPair_17)))
set_option maxRecDepth 100000 in
theorem sX3_faultOfPair_9 : Sd pX3_faultOfPair ev_i 9 (bX3_faultOfPair_9) := sd_aload_n dX3_faultOfPair_9 rfl <| sd_gI flX3_19 dX3_faultOfPair_10 <| sd_iload_n dX3_faultOfPair_13 rfl <| sd_ceq (tgt := 19) dX3_faultOfPair_14 (by decide) (sd_fg (i := 1) sX3_faultOfPair_19) <| (sd_fg (i := 0) (sd_fg (i := 1) (sd_fg (i := 2) sX3_faultOfPair_17)))
def bX3_faultOfPair_0 : Kt Int32 := o_ald 0 <| o_gI 2 2 <| o_psh (.int (-4)) <| o_ceq (o_fg 1 bX3_faultOfPair_19) <| bX3_faultOfPair_9
set_option maxRecDepth 100000 in
theorem sX3_faultOfPair_0 : Sd pX3_faultOfPair ev_i 0 (bX3_faultOfPair_0) := sd_aload_n dX3_faultOfPair_0 rfl <| sd_gI flX3_15 dX3_faultOfPair_1 <| sd_bipush dX3_faultOfPair_4 rfl <| sd_ceq (tgt := 19) dX3_faultOfPair_6 (by decide) (sd_fg (i := 1) sX3_faultOfPair_19) <| sX3_faultOfPair_9
def fX3_faultOfPair : Mt Int32 := mk_f 4 bX3_faultOfPair_0
theorem tX3_faultOfPair : Ct ev_i yX3_faultOfPair cX3_faultOfPair 4 (some .int) 1 21 fX3_faultOfPair := ct_of (by decide +kernel) sX3_faultOfPair_0
abbrev pX3_cellAt : Px := (cX3_cellAt, 2, RX3, "cellAt", (some .int), 0, 0, fun _ => True)
def bX3_cellAt_22 : Kt Int32 := o_rI
set_option maxRecDepth 100000 in
theorem sX3_cellAt_22 : Sd pX3_cellAt ev_i 22 (bX3_cellAt_22) := (sd_rI rfl dX3_cellAt_22)
def bX3_cellAt_21 : Kt Int32 := o_psh (.int 0) <| bX3_cellAt_22
set_option maxRecDepth 100000 in
theorem sX3_cellAt_21 : Sd pX3_cellAt ev_i 21 (bX3_cellAt_21) := sd_iconst dX3_cellAt_21 rfl <| sX3_cellAt_22
def bX3_cellAt_12 : Kt Int32 := o_ald 0 <| o_gR 2 0 <| o_ild 1 <| o_aI <| (o_fg 0 (o_fg 1 bX3_cellAt_22))
set_option maxRecDepth 100000 in
theorem sX3_cellAt_12 : Sd pX3_cellAt ev_i 12 (bX3_cellAt_12) := sd_aload_n dX3_cellAt_12 rfl <| sd_gR flX3_9 dX3_cellAt_13 <| sd_iload_n dX3_cellAt_16 rfl <| sd_aI dX3_cellAt_17 <| (sd_goto (tgt := 22) dX3_cellAt_18 (by decide) (sd_fg (i := 0) (sd_fg (i := 1) sX3_cellAt_22)))
def bX3_cellAt_4 : Kt Int32 := o_ild 1 <| o_ald 0 <| o_gI 2 2 <| o_cge (o_fg 0 (o_fg 1 bX3_cellAt_21)) <| bX3_cellAt_12
set_option maxRecDepth 100000 in
theorem sX3_cellAt_4 : Sd pX3_cellAt ev_i 4 (bX3_cellAt_4) := sd_iload_n dX3_cellAt_4 rfl <| sd_aload_n dX3_cellAt_5 rfl <| sd_gI flX3_15 dX3_cellAt_6 <| sd_cge (tgt := 21) dX3_cellAt_9 (by decide) (sd_fg (i := 0) (sd_fg (i := 1) sX3_cellAt_21)) <| sX3_cellAt_12
def bX3_cellAt_0 : Kt Int32 := o_ild 1 <| o_zlt (o_fg 0 (o_fg 1 bX3_cellAt_21)) <| bX3_cellAt_4
set_option maxRecDepth 100000 in
theorem sX3_cellAt_0 : Sd pX3_cellAt ev_i 0 (bX3_cellAt_0) := sd_iload_n dX3_cellAt_0 rfl <| sd_zlt (tgt := 21) dX3_cellAt_1 (by decide) (sd_fg (i := 0) (sd_fg (i := 1) sX3_cellAt_21)) <| sX3_cellAt_4
def fX3_cellAt : Mt Int32 := mk_f 2 bX3_cellAt_0
theorem tX3_cellAt : Ct ev_i yX3_cellAt cX3_cellAt 2 (some .int) 0 0 fX3_cellAt := ct_of (by decide +kernel) sX3_cellAt_0
abbrev pX3_putCell : Px := (cX3_putCell, 3, RX3, "putCell", none, 0, 0, fun _ => True)
def bX3_putCell_44 : Kt Unit := o_rV
set_option maxRecDepth 100000 in
theorem sX3_putCell_44 : Sd pX3_putCell ev_v 44 (bX3_putCell_44) := (sd_rV rfl dX3_putCell_44)
def bX3_putCell_43 : Kt Unit := o_sI <| bX3_putCell_44
set_option maxRecDepth 100000 in
theorem sX3_putCell_43 : Sd pX3_putCell ev_v 43 (bX3_putCell_43) := sd_sI dX3_putCell_43 <| sX3_putCell_44
def bX3_putCell_42 : Kt Unit := o_ild 2 <| (o_fg 2 bX3_putCell_43)
set_option maxRecDepth 100000 in
theorem sX3_putCell_42 : Sd pX3_putCell ev_v 42 (bX3_putCell_42) := sd_iload_n dX3_putCell_42 rfl <| (sd_fg (i := 2) sX3_putCell_43)
def bX3_putCell_37 : Kt Unit := o_ild 2 <| o_i1 o_i2s <| (o_fg 2 bX3_putCell_43)
set_option maxRecDepth 100000 in
theorem sX3_putCell_37 : Sd pX3_putCell ev_v 37 (bX3_putCell_37) := sd_iload_n dX3_putCell_37 rfl <| sd_i2s dX3_putCell_38 <| (sd_goto (tgt := 43) dX3_putCell_39 (by decide) (sd_fg (i := 2) sX3_putCell_43))
def bX3_putCell_29 : Kt Unit := o_ald 0 <| o_gI 2 1 <| o_psh (.int 1) <| o_cne (o_fg 0 bX3_putCell_42) <| (o_fg 0 bX3_putCell_37)
set_option maxRecDepth 100000 in
theorem sX3_putCell_29 : Sd pX3_putCell ev_v 29 (bX3_putCell_29) := sd_aload_n dX3_putCell_29 rfl <| sd_gI flX3_19 dX3_putCell_30 <| sd_iconst dX3_putCell_33 rfl <| sd_cne (tgt := 42) dX3_putCell_34 (by decide) (sd_fg (i := 0) sX3_putCell_42) <| (sd_fg (i := 0) sX3_putCell_37)
def bX3_putCell_24 : Kt Unit := o_ild 2 <| o_i1 o_i2b <| (o_fg 2 bX3_putCell_43)
set_option maxRecDepth 100000 in
theorem sX3_putCell_24 : Sd pX3_putCell ev_v 24 (bX3_putCell_24) := sd_iload_n dX3_putCell_24 rfl <| sd_i2b dX3_putCell_25 <| (sd_goto (tgt := 43) dX3_putCell_26 (by decide) (sd_fg (i := 2) sX3_putCell_43))
def bX3_putCell_12 : Kt Unit := o_ald 0 <| o_gR 2 0 <| o_ild 1 <| o_ald 0 <| o_gI 2 1 <| o_zne (o_fg 1 bX3_putCell_29) <| (o_fg 0 (o_fg 1 bX3_putCell_24))
set_option maxRecDepth 100000 in
theorem sX3_putCell_12 : Sd pX3_putCell ev_v 12 (bX3_putCell_12) := sd_aload_n dX3_putCell_12 rfl <| sd_gR flX3_9 dX3_putCell_13 <| sd_iload_n dX3_putCell_16 rfl <| sd_aload_n dX3_putCell_17 rfl <| sd_gI flX3_19 dX3_putCell_18 <| sd_zne (tgt := 29) dX3_putCell_21 (by decide) (sd_fg (i := 1) sX3_putCell_29) <| (sd_fg (i := 0) (sd_fg (i := 1) sX3_putCell_24))
def bX3_putCell_4 : Kt Unit := o_ild 1 <| o_ald 0 <| o_gI 2 2 <| o_cge (o_fg 0 (o_fg 1 (o_fg 2 bX3_putCell_44))) <| bX3_putCell_12
set_option maxRecDepth 100000 in
theorem sX3_putCell_4 : Sd pX3_putCell ev_v 4 (bX3_putCell_4) := sd_iload_n dX3_putCell_4 rfl <| sd_aload_n dX3_putCell_5 rfl <| sd_gI flX3_15 dX3_putCell_6 <| sd_cge (tgt := 44) dX3_putCell_9 (by decide) (sd_fg (i := 0) (sd_fg (i := 1) (sd_fg (i := 2) sX3_putCell_44))) <| sX3_putCell_12
def bX3_putCell_0 : Kt Unit := o_ild 1 <| o_zlt (o_fg 0 (o_fg 1 (o_fg 2 bX3_putCell_44))) <| bX3_putCell_4
set_option maxRecDepth 100000 in
theorem sX3_putCell_0 : Sd pX3_putCell ev_v 0 (bX3_putCell_0) := sd_iload_n dX3_putCell_0 rfl <| sd_zlt (tgt := 44) dX3_putCell_1 (by decide) (sd_fg (i := 0) (sd_fg (i := 1) (sd_fg (i := 2) sX3_putCell_44))) <| sX3_putCell_4
def fX3_putCell : Mt Unit := mk_f 3 bX3_putCell_0
theorem tX3_putCell : Ct ev_v yX3_putCell cX3_putCell 3 none 0 0 fX3_putCell := ct_of (by decide +kernel) sX3_putCell_0
abbrev pX1_makeEmpty : Px := (cX1_makeEmpty, 2, RX1, "makeEmpty", none, 0, 0, fun _ => True)
def bX1_makeEmpty_74 : Kt Unit := o_rV
set_option maxRecDepth 100000 in
theorem sX1_makeEmpty_74 : Sd pX1_makeEmpty ev_v 74 (bX1_makeEmpty_74) := (sd_rV rfl dX1_makeEmpty_74)
def bX1_makeEmpty_60 (K54 : Kt Unit) : Kt Unit := o_ald 0 <| o_gR 1 5 <| o_ild 1 <| o_psh (.int (-4)) <| o_sI <| o_inc 1 1 <| K54
set_option maxRecDepth 100000 in
theorem sX1_makeEmpty_60 {K54 : Kt Unit} (h54 : Sd pX1_makeEmpty ev_v 54 K54) : Sd pX1_makeEmpty ev_v 60 (bX1_makeEmpty_60 K54) := sd_aload_n dX1_makeEmpty_60 rfl <| sd_gR flX1_33 dX1_makeEmpty_61 <| sd_iload_n dX1_makeEmpty_64 rfl <| sd_bipush dX1_makeEmpty_65 rfl <| sd_sI dX1_makeEmpty_67 <| sd_iinc dX1_makeEmpty_68 rfl (by decide) <| (sd_goto (tgt := 54) dX1_makeEmpty_71 (by decide) h54)
def bX1_makeEmpty_54 (K54 : Kt Unit) : Kt Unit := o_ild 1 <| o_psh (.int 10) <| o_cge (o_fg 0 (o_fg 1 bX1_makeEmpty_74)) <| (bX1_makeEmpty_60 K54)
set_option maxRecDepth 100000 in
theorem sX1_makeEmpty_54 {K54 : Kt Unit} (h54 : Sd pX1_makeEmpty ev_v 54 K54) : Sd pX1_makeEmpty ev_v 54 (bX1_makeEmpty_54 K54) := sd_iload_n dX1_makeEmpty_54 rfl <| sd_bipush dX1_makeEmpty_55 rfl <| sd_cge (tgt := 74) dX1_makeEmpty_57 (by decide) (sd_fg (i := 0) (sd_fg (i := 1) sX1_makeEmpty_74)) <| (sX1_makeEmpty_60 h54)
def bX1_makeEmpty_52 : Kt Unit := o_psh (.int 0) <| o_ist 1 <| (o_lp (bX1_makeEmpty_54) fu)
set_option maxRecDepth 100000 in
theorem sX1_makeEmpty_52 : Sd pX1_makeEmpty ev_v 52 (bX1_makeEmpty_52) := sd_iconst dX1_makeEmpty_52 rfl <| sd_istore_n dX1_makeEmpty_53 rfl (by decide) <| (sd_lp (fun K h => sX1_makeEmpty_54 h) fu)
def bX1_makeEmpty_39 (K34 : Kt Unit) : Kt Unit := o_ald 0 <| o_gR 1 4 <| o_ild 1 <| o_psh (.int 0) <| o_sI <| o_inc 1 1 <| K34
set_option maxRecDepth 100000 in
theorem sX1_makeEmpty_39 {K34 : Kt Unit} (h34 : Sd pX1_makeEmpty ev_v 34 K34) : Sd pX1_makeEmpty ev_v 39 (bX1_makeEmpty_39 K34) := sd_aload_n dX1_makeEmpty_39 rfl <| sd_gR flX1_29 dX1_makeEmpty_40 <| sd_iload_n dX1_makeEmpty_43 rfl <| sd_iconst dX1_makeEmpty_44 rfl <| sd_sI dX1_makeEmpty_45 <| sd_iinc dX1_makeEmpty_46 rfl (by decide) <| (sd_goto (tgt := 34) dX1_makeEmpty_49 (by decide) h34)
def bX1_makeEmpty_34 (K34 : Kt Unit) : Kt Unit := o_ild 1 <| o_psh (.int 3) <| o_cge (o_fg 1 bX1_makeEmpty_52) <| (bX1_makeEmpty_39 K34)
set_option maxRecDepth 100000 in
theorem sX1_makeEmpty_34 {K34 : Kt Unit} (h34 : Sd pX1_makeEmpty ev_v 34 K34) : Sd pX1_makeEmpty ev_v 34 (bX1_makeEmpty_34 K34) := sd_iload_n dX1_makeEmpty_34 rfl <| sd_iconst dX1_makeEmpty_35 rfl <| sd_cge (tgt := 52) dX1_makeEmpty_36 (by decide) (sd_fg (i := 1) sX1_makeEmpty_52) <| (sX1_makeEmpty_39 h34)
def bX1_makeEmpty_0 : Kt Unit := o_ald 0 <| o_gR 1 0 <| o_psh (.int 0) <| o_pI 5 3 <| o_ald 0 <| o_gR 1 1 <| o_psh (.int 0) <| o_pI 5 3 <| o_ald 0 <| o_gR 1 2 <| o_psh (.int 0) <| o_pI 5 3 <| o_ald 0 <| o_gR 1 3 <| o_psh (.int 0) <| o_pI 5 3 <| o_psh (.int 0) <| o_ist 1 <| (o_lp (bX1_makeEmpty_34) fu)
set_option maxRecDepth 100000 in
theorem sX1_makeEmpty_0 : Sd pX1_makeEmpty ev_v 0 (bX1_makeEmpty_0) := sd_aload_n dX1_makeEmpty_0 rfl <| sd_gR flX1_14 dX1_makeEmpty_1 <| sd_iconst dX1_makeEmpty_4 rfl <| sd_pI fpX1_39 dX1_makeEmpty_5 <| sd_aload_n dX1_makeEmpty_8 rfl <| sd_gR flX1_20 dX1_makeEmpty_9 <| sd_iconst dX1_makeEmpty_12 rfl <| sd_pI fpX1_39 dX1_makeEmpty_13 <| sd_aload_n dX1_makeEmpty_16 rfl <| sd_gR flX1_23 dX1_makeEmpty_17 <| sd_iconst dX1_makeEmpty_20 rfl <| sd_pI fpX1_39 dX1_makeEmpty_21 <| sd_aload_n dX1_makeEmpty_24 rfl <| sd_gR flX1_26 dX1_makeEmpty_25 <| sd_iconst dX1_makeEmpty_28 rfl <| sd_pI fpX1_39 dX1_makeEmpty_29 <| sd_iconst dX1_makeEmpty_32 rfl <| sd_istore_n dX1_makeEmpty_33 rfl (by decide) <| (sd_lp (fun K h => sX1_makeEmpty_34 h) fu)
def fX1_makeEmpty : Mt Unit := mk_f 2 bX1_makeEmpty_0
theorem tX1_makeEmpty : Ct ev_v yX1_makeEmpty cX1_makeEmpty 2 none 0 0 fX1_makeEmpty := ct_of (by decide +kernel) sX1_makeEmpty_0
abbrev pX1_init : Px := (cX1_init, 1, RX1, "<init>", none, 2, 43, fun _ => True)
def bX1_init_75 : Kt Unit := o_rV
set_option maxRecDepth 100000 in
theorem sX1_init_75 : Sd pX1_init ev_v 75 (bX1_init_75) := (sd_rV rfl dX1_init_75)
def bX1_init_0 : Kt Unit := o_ald 0 <| o_oin <| o_ald 0 <| o_new 5 [.int 0, .int 0, .null, .int 0] <| o_dup <| o_psh (.int 2) <| o_psh (.int 5) <| o_nc 3 fX6_init <| o_pR 1 0 <| o_ald 0 <| o_new 5 [.int 0, .int 0, .null, .int 0] <| o_dup <| o_psh (.int 3) <| o_psh (.int 4) <| o_nc 3 fX6_init <| o_pR 1 1 <| o_ald 0 <| o_new 5 [.int 0, .int 0, .null, .int 0] <| o_dup <| o_psh (.int 4) <| o_psh (.int 5) <| o_nc 3 fX6_init <| o_pR 1 2 <| o_ald 0 <| o_new 5 [.int 0, .int 0, .null, .int 0] <| o_dup <| o_psh (.int 4) <| o_psh (.int 4) <| o_nc 3 fX6_init <| o_pR 1 3 <| o_ald 0 <| o_psh (.int 3) <| o_nwI 0 <| o_pR 1 4 <| o_ald 0 <| o_psh (.int 10) <| o_nwI 0 <| o_pR 1 5 <| o_ald 0 <| o_vc ev_v 1 1 fX1_makeEmpty <| (o_fg 0 bX1_init_75)
set_option maxRecDepth 100000 in
theorem sX1_init_0 : Sd pX1_init ev_v 0 (bX1_init_0) := sd_aload_n dX1_init_0 rfl <| sd_oin ⟨tw_80, tw_29, tw_30⟩ (by decide) dX1_init_1 <| sd_aload_n dX1_init_4 rfl <| sd_new tyX6 rfl inTX6 tyX6_ok ⟨tw_81, tw_82, tw_41⟩ (by decide +kernel) rfl (fun _ => rfl) dX1_init_5 <| sd_dup dX1_init_8 <| sd_iconst dX1_init_9 rfl <| sd_iconst dX1_init_10 rfl <| sd_nc tX6_init mwX6_init rfl mvX6_init tw_85 (by decide) dX1_init_11 <| sd_pR rfl (Or.inl ⟨_, rfl⟩) fpX1_14 dX1_init_14 <| sd_aload_n dX1_init_17 rfl <| sd_new tyX6 rfl inTX6 tyX6_ok ⟨tw_81, tw_82, tw_41⟩ (by decide +kernel) rfl (fun _ => rfl) dX1_init_18 <| sd_dup dX1_init_21 <| sd_iconst dX1_init_22 rfl <| sd_iconst dX1_init_23 rfl <| sd_nc tX6_init mwX6_init rfl mvX6_init tw_85 (by decide) dX1_init_24 <| sd_pR rfl (Or.inl ⟨_, rfl⟩) fpX1_20 dX1_init_27 <| sd_aload_n dX1_init_30 rfl <| sd_new tyX6 rfl inTX6 tyX6_ok ⟨tw_81, tw_82, tw_41⟩ (by decide +kernel) rfl (fun _ => rfl) dX1_init_31 <| sd_dup dX1_init_34 <| sd_iconst dX1_init_35 rfl <| sd_iconst dX1_init_36 rfl <| sd_nc tX6_init mwX6_init rfl mvX6_init tw_85 (by decide) dX1_init_37 <| sd_pR rfl (Or.inl ⟨_, rfl⟩) fpX1_23 dX1_init_40 <| sd_aload_n dX1_init_43 rfl <| sd_new tyX6 rfl inTX6 tyX6_ok ⟨tw_81, tw_82, tw_41⟩ (by decide +kernel) rfl (fun _ => rfl) dX1_init_44 <| sd_dup dX1_init_47 <| sd_iconst dX1_init_48 rfl <| sd_iconst dX1_init_49 rfl <| sd_nc tX6_init mwX6_init rfl mvX6_init tw_85 (by decide) dX1_init_50 <| sd_pR rfl (Or.inl ⟨_, rfl⟩) fpX1_26 dX1_init_53 <| sd_aload_n dX1_init_56 rfl <| sd_iconst dX1_init_57 rfl <| sd_nwI (t := 0) (aty := .int) (tn := .int) rfl rfl (fun _ => rfl) (fun _ _ h => h) hby_int tw_37 dX1_init_58 <| sd_pR rfl (Or.inr ⟨_, rfl⟩) fpX1_29 dX1_init_60 <| sd_aload_n dX1_init_63 rfl <| sd_bipush dX1_init_64 rfl <| sd_nwI (t := 0) (aty := .int) (tn := .int) rfl rfl (fun _ => rfl) (fun _ _ h => h) hby_int tw_37 dX1_init_66 <| sd_pR rfl (Or.inr ⟨_, rfl⟩) fpX1_33 dX1_init_68 <| sd_aload_n dX1_init_71 rfl <| sd_vc tX1_makeEmpty (fun _ _ => rfl) rfl mwX1_makeEmpty mvX1_makeEmpty tw_90 (by decide) dX1_init_72 <| (sd_fg (i := 0) sX1_init_75)
def fX1_init : Mt Unit := mk_f 1 bX1_init_0
theorem tX1_init : Ct ev_v yX1_init cX1_init 1 none 2 43 fX1_init := ct_of (by decide +kernel) sX1_init_0
abbrev pX1_copyFrom : Px := (cX1_copyFrom, 2, RX1, "copyFrom", none, 2, 47, fun _ => True)
def bX1_copyFrom_0 : Kt Unit := o_ald 0 <| o_gR 1 0 <| o_ald 1 <| o_gR 1 0 <| o_vc ev_v 5 2 fX6_copyFrom <| o_ald 0 <| o_gR 1 1 <| o_ald 1 <| o_gR 1 1 <| o_vc ev_v 5 2 fX6_copyFrom <| o_ald 0 <| o_gR 1 2 <| o_ald 1 <| o_gR 1 2 <| o_vc ev_v 5 2 fX6_copyFrom <| o_ald 0 <| o_gR 1 3 <| o_ald 1 <| o_gR 1 3 <| o_vc ev_v 5 2 fX6_copyFrom <| o_ald 1 <| o_gR 1 4 <| o_psh (.int 0) <| o_ald 0 <| o_gR 1 4 <| o_psh (.int 0) <| o_psh (.int 3) <| o_cpy <| o_ald 1 <| o_gR 1 5 <| o_psh (.int 0) <| o_ald 0 <| o_gR 1 5 <| o_psh (.int 0) <| o_psh (.int 10) <| o_cpy <| o_rV
set_option maxRecDepth 100000 in
theorem sX1_copyFrom_0 : Sd pX1_copyFrom ev_v 0 (bX1_copyFrom_0) := sd_aload_n dX1_copyFrom_0 rfl <| sd_gR flX1_14 dX1_copyFrom_1 <| sd_aload_n dX1_copyFrom_4 rfl <| sd_gR flX1_14 dX1_copyFrom_5 <| sd_vc tX6_copyFrom (fun _ _ => rfl) rfl mwX6_copyFrom mvX6_copyFrom tw_94 (by decide) dX1_copyFrom_8 <| sd_aload_n dX1_copyFrom_11 rfl <| sd_gR flX1_20 dX1_copyFrom_12 <| sd_aload_n dX1_copyFrom_15 rfl <| sd_gR flX1_20 dX1_copyFrom_16 <| sd_vc tX6_copyFrom (fun _ _ => rfl) rfl mwX6_copyFrom mvX6_copyFrom tw_94 (by decide) dX1_copyFrom_19 <| sd_aload_n dX1_copyFrom_22 rfl <| sd_gR flX1_23 dX1_copyFrom_23 <| sd_aload_n dX1_copyFrom_26 rfl <| sd_gR flX1_23 dX1_copyFrom_27 <| sd_vc tX6_copyFrom (fun _ _ => rfl) rfl mwX6_copyFrom mvX6_copyFrom tw_94 (by decide) dX1_copyFrom_30 <| sd_aload_n dX1_copyFrom_33 rfl <| sd_gR flX1_26 dX1_copyFrom_34 <| sd_aload_n dX1_copyFrom_37 rfl <| sd_gR flX1_26 dX1_copyFrom_38 <| sd_vc tX6_copyFrom (fun _ _ => rfl) rfl mwX6_copyFrom mvX6_copyFrom tw_94 (by decide) dX1_copyFrom_41 <| sd_aload_n dX1_copyFrom_44 rfl <| sd_gR flX1_29 dX1_copyFrom_45 <| sd_iconst dX1_copyFrom_48 rfl <| sd_aload_n dX1_copyFrom_49 rfl <| sd_gR flX1_29 dX1_copyFrom_50 <| sd_iconst dX1_copyFrom_53 rfl <| sd_iconst dX1_copyFrom_54 rfl <| sd_cpy ⟨tw_95, tw_53, tw_54, tw_55⟩ (by decide) dX1_copyFrom_55 <| sd_aload_n dX1_copyFrom_58 rfl <| sd_gR flX1_33 dX1_copyFrom_59 <| sd_iconst dX1_copyFrom_62 rfl <| sd_aload_n dX1_copyFrom_63 rfl <| sd_gR flX1_33 dX1_copyFrom_64 <| sd_iconst dX1_copyFrom_67 rfl <| sd_bipush dX1_copyFrom_68 rfl <| sd_cpy ⟨tw_95, tw_53, tw_54, tw_55⟩ (by decide) dX1_copyFrom_70 <| (sd_rV rfl dX1_copyFrom_73)
def fX1_copyFrom : Mt Unit := mk_f 2 bX1_copyFrom_0
theorem tX1_copyFrom : Ct ev_v yX1_copyFrom cX1_copyFrom 2 none 2 47 fX1_copyFrom := ct_of (by decide +kernel) sX1_copyFrom_0
abbrev pX1_isOne : Px := (cX1_isOne, 2, RX1, "isOne", (some .boolean), 1, 21, fun _ => True)
def bX1_isOne_0 : Kt Int32 := o_ald 0 <| o_gR 1 0 <| o_ild 1 <| o_vc ev_i 5 2 fX6_has <| o_rZ
set_option maxRecDepth 100000 in
theorem sX1_isOne_0 : Sd pX1_isOne ev_i 0 (bX1_isOne_0) := sd_aload_n dX1_isOne_0 rfl <| sd_gR flX1_14 dX1_isOne_1 <| sd_iload_n dX1_isOne_4 rfl <| sd_vc tX6_has (fun _ _ => rfl) rfl mwX6_has mvX6_has tw_96 (by decide) dX1_isOne_5 <| (sd_rZ rfl dX1_isOne_8)
def fX1_isOne : Mt Int32 := mk_f 2 bX1_isOne_0
theorem tX1_isOne : Ct ev_i yX1_isOne cX1_isOne 2 (some .boolean) 1 21 fX1_isOne := ct_of (by decide +kernel) sX1_isOne_0
abbrev pX1_kindOf : Px := (cX1_kindOf, 2, RX1, "kindOf", (some .int), 1, 23, fun _ => True)
def bX1_kindOf_0 : Kt Int32 := o_ald 0 <| o_gR 1 0 <| o_ild 1 <| o_psh (.int 0) <| o_vc ev_i 5 3 fX6_at <| o_rI
set_option maxRecDepth 100000 in
theorem sX1_kindOf_0 : Sd pX1_kindOf ev_i 0 (bX1_kindOf_0) := sd_aload_n dX1_kindOf_0 rfl <| sd_gR flX1_14 dX1_kindOf_1 <| sd_iload_n dX1_kindOf_4 rfl <| sd_iconst dX1_kindOf_5 rfl <| sd_vc tX6_at (fun _ _ => rfl) rfl mwX6_at mvX6_at tw_100 (by decide) dX1_kindOf_6 <| (sd_rI rfl dX1_kindOf_9)
def fX1_kindOf : Mt Int32 := mk_f 2 bX1_kindOf_0
theorem tX1_kindOf : Ct ev_i yX1_kindOf cX1_kindOf 2 (some .int) 1 23 fX1_kindOf := ct_of (by decide +kernel) sX1_kindOf_0
abbrev pX1_postOf : Px := (cX1_postOf, 2, RX1, "postOf", (some .int), 1, 23, fun _ => True)
def bX1_postOf_0 : Kt Int32 := o_ald 0 <| o_gR 1 0 <| o_ild 1 <| o_psh (.int 1) <| o_vc ev_i 5 3 fX6_at <| o_rI
set_option maxRecDepth 100000 in
theorem sX1_postOf_0 : Sd pX1_postOf ev_i 0 (bX1_postOf_0) := sd_aload_n dX1_postOf_0 rfl <| sd_gR flX1_14 dX1_postOf_1 <| sd_iload_n dX1_postOf_4 rfl <| sd_iconst dX1_postOf_5 rfl <| sd_vc tX6_at (fun _ _ => rfl) rfl mwX6_at mvX6_at tw_100 (by decide) dX1_postOf_6 <| (sd_rI rfl dX1_postOf_9)
def fX1_postOf : Mt Int32 := mk_f 2 bX1_postOf_0
theorem tX1_postOf : Ct ev_i yX1_postOf cX1_postOf 2 (some .int) 1 23 fX1_postOf := ct_of (by decide +kernel) sX1_postOf_0
abbrev pX1_keepsOf : Px := (cX1_keepsOf, 3, RX1, "keepsOf", (some .int), 2, 44, fun _ => True)
def bX1_keepsOf_27 : Kt Int32 := o_rI
set_option maxRecDepth 100000 in
theorem sX1_keepsOf_27 : Sd pX1_keepsOf ev_i 27 (bX1_keepsOf_27) := (sd_rI rfl dX1_keepsOf_27)
def bX1_keepsOf_26 : Kt Int32 := o_psh (.int 0) <| bX1_keepsOf_27
set_option maxRecDepth 100000 in
theorem sX1_keepsOf_26 : Sd pX1_keepsOf ev_i 26 (bX1_keepsOf_26) := sd_iconst dX1_keepsOf_26 rfl <| sX1_keepsOf_27
def bX1_keepsOf_18 : Kt Int32 := o_psh (.ref 1009) <| o_ild 2 <| o_xI <| (o_fg 2 bX1_keepsOf_27)
set_option maxRecDepth 100000 in
theorem sX1_keepsOf_18 : Sd pX1_keepsOf ev_i 18 (bX1_keepsOf_18) := sd_keep tw_105 dX1_keepsOf_18 <| sd_iload_n dX1_keepsOf_21 rfl <| sd_xI dX1_keepsOf_22 <| (sd_goto (tgt := 27) dX1_keepsOf_23 (by decide) (sd_fg (i := 2) sX1_keepsOf_27))
def bX1_keepsOf_10 : Kt Int32 := o_ild 2 <| o_psh (.ref 1009) <| o_xln <| o_cge (o_fg 2 bX1_keepsOf_26) <| bX1_keepsOf_18
set_option maxRecDepth 100000 in
theorem sX1_keepsOf_10 : Sd pX1_keepsOf ev_i 10 (bX1_keepsOf_10) := sd_iload_n dX1_keepsOf_10 rfl <| sd_keep tw_105 dX1_keepsOf_11 <| sd_xln dX1_keepsOf_14 <| sd_cge (tgt := 26) dX1_keepsOf_15 (by decide) (sd_fg (i := 2) sX1_keepsOf_26) <| sX1_keepsOf_18
def bX1_keepsOf_0 : Kt Int32 := o_ald 0 <| o_ild 1 <| o_vc ev_i 1 2 fX1_kindOf <| o_ist 2 <| o_ild 2 <| o_zlt (o_fg 0 (o_fg 1 (o_fg 2 bX1_keepsOf_26))) <| (o_fg 0 (o_fg 1 bX1_keepsOf_10))
set_option maxRecDepth 100000 in
theorem sX1_keepsOf_0 : Sd pX1_keepsOf ev_i 0 (bX1_keepsOf_0) := sd_aload_n dX1_keepsOf_0 rfl <| sd_iload_n dX1_keepsOf_1 rfl <| sd_vc tX1_kindOf (fun _ _ => rfl) rfl mwX1_kindOf mvX1_kindOf tw_104 (by decide) dX1_keepsOf_2 <| sd_istore_n dX1_keepsOf_5 rfl (by decide) <| sd_iload_n dX1_keepsOf_6 rfl <| sd_zlt (tgt := 26) dX1_keepsOf_7 (by decide) (sd_fg (i := 0) (sd_fg (i := 1) (sd_fg (i := 2) sX1_keepsOf_26))) <| (sd_fg (i := 0) (sd_fg (i := 1) sX1_keepsOf_10))
def fX1_keepsOf : Mt Int32 := mk_f 3 bX1_keepsOf_0
theorem tX1_keepsOf : Ct ev_i yX1_keepsOf cX1_keepsOf 3 (some .int) 2 44 fX1_keepsOf := ct_of (by decide +kernel) sX1_keepsOf_0
abbrev pX1_worthOf : Px := (cX1_worthOf, 2, RX1, "worthOf", (some .int), 1, 23, fun _ => True)
def bX1_worthOf_0 : Kt Int32 := o_ald 0 <| o_gR 1 2 <| o_ild 1 <| o_psh (.int 3) <| o_vc ev_i 5 3 fX6_at <| o_rI
set_option maxRecDepth 100000 in
theorem sX1_worthOf_0 : Sd pX1_worthOf ev_i 0 (bX1_worthOf_0) := sd_aload_n dX1_worthOf_0 rfl <| sd_gR flX1_23 dX1_worthOf_1 <| sd_iload_n dX1_worthOf_4 rfl <| sd_iconst dX1_worthOf_5 rfl <| sd_vc tX6_at (fun _ _ => rfl) rfl mwX6_at mvX6_at tw_100 (by decide) dX1_worthOf_6 <| (sd_rI rfl dX1_worthOf_9)
def fX1_worthOf : Mt Int32 := mk_f 2 bX1_worthOf_0
theorem tX1_worthOf : Ct ev_i yX1_worthOf cX1_worthOf 2 (some .int) 1 23 fX1_worthOf := ct_of (by decide +kernel) sX1_worthOf_0
abbrev pX1_allWorth : Px := (cX1_allWorth, 3, RX1, "allWorth", (some .int), 2, 44, fun _ => True)
def bX1_allWorth_29 : Kt Int32 := o_ild 1 <| o_rI
set_option maxRecDepth 100000 in
theorem sX1_allWorth_29 : Sd pX1_allWorth ev_i 29 (bX1_allWorth_29) := sd_iload_n dX1_allWorth_29 rfl <| (sd_rI rfl dX1_allWorth_30)
def bX1_allWorth_15 (K4 : Kt Int32) : Kt Int32 := o_ild 1 <| o_ald 0 <| o_ild 2 <| o_vc ev_i 1 2 fX1_worthOf <| o_i2 o_add <| o_ist 1 <| o_inc 2 1 <| K4
set_option maxRecDepth 100000 in
theorem sX1_allWorth_15 {K4 : Kt Int32} (h4 : Sd pX1_allWorth ev_i 4 K4) : Sd pX1_allWorth ev_i 15 (bX1_allWorth_15 K4) := sd_iload_n dX1_allWorth_15 rfl <| sd_aload_n dX1_allWorth_16 rfl <| sd_iload_n dX1_allWorth_17 rfl <| sd_vc tX1_worthOf (fun _ _ => rfl) rfl mwX1_worthOf mvX1_worthOf tw_109 (by decide) dX1_allWorth_18 <| sd_iadd dX1_allWorth_21 <| sd_istore_n dX1_allWorth_22 rfl (by decide) <| sd_iinc dX1_allWorth_23 rfl (by decide) <| (sd_goto (tgt := 4) dX1_allWorth_26 (by decide) h4)
def bX1_allWorth_4 (K4 : Kt Int32) : Kt Int32 := o_ild 2 <| o_ald 0 <| o_gR 1 2 <| o_gI 5 3 <| o_cge (o_fg 0 (o_fg 2 bX1_allWorth_29)) <| (bX1_allWorth_15 K4)
set_option maxRecDepth 100000 in
theorem sX1_allWorth_4 {K4 : Kt Int32} (h4 : Sd pX1_allWorth ev_i 4 K4) : Sd pX1_allWorth ev_i 4 (bX1_allWorth_4 K4) := sd_iload_n dX1_allWorth_4 rfl <| sd_aload_n dX1_allWorth_5 rfl <| sd_gR flX1_23 dX1_allWorth_6 <| sd_gI flX1_39 dX1_allWorth_9 <| sd_cge (tgt := 29) dX1_allWorth_12 (by decide) (sd_fg (i := 0) (sd_fg (i := 2) sX1_allWorth_29)) <| (sX1_allWorth_15 h4)
def bX1_allWorth_0 : Kt Int32 := o_psh (.int 0) <| o_ist 1 <| o_psh (.int 0) <| o_ist 2 <| (o_lp (bX1_allWorth_4) fu)
set_option maxRecDepth 100000 in
theorem sX1_allWorth_0 : Sd pX1_allWorth ev_i 0 (bX1_allWorth_0) := sd_iconst dX1_allWorth_0 rfl <| sd_istore_n dX1_allWorth_1 rfl (by decide) <| sd_iconst dX1_allWorth_2 rfl <| sd_istore_n dX1_allWorth_3 rfl (by decide) <| (sd_lp (fun K h => sX1_allWorth_4 h) fu)
def fX1_allWorth : Mt Int32 := mk_f 3 bX1_allWorth_0
theorem tX1_allWorth : Ct ev_i yX1_allWorth cX1_allWorth 3 (some .int) 2 44 fX1_allWorth := ct_of (by decide +kernel) sX1_allWorth_0
abbrev pX1_hoursHeld : Px := (cX1_hoursHeld, 3, RX1, "hoursHeld", (some .int), 0, 0, fun _ => True)
def bX1_hoursHeld_37 : Kt Int32 := o_ild 1 <| o_rI
set_option maxRecDepth 100000 in
theorem sX1_hoursHeld_37 : Sd pX1_hoursHeld ev_i 37 (bX1_hoursHeld_37) := sd_iload_n dX1_hoursHeld_37 rfl <| (sd_rI rfl dX1_hoursHeld_38)
def bX1_hoursHeld_29 (K4 : Kt Int32) : Kt Int32 := o_i2 o_or <| o_ist 1 <| o_inc 2 1 <| K4
set_option maxRecDepth 100000 in
theorem sX1_hoursHeld_29 {K4 : Kt Int32} (h4 : Sd pX1_hoursHeld ev_i 4 K4) : Sd pX1_hoursHeld ev_i 29 (bX1_hoursHeld_29 K4) := sd_ior dX1_hoursHeld_29 <| sd_istore_n dX1_hoursHeld_30 rfl (by decide) <| sd_iinc dX1_hoursHeld_31 rfl (by decide) <| (sd_goto (tgt := 4) dX1_hoursHeld_34 (by decide) h4)
def bX1_hoursHeld_28 (K4 : Kt Int32) : Kt Int32 := o_psh (.int 0) <| (bX1_hoursHeld_29 K4)
set_option maxRecDepth 100000 in
theorem sX1_hoursHeld_28 {K4 : Kt Int32} (h4 : Sd pX1_hoursHeld ev_i 4 K4) : Sd pX1_hoursHeld ev_i 28 (bX1_hoursHeld_28 K4) := sd_iconst dX1_hoursHeld_28 rfl <| (sX1_hoursHeld_29 h4)
def bX1_hoursHeld_22 (K4 : Kt Int32) : Kt Int32 := o_psh (.int 1) <| o_ild 2 <| o_i2 o_shl <| (bX1_hoursHeld_29 K4)
set_option maxRecDepth 100000 in
theorem sX1_hoursHeld_22 {K4 : Kt Int32} (h4 : Sd pX1_hoursHeld ev_i 4 K4) : Sd pX1_hoursHeld ev_i 22 (bX1_hoursHeld_22 K4) := sd_iconst dX1_hoursHeld_22 rfl <| sd_iload_n dX1_hoursHeld_23 rfl <| sd_ishl dX1_hoursHeld_24 <| (sd_goto (tgt := 29) dX1_hoursHeld_25 (by decide) (sX1_hoursHeld_29 h4))
def bX1_hoursHeld_10 (K4 : Kt Int32) : Kt Int32 := o_ild 1 <| o_ald 0 <| o_gR 1 5 <| o_ild 2 <| o_aI <| o_psh (.int (-4)) <| o_ceq (o_fg 1 (bX1_hoursHeld_28 K4)) <| (o_fg 1 (bX1_hoursHeld_22 K4))
set_option maxRecDepth 100000 in
theorem sX1_hoursHeld_10 {K4 : Kt Int32} (h4 : Sd pX1_hoursHeld ev_i 4 K4) : Sd pX1_hoursHeld ev_i 10 (bX1_hoursHeld_10 K4) := sd_iload_n dX1_hoursHeld_10 rfl <| sd_aload_n dX1_hoursHeld_11 rfl <| sd_gR flX1_33 dX1_hoursHeld_12 <| sd_iload_n dX1_hoursHeld_15 rfl <| sd_aI dX1_hoursHeld_16 <| sd_bipush dX1_hoursHeld_17 rfl <| sd_ceq (tgt := 28) dX1_hoursHeld_19 (by decide) (sd_fg (i := 1) (sX1_hoursHeld_28 h4)) <| (sd_fg (i := 1) (sX1_hoursHeld_22 h4))
def bX1_hoursHeld_4 (K4 : Kt Int32) : Kt Int32 := o_ild 2 <| o_psh (.int 10) <| o_cge (o_fg 0 (o_fg 2 bX1_hoursHeld_37)) <| (bX1_hoursHeld_10 K4)
set_option maxRecDepth 100000 in
theorem sX1_hoursHeld_4 {K4 : Kt Int32} (h4 : Sd pX1_hoursHeld ev_i 4 K4) : Sd pX1_hoursHeld ev_i 4 (bX1_hoursHeld_4 K4) := sd_iload_n dX1_hoursHeld_4 rfl <| sd_bipush dX1_hoursHeld_5 rfl <| sd_cge (tgt := 37) dX1_hoursHeld_7 (by decide) (sd_fg (i := 0) (sd_fg (i := 2) sX1_hoursHeld_37)) <| (sX1_hoursHeld_10 h4)
def bX1_hoursHeld_0 : Kt Int32 := o_psh (.int 0) <| o_ist 1 <| o_psh (.int 0) <| o_ist 2 <| (o_lp (bX1_hoursHeld_4) fu)
set_option maxRecDepth 100000 in
theorem sX1_hoursHeld_0 : Sd pX1_hoursHeld ev_i 0 (bX1_hoursHeld_0) := sd_iconst dX1_hoursHeld_0 rfl <| sd_istore_n dX1_hoursHeld_1 rfl (by decide) <| sd_iconst dX1_hoursHeld_2 rfl <| sd_istore_n dX1_hoursHeld_3 rfl (by decide) <| (sd_lp (fun K h => sX1_hoursHeld_4 h) fu)
def fX1_hoursHeld : Mt Int32 := mk_f 3 bX1_hoursHeld_0
theorem tX1_hoursHeld : Ct ev_i yX1_hoursHeld cX1_hoursHeld 3 (some .int) 0 0 fX1_hoursHeld := ct_of (by decide +kernel) sX1_hoursHeld_0
abbrev pX1_hoursHeldBy : Px := (cX1_hoursHeldBy, 4, RX1, "hoursHeldBy", (some .int), 0, 0, fun _ => True)
def bX1_hoursHeldBy_36 : Kt Int32 := o_ild 2 <| o_rI
set_option maxRecDepth 100000 in
theorem sX1_hoursHeldBy_36 : Sd pX1_hoursHeldBy ev_i 36 (bX1_hoursHeldBy_36) := sd_iload_n dX1_hoursHeldBy_36 rfl <| (sd_rI rfl dX1_hoursHeldBy_37)
def bX1_hoursHeldBy_28 (K4 : Kt Int32) : Kt Int32 := o_i2 o_or <| o_ist 2 <| o_inc 3 1 <| K4
set_option maxRecDepth 100000 in
theorem sX1_hoursHeldBy_28 {K4 : Kt Int32} (h4 : Sd pX1_hoursHeldBy ev_i 4 K4) : Sd pX1_hoursHeldBy ev_i 28 (bX1_hoursHeldBy_28 K4) := sd_ior dX1_hoursHeldBy_28 <| sd_istore_n dX1_hoursHeldBy_29 rfl (by decide) <| sd_iinc dX1_hoursHeldBy_30 rfl (by decide) <| (sd_goto (tgt := 4) dX1_hoursHeldBy_33 (by decide) h4)
def bX1_hoursHeldBy_27 (K4 : Kt Int32) : Kt Int32 := o_psh (.int 0) <| (bX1_hoursHeldBy_28 K4)
set_option maxRecDepth 100000 in
theorem sX1_hoursHeldBy_27 {K4 : Kt Int32} (h4 : Sd pX1_hoursHeldBy ev_i 4 K4) : Sd pX1_hoursHeldBy ev_i 27 (bX1_hoursHeldBy_27 K4) := sd_iconst dX1_hoursHeldBy_27 rfl <| (sX1_hoursHeldBy_28 h4)
def bX1_hoursHeldBy_21 (K4 : Kt Int32) : Kt Int32 := o_psh (.int 1) <| o_ild 3 <| o_i2 o_shl <| (bX1_hoursHeldBy_28 K4)
set_option maxRecDepth 100000 in
theorem sX1_hoursHeldBy_21 {K4 : Kt Int32} (h4 : Sd pX1_hoursHeldBy ev_i 4 K4) : Sd pX1_hoursHeldBy ev_i 21 (bX1_hoursHeldBy_21 K4) := sd_iconst dX1_hoursHeldBy_21 rfl <| sd_iload_n dX1_hoursHeldBy_22 rfl <| sd_ishl dX1_hoursHeldBy_23 <| (sd_goto (tgt := 28) dX1_hoursHeldBy_24 (by decide) (sX1_hoursHeldBy_28 h4))
def bX1_hoursHeldBy_10 (K4 : Kt Int32) : Kt Int32 := o_ild 2 <| o_ald 0 <| o_gR 1 5 <| o_ild 3 <| o_aI <| o_ild 1 <| o_cne (o_fg 2 (bX1_hoursHeldBy_27 K4)) <| (o_fg 2 (bX1_hoursHeldBy_21 K4))
set_option maxRecDepth 100000 in
theorem sX1_hoursHeldBy_10 {K4 : Kt Int32} (h4 : Sd pX1_hoursHeldBy ev_i 4 K4) : Sd pX1_hoursHeldBy ev_i 10 (bX1_hoursHeldBy_10 K4) := sd_iload_n dX1_hoursHeldBy_10 rfl <| sd_aload_n dX1_hoursHeldBy_11 rfl <| sd_gR flX1_33 dX1_hoursHeldBy_12 <| sd_iload_n dX1_hoursHeldBy_15 rfl <| sd_aI dX1_hoursHeldBy_16 <| sd_iload_n dX1_hoursHeldBy_17 rfl <| sd_cne (tgt := 27) dX1_hoursHeldBy_18 (by decide) (sd_fg (i := 2) (sX1_hoursHeldBy_27 h4)) <| (sd_fg (i := 2) (sX1_hoursHeldBy_21 h4))
def bX1_hoursHeldBy_4 (K4 : Kt Int32) : Kt Int32 := o_ild 3 <| o_psh (.int 10) <| o_cge (o_fg 0 (o_fg 1 (o_fg 3 bX1_hoursHeldBy_36))) <| (bX1_hoursHeldBy_10 K4)
set_option maxRecDepth 100000 in
theorem sX1_hoursHeldBy_4 {K4 : Kt Int32} (h4 : Sd pX1_hoursHeldBy ev_i 4 K4) : Sd pX1_hoursHeldBy ev_i 4 (bX1_hoursHeldBy_4 K4) := sd_iload_n dX1_hoursHeldBy_4 rfl <| sd_bipush dX1_hoursHeldBy_5 rfl <| sd_cge (tgt := 36) dX1_hoursHeldBy_7 (by decide) (sd_fg (i := 0) (sd_fg (i := 1) (sd_fg (i := 3) sX1_hoursHeldBy_36))) <| (sX1_hoursHeldBy_10 h4)
def bX1_hoursHeldBy_0 : Kt Int32 := o_psh (.int 0) <| o_ist 2 <| o_psh (.int 0) <| o_ist 3 <| (o_lp (bX1_hoursHeldBy_4) fu)
set_option maxRecDepth 100000 in
theorem sX1_hoursHeldBy_0 : Sd pX1_hoursHeldBy ev_i 0 (bX1_hoursHeldBy_0) := sd_iconst dX1_hoursHeldBy_0 rfl <| sd_istore_n dX1_hoursHeldBy_1 rfl (by decide) <| sd_iconst dX1_hoursHeldBy_2 rfl <| sd_istore_n dX1_hoursHeldBy_3 rfl (by decide) <| (sd_lp (fun K h => sX1_hoursHeldBy_4 h) fu)
def fX1_hoursHeldBy : Mt Int32 := mk_f 4 bX1_hoursHeldBy_0
theorem tX1_hoursHeldBy : Ct ev_i yX1_hoursHeldBy cX1_hoursHeldBy 4 (some .int) 0 0 fX1_hoursHeldBy := ct_of (by decide +kernel) sX1_hoursHeldBy_0
abbrev pX1_valueBehind : Px := (cX1_valueBehind, 7, RX1, "valueBehind", (some .int), 1, 23, fun _ => True)
def bX1_valueBehind_98 : Kt Int32 := o_ild 3 <| o_rI
set_option maxRecDepth 100000 in
theorem sX1_valueBehind_98 : Sd pX1_valueBehind ev_i 98 (bX1_valueBehind_98) := sd_iload_n dX1_valueBehind_98 rfl <| (sd_rI rfl dX1_valueBehind_99)
def bX1_valueBehind_92 (K26 : Kt Int32) : Kt Int32 := o_inc 5 1 <| K26
set_option maxRecDepth 100000 in
theorem sX1_valueBehind_92 {K26 : Kt Int32} (h26 : Sd pX1_valueBehind ev_i 26 K26) : Sd pX1_valueBehind ev_i 92 (bX1_valueBehind_92 K26) := sd_iinc dX1_valueBehind_92 rfl (by decide) <| (sd_goto (tgt := 26) dX1_valueBehind_95 (by decide) h26)
def bX1_valueBehind_77 (K26 : Kt Int32) : Kt Int32 := o_ild 6 <| o_ist 4 <| o_ald 0 <| o_gR 1 1 <| o_ild 5 <| o_psh (.int 2) <| o_vc ev_i 5 3 fX6_at <| o_ist 3 <| (o_fg 6 (bX1_valueBehind_92 K26))
set_option maxRecDepth 100000 in
theorem sX1_valueBehind_77 {K26 : Kt Int32} (h26 : Sd pX1_valueBehind ev_i 26 K26) : Sd pX1_valueBehind ev_i 77 (bX1_valueBehind_77 K26) := sd_iload dX1_valueBehind_77 <| sd_istore dX1_valueBehind_79 (by decide) <| sd_aload_n dX1_valueBehind_81 rfl <| sd_gR flX1_20 dX1_valueBehind_82 <| sd_iload dX1_valueBehind_85 <| sd_iconst dX1_valueBehind_87 rfl <| sd_vc tX6_at (fun _ _ => rfl) rfl mwX6_at mvX6_at tw_100 (by decide) dX1_valueBehind_88 <| sd_istore_n dX1_valueBehind_91 rfl (by decide) <| (sd_fg (i := 6) (sX1_valueBehind_92 h26))
def bX1_valueBehind_70 (K26 : Kt Int32) : Kt Int32 := o_ild 6 <| o_ild 4 <| o_clt (o_fg 6 (bX1_valueBehind_92 K26)) <| (o_fg 3 (o_fg 4 (bX1_valueBehind_77 K26)))
set_option maxRecDepth 100000 in
theorem sX1_valueBehind_70 {K26 : Kt Int32} (h26 : Sd pX1_valueBehind ev_i 26 K26) : Sd pX1_valueBehind ev_i 70 (bX1_valueBehind_70 K26) := sd_iload dX1_valueBehind_70 <| sd_iload dX1_valueBehind_72 <| sd_clt (tgt := 92) dX1_valueBehind_74 (by decide) (sd_fg (i := 6) (sX1_valueBehind_92 h26)) <| (sd_fg (i := 3) (sd_fg (i := 4) (sX1_valueBehind_77 h26)))
def bX1_valueBehind_64 (K26 : Kt Int32) : Kt Int32 := o_ild 6 <| o_ild 2 <| o_cgt (o_fg 6 (bX1_valueBehind_92 K26)) <| (bX1_valueBehind_70 K26)
set_option maxRecDepth 100000 in
theorem sX1_valueBehind_64 {K26 : Kt Int32} (h26 : Sd pX1_valueBehind ev_i 26 K26) : Sd pX1_valueBehind ev_i 64 (bX1_valueBehind_64 K26) := sd_iload dX1_valueBehind_64 <| sd_iload_n dX1_valueBehind_66 rfl <| sd_cgt (tgt := 92) dX1_valueBehind_67 (by decide) (sd_fg (i := 6) (sX1_valueBehind_92 h26)) <| (sX1_valueBehind_70 h26)
def bX1_valueBehind_38 (K26 : Kt Int32) : Kt Int32 := o_ald 0 <| o_gR 1 1 <| o_ild 5 <| o_psh (.int 0) <| o_vc ev_i 5 3 fX6_at <| o_ist 6 <| o_ald 0 <| o_gR 1 1 <| o_ild 5 <| o_psh (.int 1) <| o_vc ev_i 5 3 fX6_at <| o_ild 1 <| o_cne (o_fg 6 (bX1_valueBehind_92 K26)) <| (bX1_valueBehind_64 K26)
set_option maxRecDepth 100000 in
theorem sX1_valueBehind_38 {K26 : Kt Int32} (h26 : Sd pX1_valueBehind ev_i 26 K26) : Sd pX1_valueBehind ev_i 38 (bX1_valueBehind_38 K26) := sd_aload_n dX1_valueBehind_38 rfl <| sd_gR flX1_20 dX1_valueBehind_39 <| sd_iload dX1_valueBehind_42 <| sd_iconst dX1_valueBehind_44 rfl <| sd_vc tX6_at (fun _ _ => rfl) rfl mwX6_at mvX6_at tw_100 (by decide) dX1_valueBehind_45 <| sd_istore dX1_valueBehind_48 (by decide) <| sd_aload_n dX1_valueBehind_50 rfl <| sd_gR flX1_20 dX1_valueBehind_51 <| sd_iload dX1_valueBehind_54 <| sd_iconst dX1_valueBehind_56 rfl <| sd_vc tX6_at (fun _ _ => rfl) rfl mwX6_at mvX6_at tw_100 (by decide) dX1_valueBehind_57 <| sd_iload_n dX1_valueBehind_60 rfl <| sd_cne (tgt := 92) dX1_valueBehind_61 (by decide) (sd_fg (i := 6) (sX1_valueBehind_92 h26)) <| (sX1_valueBehind_64 h26)
def bX1_valueBehind_26 (K26 : Kt Int32) : Kt Int32 := o_ild 5 <| o_ald 0 <| o_gR 1 1 <| o_gI 5 3 <| o_cge (o_fg 0 (o_fg 1 (o_fg 2 (o_fg 4 (o_fg 5 bX1_valueBehind_98))))) <| (bX1_valueBehind_38 K26)
set_option maxRecDepth 100000 in
theorem sX1_valueBehind_26 {K26 : Kt Int32} (h26 : Sd pX1_valueBehind ev_i 26 K26) : Sd pX1_valueBehind ev_i 26 (bX1_valueBehind_26 K26) := sd_iload dX1_valueBehind_26 <| sd_aload_n dX1_valueBehind_28 rfl <| sd_gR flX1_20 dX1_valueBehind_29 <| sd_gI flX1_39 dX1_valueBehind_32 <| sd_cge (tgt := 98) dX1_valueBehind_35 (by decide) (sd_fg (i := 0) (sd_fg (i := 1) (sd_fg (i := 2) (sd_fg (i := 4) (sd_fg (i := 5) sX1_valueBehind_98))))) <| (sX1_valueBehind_38 h26)
def bX1_valueBehind_19 : Kt Int32 := o_ist 3 <| o_psh (.int 0) <| o_ist 4 <| o_psh (.int 0) <| o_ist 5 <| (o_lp (bX1_valueBehind_26) fu)
set_option maxRecDepth 100000 in
theorem sX1_valueBehind_19 : Sd pX1_valueBehind ev_i 19 (bX1_valueBehind_19) := sd_istore_n dX1_valueBehind_19 rfl (by decide) <| sd_iconst dX1_valueBehind_20 rfl <| sd_istore dX1_valueBehind_21 (by decide) <| sd_iconst dX1_valueBehind_23 rfl <| sd_istore dX1_valueBehind_24 (by decide) <| (sd_lp (fun K h => sX1_valueBehind_26 h) fu)
def bX1_valueBehind_18 : Kt Int32 := o_psh (.int (-1)) <| bX1_valueBehind_19
set_option maxRecDepth 100000 in
theorem sX1_valueBehind_18 : Sd pX1_valueBehind ev_i 18 (bX1_valueBehind_18) := sd_iconst dX1_valueBehind_18 rfl <| sX1_valueBehind_19
def bX1_valueBehind_9 : Kt Int32 := o_ald 0 <| o_gR 1 4 <| o_ild 1 <| o_aI <| bX1_valueBehind_19
set_option maxRecDepth 100000 in
theorem sX1_valueBehind_9 : Sd pX1_valueBehind ev_i 9 (bX1_valueBehind_9) := sd_aload_n dX1_valueBehind_9 rfl <| sd_gR flX1_29 dX1_valueBehind_10 <| sd_iload_n dX1_valueBehind_13 rfl <| sd_aI dX1_valueBehind_14 <| (sd_goto (tgt := 19) dX1_valueBehind_15 (by decide) sX1_valueBehind_19)
def bX1_valueBehind_4 : Kt Int32 := o_ild 1 <| o_psh (.int 3) <| o_cge bX1_valueBehind_18 <| bX1_valueBehind_9
set_option maxRecDepth 100000 in
theorem sX1_valueBehind_4 : Sd pX1_valueBehind ev_i 4 (bX1_valueBehind_4) := sd_iload_n dX1_valueBehind_4 rfl <| sd_iconst dX1_valueBehind_5 rfl <| sd_cge (tgt := 18) dX1_valueBehind_6 (by decide) sX1_valueBehind_18 <| sX1_valueBehind_9
def bX1_valueBehind_0 : Kt Int32 := o_ild 1 <| o_zlt bX1_valueBehind_18 <| bX1_valueBehind_4
set_option maxRecDepth 100000 in
theorem sX1_valueBehind_0 : Sd pX1_valueBehind ev_i 0 (bX1_valueBehind_0) := sd_iload_n dX1_valueBehind_0 rfl <| sd_zlt (tgt := 18) dX1_valueBehind_1 (by decide) sX1_valueBehind_18 <| sX1_valueBehind_4
def fX1_valueBehind : Mt Int32 := mk_f 7 bX1_valueBehind_0
theorem tX1_valueBehind : Ct ev_i yX1_valueBehind cX1_valueBehind 7 (some .int) 1 23 fX1_valueBehind := ct_of (by decide +kernel) sX1_valueBehind_0
abbrev pX1_namesOnlyKin : Px := (cX1_namesOnlyKin, 2, RX1, "namesOnlyKin", (some .boolean), 2, 42, fun _ => True)
def bX1_namesOnlyKin_130 : Kt Int32 := o_psh (.int 1) <| o_rZ
set_option maxRecDepth 100000 in
theorem sX1_namesOnlyKin_130 : Sd pX1_namesOnlyKin ev_i 130 (bX1_namesOnlyKin_130) := sd_iconst dX1_namesOnlyKin_130 rfl <| (sd_rZ rfl dX1_namesOnlyKin_131)
def bX1_namesOnlyKin_124 (K79 : Kt Int32) : Kt Int32 := o_inc 1 1 <| K79
set_option maxRecDepth 100000 in
theorem sX1_namesOnlyKin_124 {K79 : Kt Int32} (h79 : Sd pX1_namesOnlyKin ev_i 79 K79) : Sd pX1_namesOnlyKin ev_i 124 (bX1_namesOnlyKin_124 K79) := sd_iinc dX1_namesOnlyKin_124 rfl (by decide) <| (sd_goto (tgt := 79) dX1_namesOnlyKin_127 (by decide) h79)
def bX1_namesOnlyKin_122 (K79 : Kt Int32) : Kt Int32 := o_psh (.int 0) <| o_rZ
set_option maxRecDepth 100000 in
theorem sX1_namesOnlyKin_122 {K79 : Kt Int32} (h79 : Sd pX1_namesOnlyKin ev_i 79 K79) : Sd pX1_namesOnlyKin ev_i 122 (bX1_namesOnlyKin_122 K79) := sd_iconst dX1_namesOnlyKin_122 rfl <| (sd_rZ rfl dX1_namesOnlyKin_123)
def bX1_namesOnlyKin_106 (K79 : Kt Int32) : Kt Int32 := o_ald 0 <| o_ald 0 <| o_gR 1 3 <| o_ild 1 <| o_psh (.int 2) <| o_vc ev_i 5 3 fX6_at <| o_vc ev_i 1 2 fX1_isOne <| o_zne (bX1_namesOnlyKin_124 K79) <| (o_fg 0 (o_fg 1 (bX1_namesOnlyKin_122 K79)))
set_option maxRecDepth 100000 in
theorem sX1_namesOnlyKin_106 {K79 : Kt Int32} (h79 : Sd pX1_namesOnlyKin ev_i 79 K79) : Sd pX1_namesOnlyKin ev_i 106 (bX1_namesOnlyKin_106 K79) := sd_aload_n dX1_namesOnlyKin_106 rfl <| sd_aload_n dX1_namesOnlyKin_107 rfl <| sd_gR flX1_26 dX1_namesOnlyKin_108 <| sd_iload_n dX1_namesOnlyKin_111 rfl <| sd_iconst dX1_namesOnlyKin_112 rfl <| sd_vc tX6_at (fun _ _ => rfl) rfl mwX6_at mvX6_at tw_100 (by decide) dX1_namesOnlyKin_113 <| sd_vc tX1_isOne (fun _ _ => rfl) rfl mwX1_isOne mvX1_isOne tw_113 (by decide) dX1_namesOnlyKin_116 <| sd_zne (tgt := 124) dX1_namesOnlyKin_119 (by decide) (sX1_namesOnlyKin_124 h79) <| (sd_fg (i := 0) (sd_fg (i := 1) (sX1_namesOnlyKin_122 h79)))
def bX1_namesOnlyKin_90 (K79 : Kt Int32) : Kt Int32 := o_ald 0 <| o_ald 0 <| o_gR 1 3 <| o_ild 1 <| o_psh (.int 1) <| o_vc ev_i 5 3 fX6_at <| o_vc ev_i 1 2 fX1_isOne <| o_zeq (o_fg 0 (o_fg 1 (bX1_namesOnlyKin_122 K79))) <| (bX1_namesOnlyKin_106 K79)
set_option maxRecDepth 100000 in
theorem sX1_namesOnlyKin_90 {K79 : Kt Int32} (h79 : Sd pX1_namesOnlyKin ev_i 79 K79) : Sd pX1_namesOnlyKin ev_i 90 (bX1_namesOnlyKin_90 K79) := sd_aload_n dX1_namesOnlyKin_90 rfl <| sd_aload_n dX1_namesOnlyKin_91 rfl <| sd_gR flX1_26 dX1_namesOnlyKin_92 <| sd_iload_n dX1_namesOnlyKin_95 rfl <| sd_iconst dX1_namesOnlyKin_96 rfl <| sd_vc tX6_at (fun _ _ => rfl) rfl mwX6_at mvX6_at tw_100 (by decide) dX1_namesOnlyKin_97 <| sd_vc tX1_isOne (fun _ _ => rfl) rfl mwX1_isOne mvX1_isOne tw_113 (by decide) dX1_namesOnlyKin_100 <| sd_zeq (tgt := 122) dX1_namesOnlyKin_103 (by decide) (sd_fg (i := 0) (sd_fg (i := 1) (sX1_namesOnlyKin_122 h79))) <| (sX1_namesOnlyKin_106 h79)
def bX1_namesOnlyKin_79 (K79 : Kt Int32) : Kt Int32 := o_ild 1 <| o_ald 0 <| o_gR 1 3 <| o_gI 5 3 <| o_cge (o_fg 0 (o_fg 1 bX1_namesOnlyKin_130)) <| (bX1_namesOnlyKin_90 K79)
set_option maxRecDepth 100000 in
theorem sX1_namesOnlyKin_79 {K79 : Kt Int32} (h79 : Sd pX1_namesOnlyKin ev_i 79 K79) : Sd pX1_namesOnlyKin ev_i 79 (bX1_namesOnlyKin_79 K79) := sd_iload_n dX1_namesOnlyKin_79 rfl <| sd_aload_n dX1_namesOnlyKin_80 rfl <| sd_gR flX1_26 dX1_namesOnlyKin_81 <| sd_gI flX1_39 dX1_namesOnlyKin_84 <| sd_cge (tgt := 130) dX1_namesOnlyKin_87 (by decide) (sd_fg (i := 0) (sd_fg (i := 1) sX1_namesOnlyKin_130)) <| (sX1_namesOnlyKin_90 h79)
def bX1_namesOnlyKin_77 : Kt Int32 := o_psh (.int 0) <| o_ist 1 <| (o_lp (bX1_namesOnlyKin_79) fu)
set_option maxRecDepth 100000 in
theorem sX1_namesOnlyKin_77 : Sd pX1_namesOnlyKin ev_i 77 (bX1_namesOnlyKin_77) := sd_iconst dX1_namesOnlyKin_77 rfl <| sd_istore_n dX1_namesOnlyKin_78 rfl (by decide) <| (sd_lp (fun K h => sX1_namesOnlyKin_79 h) fu)
def bX1_namesOnlyKin_71 (K42 : Kt Int32) : Kt Int32 := o_inc 1 1 <| K42
set_option maxRecDepth 100000 in
theorem sX1_namesOnlyKin_71 {K42 : Kt Int32} (h42 : Sd pX1_namesOnlyKin ev_i 42 K42) : Sd pX1_namesOnlyKin ev_i 71 (bX1_namesOnlyKin_71 K42) := sd_iinc dX1_namesOnlyKin_71 rfl (by decide) <| (sd_goto (tgt := 42) dX1_namesOnlyKin_74 (by decide) h42)
def bX1_namesOnlyKin_69 (K42 : Kt Int32) : Kt Int32 := o_psh (.int 0) <| o_rZ
set_option maxRecDepth 100000 in
theorem sX1_namesOnlyKin_69 {K42 : Kt Int32} (h42 : Sd pX1_namesOnlyKin ev_i 42 K42) : Sd pX1_namesOnlyKin ev_i 69 (bX1_namesOnlyKin_69 K42) := sd_iconst dX1_namesOnlyKin_69 rfl <| (sd_rZ rfl dX1_namesOnlyKin_70)
def bX1_namesOnlyKin_53 (K42 : Kt Int32) : Kt Int32 := o_ald 0 <| o_ald 0 <| o_gR 1 2 <| o_ild 1 <| o_psh (.int 0) <| o_vc ev_i 5 3 fX6_at <| o_vc ev_i 1 2 fX1_isOne <| o_zne (bX1_namesOnlyKin_71 K42) <| (o_fg 0 (o_fg 1 (bX1_namesOnlyKin_69 K42)))
set_option maxRecDepth 100000 in
theorem sX1_namesOnlyKin_53 {K42 : Kt Int32} (h42 : Sd pX1_namesOnlyKin ev_i 42 K42) : Sd pX1_namesOnlyKin ev_i 53 (bX1_namesOnlyKin_53 K42) := sd_aload_n dX1_namesOnlyKin_53 rfl <| sd_aload_n dX1_namesOnlyKin_54 rfl <| sd_gR flX1_23 dX1_namesOnlyKin_55 <| sd_iload_n dX1_namesOnlyKin_58 rfl <| sd_iconst dX1_namesOnlyKin_59 rfl <| sd_vc tX6_at (fun _ _ => rfl) rfl mwX6_at mvX6_at tw_100 (by decide) dX1_namesOnlyKin_60 <| sd_vc tX1_isOne (fun _ _ => rfl) rfl mwX1_isOne mvX1_isOne tw_113 (by decide) dX1_namesOnlyKin_63 <| sd_zne (tgt := 71) dX1_namesOnlyKin_66 (by decide) (sX1_namesOnlyKin_71 h42) <| (sd_fg (i := 0) (sd_fg (i := 1) (sX1_namesOnlyKin_69 h42)))
def bX1_namesOnlyKin_42 (K42 : Kt Int32) : Kt Int32 := o_ild 1 <| o_ald 0 <| o_gR 1 2 <| o_gI 5 3 <| o_cge (o_fg 1 bX1_namesOnlyKin_77) <| (bX1_namesOnlyKin_53 K42)
set_option maxRecDepth 100000 in
theorem sX1_namesOnlyKin_42 {K42 : Kt Int32} (h42 : Sd pX1_namesOnlyKin ev_i 42 K42) : Sd pX1_namesOnlyKin ev_i 42 (bX1_namesOnlyKin_42 K42) := sd_iload_n dX1_namesOnlyKin_42 rfl <| sd_aload_n dX1_namesOnlyKin_43 rfl <| sd_gR flX1_23 dX1_namesOnlyKin_44 <| sd_gI flX1_39 dX1_namesOnlyKin_47 <| sd_cge (tgt := 77) dX1_namesOnlyKin_50 (by decide) (sd_fg (i := 1) sX1_namesOnlyKin_77) <| (sX1_namesOnlyKin_53 h42)
def bX1_namesOnlyKin_40 : Kt Int32 := o_psh (.int 0) <| o_ist 1 <| (o_lp (bX1_namesOnlyKin_42) fu)
set_option maxRecDepth 100000 in
theorem sX1_namesOnlyKin_40 : Sd pX1_namesOnlyKin ev_i 40 (bX1_namesOnlyKin_40) := sd_iconst dX1_namesOnlyKin_40 rfl <| sd_istore_n dX1_namesOnlyKin_41 rfl (by decide) <| (sd_lp (fun K h => sX1_namesOnlyKin_42 h) fu)
def bX1_namesOnlyKin_34 (K2 : Kt Int32) : Kt Int32 := o_inc 1 1 <| K2
set_option maxRecDepth 100000 in
theorem sX1_namesOnlyKin_34 {K2 : Kt Int32} (h2 : Sd pX1_namesOnlyKin ev_i 2 K2) : Sd pX1_namesOnlyKin ev_i 34 (bX1_namesOnlyKin_34 K2) := sd_iinc dX1_namesOnlyKin_34 rfl (by decide) <| (sd_goto (tgt := 2) dX1_namesOnlyKin_37 (by decide) h2)
def bX1_namesOnlyKin_32 (K2 : Kt Int32) : Kt Int32 := o_psh (.int 0) <| o_rZ
set_option maxRecDepth 100000 in
theorem sX1_namesOnlyKin_32 {K2 : Kt Int32} (h2 : Sd pX1_namesOnlyKin ev_i 2 K2) : Sd pX1_namesOnlyKin ev_i 32 (bX1_namesOnlyKin_32 K2) := sd_iconst dX1_namesOnlyKin_32 rfl <| (sd_rZ rfl dX1_namesOnlyKin_33)
def bX1_namesOnlyKin_19 (K2 : Kt Int32) : Kt Int32 := o_ald 0 <| o_ald 0 <| o_gR 1 5 <| o_ild 1 <| o_aI <| o_vc ev_i 1 2 fX1_isOne <| o_zne (bX1_namesOnlyKin_34 K2) <| (o_fg 0 (o_fg 1 (bX1_namesOnlyKin_32 K2)))
set_option maxRecDepth 100000 in
theorem sX1_namesOnlyKin_19 {K2 : Kt Int32} (h2 : Sd pX1_namesOnlyKin ev_i 2 K2) : Sd pX1_namesOnlyKin ev_i 19 (bX1_namesOnlyKin_19 K2) := sd_aload_n dX1_namesOnlyKin_19 rfl <| sd_aload_n dX1_namesOnlyKin_20 rfl <| sd_gR flX1_33 dX1_namesOnlyKin_21 <| sd_iload_n dX1_namesOnlyKin_24 rfl <| sd_aI dX1_namesOnlyKin_25 <| sd_vc tX1_isOne (fun _ _ => rfl) rfl mwX1_isOne mvX1_isOne tw_113 (by decide) dX1_namesOnlyKin_26 <| sd_zne (tgt := 34) dX1_namesOnlyKin_29 (by decide) (sX1_namesOnlyKin_34 h2) <| (sd_fg (i := 0) (sd_fg (i := 1) (sX1_namesOnlyKin_32 h2)))
def bX1_namesOnlyKin_8 (K2 : Kt Int32) : Kt Int32 := o_ald 0 <| o_gR 1 5 <| o_ild 1 <| o_aI <| o_psh (.int (-4)) <| o_ceq (bX1_namesOnlyKin_34 K2) <| (bX1_namesOnlyKin_19 K2)
set_option maxRecDepth 100000 in
theorem sX1_namesOnlyKin_8 {K2 : Kt Int32} (h2 : Sd pX1_namesOnlyKin ev_i 2 K2) : Sd pX1_namesOnlyKin ev_i 8 (bX1_namesOnlyKin_8 K2) := sd_aload_n dX1_namesOnlyKin_8 rfl <| sd_gR flX1_33 dX1_namesOnlyKin_9 <| sd_iload_n dX1_namesOnlyKin_12 rfl <| sd_aI dX1_namesOnlyKin_13 <| sd_bipush dX1_namesOnlyKin_14 rfl <| sd_ceq (tgt := 34) dX1_namesOnlyKin_16 (by decide) (sX1_namesOnlyKin_34 h2) <| (sX1_namesOnlyKin_19 h2)
def bX1_namesOnlyKin_2 (K2 : Kt Int32) : Kt Int32 := o_ild 1 <| o_psh (.int 10) <| o_cge (o_fg 1 bX1_namesOnlyKin_40) <| (bX1_namesOnlyKin_8 K2)
set_option maxRecDepth 100000 in
theorem sX1_namesOnlyKin_2 {K2 : Kt Int32} (h2 : Sd pX1_namesOnlyKin ev_i 2 K2) : Sd pX1_namesOnlyKin ev_i 2 (bX1_namesOnlyKin_2 K2) := sd_iload_n dX1_namesOnlyKin_2 rfl <| sd_bipush dX1_namesOnlyKin_3 rfl <| sd_cge (tgt := 40) dX1_namesOnlyKin_5 (by decide) (sd_fg (i := 1) sX1_namesOnlyKin_40) <| (sX1_namesOnlyKin_8 h2)
def bX1_namesOnlyKin_0 : Kt Int32 := o_psh (.int 0) <| o_ist 1 <| (o_lp (bX1_namesOnlyKin_2) fu)
set_option maxRecDepth 100000 in
theorem sX1_namesOnlyKin_0 : Sd pX1_namesOnlyKin ev_i 0 (bX1_namesOnlyKin_0) := sd_iconst dX1_namesOnlyKin_0 rfl <| sd_istore_n dX1_namesOnlyKin_1 rfl (by decide) <| (sd_lp (fun K h => sX1_namesOnlyKin_2 h) fu)
def fX1_namesOnlyKin : Mt Int32 := mk_f 2 bX1_namesOnlyKin_0
theorem tX1_namesOnlyKin : Ct ev_i yX1_namesOnlyKin cX1_namesOnlyKin 2 (some .boolean) 2 42 fX1_namesOnlyKin := ct_of (by decide +kernel) sX1_namesOnlyKin_0
abbrev pX7_init : Px := (cX7_init, 1, RX7, "<init>", none, 1, 20, fun _ => True)
def bX7_init_0 : Kt Unit := o_ald 0 <| o_oin <| o_ald 0 <| o_psh (.int 10) <| o_nwI 0 <| o_pR 6 0 <| o_ald 0 <| o_psh (.int 10) <| o_nwI 0 <| o_pR 6 1 <| o_ald 0 <| o_psh (.int 5) <| o_nwI 0 <| o_pR 6 2 <| o_rV
set_option maxRecDepth 100000 in
theorem sX7_init_0 : Sd pX7_init ev_v 0 (bX7_init_0) := sd_aload_n dX7_init_0 rfl <| sd_oin ⟨tw_114, tw_29, tw_30⟩ (by decide) dX7_init_1 <| sd_aload_n dX7_init_4 rfl <| sd_bipush dX7_init_5 rfl <| sd_nwI (t := 0) (aty := .int) (tn := .int) rfl rfl (fun _ => rfl) (fun _ _ h => h) hby_int tw_37 dX7_init_7 <| sd_pR rfl (Or.inr ⟨_, rfl⟩) fpX7_9 dX7_init_9 <| sd_aload_n dX7_init_12 rfl <| sd_bipush dX7_init_13 rfl <| sd_nwI (t := 0) (aty := .int) (tn := .int) rfl rfl (fun _ => rfl) (fun _ _ h => h) hby_int tw_37 dX7_init_15 <| sd_pR rfl (Or.inr ⟨_, rfl⟩) fpX7_15 dX7_init_17 <| sd_aload_n dX7_init_20 rfl <| sd_iconst dX7_init_21 rfl <| sd_nwI (t := 0) (aty := .int) (tn := .int) rfl rfl (fun _ => rfl) (fun _ _ h => h) hby_int tw_37 dX7_init_22 <| sd_pR rfl (Or.inr ⟨_, rfl⟩) fpX7_18 dX7_init_24 <| (sd_rV rfl dX7_init_27)
def fX7_init : Mt Unit := mk_f 1 bX7_init_0
theorem tX7_init : Ct ev_v yX7_init cX7_init 1 none 1 20 fX7_init := ct_of (by decide +kernel) sX7_init_0
abbrev pX7_hasEyes : Px := (cX7_hasEyes, 2, RX7, "hasEyes", (some .boolean), 0, 0, fun _ => True)
def bX7_hasEyes_33 : Kt Int32 := o_rZ
set_option maxRecDepth 100000 in
theorem sX7_hasEyes_33 : Sd pX7_hasEyes ev_i 33 (bX7_hasEyes_33) := (sd_rZ rfl dX7_hasEyes_33)
def bX7_hasEyes_32 : Kt Int32 := o_psh (.int 0) <| bX7_hasEyes_33
set_option maxRecDepth 100000 in
theorem sX7_hasEyes_32 : Sd pX7_hasEyes ev_i 32 (bX7_hasEyes_32) := sd_iconst dX7_hasEyes_32 rfl <| sX7_hasEyes_33
def bX7_hasEyes_28 : Kt Int32 := o_psh (.int 1) <| bX7_hasEyes_33
set_option maxRecDepth 100000 in
theorem sX7_hasEyes_28 : Sd pX7_hasEyes ev_i 28 (bX7_hasEyes_28) := sd_iconst dX7_hasEyes_28 rfl <| (sd_goto (tgt := 33) dX7_hasEyes_29 (by decide) sX7_hasEyes_33)
def bX7_hasEyes_22 : Kt Int32 := o_ild 1 <| o_psh (.int 6) <| o_clt (o_fg 1 bX7_hasEyes_32) <| (o_fg 1 bX7_hasEyes_28)
set_option maxRecDepth 100000 in
theorem sX7_hasEyes_22 : Sd pX7_hasEyes ev_i 22 (bX7_hasEyes_22) := sd_iload_n dX7_hasEyes_22 rfl <| sd_bipush dX7_hasEyes_23 rfl <| sd_clt (tgt := 32) dX7_hasEyes_25 (by decide) (sd_fg (i := 1) sX7_hasEyes_32) <| (sd_fg (i := 1) sX7_hasEyes_28)
def bX7_hasEyes_17 : Kt Int32 := o_ild 0 <| o_psh (.int 3) <| o_cne (o_fg 0 (o_fg 1 bX7_hasEyes_28)) <| (o_fg 0 bX7_hasEyes_22)
set_option maxRecDepth 100000 in
theorem sX7_hasEyes_17 : Sd pX7_hasEyes ev_i 17 (bX7_hasEyes_17) := sd_iload_n dX7_hasEyes_17 rfl <| sd_iconst dX7_hasEyes_18 rfl <| sd_cne (tgt := 28) dX7_hasEyes_19 (by decide) (sd_fg (i := 0) (sd_fg (i := 1) sX7_hasEyes_28)) <| (sd_fg (i := 0) sX7_hasEyes_22)
def bX7_hasEyes_16 : Kt Int32 := o_rZ
set_option maxRecDepth 100000 in
theorem sX7_hasEyes_16 : Sd pX7_hasEyes ev_i 16 (bX7_hasEyes_16) := (sd_rZ rfl dX7_hasEyes_16)
def bX7_hasEyes_15 : Kt Int32 := o_psh (.int 0) <| bX7_hasEyes_16
set_option maxRecDepth 100000 in
theorem sX7_hasEyes_15 : Sd pX7_hasEyes ev_i 15 (bX7_hasEyes_15) := sd_iconst dX7_hasEyes_15 rfl <| sX7_hasEyes_16
def bX7_hasEyes_11 : Kt Int32 := o_psh (.int 1) <| bX7_hasEyes_16
set_option maxRecDepth 100000 in
theorem sX7_hasEyes_11 : Sd pX7_hasEyes ev_i 11 (bX7_hasEyes_11) := sd_iconst dX7_hasEyes_11 rfl <| (sd_goto (tgt := 16) dX7_hasEyes_12 (by decide) sX7_hasEyes_16)
def bX7_hasEyes_5 : Kt Int32 := o_ild 1 <| o_psh (.int 6) <| o_cge (o_fg 1 bX7_hasEyes_15) <| (o_fg 1 bX7_hasEyes_11)
set_option maxRecDepth 100000 in
theorem sX7_hasEyes_5 : Sd pX7_hasEyes ev_i 5 (bX7_hasEyes_5) := sd_iload_n dX7_hasEyes_5 rfl <| sd_bipush dX7_hasEyes_6 rfl <| sd_cge (tgt := 15) dX7_hasEyes_8 (by decide) (sd_fg (i := 1) sX7_hasEyes_15) <| (sd_fg (i := 1) sX7_hasEyes_11)
def bX7_hasEyes_0 : Kt Int32 := o_ild 0 <| o_psh (.int 1) <| o_cne bX7_hasEyes_17 <| (o_fg 0 bX7_hasEyes_5)
set_option maxRecDepth 100000 in
theorem sX7_hasEyes_0 : Sd pX7_hasEyes ev_i 0 (bX7_hasEyes_0) := sd_iload_n dX7_hasEyes_0 rfl <| sd_iconst dX7_hasEyes_1 rfl <| sd_cne (tgt := 17) dX7_hasEyes_2 (by decide) sX7_hasEyes_17 <| (sd_fg (i := 0) sX7_hasEyes_5)
def fX7_hasEyes : Mt Int32 := mk_f 2 bX7_hasEyes_0
theorem tX7_hasEyes : Ct ev_i yX7_hasEyes cX7_hasEyes 2 (some .boolean) 0 0 fX7_hasEyes := ct_of (by decide +kernel) sX7_hasEyes_0
abbrev pX7_isNear : Px := (cX7_isNear, 2, RX7, "isNear", (some .boolean), 1, 21, fun _ => True)
def bX7_isNear_21 : Kt Int32 := o_rZ
set_option maxRecDepth 100000 in
theorem sX7_isNear_21 : Sd pX7_isNear ev_i 21 (bX7_isNear_21) := (sd_rZ rfl dX7_isNear_21)
def bX7_isNear_20 : Kt Int32 := o_psh (.int 0) <| bX7_isNear_21
set_option maxRecDepth 100000 in
theorem sX7_isNear_20 : Sd pX7_isNear ev_i 20 (bX7_isNear_20) := sd_iconst dX7_isNear_20 rfl <| sX7_isNear_21
def bX7_isNear_16 : Kt Int32 := o_psh (.int 1) <| bX7_isNear_21
set_option maxRecDepth 100000 in
theorem sX7_isNear_16 : Sd pX7_isNear ev_i 16 (bX7_isNear_16) := sd_iconst dX7_isNear_16 rfl <| (sd_goto (tgt := 21) dX7_isNear_17 (by decide) sX7_isNear_21)
def bX7_isNear_6 : Kt Int32 := o_ild 0 <| o_ild 1 <| o_i2 o_sub <| o_m1 o_abs <| o_psh (.int 1) <| o_cgt (o_fg 0 (o_fg 1 bX7_isNear_20)) <| (o_fg 0 (o_fg 1 bX7_isNear_16))
set_option maxRecDepth 100000 in
theorem sX7_isNear_6 : Sd pX7_isNear ev_i 6 (bX7_isNear_6) := sd_iload_n dX7_isNear_6 rfl <| sd_iload_n dX7_isNear_7 rfl <| sd_isub dX7_isNear_8 <| sd_mabs ⟨tw_118, tw_119, tw_33, tw_120⟩ (by decide) dX7_isNear_9 <| sd_iconst dX7_isNear_12 rfl <| sd_cgt (tgt := 20) dX7_isNear_13 (by decide) (sd_fg (i := 0) (sd_fg (i := 1) sX7_isNear_20)) <| (sd_fg (i := 0) (sd_fg (i := 1) sX7_isNear_16))
def bX7_isNear_0 : Kt Int32 := o_ild 1 <| o_psh (.int (-4)) <| o_ceq (o_fg 0 (o_fg 1 bX7_isNear_16)) <| bX7_isNear_6
set_option maxRecDepth 100000 in
theorem sX7_isNear_0 : Sd pX7_isNear ev_i 0 (bX7_isNear_0) := sd_iload_n dX7_isNear_0 rfl <| sd_bipush dX7_isNear_1 rfl <| sd_ceq (tgt := 16) dX7_isNear_3 (by decide) (sd_fg (i := 0) (sd_fg (i := 1) sX7_isNear_16)) <| sX7_isNear_6
def fX7_isNear : Mt Int32 := mk_f 2 bX7_isNear_0
theorem tX7_isNear : Ct ev_i yX7_isNear cX7_isNear 2 (some .boolean) 1 21 fX7_isNear := ct_of (by decide +kernel) sX7_isNear_0
abbrev pX7_seerIn : Px := (cX7_seerIn, 5, RX7, "seerIn", (some .int), 2, 44, fun _ => True)
def bX7_seerIn_70 : Kt Int32 := o_rI
set_option maxRecDepth 100000 in
theorem sX7_seerIn_70 : Sd pX7_seerIn ev_i 70 (bX7_seerIn_70) := (sd_rI rfl dX7_seerIn_70)
def bX7_seerIn_68 : Kt Int32 := o_psh (.int (-4)) <| bX7_seerIn_70
set_option maxRecDepth 100000 in
theorem sX7_seerIn_68 : Sd pX7_seerIn ev_i 68 (bX7_seerIn_68) := sd_bipush dX7_seerIn_68 rfl <| sX7_seerIn_70
def bX7_seerIn_64 : Kt Int32 := o_ild 3 <| (o_fg 3 bX7_seerIn_70)
set_option maxRecDepth 100000 in
theorem sX7_seerIn_64 : Sd pX7_seerIn ev_i 64 (bX7_seerIn_64) := sd_iload_n dX7_seerIn_64 rfl <| (sd_goto (tgt := 70) dX7_seerIn_65 (by decide) (sd_fg (i := 3) sX7_seerIn_70))
def bX7_seerIn_55 : Kt Int32 := o_ild 3 <| o_ild 4 <| o_sc ev_i 2 fX7_isNear <| o_zeq (o_fg 3 (o_fg 4 bX7_seerIn_68)) <| (o_fg 4 bX7_seerIn_64)
set_option maxRecDepth 100000 in
theorem sX7_seerIn_55 : Sd pX7_seerIn ev_i 55 (bX7_seerIn_55) := sd_iload_n dX7_seerIn_55 rfl <| sd_iload dX7_seerIn_56 <| sd_sc tX7_isNear (fun _ _ => rfl) mwX7_isNear mvX7_isNear tw_129 (by decide) dX7_seerIn_58 <| sd_zeq (tgt := 68) dX7_seerIn_61 (by decide) (sd_fg (i := 3) (sd_fg (i := 4) sX7_seerIn_68)) <| (sd_fg (i := 4) sX7_seerIn_64)
def bX7_seerIn_41 : Kt Int32 := o_ist 4 <| o_ald 0 <| o_ild 3 <| o_vc ev_i 1 2 fX1_kindOf <| o_ild 2 <| o_sc ev_i 2 fX7_hasEyes <| o_zeq (o_fg 0 (o_fg 2 (o_fg 3 (o_fg 4 bX7_seerIn_68)))) <| (o_fg 0 (o_fg 2 bX7_seerIn_55))
set_option maxRecDepth 100000 in
theorem sX7_seerIn_41 : Sd pX7_seerIn ev_i 41 (bX7_seerIn_41) := sd_istore dX7_seerIn_41 (by decide) <| sd_aload_n dX7_seerIn_43 rfl <| sd_iload_n dX7_seerIn_44 rfl <| sd_vc tX1_kindOf (fun _ _ => rfl) rfl mwX1_kindOf mvX1_kindOf tw_122 (by decide) dX7_seerIn_45 <| sd_iload_n dX7_seerIn_48 rfl <| sd_sc tX7_hasEyes (fun _ _ => rfl) mwX7_hasEyes mvX7_hasEyes tw_126 (by decide) dX7_seerIn_49 <| sd_zeq (tgt := 68) dX7_seerIn_52 (by decide) (sd_fg (i := 0) (sd_fg (i := 2) (sd_fg (i := 3) (sd_fg (i := 4) sX7_seerIn_68)))) <| (sd_fg (i := 0) (sd_fg (i := 2) sX7_seerIn_55))
def bX7_seerIn_36 : Kt Int32 := o_ald 1 <| o_ild 2 <| o_psh (.int 1) <| o_i2 o_sub <| o_aI <| (o_fg 1 bX7_seerIn_41)
set_option maxRecDepth 100000 in
theorem sX7_seerIn_36 : Sd pX7_seerIn ev_i 36 (bX7_seerIn_36) := sd_aload_n dX7_seerIn_36 rfl <| sd_iload_n dX7_seerIn_37 rfl <| sd_iconst dX7_seerIn_38 rfl <| sd_isub dX7_seerIn_39 <| sd_aI dX7_seerIn_40 <| (sd_fg (i := 1) sX7_seerIn_41)
def bX7_seerIn_31 : Kt Int32 := o_psh (.int (-4)) <| bX7_seerIn_41
set_option maxRecDepth 100000 in
theorem sX7_seerIn_31 : Sd pX7_seerIn ev_i 31 (bX7_seerIn_31) := sd_bipush dX7_seerIn_31 rfl <| (sd_goto (tgt := 41) dX7_seerIn_33 (by decide) sX7_seerIn_41)
def bX7_seerIn_23 : Kt Int32 := o_ald 1 <| o_ild 2 <| o_aI <| o_ist 3 <| o_ild 2 <| o_zne bX7_seerIn_36 <| (o_fg 1 bX7_seerIn_31)
set_option maxRecDepth 100000 in
theorem sX7_seerIn_23 : Sd pX7_seerIn ev_i 23 (bX7_seerIn_23) := sd_aload_n dX7_seerIn_23 rfl <| sd_iload_n dX7_seerIn_24 rfl <| sd_aI dX7_seerIn_25 <| sd_istore_n dX7_seerIn_26 rfl (by decide) <| sd_iload_n dX7_seerIn_27 rfl <| sd_zne (tgt := 36) dX7_seerIn_28 (by decide) sX7_seerIn_36 <| (sd_fg (i := 1) sX7_seerIn_31)
def bX7_seerIn_20 : Kt Int32 := o_psh (.int (-4)) <| o_rI
set_option maxRecDepth 100000 in
theorem sX7_seerIn_20 : Sd pX7_seerIn ev_i 20 (bX7_seerIn_20) := sd_bipush dX7_seerIn_20 rfl <| (sd_rI rfl dX7_seerIn_22)
def bX7_seerIn_10 : Kt Int32 := o_ald 0 <| o_ald 1 <| o_ild 2 <| o_aI <| o_vc ev_i 1 2 fX1_isOne <| o_zne bX7_seerIn_23 <| (o_fg 0 (o_fg 1 (o_fg 2 bX7_seerIn_20)))
set_option maxRecDepth 100000 in
theorem sX7_seerIn_10 : Sd pX7_seerIn ev_i 10 (bX7_seerIn_10) := sd_aload_n dX7_seerIn_10 rfl <| sd_aload_n dX7_seerIn_11 rfl <| sd_iload_n dX7_seerIn_12 rfl <| sd_aI dX7_seerIn_13 <| sd_vc tX1_isOne (fun _ _ => rfl) rfl mwX1_isOne mvX1_isOne tw_121 (by decide) dX7_seerIn_14 <| sd_zne (tgt := 23) dX7_seerIn_17 (by decide) sX7_seerIn_23 <| (sd_fg (i := 0) (sd_fg (i := 1) (sd_fg (i := 2) sX7_seerIn_20)))
def bX7_seerIn_4 : Kt Int32 := o_ild 2 <| o_ald 1 <| o_aln <| o_cge (o_fg 0 (o_fg 1 (o_fg 2 bX7_seerIn_20))) <| bX7_seerIn_10
set_option maxRecDepth 100000 in
theorem sX7_seerIn_4 : Sd pX7_seerIn ev_i 4 (bX7_seerIn_4) := sd_iload_n dX7_seerIn_4 rfl <| sd_aload_n dX7_seerIn_5 rfl <| sd_aln dX7_seerIn_6 <| sd_cge (tgt := 20) dX7_seerIn_7 (by decide) (sd_fg (i := 0) (sd_fg (i := 1) (sd_fg (i := 2) sX7_seerIn_20))) <| sX7_seerIn_10
def bX7_seerIn_0 : Kt Int32 := o_ild 2 <| o_zlt (o_fg 0 (o_fg 1 (o_fg 2 bX7_seerIn_20))) <| bX7_seerIn_4
set_option maxRecDepth 100000 in
theorem sX7_seerIn_0 : Sd pX7_seerIn ev_i 0 (bX7_seerIn_0) := sd_iload_n dX7_seerIn_0 rfl <| sd_zlt (tgt := 20) dX7_seerIn_1 (by decide) (sd_fg (i := 0) (sd_fg (i := 1) (sd_fg (i := 2) sX7_seerIn_20))) <| sX7_seerIn_4
def fX7_seerIn : Mt Int32 := mk_f 5 bX7_seerIn_0
theorem tX7_seerIn : Ct ev_i yX7_seerIn cX7_seerIn 5 (some .int) 2 44 fX7_seerIn := ct_of (by decide +kernel) sX7_seerIn_0
