theorem tb_1 {w : Cond} (h : w ∈ tables_1_1) : w ∈ lw_tbl := List.mem_append_right _ (List.mem_append_left _ h)
theorem tb_2 {w : Cond} (h : w ∈ tables_1_2) : w ∈ lw_tbl := List.mem_append_right _ (List.mem_append_right _ (List.mem_append_left _ h))
theorem tb_3 {w : Cond} (h : w ∈ tables_1_3) : w ∈ lw_tbl := List.mem_append_right _ (List.mem_append_right _ (List.mem_append_right _ (List.mem_append_left _ h)))
theorem tb_4 {w : Cond} (h : w ∈ tables_1_4) : w ∈ lw_tbl := List.mem_append_right _ (List.mem_append_right _ (List.mem_append_right _ (List.mem_append_right _ (List.mem_append_left _ h))))
theorem tb_5 {w : Cond} (h : w ∈ tables_1_5) : w ∈ lw_tbl := List.mem_append_right _ (List.mem_append_right _ (List.mem_append_right _ (List.mem_append_right _ (List.mem_append_right _ (List.mem_append_left _ h)))))
theorem tb_6 {w : Cond} (h : w ∈ tables_1_6) : w ∈ lw_tbl := List.mem_append_right _ (List.mem_append_right _ (List.mem_append_right _ (List.mem_append_right _ (List.mem_append_right _ (List.mem_append_right _ (h))))))
theorem tp_1 {q : MethodName × Nat} (h : q ∈ lw_privs_1) : Cond.selects q.1.cls q.1 q.1 ∈ lw_tbl := List.mem_append_left _ (List.mem_map.mpr ⟨q, List.mem_append_left _ h, rfl⟩)
theorem tp_2 {q : MethodName × Nat} (h : q ∈ lw_privs_2) : Cond.selects q.1.cls q.1 q.1 ∈ lw_tbl := List.mem_append_left _ (List.mem_map.mpr ⟨q, List.mem_append_right _ (List.mem_append_left _ h), rfl⟩)
theorem tp_3 {q : MethodName × Nat} (h : q ∈ lw_privs_3) : Cond.selects q.1.cls q.1 q.1 ∈ lw_tbl := List.mem_append_left _ (List.mem_map.mpr ⟨q, List.mem_append_right _ (List.mem_append_right _ (List.mem_append_left _ h)), rfl⟩)
theorem tp_4 {q : MethodName × Nat} (h : q ∈ lw_privs_4) : Cond.selects q.1.cls q.1 q.1 ∈ lw_tbl := List.mem_append_left _ (List.mem_map.mpr ⟨q, List.mem_append_right _ (List.mem_append_right _ (List.mem_append_right _ (List.mem_append_left _ h))), rfl⟩)
theorem tp_5 {q : MethodName × Nat} (h : q ∈ lw_privs_5) : Cond.selects q.1.cls q.1 q.1 ∈ lw_tbl := List.mem_append_left _ (List.mem_map.mpr ⟨q, List.mem_append_right _ (List.mem_append_right _ (List.mem_append_right _ (List.mem_append_right _ (h)))), rfl⟩)
theorem inTX0 : ∀ w ∈ wsX00, w ∈ ex_tb := by decide +kernel
theorem inTX1 : ∀ w ∈ wsX10, w ∈ ex_tb := by decide +kernel
theorem inTX3 : ∀ w ∈ wsX30, w ∈ ex_tb := by decide +kernel
theorem inTX4 : ∀ w ∈ wsX40, w ∈ ex_tb := by decide +kernel
theorem inTX5 : ∀ w ∈ wsX50, w ∈ ex_tb := by decide +kernel
theorem inTX6 : ∀ w ∈ wsX60, w ∈ ex_tb := by decide +kernel
theorem inTX7 : ∀ w ∈ wsX70, w ∈ ex_tb := by decide +kernel
theorem inTX8 : ∀ w ∈ wsX80, w ∈ ex_tb := by decide +kernel
theorem inTX9 : ∀ w ∈ wsX90, w ∈ ex_tb := by decide +kernel
theorem hby_int : ∀ n : Nat, n ≤ 100000 → n * componentBytes .int ≤ 536870912 := fun n h => by show n * 4 ≤ _; omega
theorem hby_boolean : ∀ n : Nat, n ≤ 100000 → n * componentBytes .boolean ≤ 536870912 := fun n h => by show n * 1 ≤ _; omega
def fu : Nat := 4096
def o_lp {ρ : Type} (B : Kt ρ → Kt ρ) : Nat → Kt ρ
  | 0 => o_no
  | n + 1 => B (o_lp B n)
theorem sd_lp {ρ : Type} {ev : ρ → Option Value} {P : Px} {pc : Nat} {B : Kt ρ → Kt ρ} (h : ∀ K, Sd P ev pc K → Sd P ev pc (B K)) : ∀ n, Sd P ev pc (o_lp B n)
  | 0 => sd_no
  | n + 1 => h _ (sd_lp h n)
abbrev o_add (x y : Int32) : Int32 := x + y
abbrev o_sub (x y : Int32) : Int32 := x - y
abbrev o_mul (x y : Int32) : Int32 := x * y
abbrev o_and (x y : Int32) : Int32 := x &&& y
abbrev o_or (x y : Int32) : Int32 := x ||| y
abbrev o_xor (x y : Int32) : Int32 := x ^^^ y
abbrev o_shl (x y : Int32) : Int32 := x <<< (y &&& 31)
abbrev o_shr (x y : Int32) : Int32 := x >>> (y &&& 31)
abbrev o_ushr (x y : Int32) : Int32 := (x.toUInt32 >>> (y.toUInt32 &&& Int32.toUInt32 31)).toInt32
abbrev o_max (x y : Int32) : Int32 := if x < y then y else x
abbrev o_min (x y : Int32) : Int32 := if y < x then y else x
abbrev o_ladd (x y : Int64) : Int64 := x + y
abbrev o_lsub (x y : Int64) : Int64 := x - y
abbrev o_lmul (x y : Int64) : Int64 := x * y
abbrev o_ineg (x : Int32) : Int32 := -x
abbrev o_i2b (x : Int32) : Int32 := x.toInt8.toInt32
abbrev o_i2s (x : Int32) : Int32 := x.toInt16.toInt32
abbrev o_abs (x : Int32) : Int32 := if 0 ≤ x then x else 0 - x
theorem tw_1 : Cond.constant RJ6 265 (1431655765) ∈ ex_tb := List.mem_filter.mpr ⟨(tb_4 (List.mem_of_getElem? (i := 41) rfl)), rfl⟩
theorem tw_2 : Cond.constant RJ6 266 (858993459) ∈ ex_tb := List.mem_filter.mpr ⟨(tb_4 (List.mem_of_getElem? (i := 42) rfl)), rfl⟩
theorem tw_3 : Cond.constant RJ6 267 (252645135) ∈ ex_tb := List.mem_filter.mpr ⟨(tb_4 (List.mem_of_getElem? (i := 43) rfl)), rfl⟩
theorem tw_4 : Cond.fieldLink RJ0 38 "java/lang/String" "COMPACT_STRINGS" "Z" ∈ ex_tb := List.mem_filter.mpr ⟨(tb_2 (List.mem_of_getElem? (i := 110) rfl)), rfl⟩
theorem tw_5 : Cond.fieldLink RJ0 15 "java/lang/String" "coder" "B" ∈ ex_tb := List.mem_filter.mpr ⟨(tb_6 (List.mem_of_getElem? (i := 162) rfl)), rfl⟩
theorem tw_6 : Cond.fieldLink RJ0 9 "java/lang/String" "value" "[B" ∈ ex_tb := List.mem_filter.mpr ⟨(tb_6 (List.mem_of_getElem? (i := 161) rfl)), rfl⟩
theorem tw_7 : Cond.code yJ0_coder_7d493 cJ0_coder_7d493 1 (some .byte) ∈ ex_tb := List.mem_filter.mpr ⟨(tb_2 (List.mem_of_getElem? (i := 109) rfl)), rfl⟩
theorem tw_8 : Cond.initialized RJ0 ∈ ex_tb := List.mem_filter.mpr ⟨(tb_1 (List.mem_of_getElem? (i := 11) rfl)), rfl⟩
theorem tw_9 : Cond.instanceMethod yJ0_coder_7d493 ∈ ex_tb := List.mem_filter.mpr ⟨(tb_2 (List.mem_of_getElem? (i := 107) rfl)), rfl⟩
theorem tw_10 : Cond.selects RJ0 yJ0_coder_7d493 yJ0_coder_7d493 ∈ ex_tb := List.mem_filter.mpr ⟨(tb_2 (List.mem_of_getElem? (i := 108) rfl)), rfl⟩
theorem tw_11 : Cond.methodLink RJ0 335 yJ0_coder_7d493 ∈ ex_tb := List.mem_filter.mpr ⟨(tb_2 (List.mem_of_getElem? (i := 106) rfl)), rfl⟩
theorem tw_12 : Cond.fieldLink RJ0 1053 "jdk/internal/util/Preconditions" "SIOOBE_FORMATTER" "Ljava/util/function/BiFunction;" ∈ ex_tb := List.mem_filter.mpr ⟨(tb_2 (List.mem_of_getElem? (i := 126) rfl)), rfl⟩
theorem tw_13 : Cond.code yJ3_checkIndex_8e157 cJ3_checkIndex_8e157 3 (some .int) ∈ ex_tb := List.mem_filter.mpr ⟨(tb_2 (List.mem_of_getElem? (i := 130) rfl)), rfl⟩
theorem tw_14 : Cond.initialized RJ3 ∈ ex_tb := List.mem_filter.mpr ⟨(tb_1 (List.mem_of_getElem? (i := 13) rfl)), rfl⟩
theorem tw_15 : Cond.static yJ3_checkIndex_8e157 ∈ ex_tb := List.mem_filter.mpr ⟨(tb_2 (List.mem_of_getElem? (i := 129) rfl)), rfl⟩
theorem tw_16 : Cond.methodLink RJ0 1059 yJ3_checkIndex_8e157 ∈ ex_tb := List.mem_filter.mpr ⟨(tb_2 (List.mem_of_getElem? (i := 128) rfl)), rfl⟩
theorem tw_17 : Cond.code yJ0_checkIndex_df160 cJ0_checkIndex_df160 2 none ∈ ex_tb := List.mem_filter.mpr ⟨(tb_2 (List.mem_of_getElem? (i := 125) rfl)), rfl⟩
theorem tw_18 : Cond.static yJ0_checkIndex_df160 ∈ ex_tb := List.mem_filter.mpr ⟨(tb_2 (List.mem_of_getElem? (i := 124) rfl)), rfl⟩
theorem tw_19 : Cond.methodLink RJ1 9 yJ0_checkIndex_df160 ∈ ex_tb := List.mem_filter.mpr ⟨(tb_2 (List.mem_of_getElem? (i := 123) rfl)), rfl⟩
theorem tw_20 : Cond.code yJ0_isLatin1_aae02 cJ0_isLatin1_aae02 1 (some .boolean) ∈ ex_tb := List.mem_filter.mpr ⟨(tb_2 (List.mem_of_getElem? (i := 119) rfl)), rfl⟩
theorem tw_21 : Cond.instanceMethod yJ0_isLatin1_aae02 ∈ ex_tb := List.mem_filter.mpr ⟨(tb_2 (List.mem_of_getElem? (i := 117) rfl)), rfl⟩
theorem tw_22 : Cond.selects RJ0 yJ0_isLatin1_aae02 yJ0_isLatin1_aae02 ∈ ex_tb := List.mem_filter.mpr ⟨(tb_2 (List.mem_of_getElem? (i := 118) rfl)), rfl⟩
theorem tw_23 : Cond.methodLink RJ0 492 yJ0_isLatin1_aae02 ∈ ex_tb := List.mem_filter.mpr ⟨(tb_2 (List.mem_of_getElem? (i := 116) rfl)), rfl⟩
theorem tw_24 : Cond.code yJ1_charAt_3b067 cJ1_charAt_3b067 2 (some .char) ∈ ex_tb := List.mem_filter.mpr ⟨(tb_2 (List.mem_of_getElem? (i := 122) rfl)), rfl⟩
theorem tw_25 : Cond.initialized RJ1 ∈ ex_tb := List.mem_filter.mpr ⟨(tb_1 (List.mem_of_getElem? (i := 12) rfl)), rfl⟩
theorem tw_26 : Cond.static yJ1_charAt_3b067 ∈ ex_tb := List.mem_filter.mpr ⟨(tb_2 (List.mem_of_getElem? (i := 121) rfl)), rfl⟩
theorem tw_27 : Cond.methodLink RJ0 495 yJ1_charAt_3b067 ∈ ex_tb := List.mem_filter.mpr ⟨(tb_2 (List.mem_of_getElem? (i := 120) rfl)), rfl⟩
theorem tw_28 : Cond.methodLink RX6 3 objectInit ∈ ex_tb := List.mem_filter.mpr ⟨(tb_1 (List.mem_of_getElem? (i := 37) rfl)), rfl⟩
theorem tw_29 : Cond.instanceMethod objectInit ∈ ex_tb := List.mem_filter.mpr ⟨(tb_1 (List.mem_of_getElem? (i := 24) rfl)), rfl⟩
theorem tw_30 : Cond.code objectInit ⟨#[0xb1]⟩ 1 none ∈ ex_tb := List.mem_filter.mpr ⟨(tb_1 (List.mem_of_getElem? (i := 25) rfl)), rfl⟩
theorem tw_31 : Cond.methodLink RX6 9 yJ9_max_7cf53 ∈ ex_tb := List.mem_filter.mpr ⟨(tb_1 (List.mem_of_getElem? (i := 38) rfl)), rfl⟩
theorem tw_32 : Cond.static yJ9_max_7cf53 ∈ ex_tb := List.mem_filter.mpr ⟨(tb_1 (List.mem_of_getElem? (i := 39) rfl)), rfl⟩
theorem tw_33 : Cond.initialized RJ9 ∈ ex_tb := List.mem_filter.mpr ⟨(tb_1 (List.mem_of_getElem? (i := 4) rfl)), rfl⟩
theorem tw_34 : Cond.code yJ9_max_7cf53 cJ9_max_7cf53 2 (some .int) ∈ ex_tb := List.mem_filter.mpr ⟨(tb_1 (List.mem_of_getElem? (i := 40) rfl)), rfl⟩
theorem tw_35 : Cond.fieldLink RX6 15 "EyeRota$Rows" "width" "I" ∈ ex_tb := List.mem_filter.mpr ⟨(tb_1 (List.mem_of_getElem? (i := 41) rfl)), rfl⟩
theorem tw_36 : Cond.fieldLink RX6 21 "EyeRota$Rows" "limit" "I" ∈ ex_tb := List.mem_filter.mpr ⟨(tb_1 (List.mem_of_getElem? (i := 42) rfl)), rfl⟩
theorem tw_37 : Cond.arrayClass .int ∈ ex_tb := List.mem_filter.mpr ⟨(tb_1 (List.mem_of_getElem? (i := 61) rfl)), rfl⟩
theorem tw_38 : Cond.fieldLink RX6 24 "EyeRota$Rows" "cells" "[I" ∈ ex_tb := List.mem_filter.mpr ⟨(tb_1 (List.mem_of_getElem? (i := 44) rfl)), rfl⟩
theorem tw_39 : Cond.fieldLink RX6 28 "EyeRota$Rows" "size" "I" ∈ ex_tb := List.mem_filter.mpr ⟨(tb_1 (List.mem_of_getElem? (i := 46) rfl)), rfl⟩
theorem tw_40 : Cond.code yX6_has cX6_has 2 (some .boolean) ∈ ex_tb := List.mem_filter.mpr ⟨(tb_2 (List.mem_of_getElem? (i := 49) rfl)), rfl⟩
theorem tw_41 : Cond.initialized RX6 ∈ ex_tb := List.mem_filter.mpr ⟨(tb_1 (List.mem_of_getElem? (i := 3) rfl)), rfl⟩
theorem tw_42 : Cond.instanceMethod yX6_has ∈ ex_tb := List.mem_filter.mpr ⟨(tb_2 (List.mem_of_getElem? (i := 47) rfl)), rfl⟩
theorem tw_43 : Cond.selects RX6 yX6_has yX6_has ∈ ex_tb := List.mem_filter.mpr ⟨(tb_2 (List.mem_of_getElem? (i := 48) rfl)), rfl⟩
theorem tw_44 : Cond.methodLink RX6 31 yX6_has ∈ ex_tb := List.mem_filter.mpr ⟨(tb_2 (List.mem_of_getElem? (i := 46) rfl)), rfl⟩
theorem tw_45 : Cond.code yX6_put cX6_put 4 none ∈ ex_tb := List.mem_filter.mpr ⟨(tb_2 (List.mem_of_getElem? (i := 45) rfl)), rfl⟩
theorem tw_46 : Cond.instanceMethod yX6_put ∈ ex_tb := List.mem_filter.mpr ⟨(tb_2 (List.mem_of_getElem? (i := 43) rfl)), rfl⟩
theorem tw_47 : Cond.selects RX6 yX6_put yX6_put ∈ ex_tb := List.mem_filter.mpr ⟨(tb_2 (List.mem_of_getElem? (i := 44) rfl)), rfl⟩
theorem tw_48 : Cond.methodLink RX6 35 yX6_put ∈ ex_tb := List.mem_filter.mpr ⟨(tb_2 (List.mem_of_getElem? (i := 42) rfl)), rfl⟩
theorem tw_49 : Cond.methodLink RX6 39 yJ9_min_7cf53 ∈ ex_tb := List.mem_filter.mpr ⟨(tb_2 (List.mem_of_getElem? (i := 213) rfl)), rfl⟩
theorem tw_50 : Cond.static yJ9_min_7cf53 ∈ ex_tb := List.mem_filter.mpr ⟨(tb_2 (List.mem_of_getElem? (i := 214) rfl)), rfl⟩
theorem tw_51 : Cond.code yJ9_min_7cf53 cJ9_min_7cf53 2 (some .int) ∈ ex_tb := List.mem_filter.mpr ⟨(tb_2 (List.mem_of_getElem? (i := 215) rfl)), rfl⟩
theorem tw_52 : Cond.methodLink RX6 42 arraycopyName ∈ ex_tb := List.mem_filter.mpr ⟨(tb_2 (List.mem_of_getElem? (i := 216) rfl)), rfl⟩
theorem tw_53 : Cond.native arraycopyName ∈ ex_tb := List.mem_filter.mpr ⟨(tb_2 (List.mem_of_getElem? (i := 218) rfl)), rfl⟩
theorem tw_54 : Cond.static arraycopyName ∈ ex_tb := List.mem_filter.mpr ⟨(tb_2 (List.mem_of_getElem? (i := 217) rfl)), rfl⟩
theorem tw_55 : Cond.initialized RJ10 ∈ ex_tb := List.mem_filter.mpr ⟨(tb_1 (List.mem_of_getElem? (i := 15) rfl)), rfl⟩
theorem tw_56 : Cond.constantLong RX2 11 (100000) ∈ ex_tb := List.mem_filter.mpr ⟨(tb_4 (List.mem_of_getElem? (i := 56) rfl)), rfl⟩
theorem tw_57 : Cond.constantLong RX2 13 (10) ∈ ex_tb := List.mem_filter.mpr ⟨(tb_4 (List.mem_of_getElem? (i := 57) rfl)), rfl⟩
theorem tw_58 : Cond.code yX2_greatestCommon cX2_greatestCommon 11 (some .long) ∈ ex_tb := List.mem_filter.mpr ⟨(tb_4 (List.mem_of_getElem? (i := 63) rfl)), rfl⟩
theorem tw_59 : Cond.initialized RX2 ∈ ex_tb := List.mem_filter.mpr ⟨(tb_1 (List.mem_of_getElem? (i := 17) rfl)), rfl⟩
theorem tw_60 : Cond.static yX2_greatestCommon ∈ ex_tb := List.mem_filter.mpr ⟨(tb_4 (List.mem_of_getElem? (i := 62) rfl)), rfl⟩
theorem tw_61 : Cond.methodLink RX2 15 yX2_greatestCommon ∈ ex_tb := List.mem_filter.mpr ⟨(tb_4 (List.mem_of_getElem? (i := 61) rfl)), rfl⟩
theorem tw_62 : Cond.constantLong RX2 19 (-1) ∈ ex_tb := List.mem_filter.mpr ⟨(tb_4 (List.mem_of_getElem? (i := 64) rfl)), rfl⟩
theorem tw_63 : Cond.methodLink RX3 3 objectInit ∈ ex_tb := List.mem_filter.mpr ⟨(tb_1 (List.mem_of_getElem? (i := 219) rfl)), rfl⟩
theorem tw_64 : Cond.fieldLink RX3 9 "EyeRota$Page" "cells" "[I" ∈ ex_tb := List.mem_filter.mpr ⟨(tb_1 (List.mem_of_getElem? (i := 220) rfl)), rfl⟩
theorem tw_65 : Cond.fieldLink RX3 15 "EyeRota$Page" "length" "I" ∈ ex_tb := List.mem_filter.mpr ⟨(tb_1 (List.mem_of_getElem? (i := 222) rfl)), rfl⟩
theorem tw_66 : Cond.fieldLink RX3 19 "EyeRota$Page" "lane" "I" ∈ ex_tb := List.mem_filter.mpr ⟨(tb_1 (List.mem_of_getElem? (i := 221) rfl)), rfl⟩
theorem tw_67 : Cond.methodLink RX3 22 yJ9_min_7cf53 ∈ ex_tb := List.mem_filter.mpr ⟨(tb_4 (List.mem_of_getElem? (i := 141) rfl)), rfl⟩
theorem tw_68 : Cond.code yX3_faultAt cX3_faultAt 2 (some .int) ∈ ex_tb := List.mem_filter.mpr ⟨(tb_4 (List.mem_of_getElem? (i := 149) rfl)), rfl⟩
theorem tw_69 : Cond.initialized RX3 ∈ ex_tb := List.mem_filter.mpr ⟨(tb_1 (List.mem_of_getElem? (i := 9) rfl)), rfl⟩
theorem tw_70 : Cond.instanceMethod yX3_faultAt ∈ ex_tb := List.mem_filter.mpr ⟨(tb_4 (List.mem_of_getElem? (i := 147) rfl)), rfl⟩
theorem tw_71 : Cond.selects RX3 yX3_faultAt yX3_faultAt ∈ ex_tb := List.mem_filter.mpr ⟨(tb_4 (List.mem_of_getElem? (i := 148) rfl)), rfl⟩
theorem tw_72 : Cond.methodLink RX3 28 yX3_faultAt ∈ ex_tb := List.mem_filter.mpr ⟨(tb_4 (List.mem_of_getElem? (i := 162) rfl)), rfl⟩
theorem tw_73 : Cond.fieldLink RX1 14 "EyeRota$Family" "kin" "LEyeRota$Rows;" ∈ ex_tb := List.mem_filter.mpr ⟨(tb_1 (List.mem_of_getElem? (i := 66) rfl)), rfl⟩
theorem tw_74 : Cond.fieldLink RX1 39 "EyeRota$Rows" "size" "I" ∈ ex_tb := List.mem_filter.mpr ⟨(tb_1 (List.mem_of_getElem? (i := 45) rfl)), rfl⟩
theorem tw_75 : Cond.fieldLink RX1 20 "EyeRota$Family" "turns" "LEyeRota$Rows;" ∈ ex_tb := List.mem_filter.mpr ⟨(tb_1 (List.mem_of_getElem? (i := 71) rfl)), rfl⟩
theorem tw_76 : Cond.fieldLink RX1 23 "EyeRota$Family" "works" "LEyeRota$Rows;" ∈ ex_tb := List.mem_filter.mpr ⟨(tb_1 (List.mem_of_getElem? (i := 74) rfl)), rfl⟩
theorem tw_77 : Cond.fieldLink RX1 26 "EyeRota$Family" "tellings" "LEyeRota$Rows;" ∈ ex_tb := List.mem_filter.mpr ⟨(tb_1 (List.mem_of_getElem? (i := 79) rfl)), rfl⟩
theorem tw_78 : Cond.fieldLink RX1 29 "EyeRota$Family" "firstValues" "[I" ∈ ex_tb := List.mem_filter.mpr ⟨(tb_1 (List.mem_of_getElem? (i := 83) rfl)), rfl⟩
theorem tw_79 : Cond.fieldLink RX1 33 "EyeRota$Family" "holders" "[I" ∈ ex_tb := List.mem_filter.mpr ⟨(tb_1 (List.mem_of_getElem? (i := 86) rfl)), rfl⟩
theorem tw_80 : Cond.methodLink RX1 3 objectInit ∈ ex_tb := List.mem_filter.mpr ⟨(tb_1 (List.mem_of_getElem? (i := 31) rfl)), rfl⟩
theorem tw_81 : Cond.classLink RX1 9 RX6 ∈ ex_tb := List.mem_filter.mpr ⟨(tb_1 (List.mem_of_getElem? (i := 32) rfl)), rfl⟩
theorem tw_82 : Cond.instantiable RX6 4 ∈ ex_tb := List.mem_filter.mpr ⟨(tb_1 (List.mem_of_getElem? (i := 33) rfl)), rfl⟩
theorem tw_83 : Cond.code yX6_init cX6_init 3 none ∈ ex_tb := List.mem_filter.mpr ⟨(tb_1 (List.mem_of_getElem? (i := 36) rfl)), rfl⟩
theorem tw_84 : Cond.instanceMethod yX6_init ∈ ex_tb := List.mem_filter.mpr ⟨(tb_1 (List.mem_of_getElem? (i := 35) rfl)), rfl⟩
theorem tw_85 : Cond.methodLink RX1 11 yX6_init ∈ ex_tb := List.mem_filter.mpr ⟨(tb_1 (List.mem_of_getElem? (i := 34) rfl)), rfl⟩
theorem tw_86 : Cond.code yX1_makeEmpty cX1_makeEmpty 2 none ∈ ex_tb := List.mem_filter.mpr ⟨(tb_1 (List.mem_of_getElem? (i := 65) rfl)), rfl⟩
theorem tw_87 : Cond.initialized RX1 ∈ ex_tb := List.mem_filter.mpr ⟨(tb_1 (List.mem_of_getElem? (i := 2) rfl)), rfl⟩
theorem tw_88 : Cond.instanceMethod yX1_makeEmpty ∈ ex_tb := List.mem_filter.mpr ⟨(tb_1 (List.mem_of_getElem? (i := 63) rfl)), rfl⟩
theorem tw_89 : Cond.selects RX1 yX1_makeEmpty yX1_makeEmpty ∈ ex_tb := List.mem_filter.mpr ⟨(tb_1 (List.mem_of_getElem? (i := 64) rfl)), rfl⟩
theorem tw_90 : Cond.methodLink RX1 36 yX1_makeEmpty ∈ ex_tb := List.mem_filter.mpr ⟨(tb_1 (List.mem_of_getElem? (i := 62) rfl)), rfl⟩
theorem tw_91 : Cond.code yX6_copyFrom cX6_copyFrom 2 none ∈ ex_tb := List.mem_filter.mpr ⟨(tb_2 (List.mem_of_getElem? (i := 212) rfl)), rfl⟩
theorem tw_92 : Cond.instanceMethod yX6_copyFrom ∈ ex_tb := List.mem_filter.mpr ⟨(tb_2 (List.mem_of_getElem? (i := 210) rfl)), rfl⟩
theorem tw_93 : Cond.selects RX6 yX6_copyFrom yX6_copyFrom ∈ ex_tb := List.mem_filter.mpr ⟨(tb_2 (List.mem_of_getElem? (i := 211) rfl)), rfl⟩
theorem tw_94 : Cond.methodLink RX1 43 yX6_copyFrom ∈ ex_tb := List.mem_filter.mpr ⟨(tb_2 (List.mem_of_getElem? (i := 209) rfl)), rfl⟩
theorem tw_95 : Cond.methodLink RX1 47 arraycopyName ∈ ex_tb := List.mem_filter.mpr ⟨(tb_2 (List.mem_of_getElem? (i := 219) rfl)), rfl⟩
theorem tw_96 : Cond.methodLink RX1 53 yX6_has ∈ ex_tb := List.mem_filter.mpr ⟨(tb_2 (List.mem_of_getElem? (i := 203) rfl)), rfl⟩
theorem tw_97 : Cond.code yX6_at cX6_at 4 (some .int) ∈ ex_tb := List.mem_filter.mpr ⟨(tb_2 (List.mem_of_getElem? (i := 74) rfl)), rfl⟩
theorem tw_98 : Cond.instanceMethod yX6_at ∈ ex_tb := List.mem_filter.mpr ⟨(tb_2 (List.mem_of_getElem? (i := 72) rfl)), rfl⟩
theorem tw_99 : Cond.selects RX6 yX6_at yX6_at ∈ ex_tb := List.mem_filter.mpr ⟨(tb_2 (List.mem_of_getElem? (i := 73) rfl)), rfl⟩
theorem tw_100 : Cond.methodLink RX1 57 yX6_at ∈ ex_tb := List.mem_filter.mpr ⟨(tb_2 (List.mem_of_getElem? (i := 204) rfl)), rfl⟩
theorem tw_101 : Cond.code yX1_kindOf cX1_kindOf 2 (some .int) ∈ ex_tb := List.mem_filter.mpr ⟨(tb_3 (List.mem_of_getElem? (i := 4) rfl)), rfl⟩
theorem tw_102 : Cond.instanceMethod yX1_kindOf ∈ ex_tb := List.mem_filter.mpr ⟨(tb_3 (List.mem_of_getElem? (i := 2) rfl)), rfl⟩
theorem tw_103 : Cond.selects RX1 yX1_kindOf yX1_kindOf ∈ ex_tb := List.mem_filter.mpr ⟨(tb_3 (List.mem_of_getElem? (i := 3) rfl)), rfl⟩
theorem tw_104 : Cond.methodLink RX1 61 yX1_kindOf ∈ ex_tb := List.mem_filter.mpr ⟨(tb_3 (List.mem_of_getElem? (i := 32) rfl)), rfl⟩
theorem tw_105 : Cond.fieldLinkNest RX1 65 RX8 "KEEPS" "[I" "EyeRota" ∈ lw_tbl := (tb_3 (List.mem_of_getElem? (i := 33) rfl))
theorem tw_106 : Cond.code yX1_worthOf cX1_worthOf 2 (some .int) ∈ ex_tb := List.mem_filter.mpr ⟨(tb_3 (List.mem_of_getElem? (i := 200) rfl)), rfl⟩
theorem tw_107 : Cond.instanceMethod yX1_worthOf ∈ ex_tb := List.mem_filter.mpr ⟨(tb_3 (List.mem_of_getElem? (i := 198) rfl)), rfl⟩
theorem tw_108 : Cond.selects RX1 yX1_worthOf yX1_worthOf ∈ ex_tb := List.mem_filter.mpr ⟨(tb_3 (List.mem_of_getElem? (i := 199) rfl)), rfl⟩
theorem tw_109 : Cond.methodLink RX1 68 yX1_worthOf ∈ ex_tb := List.mem_filter.mpr ⟨(tb_4 (List.mem_of_getElem? (i := 179) rfl)), rfl⟩
theorem tw_110 : Cond.code yX1_isOne cX1_isOne 2 (some .boolean) ∈ ex_tb := List.mem_filter.mpr ⟨(tb_2 (List.mem_of_getElem? (i := 202) rfl)), rfl⟩
theorem tw_111 : Cond.instanceMethod yX1_isOne ∈ ex_tb := List.mem_filter.mpr ⟨(tb_2 (List.mem_of_getElem? (i := 200) rfl)), rfl⟩
theorem tw_112 : Cond.selects RX1 yX1_isOne yX1_isOne ∈ ex_tb := List.mem_filter.mpr ⟨(tb_2 (List.mem_of_getElem? (i := 201) rfl)), rfl⟩
theorem tw_113 : Cond.methodLink RX1 71 yX1_isOne ∈ ex_tb := List.mem_filter.mpr ⟨(tb_2 (List.mem_of_getElem? (i := 199) rfl)), rfl⟩
theorem tw_114 : Cond.methodLink RX7 3 objectInit ∈ ex_tb := List.mem_filter.mpr ⟨(tb_1 (List.mem_of_getElem? (i := 159) rfl)), rfl⟩
theorem tw_115 : Cond.fieldLink RX7 9 "EyeRota$Sight" "handed" "[I" ∈ ex_tb := List.mem_filter.mpr ⟨(tb_1 (List.mem_of_getElem? (i := 160) rfl)), rfl⟩
theorem tw_116 : Cond.fieldLink RX7 15 "EyeRota$Sight" "seers" "[I" ∈ ex_tb := List.mem_filter.mpr ⟨(tb_1 (List.mem_of_getElem? (i := 161) rfl)), rfl⟩
theorem tw_117 : Cond.fieldLink RX7 18 "EyeRota$Sight" "hoursByOne" "[I" ∈ ex_tb := List.mem_filter.mpr ⟨(tb_1 (List.mem_of_getElem? (i := 162) rfl)), rfl⟩
theorem tw_118 : Cond.methodLink RX7 21 yJ9_abs_0f7a4 ∈ ex_tb := List.mem_filter.mpr ⟨(tb_3 (List.mem_of_getElem? (i := 11) rfl)), rfl⟩
theorem tw_119 : Cond.static yJ9_abs_0f7a4 ∈ ex_tb := List.mem_filter.mpr ⟨(tb_3 (List.mem_of_getElem? (i := 12) rfl)), rfl⟩
theorem tw_120 : Cond.code yJ9_abs_0f7a4 cJ9_abs_0f7a4 1 (some .int) ∈ ex_tb := List.mem_filter.mpr ⟨(tb_3 (List.mem_of_getElem? (i := 13) rfl)), rfl⟩
theorem tw_121 : Cond.methodLink RX7 27 yX1_isOne ∈ ex_tb := List.mem_filter.mpr ⟨(tb_3 (List.mem_of_getElem? (i := 0) rfl)), rfl⟩
theorem tw_122 : Cond.methodLink RX7 33 yX1_kindOf ∈ ex_tb := List.mem_filter.mpr ⟨(tb_3 (List.mem_of_getElem? (i := 1) rfl)), rfl⟩
theorem tw_123 : Cond.code yX7_hasEyes cX7_hasEyes 2 (some .boolean) ∈ ex_tb := List.mem_filter.mpr ⟨(tb_3 (List.mem_of_getElem? (i := 7) rfl)), rfl⟩
theorem tw_124 : Cond.initialized RX7 ∈ ex_tb := List.mem_filter.mpr ⟨(tb_1 (List.mem_of_getElem? (i := 6) rfl)), rfl⟩
theorem tw_125 : Cond.static yX7_hasEyes ∈ ex_tb := List.mem_filter.mpr ⟨(tb_3 (List.mem_of_getElem? (i := 6) rfl)), rfl⟩
theorem tw_126 : Cond.methodLink RX7 36 yX7_hasEyes ∈ ex_tb := List.mem_filter.mpr ⟨(tb_3 (List.mem_of_getElem? (i := 5) rfl)), rfl⟩
theorem tw_127 : Cond.code yX7_isNear cX7_isNear 2 (some .boolean) ∈ ex_tb := List.mem_filter.mpr ⟨(tb_3 (List.mem_of_getElem? (i := 10) rfl)), rfl⟩
theorem tw_128 : Cond.static yX7_isNear ∈ ex_tb := List.mem_filter.mpr ⟨(tb_3 (List.mem_of_getElem? (i := 9) rfl)), rfl⟩
theorem tw_129 : Cond.methodLink RX7 40 yX7_isNear ∈ ex_tb := List.mem_filter.mpr ⟨(tb_3 (List.mem_of_getElem? (i := 8) rfl)), rfl⟩
theorem tw_130 : Cond.code yX7_seerIn cX7_seerIn 5 (some .int) ∈ ex_tb := List.mem_filter.mpr ⟨(tb_2 (List.mem_of_getElem? (i := 239) rfl)), rfl⟩
theorem tw_131 : Cond.static yX7_seerIn ∈ ex_tb := List.mem_filter.mpr ⟨(tb_2 (List.mem_of_getElem? (i := 238) rfl)), rfl⟩
theorem tw_132 : Cond.methodLink RX7 43 yX7_seerIn ∈ ex_tb := List.mem_filter.mpr ⟨(tb_2 (List.mem_of_getElem? (i := 237) rfl)), rfl⟩
theorem tw_133 : Cond.fieldLink RX7 47 "EyeRota$Family" "works" "LEyeRota$Rows;" ∈ ex_tb := List.mem_filter.mpr ⟨(tb_1 (List.mem_of_getElem? (i := 77) rfl)), rfl⟩
theorem tw_134 : Cond.methodLink RX7 51 yX6_at ∈ ex_tb := List.mem_filter.mpr ⟨(tb_3 (List.mem_of_getElem? (i := 75) rfl)), rfl⟩
theorem tw_135 : Cond.code yX7_hoursOf cX7_hoursOf 2 (some .int) ∈ ex_tb := List.mem_filter.mpr ⟨(tb_3 (List.mem_of_getElem? (i := 42) rfl)), rfl⟩
theorem tw_136 : Cond.instanceMethod yX7_hoursOf ∈ ex_tb := List.mem_filter.mpr ⟨(tb_3 (List.mem_of_getElem? (i := 40) rfl)), rfl⟩
theorem tw_137 : Cond.selects RX7 yX7_hoursOf yX7_hoursOf ∈ ex_tb := List.mem_filter.mpr ⟨(tb_3 (List.mem_of_getElem? (i := 41) rfl)), rfl⟩
theorem tw_138 : Cond.methodLink RX7 57 yX7_hoursOf ∈ ex_tb := List.mem_filter.mpr ⟨(tb_3 (List.mem_of_getElem? (i := 76) rfl)), rfl⟩
theorem tw_139 : Cond.fieldLink RX7 60 "EyeRota$Rows" "size" "I" ∈ ex_tb := List.mem_filter.mpr ⟨(tb_1 (List.mem_of_getElem? (i := 51) rfl)), rfl⟩
theorem tw_140 : Cond.code yX7_isDone cX7_isDone 6 (some .boolean) ∈ ex_tb := List.mem_filter.mpr ⟨(tb_3 (List.mem_of_getElem? (i := 74) rfl)), rfl⟩
theorem tw_141 : Cond.instanceMethod yX7_isDone ∈ ex_tb := List.mem_filter.mpr ⟨(tb_3 (List.mem_of_getElem? (i := 72) rfl)), rfl⟩
theorem tw_142 : Cond.selects RX7 yX7_isDone yX7_isDone ∈ ex_tb := List.mem_filter.mpr ⟨(tb_3 (List.mem_of_getElem? (i := 73) rfl)), rfl⟩
theorem tw_143 : Cond.methodLink RX7 64 yX7_isDone ∈ ex_tb := List.mem_filter.mpr ⟨(tb_3 (List.mem_of_getElem? (i := 192) rfl)), rfl⟩
theorem tw_144 : Cond.methodLink RX7 68 yX1_worthOf ∈ ex_tb := List.mem_filter.mpr ⟨(tb_3 (List.mem_of_getElem? (i := 197) rfl)), rfl⟩
theorem tw_145 : Cond.methodLink RX0 3 objectInit ∈ ex_tb := List.mem_filter.mpr ⟨(tb_1 (List.mem_of_getElem? (i := 175) rfl)), rfl⟩
theorem tw_146 : Cond.fieldLink RX0 11 "EyeRota$Day" "values" "[I" ∈ ex_tb := List.mem_filter.mpr ⟨(tb_1 (List.mem_of_getElem? (i := 176) rfl)), rfl⟩
theorem tw_147 : Cond.fieldLink RX0 15 "EyeRota$Day" "ages" "[I" ∈ ex_tb := List.mem_filter.mpr ⟨(tb_1 (List.mem_of_getElem? (i := 177) rfl)), rfl⟩
theorem tw_148 : Cond.code yX1_keepsOf cX1_keepsOf 3 (some .int) ∈ ex_tb := List.mem_filter.mpr ⟨(tb_3 (List.mem_of_getElem? (i := 31) rfl)), rfl⟩
theorem tw_149 : Cond.instanceMethod yX1_keepsOf ∈ ex_tb := List.mem_filter.mpr ⟨(tb_3 (List.mem_of_getElem? (i := 29) rfl)), rfl⟩
theorem tw_150 : Cond.selects RX1 yX1_keepsOf yX1_keepsOf ∈ ex_tb := List.mem_filter.mpr ⟨(tb_3 (List.mem_of_getElem? (i := 30) rfl)), rfl⟩
theorem tw_151 : Cond.methodLink RX0 29 yX1_keepsOf ∈ ex_tb := List.mem_filter.mpr ⟨(tb_3 (List.mem_of_getElem? (i := 137) rfl)), rfl⟩
theorem tw_152 : Cond.code yX0_placeOf cX0_placeOf 3 (some .int) ∈ ex_tb := List.mem_filter.mpr ⟨(tb_3 (List.mem_of_getElem? (i := 140) rfl)), rfl⟩
theorem tw_153 : Cond.initialized RX0 ∈ ex_tb := List.mem_filter.mpr ⟨(tb_1 (List.mem_of_getElem? (i := 7) rfl)), rfl⟩
theorem tw_154 : Cond.static yX0_placeOf ∈ ex_tb := List.mem_filter.mpr ⟨(tb_3 (List.mem_of_getElem? (i := 139) rfl)), rfl⟩
theorem tw_155 : Cond.methodLink RX0 35 yX0_placeOf ∈ ex_tb := List.mem_filter.mpr ⟨(tb_3 (List.mem_of_getElem? (i := 138) rfl)), rfl⟩
theorem tw_156 : Cond.methodLink RX0 39 yX7_seerIn ∈ ex_tb := List.mem_filter.mpr ⟨(tb_3 (List.mem_of_getElem? (i := 145) rfl)), rfl⟩
theorem tw_157 : Cond.methodLink RX0 45 yX1_isOne ∈ ex_tb := List.mem_filter.mpr ⟨(tb_3 (List.mem_of_getElem? (i := 146) rfl)), rfl⟩
theorem tw_158 : Cond.code yX1_postOf cX1_postOf 2 (some .int) ∈ ex_tb := List.mem_filter.mpr ⟨(tb_3 (List.mem_of_getElem? (i := 27) rfl)), rfl⟩
theorem tw_159 : Cond.instanceMethod yX1_postOf ∈ ex_tb := List.mem_filter.mpr ⟨(tb_3 (List.mem_of_getElem? (i := 25) rfl)), rfl⟩
theorem tw_160 : Cond.selects RX1 yX1_postOf yX1_postOf ∈ ex_tb := List.mem_filter.mpr ⟨(tb_3 (List.mem_of_getElem? (i := 26) rfl)), rfl⟩
theorem tw_161 : Cond.methodLink RX0 49 yX1_postOf ∈ ex_tb := List.mem_filter.mpr ⟨(tb_3 (List.mem_of_getElem? (i := 147) rfl)), rfl⟩
theorem tw_162 : Cond.code yX1_valueBehind cX1_valueBehind 7 (some .int) ∈ ex_tb := List.mem_filter.mpr ⟨(tb_3 (List.mem_of_getElem? (i := 56) rfl)), rfl⟩
theorem tw_163 : Cond.instanceMethod yX1_valueBehind ∈ ex_tb := List.mem_filter.mpr ⟨(tb_3 (List.mem_of_getElem? (i := 54) rfl)), rfl⟩
theorem tw_164 : Cond.selects RX1 yX1_valueBehind yX1_valueBehind ∈ ex_tb := List.mem_filter.mpr ⟨(tb_3 (List.mem_of_getElem? (i := 55) rfl)), rfl⟩
theorem tw_165 : Cond.methodLink RX0 52 yX1_valueBehind ∈ ex_tb := List.mem_filter.mpr ⟨(tb_3 (List.mem_of_getElem? (i := 148) rfl)), rfl⟩
theorem tw_166 : Cond.code yX0_believe cX0_believe 4 none ∈ ex_tb := List.mem_filter.mpr ⟨(tb_3 (List.mem_of_getElem? (i := 152) rfl)), rfl⟩
theorem tw_167 : Cond.instanceMethod yX0_believe ∈ ex_tb := List.mem_filter.mpr ⟨(tb_3 (List.mem_of_getElem? (i := 151) rfl)), rfl⟩
theorem tw_168 : Cond.selects RX0 yX0_believe yX0_believe ∈ ex_tb := List.mem_filter.mpr ⟨(tp_2 (List.mem_of_getElem? (i := 2) rfl)), rfl⟩
theorem tw_169 : Cond.methodLink RX0 56 yX0_believe ∈ ex_tb := List.mem_filter.mpr ⟨(tb_3 (List.mem_of_getElem? (i := 149) rfl)), rfl⟩
theorem tw_170 : Cond.fieldLink RX0 60 "EyeRota$Family" "tellings" "LEyeRota$Rows;" ∈ ex_tb := List.mem_filter.mpr ⟨(tb_1 (List.mem_of_getElem? (i := 80) rfl)), rfl⟩
theorem tw_171 : Cond.fieldLink RX0 64 "EyeRota$Rows" "size" "I" ∈ ex_tb := List.mem_filter.mpr ⟨(tb_1 (List.mem_of_getElem? (i := 49) rfl)), rfl⟩
theorem tw_172 : Cond.methodLink RX0 70 yX6_at ∈ ex_tb := List.mem_filter.mpr ⟨(tb_3 (List.mem_of_getElem? (i := 157) rfl)), rfl⟩
theorem tw_173 : Cond.code yX0_valueOf cX0_valueOf 5 (some .int) ∈ ex_tb := List.mem_filter.mpr ⟨(tb_3 (List.mem_of_getElem? (i := 161) rfl)), rfl⟩
theorem tw_174 : Cond.instanceMethod yX0_valueOf ∈ ex_tb := List.mem_filter.mpr ⟨(tb_3 (List.mem_of_getElem? (i := 159) rfl)), rfl⟩
theorem tw_175 : Cond.selects RX0 yX0_valueOf yX0_valueOf ∈ ex_tb := List.mem_filter.mpr ⟨(tb_3 (List.mem_of_getElem? (i := 160) rfl)), rfl⟩
theorem tw_176 : Cond.methodLink RX0 73 yX0_valueOf ∈ ex_tb := List.mem_filter.mpr ⟨(tb_3 (List.mem_of_getElem? (i := 158) rfl)), rfl⟩
theorem tw_177 : Cond.code yX0_ageOf cX0_ageOf 5 (some .int) ∈ ex_tb := List.mem_filter.mpr ⟨(tb_3 (List.mem_of_getElem? (i := 165) rfl)), rfl⟩
theorem tw_178 : Cond.instanceMethod yX0_ageOf ∈ ex_tb := List.mem_filter.mpr ⟨(tb_3 (List.mem_of_getElem? (i := 163) rfl)), rfl⟩
theorem tw_179 : Cond.selects RX0 yX0_ageOf yX0_ageOf ∈ ex_tb := List.mem_filter.mpr ⟨(tb_3 (List.mem_of_getElem? (i := 164) rfl)), rfl⟩
theorem tw_180 : Cond.methodLink RX0 76 yX0_ageOf ∈ ex_tb := List.mem_filter.mpr ⟨(tb_3 (List.mem_of_getElem? (i := 162) rfl)), rfl⟩
theorem tw_181 : Cond.code yX0_growOlder cX0_growOlder 9 none ∈ ex_tb := List.mem_filter.mpr ⟨(tb_3 (List.mem_of_getElem? (i := 136) rfl)), rfl⟩
theorem tw_182 : Cond.instanceMethod yX0_growOlder ∈ ex_tb := List.mem_filter.mpr ⟨(tb_3 (List.mem_of_getElem? (i := 135) rfl)), rfl⟩
theorem tw_183 : Cond.selects RX0 yX0_growOlder yX0_growOlder ∈ ex_tb := List.mem_filter.mpr ⟨(tp_2 (List.mem_of_getElem? (i := 0) rfl)), rfl⟩
theorem tw_184 : Cond.methodLink RX0 18 yX0_growOlder ∈ ex_tb := List.mem_filter.mpr ⟨(tb_3 (List.mem_of_getElem? (i := 133) rfl)), rfl⟩
theorem tw_185 : Cond.code yX0_lookOut cX0_lookOut 6 none ∈ ex_tb := List.mem_filter.mpr ⟨(tb_3 (List.mem_of_getElem? (i := 144) rfl)), rfl⟩
theorem tw_186 : Cond.instanceMethod yX0_lookOut ∈ ex_tb := List.mem_filter.mpr ⟨(tb_3 (List.mem_of_getElem? (i := 143) rfl)), rfl⟩
theorem tw_187 : Cond.selects RX0 yX0_lookOut yX0_lookOut ∈ ex_tb := List.mem_filter.mpr ⟨(tp_2 (List.mem_of_getElem? (i := 1) rfl)), rfl⟩
theorem tw_188 : Cond.methodLink RX0 22 yX0_lookOut ∈ ex_tb := List.mem_filter.mpr ⟨(tb_3 (List.mem_of_getElem? (i := 141) rfl)), rfl⟩
theorem tw_189 : Cond.code yX0_passOn cX0_passOn 8 none ∈ ex_tb := List.mem_filter.mpr ⟨(tb_3 (List.mem_of_getElem? (i := 156) rfl)), rfl⟩
theorem tw_190 : Cond.instanceMethod yX0_passOn ∈ ex_tb := List.mem_filter.mpr ⟨(tb_3 (List.mem_of_getElem? (i := 155) rfl)), rfl⟩
theorem tw_191 : Cond.selects RX0 yX0_passOn yX0_passOn ∈ ex_tb := List.mem_filter.mpr ⟨(tp_2 (List.mem_of_getElem? (i := 3) rfl)), rfl⟩
theorem tw_192 : Cond.methodLink RX0 26 yX0_passOn ∈ ex_tb := List.mem_filter.mpr ⟨(tb_3 (List.mem_of_getElem? (i := 153) rfl)), rfl⟩
theorem tw_193 : Cond.fieldLink RX0 79 "EyeRota$Family" "kin" "LEyeRota$Rows;" ∈ ex_tb := List.mem_filter.mpr ⟨(tb_1 (List.mem_of_getElem? (i := 69) rfl)), rfl⟩
theorem tw_194 : Cond.methodLink RX0 82 arraycopyName ∈ ex_tb := List.mem_filter.mpr ⟨(tb_4 (List.mem_of_getElem? (i := 90) rfl)), rfl⟩
theorem tw_195 : Cond.methodLink RX4 3 objectInit ∈ ex_tb := List.mem_filter.mpr ⟨(tb_1 (List.mem_of_getElem? (i := 188) rfl)), rfl⟩
theorem tw_196 : Cond.fieldLink RX4 11 "EyeRota$Planner" "most" "[I" ∈ ex_tb := List.mem_filter.mpr ⟨(tb_1 (List.mem_of_getElem? (i := 191) rfl)), rfl⟩
theorem tw_197 : Cond.fieldLink RX4 15 "EyeRota$Planner" "gains" "[I" ∈ ex_tb := List.mem_filter.mpr ⟨(tb_1 (List.mem_of_getElem? (i := 192) rfl)), rfl⟩
theorem tw_198 : Cond.fieldLink RX4 18 "EyeRota$Planner" "plan" "[I" ∈ ex_tb := List.mem_filter.mpr ⟨(tb_1 (List.mem_of_getElem? (i := 193) rfl)), rfl⟩
theorem tw_199 : Cond.classLink RX4 21 RX6 ∈ ex_tb := List.mem_filter.mpr ⟨(tb_1 (List.mem_of_getElem? (i := 189) rfl)), rfl⟩
theorem tw_200 : Cond.methodLink RX4 23 yX6_init ∈ ex_tb := List.mem_filter.mpr ⟨(tb_1 (List.mem_of_getElem? (i := 190) rfl)), rfl⟩
theorem tw_201 : Cond.fieldLink RX4 26 "EyeRota$Planner" "plannedKin" "LEyeRota$Rows;" ∈ ex_tb := List.mem_filter.mpr ⟨(tb_1 (List.mem_of_getElem? (i := 195) rfl)), rfl⟩
theorem tw_202 : Cond.fieldLink RX4 30 "EyeRota$Planner" "plannedWorks" "LEyeRota$Rows;" ∈ ex_tb := List.mem_filter.mpr ⟨(tb_1 (List.mem_of_getElem? (i := 196) rfl)), rfl⟩
theorem tw_203 : Cond.fieldLink RX4 46 "EyeRota$Family" "works" "LEyeRota$Rows;" ∈ ex_tb := List.mem_filter.mpr ⟨(tb_1 (List.mem_of_getElem? (i := 75) rfl)), rfl⟩
theorem tw_204 : Cond.fieldLink RX4 64 "EyeRota$Rows" "size" "I" ∈ ex_tb := List.mem_filter.mpr ⟨(tb_1 (List.mem_of_getElem? (i := 48) rfl)), rfl⟩
theorem tw_205 : Cond.methodLink RX4 68 yX1_worthOf ∈ ex_tb := List.mem_filter.mpr ⟨(tb_3 (List.mem_of_getElem? (i := 218) rfl)), rfl⟩
theorem tw_206 : Cond.fieldLink RX4 37 "EyeRota$Family" "kin" "LEyeRota$Rows;" ∈ ex_tb := List.mem_filter.mpr ⟨(tb_1 (List.mem_of_getElem? (i := 67) rfl)), rfl⟩
theorem tw_207 : Cond.code yX4_placeOf cX4_placeOf 3 (some .int) ∈ ex_tb := List.mem_filter.mpr ⟨(tb_3 (List.mem_of_getElem? (i := 221) rfl)), rfl⟩
theorem tw_208 : Cond.initialized RX4 ∈ ex_tb := List.mem_filter.mpr ⟨(tb_1 (List.mem_of_getElem? (i := 8) rfl)), rfl⟩
theorem tw_209 : Cond.static yX4_placeOf ∈ ex_tb := List.mem_filter.mpr ⟨(tb_3 (List.mem_of_getElem? (i := 220) rfl)), rfl⟩
theorem tw_210 : Cond.methodLink RX4 72 yX4_placeOf ∈ ex_tb := List.mem_filter.mpr ⟨(tb_3 (List.mem_of_getElem? (i := 219) rfl)), rfl⟩
theorem tw_211 : Cond.methodLink RX4 87 yX6_at ∈ ex_tb := List.mem_filter.mpr ⟨(tb_3 (List.mem_of_getElem? (i := 229) rfl)), rfl⟩
theorem tw_212 : Cond.methodLink RX4 91 yX7_isNear ∈ ex_tb := List.mem_filter.mpr ⟨(tb_3 (List.mem_of_getElem? (i := 234) rfl)), rfl⟩
theorem tw_213 : Cond.methodLink RX4 97 yX1_kindOf ∈ ex_tb := List.mem_filter.mpr ⟨(tb_3 (List.mem_of_getElem? (i := 235) rfl)), rfl⟩
theorem tw_214 : Cond.methodLink RX4 100 yX7_hasEyes ∈ ex_tb := List.mem_filter.mpr ⟨(tb_3 (List.mem_of_getElem? (i := 236) rfl)), rfl⟩
theorem tw_215 : Cond.code yX4_worksIn cX4_worksIn 8 (some .int) ∈ ex_tb := List.mem_filter.mpr ⟨(tb_4 (List.mem_of_getElem? (i := 0) rfl)), rfl⟩
theorem tw_216 : Cond.instanceMethod yX4_worksIn ∈ ex_tb := List.mem_filter.mpr ⟨(tb_3 (List.mem_of_getElem? (i := 239) rfl)), rfl⟩
theorem tw_217 : Cond.selects RX4 yX4_worksIn yX4_worksIn ∈ ex_tb := List.mem_filter.mpr ⟨(tp_2 (List.mem_of_getElem? (i := 7) rfl)), rfl⟩
theorem tw_218 : Cond.methodLink RX4 103 yX4_worksIn ∈ ex_tb := List.mem_filter.mpr ⟨(tb_3 (List.mem_of_getElem? (i := 237) rfl)), rfl⟩
theorem tw_219 : Cond.code yX4_worksBegunAhead cX4_worksBegunAhead 4 (some .int) ∈ ex_tb := List.mem_filter.mpr ⟨(tb_3 (List.mem_of_getElem? (i := 228) rfl)), rfl⟩
theorem tw_220 : Cond.static yX4_worksBegunAhead ∈ ex_tb := List.mem_filter.mpr ⟨(tb_3 (List.mem_of_getElem? (i := 227) rfl)), rfl⟩
theorem tw_221 : Cond.methodLink RX4 76 yX4_worksBegunAhead ∈ ex_tb := List.mem_filter.mpr ⟨(tb_3 (List.mem_of_getElem? (i := 226) rfl)), rfl⟩
theorem tw_222 : Cond.code yX4_findGains cX4_findGains 8 none ∈ ex_tb := List.mem_filter.mpr ⟨(tb_3 (List.mem_of_getElem? (i := 233) rfl)), rfl⟩
theorem tw_223 : Cond.instanceMethod yX4_findGains ∈ ex_tb := List.mem_filter.mpr ⟨(tb_3 (List.mem_of_getElem? (i := 232) rfl)), rfl⟩
theorem tw_224 : Cond.selects RX4 yX4_findGains yX4_findGains ∈ ex_tb := List.mem_filter.mpr ⟨(tp_2 (List.mem_of_getElem? (i := 6) rfl)), rfl⟩
theorem tw_225 : Cond.methodLink RX4 80 yX4_findGains ∈ ex_tb := List.mem_filter.mpr ⟨(tb_3 (List.mem_of_getElem? (i := 230) rfl)), rfl⟩
theorem tw_226 : Cond.code yX4_mostFrom cX4_mostFrom 8 (some .int) ∈ ex_tb := List.mem_filter.mpr ⟨(tb_4 (List.mem_of_getElem? (i := 4) rfl)), rfl⟩
theorem tw_227 : Cond.instanceMethod yX4_mostFrom ∈ ex_tb := List.mem_filter.mpr ⟨(tb_4 (List.mem_of_getElem? (i := 3) rfl)), rfl⟩
theorem tw_228 : Cond.selects RX4 yX4_mostFrom yX4_mostFrom ∈ ex_tb := List.mem_filter.mpr ⟨(tp_2 (List.mem_of_getElem? (i := 8) rfl)), rfl⟩
theorem tw_229 : Cond.methodLink RX4 84 yX4_mostFrom ∈ ex_tb := List.mem_filter.mpr ⟨(tb_4 (List.mem_of_getElem? (i := 1) rfl)), rfl⟩
theorem tw_230 : Cond.fieldLink RX4 107 "EyeRota$Planner" "planWorth" "I" ∈ ex_tb := List.mem_filter.mpr ⟨(tb_1 (List.mem_of_getElem? (i := 198) rfl)), rfl⟩
theorem tw_231 : Cond.fieldLink RX4 33 "EyeRota$Planner" "isPlanned" "Z" ∈ ex_tb := List.mem_filter.mpr ⟨(tb_1 (List.mem_of_getElem? (i := 197) rfl)), rfl⟩
theorem tw_232 : Cond.code yX6_isLike cX6_isLike 3 (some .boolean) ∈ ex_tb := List.mem_filter.mpr ⟨(tb_3 (List.mem_of_getElem? (i := 212) rfl)), rfl⟩
theorem tw_233 : Cond.instanceMethod yX6_isLike ∈ ex_tb := List.mem_filter.mpr ⟨(tb_3 (List.mem_of_getElem? (i := 210) rfl)), rfl⟩
theorem tw_234 : Cond.selects RX6 yX6_isLike yX6_isLike ∈ ex_tb := List.mem_filter.mpr ⟨(tb_3 (List.mem_of_getElem? (i := 211) rfl)), rfl⟩
theorem tw_235 : Cond.methodLink RX4 42 yX6_isLike ∈ ex_tb := List.mem_filter.mpr ⟨(tb_3 (List.mem_of_getElem? (i := 209) rfl)), rfl⟩
theorem tw_236 : Cond.methodLink RX4 49 yX6_copyFrom ∈ ex_tb := List.mem_filter.mpr ⟨(tb_3 (List.mem_of_getElem? (i := 213) rfl)), rfl⟩
theorem tw_237 : Cond.code yX4_fillEnd cX4_fillEnd 6 none ∈ ex_tb := List.mem_filter.mpr ⟨(tb_3 (List.mem_of_getElem? (i := 217) rfl)), rfl⟩
theorem tw_238 : Cond.instanceMethod yX4_fillEnd ∈ ex_tb := List.mem_filter.mpr ⟨(tb_3 (List.mem_of_getElem? (i := 216) rfl)), rfl⟩
theorem tw_239 : Cond.selects RX4 yX4_fillEnd yX4_fillEnd ∈ ex_tb := List.mem_filter.mpr ⟨(tp_2 (List.mem_of_getElem? (i := 4) rfl)), rfl⟩
theorem tw_240 : Cond.methodLink RX4 53 yX4_fillEnd ∈ ex_tb := List.mem_filter.mpr ⟨(tb_3 (List.mem_of_getElem? (i := 214) rfl)), rfl⟩
theorem tw_241 : Cond.code yX4_fillHour cX4_fillHour 6 none ∈ ex_tb := List.mem_filter.mpr ⟨(tb_3 (List.mem_of_getElem? (i := 225) rfl)), rfl⟩
theorem tw_242 : Cond.instanceMethod yX4_fillHour ∈ ex_tb := List.mem_filter.mpr ⟨(tb_3 (List.mem_of_getElem? (i := 224) rfl)), rfl⟩
theorem tw_243 : Cond.selects RX4 yX4_fillHour yX4_fillHour ∈ ex_tb := List.mem_filter.mpr ⟨(tp_2 (List.mem_of_getElem? (i := 5) rfl)), rfl⟩
theorem tw_244 : Cond.methodLink RX4 57 yX4_fillHour ∈ ex_tb := List.mem_filter.mpr ⟨(tb_3 (List.mem_of_getElem? (i := 222) rfl)), rfl⟩
theorem tw_245 : Cond.code yX4_takeFirst cX4_takeFirst 7 none ∈ ex_tb := List.mem_filter.mpr ⟨(tb_4 (List.mem_of_getElem? (i := 8) rfl)), rfl⟩
theorem tw_246 : Cond.instanceMethod yX4_takeFirst ∈ ex_tb := List.mem_filter.mpr ⟨(tb_4 (List.mem_of_getElem? (i := 7) rfl)), rfl⟩
theorem tw_247 : Cond.selects RX4 yX4_takeFirst yX4_takeFirst ∈ ex_tb := List.mem_filter.mpr ⟨(tp_2 (List.mem_of_getElem? (i := 9) rfl)), rfl⟩
theorem tw_248 : Cond.methodLink RX4 61 yX4_takeFirst ∈ ex_tb := List.mem_filter.mpr ⟨(tb_4 (List.mem_of_getElem? (i := 5) rfl)), rfl⟩
theorem tw_249 : Cond.methodLink RX5 3 objectInit ∈ ex_tb := List.mem_filter.mpr ⟨(tb_1 (List.mem_of_getElem? (i := 110) rfl)), rfl⟩
theorem tw_250 : Cond.classLink RX5 9 RX1 ∈ ex_tb := List.mem_filter.mpr ⟨(tb_1 (List.mem_of_getElem? (i := 111) rfl)), rfl⟩
theorem tw_251 : Cond.instantiable RX1 6 ∈ ex_tb := List.mem_filter.mpr ⟨(tb_1 (List.mem_of_getElem? (i := 27) rfl)), rfl⟩
theorem tw_252 : Cond.code yX1_init cX1_init 1 none ∈ ex_tb := List.mem_filter.mpr ⟨(tb_1 (List.mem_of_getElem? (i := 30) rfl)), rfl⟩
theorem tw_253 : Cond.instanceMethod yX1_init ∈ ex_tb := List.mem_filter.mpr ⟨(tb_1 (List.mem_of_getElem? (i := 29) rfl)), rfl⟩
theorem tw_254 : Cond.methodLink RX5 11 yX1_init ∈ ex_tb := List.mem_filter.mpr ⟨(tb_1 (List.mem_of_getElem? (i := 112) rfl)), rfl⟩
theorem tw_255 : Cond.fieldLink RX5 12 "EyeRota$Reader" "draft" "LEyeRota$Family;" ∈ ex_tb := List.mem_filter.mpr ⟨(tb_1 (List.mem_of_getElem? (i := 113) rfl)), rfl⟩
theorem tw_256 : Cond.fieldLink RX5 18 "EyeRota$Reader" "source" "LEyeRota$Rows;" ∈ ex_tb := List.mem_filter.mpr ⟨(tb_1 (List.mem_of_getElem? (i := 115) rfl)), rfl⟩
theorem tw_257 : Cond.fieldLink RX5 35 "EyeRota$Reader" "next" "I" ∈ ex_tb := List.mem_filter.mpr ⟨(tb_1 (List.mem_of_getElem? (i := 124) rfl)), rfl⟩
theorem tw_258 : Cond.fieldLink RX5 58 "EyeRota$Rows" "size" "I" ∈ ex_tb := List.mem_filter.mpr ⟨(tb_1 (List.mem_of_getElem? (i := 47) rfl)), rfl⟩
theorem tw_259 : Cond.methodLink RX5 70 yX6_at ∈ ex_tb := List.mem_filter.mpr ⟨(tb_2 (List.mem_of_getElem? (i := 71) rfl)), rfl⟩
theorem tw_260 : Cond.code yX5_isLetter cX5_isLetter 1 (some .boolean) ∈ ex_tb := List.mem_filter.mpr ⟨(tb_2 (List.mem_of_getElem? (i := 77) rfl)), rfl⟩
theorem tw_261 : Cond.initialized RX5 ∈ ex_tb := List.mem_filter.mpr ⟨(tb_1 (List.mem_of_getElem? (i := 5) rfl)), rfl⟩
theorem tw_262 : Cond.static yX5_isLetter ∈ ex_tb := List.mem_filter.mpr ⟨(tb_2 (List.mem_of_getElem? (i := 76) rfl)), rfl⟩
theorem tw_263 : Cond.methodLink RX5 74 yX5_isLetter ∈ ex_tb := List.mem_filter.mpr ⟨(tb_2 (List.mem_of_getElem? (i := 75) rfl)), rfl⟩
theorem tw_264 : Cond.fieldLink RX5 29 "EyeRota$Reader" "faultMet" "I" ∈ ex_tb := List.mem_filter.mpr ⟨(tb_1 (List.mem_of_getElem? (i := 118) rfl)), rfl⟩
theorem tw_265 : Cond.fieldLink RX5 63 "EyeRota$Reader" "place" "I" ∈ ex_tb := List.mem_filter.mpr ⟨(tb_1 (List.mem_of_getElem? (i := 123) rfl)), rfl⟩
theorem tw_266 : Cond.fieldLink RX5 32 "EyeRota$Reader" "faultPlace" "I" ∈ ex_tb := List.mem_filter.mpr ⟨(tb_1 (List.mem_of_getElem? (i := 120) rfl)), rfl⟩
theorem tw_267 : Cond.fieldLink RX5 86 "EyeRota$Reader" "number" "I" ∈ ex_tb := List.mem_filter.mpr ⟨(tb_1 (List.mem_of_getElem? (i := 125) rfl)), rfl⟩
theorem tw_268 : Cond.code yX5_isFigure cX5_isFigure 1 (some .boolean) ∈ ex_tb := List.mem_filter.mpr ⟨(tb_2 (List.mem_of_getElem? (i := 84) rfl)), rfl⟩
theorem tw_269 : Cond.static yX5_isFigure ∈ ex_tb := List.mem_filter.mpr ⟨(tb_2 (List.mem_of_getElem? (i := 83) rfl)), rfl⟩
theorem tw_270 : Cond.methodLink RX5 80 yX5_isFigure ∈ ex_tb := List.mem_filter.mpr ⟨(tb_2 (List.mem_of_getElem? (i := 82) rfl)), rfl⟩
theorem tw_271 : Cond.code yX5_meet cX5_meet 2 (some .boolean) ∈ ex_tb := List.mem_filter.mpr ⟨(tb_2 (List.mem_of_getElem? (i := 92) rfl)), rfl⟩
theorem tw_272 : Cond.instanceMethod yX5_meet ∈ ex_tb := List.mem_filter.mpr ⟨(tb_2 (List.mem_of_getElem? (i := 91) rfl)), rfl⟩
theorem tw_273 : Cond.selects RX5 yX5_meet yX5_meet ∈ ex_tb := List.mem_filter.mpr ⟨(tp_1 (List.mem_of_getElem? (i := 3) rfl)), rfl⟩
theorem tw_274 : Cond.methodLink RX5 66 yX5_meet ∈ ex_tb := List.mem_filter.mpr ⟨(tb_2 (List.mem_of_getElem? (i := 89) rfl)), rfl⟩
theorem tw_275 : Cond.fieldLink RX5 49 "EyeRota$Reader" "token" "I" ∈ ex_tb := List.mem_filter.mpr ⟨(tb_1 (List.mem_of_getElem? (i := 122) rfl)), rfl⟩
theorem tw_276 : Cond.code yX5_passLetters cX5_passLetters 1 none ∈ ex_tb := List.mem_filter.mpr ⟨(tb_2 (List.mem_of_getElem? (i := 81) rfl)), rfl⟩
theorem tw_277 : Cond.instanceMethod yX5_passLetters ∈ ex_tb := List.mem_filter.mpr ⟨(tb_2 (List.mem_of_getElem? (i := 80) rfl)), rfl⟩
theorem tw_278 : Cond.selects RX5 yX5_passLetters yX5_passLetters ∈ ex_tb := List.mem_filter.mpr ⟨(tp_1 (List.mem_of_getElem? (i := 1) rfl)), rfl⟩
theorem tw_279 : Cond.methodLink RX5 77 yX5_passLetters ∈ ex_tb := List.mem_filter.mpr ⟨(tb_2 (List.mem_of_getElem? (i := 78) rfl)), rfl⟩
theorem tw_280 : Cond.code yX5_takeFigures cX5_takeFigures 1 (some .boolean) ∈ ex_tb := List.mem_filter.mpr ⟨(tb_2 (List.mem_of_getElem? (i := 88) rfl)), rfl⟩
theorem tw_281 : Cond.instanceMethod yX5_takeFigures ∈ ex_tb := List.mem_filter.mpr ⟨(tb_2 (List.mem_of_getElem? (i := 87) rfl)), rfl⟩
theorem tw_282 : Cond.selects RX5 yX5_takeFigures yX5_takeFigures ∈ ex_tb := List.mem_filter.mpr ⟨(tp_1 (List.mem_of_getElem? (i := 2) rfl)), rfl⟩
theorem tw_283 : Cond.methodLink RX5 83 yX5_takeFigures ∈ ex_tb := List.mem_filter.mpr ⟨(tb_2 (List.mem_of_getElem? (i := 85) rfl)), rfl⟩
theorem tw_284 : Cond.code yJ0_length_8abf5 cJ0_length_8abf5 1 (some .int) ∈ ex_tb := List.mem_filter.mpr ⟨(tb_2 (List.mem_of_getElem? (i := 105) rfl)), rfl⟩
theorem tw_285 : Cond.instanceMethod yJ0_length_8abf5 ∈ ex_tb := List.mem_filter.mpr ⟨(tb_2 (List.mem_of_getElem? (i := 103) rfl)), rfl⟩
theorem tw_286 : Cond.selects RJ0 yJ0_length_8abf5 yJ0_length_8abf5 ∈ ex_tb := List.mem_filter.mpr ⟨(tb_2 (List.mem_of_getElem? (i := 104) rfl)), rfl⟩
theorem tw_287 : Cond.methodLink RX5 89 yJ0_length_8abf5 ∈ ex_tb := List.mem_filter.mpr ⟨(tb_2 (List.mem_of_getElem? (i := 102) rfl)), rfl⟩
theorem tw_288 : Cond.code yJ0_charAt_5068e cJ0_charAt_5068e 2 (some .char) ∈ ex_tb := List.mem_filter.mpr ⟨(tb_2 (List.mem_of_getElem? (i := 115) rfl)), rfl⟩
theorem tw_289 : Cond.instanceMethod yJ0_charAt_5068e ∈ ex_tb := List.mem_filter.mpr ⟨(tb_2 (List.mem_of_getElem? (i := 113) rfl)), rfl⟩
theorem tw_290 : Cond.selects RJ0 yJ0_charAt_5068e yJ0_charAt_5068e ∈ ex_tb := List.mem_filter.mpr ⟨(tb_2 (List.mem_of_getElem? (i := 114) rfl)), rfl⟩
theorem tw_291 : Cond.methodLink RX5 95 yJ0_charAt_5068e ∈ ex_tb := List.mem_filter.mpr ⟨(tb_2 (List.mem_of_getElem? (i := 112) rfl)), rfl⟩
theorem tw_292 : Cond.fieldLink RX5 139 "EyeRota$Rows" "limit" "I" ∈ ex_tb := List.mem_filter.mpr ⟨(tb_1 (List.mem_of_getElem? (i := 43) rfl)), rfl⟩
theorem tw_293 : Cond.code yX5_takeToken cX5_takeToken 2 (some .boolean) ∈ ex_tb := List.mem_filter.mpr ⟨(tb_2 (List.mem_of_getElem? (i := 70) rfl)), rfl⟩
theorem tw_294 : Cond.instanceMethod yX5_takeToken ∈ ex_tb := List.mem_filter.mpr ⟨(tb_2 (List.mem_of_getElem? (i := 69) rfl)), rfl⟩
theorem tw_295 : Cond.selects RX5 yX5_takeToken yX5_takeToken ∈ ex_tb := List.mem_filter.mpr ⟨(tp_1 (List.mem_of_getElem? (i := 0) rfl)), rfl⟩
theorem tw_296 : Cond.methodLink RX5 45 yX5_takeToken ∈ ex_tb := List.mem_filter.mpr ⟨(tb_2 (List.mem_of_getElem? (i := 67) rfl)), rfl⟩
theorem tw_297 : Cond.fieldLink RX5 142 "EyeRota$Family" "kin" "LEyeRota$Rows;" ∈ ex_tb := List.mem_filter.mpr ⟨(tb_1 (List.mem_of_getElem? (i := 70) rfl)), rfl⟩
theorem tw_298 : Cond.code yX5_hasRoom cX5_hasRoom 2 (some .boolean) ∈ ex_tb := List.mem_filter.mpr ⟨(tb_2 (List.mem_of_getElem? (i := 157) rfl)), rfl⟩
theorem tw_299 : Cond.instanceMethod yX5_hasRoom ∈ ex_tb := List.mem_filter.mpr ⟨(tb_2 (List.mem_of_getElem? (i := 156) rfl)), rfl⟩
theorem tw_300 : Cond.selects RX5 yX5_hasRoom yX5_hasRoom ∈ ex_tb := List.mem_filter.mpr ⟨(tp_1 (List.mem_of_getElem? (i := 7) rfl)), rfl⟩
theorem tw_301 : Cond.methodLink RX5 145 yX5_hasRoom ∈ ex_tb := List.mem_filter.mpr ⟨(tb_2 (List.mem_of_getElem? (i := 154) rfl)), rfl⟩
theorem tw_302 : Cond.code yX5_takeNumber cX5_takeNumber 3 (some .boolean) ∈ ex_tb := List.mem_filter.mpr ⟨(tb_2 (List.mem_of_getElem? (i := 161) rfl)), rfl⟩
theorem tw_303 : Cond.instanceMethod yX5_takeNumber ∈ ex_tb := List.mem_filter.mpr ⟨(tb_2 (List.mem_of_getElem? (i := 160) rfl)), rfl⟩
theorem tw_304 : Cond.selects RX5 yX5_takeNumber yX5_takeNumber ∈ ex_tb := List.mem_filter.mpr ⟨(tp_1 (List.mem_of_getElem? (i := 8) rfl)), rfl⟩
theorem tw_305 : Cond.methodLink RX5 149 yX5_takeNumber ∈ ex_tb := List.mem_filter.mpr ⟨(tb_2 (List.mem_of_getElem? (i := 158) rfl)), rfl⟩
theorem tw_306 : Cond.code yX5_takeStop cX5_takeStop 1 (some .boolean) ∈ ex_tb := List.mem_filter.mpr ⟨(tb_2 (List.mem_of_getElem? (i := 165) rfl)), rfl⟩
theorem tw_307 : Cond.instanceMethod yX5_takeStop ∈ ex_tb := List.mem_filter.mpr ⟨(tb_2 (List.mem_of_getElem? (i := 164) rfl)), rfl⟩
theorem tw_308 : Cond.selects RX5 yX5_takeStop yX5_takeStop ∈ ex_tb := List.mem_filter.mpr ⟨(tp_1 (List.mem_of_getElem? (i := 9) rfl)), rfl⟩
theorem tw_309 : Cond.methodLink RX5 153 yX5_takeStop ∈ ex_tb := List.mem_filter.mpr ⟨(tb_2 (List.mem_of_getElem? (i := 162) rfl)), rfl⟩
theorem tw_310 : Cond.code yX6_add cX6_add 5 (some .int) ∈ ex_tb := List.mem_filter.mpr ⟨(tb_2 (List.mem_of_getElem? (i := 41) rfl)), rfl⟩
theorem tw_311 : Cond.instanceMethod yX6_add ∈ ex_tb := List.mem_filter.mpr ⟨(tb_2 (List.mem_of_getElem? (i := 39) rfl)), rfl⟩
theorem tw_312 : Cond.selects RX6 yX6_add yX6_add ∈ ex_tb := List.mem_filter.mpr ⟨(tb_2 (List.mem_of_getElem? (i := 40) rfl)), rfl⟩
theorem tw_313 : Cond.methodLink RX5 156 yX6_add ∈ ex_tb := List.mem_filter.mpr ⟨(tb_2 (List.mem_of_getElem? (i := 166) rfl)), rfl⟩
theorem tw_314 : Cond.fieldLink RX5 38 "EyeRota$Reader" "thingsTold" "I" ∈ ex_tb := List.mem_filter.mpr ⟨(tb_1 (List.mem_of_getElem? (i := 126) rfl)), rfl⟩
theorem tw_315 : Cond.fieldLink RX5 160 "EyeRota$Family" "firstValues" "[I" ∈ ex_tb := List.mem_filter.mpr ⟨(tb_1 (List.mem_of_getElem? (i := 85) rfl)), rfl⟩
theorem tw_316 : Cond.fieldLink RX5 164 "EyeRota$Family" "turns" "LEyeRota$Rows;" ∈ ex_tb := List.mem_filter.mpr ⟨(tb_1 (List.mem_of_getElem? (i := 73) rfl)), rfl⟩
theorem tw_317 : Cond.fieldLink RX5 41 "EyeRota$Reader" "isRotaTold" "Z" ∈ ex_tb := List.mem_filter.mpr ⟨(tb_1 (List.mem_of_getElem? (i := 127) rfl)), rfl⟩
theorem tw_318 : Cond.fieldLink RX5 167 "EyeRota$Family" "holders" "[I" ∈ ex_tb := List.mem_filter.mpr ⟨(tb_1 (List.mem_of_getElem? (i := 88) rfl)), rfl⟩
theorem tw_319 : Cond.fieldLink RX5 170 "EyeRota$Family" "works" "LEyeRota$Rows;" ∈ ex_tb := List.mem_filter.mpr ⟨(tb_1 (List.mem_of_getElem? (i := 78) rfl)), rfl⟩
theorem tw_320 : Cond.fieldLink RX5 173 "EyeRota$Family" "tellings" "LEyeRota$Rows;" ∈ ex_tb := List.mem_filter.mpr ⟨(tb_1 (List.mem_of_getElem? (i := 82) rfl)), rfl⟩
theorem tw_321 : Cond.code yX5_isWord cX5_isWord 3 (some .boolean) ∈ ex_tb := List.mem_filter.mpr ⟨(tb_2 (List.mem_of_getElem? (i := 101) rfl)), rfl⟩
theorem tw_322 : Cond.instanceMethod yX5_isWord ∈ ex_tb := List.mem_filter.mpr ⟨(tb_2 (List.mem_of_getElem? (i := 100) rfl)), rfl⟩
theorem tw_323 : Cond.selects RX5 yX5_isWord yX5_isWord ∈ ex_tb := List.mem_filter.mpr ⟨(tp_1 (List.mem_of_getElem? (i := 5) rfl)), rfl⟩
theorem tw_324 : Cond.methodLink RX5 101 yX5_isWord ∈ ex_tb := List.mem_filter.mpr ⟨(tb_2 (List.mem_of_getElem? (i := 98) rfl)), rfl⟩
theorem tw_325 : Cond.code yX5_takeOne cX5_takeOne 2 (some .boolean) ∈ ex_tb := List.mem_filter.mpr ⟨(tb_2 (List.mem_of_getElem? (i := 153) rfl)), rfl⟩
theorem tw_326 : Cond.instanceMethod yX5_takeOne ∈ ex_tb := List.mem_filter.mpr ⟨(tb_2 (List.mem_of_getElem? (i := 152) rfl)), rfl⟩
theorem tw_327 : Cond.selects RX5 yX5_takeOne yX5_takeOne ∈ ex_tb := List.mem_filter.mpr ⟨(tp_1 (List.mem_of_getElem? (i := 6) rfl)), rfl⟩
theorem tw_328 : Cond.methodLink RX5 105 yX5_takeOne ∈ ex_tb := List.mem_filter.mpr ⟨(tb_2 (List.mem_of_getElem? (i := 150) rfl)), rfl⟩
theorem tw_329 : Cond.code yX5_takeThing cX5_takeThing 2 (some .boolean) ∈ ex_tb := List.mem_filter.mpr ⟨(tb_2 (List.mem_of_getElem? (i := 174) rfl)), rfl⟩
theorem tw_330 : Cond.instanceMethod yX5_takeThing ∈ ex_tb := List.mem_filter.mpr ⟨(tb_2 (List.mem_of_getElem? (i := 173) rfl)), rfl⟩
theorem tw_331 : Cond.selects RX5 yX5_takeThing yX5_takeThing ∈ ex_tb := List.mem_filter.mpr ⟨(tp_1 (List.mem_of_getElem? (i := 10) rfl)), rfl⟩
theorem tw_332 : Cond.methodLink RX5 116 yX5_takeThing ∈ ex_tb := List.mem_filter.mpr ⟨(tb_2 (List.mem_of_getElem? (i := 171) rfl)), rfl⟩
theorem tw_333 : Cond.code yX5_takeTurn cX5_takeTurn 3 (some .boolean) ∈ ex_tb := List.mem_filter.mpr ⟨(tb_2 (List.mem_of_getElem? (i := 179) rfl)), rfl⟩
theorem tw_334 : Cond.instanceMethod yX5_takeTurn ∈ ex_tb := List.mem_filter.mpr ⟨(tb_2 (List.mem_of_getElem? (i := 178) rfl)), rfl⟩
theorem tw_335 : Cond.selects RX5 yX5_takeTurn yX5_takeTurn ∈ ex_tb := List.mem_filter.mpr ⟨(tp_1 (List.mem_of_getElem? (i := 11) rfl)), rfl⟩
theorem tw_336 : Cond.methodLink RX5 121 yX5_takeTurn ∈ ex_tb := List.mem_filter.mpr ⟨(tb_2 (List.mem_of_getElem? (i := 176) rfl)), rfl⟩
theorem tw_337 : Cond.code yX5_takeRota cX5_takeRota 2 (some .boolean) ∈ ex_tb := List.mem_filter.mpr ⟨(tb_2 (List.mem_of_getElem? (i := 184) rfl)), rfl⟩
theorem tw_338 : Cond.instanceMethod yX5_takeRota ∈ ex_tb := List.mem_filter.mpr ⟨(tb_2 (List.mem_of_getElem? (i := 183) rfl)), rfl⟩
theorem tw_339 : Cond.selects RX5 yX5_takeRota yX5_takeRota ∈ ex_tb := List.mem_filter.mpr ⟨(tp_1 (List.mem_of_getElem? (i := 12) rfl)), rfl⟩
theorem tw_340 : Cond.methodLink RX5 126 yX5_takeRota ∈ ex_tb := List.mem_filter.mpr ⟨(tb_2 (List.mem_of_getElem? (i := 181) rfl)), rfl⟩
theorem tw_341 : Cond.code yX5_takeWork cX5_takeWork 4 (some .boolean) ∈ ex_tb := List.mem_filter.mpr ⟨(tb_2 (List.mem_of_getElem? (i := 189) rfl)), rfl⟩
theorem tw_342 : Cond.instanceMethod yX5_takeWork ∈ ex_tb := List.mem_filter.mpr ⟨(tb_2 (List.mem_of_getElem? (i := 188) rfl)), rfl⟩
theorem tw_343 : Cond.selects RX5 yX5_takeWork yX5_takeWork ∈ ex_tb := List.mem_filter.mpr ⟨(tp_1 (List.mem_of_getElem? (i := 13) rfl)), rfl⟩
theorem tw_344 : Cond.methodLink RX5 131 yX5_takeWork ∈ ex_tb := List.mem_filter.mpr ⟨(tb_2 (List.mem_of_getElem? (i := 186) rfl)), rfl⟩
theorem tw_345 : Cond.code yX5_takeTelling cX5_takeTelling 4 (some .boolean) ∈ ex_tb := List.mem_filter.mpr ⟨(tb_2 (List.mem_of_getElem? (i := 194) rfl)), rfl⟩
theorem tw_346 : Cond.instanceMethod yX5_takeTelling ∈ ex_tb := List.mem_filter.mpr ⟨(tb_2 (List.mem_of_getElem? (i := 193) rfl)), rfl⟩
theorem tw_347 : Cond.selects RX5 yX5_takeTelling yX5_takeTelling ∈ ex_tb := List.mem_filter.mpr ⟨(tp_1 (List.mem_of_getElem? (i := 14) rfl)), rfl⟩
theorem tw_348 : Cond.methodLink RX5 136 yX5_takeTelling ∈ ex_tb := List.mem_filter.mpr ⟨(tb_2 (List.mem_of_getElem? (i := 191) rfl)), rfl⟩
theorem tw_349 : Cond.methodLink RX5 22 yX1_makeEmpty ∈ ex_tb := List.mem_filter.mpr ⟨(tb_2 (List.mem_of_getElem? (i := 66) rfl)), rfl⟩
theorem tw_350 : Cond.fieldLink RX5 25 "EyeRota$Reader" "lines" "I" ∈ ex_tb := List.mem_filter.mpr ⟨(tb_1 (List.mem_of_getElem? (i := 116) rfl)), rfl⟩
theorem tw_351 : Cond.code yX5_takeLine cX5_takeLine 1 (some .boolean) ∈ ex_tb := List.mem_filter.mpr ⟨(tb_2 (List.mem_of_getElem? (i := 96) rfl)), rfl⟩
theorem tw_352 : Cond.instanceMethod yX5_takeLine ∈ ex_tb := List.mem_filter.mpr ⟨(tb_2 (List.mem_of_getElem? (i := 95) rfl)), rfl⟩
theorem tw_353 : Cond.selects RX5 yX5_takeLine yX5_takeLine ∈ ex_tb := List.mem_filter.mpr ⟨(tp_1 (List.mem_of_getElem? (i := 4) rfl)), rfl⟩
theorem tw_354 : Cond.methodLink RX5 52 yX5_takeLine ∈ ex_tb := List.mem_filter.mpr ⟨(tb_2 (List.mem_of_getElem? (i := 93) rfl)), rfl⟩
theorem tw_355 : Cond.code yX1_namesOnlyKin cX1_namesOnlyKin 2 (some .boolean) ∈ ex_tb := List.mem_filter.mpr ⟨(tb_2 (List.mem_of_getElem? (i := 198) rfl)), rfl⟩
theorem tw_356 : Cond.instanceMethod yX1_namesOnlyKin ∈ ex_tb := List.mem_filter.mpr ⟨(tb_2 (List.mem_of_getElem? (i := 196) rfl)), rfl⟩
theorem tw_357 : Cond.selects RX1 yX1_namesOnlyKin yX1_namesOnlyKin ∈ ex_tb := List.mem_filter.mpr ⟨(tb_2 (List.mem_of_getElem? (i := 197) rfl)), rfl⟩
theorem tw_358 : Cond.methodLink RX5 55 yX1_namesOnlyKin ∈ ex_tb := List.mem_filter.mpr ⟨(tb_2 (List.mem_of_getElem? (i := 195) rfl)), rfl⟩
theorem tw_359 : Cond.methodLink RX8 1 objectInit ∈ ex_tb := List.mem_filter.mpr ⟨(tb_1 (List.mem_of_getElem? (i := 23) rfl)), rfl⟩
theorem tw_360 : Cond.classLink RX8 7 RX1 ∈ ex_tb := List.mem_filter.mpr ⟨(tb_1 (List.mem_of_getElem? (i := 26) rfl)), rfl⟩
theorem tw_361 : Cond.methodLink RX8 9 yX1_init ∈ ex_tb := List.mem_filter.mpr ⟨(tb_1 (List.mem_of_getElem? (i := 28) rfl)), rfl⟩
theorem tw_362 : Cond.fieldLink RX8 10 "EyeRota" "family" "LEyeRota$Family;" ∈ ex_tb := List.mem_filter.mpr ⟨(tb_1 (List.mem_of_getElem? (i := 231) rfl)), rfl⟩
theorem tw_363 : Cond.arrayOver (.object RX1) ∈ lw_tbl := (tb_1 (List.mem_of_getElem? (i := 102) rfl))
theorem tw_364 : Cond.fieldLink RX8 16 "EyeRota" "images" "[LEyeRota$Family;" ∈ ex_tb := List.mem_filter.mpr ⟨(tb_1 (List.mem_of_getElem? (i := 232) rfl)), rfl⟩
theorem tw_365 : Cond.arrayClass .boolean ∈ ex_tb := List.mem_filter.mpr ⟨(tb_1 (List.mem_of_getElem? (i := 151) rfl)), rfl⟩
theorem tw_366 : Cond.fieldLink RX8 20 "EyeRota" "imageStands" "[Z" ∈ ex_tb := List.mem_filter.mpr ⟨(tb_1 (List.mem_of_getElem? (i := 233) rfl)), rfl⟩
theorem tw_367 : Cond.classLink RX8 24 RX6 ∈ ex_tb := List.mem_filter.mpr ⟨(tb_1 (List.mem_of_getElem? (i := 103) rfl)), rfl⟩
theorem tw_368 : Cond.methodLink RX8 26 yX6_init ∈ ex_tb := List.mem_filter.mpr ⟨(tb_1 (List.mem_of_getElem? (i := 104) rfl)), rfl⟩
theorem tw_369 : Cond.fieldLink RX8 29 "EyeRota" "seen" "LEyeRota$Rows;" ∈ ex_tb := List.mem_filter.mpr ⟨(tb_1 (List.mem_of_getElem? (i := 234) rfl)), rfl⟩
theorem tw_370 : Cond.fieldLink RX8 33 "EyeRota" "tape" "LEyeRota$Rows;" ∈ ex_tb := List.mem_filter.mpr ⟨(tb_1 (List.mem_of_getElem? (i := 235) rfl)), rfl⟩
theorem tw_371 : Cond.classLink RX8 36 RX5 ∈ ex_tb := List.mem_filter.mpr ⟨(tb_1 (List.mem_of_getElem? (i := 105) rfl)), rfl⟩
theorem tw_372 : Cond.instantiable RX5 11 ∈ ex_tb := List.mem_filter.mpr ⟨(tb_1 (List.mem_of_getElem? (i := 106) rfl)), rfl⟩
theorem tw_373 : Cond.code yX5_init cX5_init 2 none ∈ ex_tb := List.mem_filter.mpr ⟨(tb_1 (List.mem_of_getElem? (i := 109) rfl)), rfl⟩
theorem tw_374 : Cond.instanceMethod yX5_init ∈ ex_tb := List.mem_filter.mpr ⟨(tb_1 (List.mem_of_getElem? (i := 108) rfl)), rfl⟩
theorem tw_375 : Cond.methodLink RX8 38 yX5_init ∈ ex_tb := List.mem_filter.mpr ⟨(tb_1 (List.mem_of_getElem? (i := 107) rfl)), rfl⟩
theorem tw_376 : Cond.fieldLink RX8 41 "EyeRota" "reader" "LEyeRota$Reader;" ∈ ex_tb := List.mem_filter.mpr ⟨(tb_1 (List.mem_of_getElem? (i := 236) rfl)), rfl⟩
theorem tw_377 : Cond.classLink RX8 45 RX3 ∈ ex_tb := List.mem_filter.mpr ⟨(tb_1 (List.mem_of_getElem? (i := 152) rfl)), rfl⟩
theorem tw_378 : Cond.arrayOver (.object RX3) ∈ lw_tbl := (tb_1 (List.mem_of_getElem? (i := 153) rfl))
theorem tw_379 : Cond.fieldLink RX8 47 "EyeRota" "pages" "[LEyeRota$Page;" ∈ ex_tb := List.mem_filter.mpr ⟨(tb_1 (List.mem_of_getElem? (i := 237) rfl)), rfl⟩
theorem tw_380 : Cond.classLink RX8 51 RX7 ∈ ex_tb := List.mem_filter.mpr ⟨(tb_1 (List.mem_of_getElem? (i := 154) rfl)), rfl⟩
theorem tw_381 : Cond.instantiable RX7 3 ∈ ex_tb := List.mem_filter.mpr ⟨(tb_1 (List.mem_of_getElem? (i := 155) rfl)), rfl⟩
theorem tw_382 : Cond.code yX7_init cX7_init 1 none ∈ ex_tb := List.mem_filter.mpr ⟨(tb_1 (List.mem_of_getElem? (i := 158) rfl)), rfl⟩
theorem tw_383 : Cond.instanceMethod yX7_init ∈ ex_tb := List.mem_filter.mpr ⟨(tb_1 (List.mem_of_getElem? (i := 157) rfl)), rfl⟩
theorem tw_384 : Cond.methodLinkNest RX8 53 yX7_init "EyeRota" ∈ lw_tbl := (tb_1 (List.mem_of_getElem? (i := 156) rfl))
theorem tw_385 : Cond.fieldLink RX8 54 "EyeRota" "sight" "LEyeRota$Sight;" ∈ ex_tb := List.mem_filter.mpr ⟨(tb_1 (List.mem_of_getElem? (i := 238) rfl)), rfl⟩
theorem tw_386 : Cond.classLink RX8 58 RX0 ∈ ex_tb := List.mem_filter.mpr ⟨(tb_1 (List.mem_of_getElem? (i := 170) rfl)), rfl⟩
theorem tw_387 : Cond.instantiable RX0 2 ∈ ex_tb := List.mem_filter.mpr ⟨(tb_1 (List.mem_of_getElem? (i := 171) rfl)), rfl⟩
theorem tw_388 : Cond.code yX0_init cX0_init 1 none ∈ ex_tb := List.mem_filter.mpr ⟨(tb_1 (List.mem_of_getElem? (i := 174) rfl)), rfl⟩
theorem tw_389 : Cond.instanceMethod yX0_init ∈ ex_tb := List.mem_filter.mpr ⟨(tb_1 (List.mem_of_getElem? (i := 173) rfl)), rfl⟩
theorem tw_390 : Cond.methodLinkNest RX8 60 yX0_init "EyeRota" ∈ lw_tbl := (tb_1 (List.mem_of_getElem? (i := 172) rfl))
theorem tw_391 : Cond.fieldLink RX8 61 "EyeRota" "day" "LEyeRota$Day;" ∈ ex_tb := List.mem_filter.mpr ⟨(tb_1 (List.mem_of_getElem? (i := 239) rfl)), rfl⟩
theorem tw_392 : Cond.classLink RX8 65 RX4 ∈ ex_tb := List.mem_filter.mpr ⟨(tb_1 (List.mem_of_getElem? (i := 183) rfl)), rfl⟩
theorem tw_393 : Cond.instantiable RX4 7 ∈ ex_tb := List.mem_filter.mpr ⟨(tb_1 (List.mem_of_getElem? (i := 184) rfl)), rfl⟩
theorem tw_394 : Cond.code yX4_init cX4_init 1 none ∈ ex_tb := List.mem_filter.mpr ⟨(tb_1 (List.mem_of_getElem? (i := 187) rfl)), rfl⟩
theorem tw_395 : Cond.instanceMethod yX4_init ∈ ex_tb := List.mem_filter.mpr ⟨(tb_1 (List.mem_of_getElem? (i := 186) rfl)), rfl⟩
theorem tw_396 : Cond.methodLinkNest RX8 67 yX4_init "EyeRota" ∈ lw_tbl := (tb_1 (List.mem_of_getElem? (i := 185) rfl))
theorem tw_397 : Cond.fieldLink RX8 68 "EyeRota" "planner" "LEyeRota$Planner;" ∈ ex_tb := List.mem_filter.mpr ⟨(tb_2 (List.mem_of_getElem? (i := 0) rfl)), rfl⟩
theorem tw_398 : Cond.fieldLink RX8 72 "EyeRota" "trial" "[I" ∈ ex_tb := List.mem_filter.mpr ⟨(tb_2 (List.mem_of_getElem? (i := 1) rfl)), rfl⟩
theorem tw_399 : Cond.fieldLink RX8 76 "EyeRota" "answers" "[I" ∈ ex_tb := List.mem_filter.mpr ⟨(tb_2 (List.mem_of_getElem? (i := 2) rfl)), rfl⟩
theorem tw_400 : Cond.instantiable RX3 3 ∈ ex_tb := List.mem_filter.mpr ⟨(tb_1 (List.mem_of_getElem? (i := 215) rfl)), rfl⟩
theorem tw_401 : Cond.code yX3_init cX3_init 1 none ∈ ex_tb := List.mem_filter.mpr ⟨(tb_1 (List.mem_of_getElem? (i := 218) rfl)), rfl⟩
theorem tw_402 : Cond.instanceMethod yX3_init ∈ ex_tb := List.mem_filter.mpr ⟨(tb_1 (List.mem_of_getElem? (i := 217) rfl)), rfl⟩
theorem tw_403 : Cond.methodLinkNest RX8 79 yX3_init "EyeRota" ∈ lw_tbl := (tb_1 (List.mem_of_getElem? (i := 216) rfl))
theorem tw_404 : Cond.methodLink RX8 80 yX6_add ∈ ex_tb := List.mem_filter.mpr ⟨(tb_2 (List.mem_of_getElem? (i := 38) rfl)), rfl⟩
theorem tw_405 : Cond.code yX6_cutTo cX6_cutTo 3 (some .int) ∈ ex_tb := List.mem_filter.mpr ⟨(tb_2 (List.mem_of_getElem? (i := 57) rfl)), rfl⟩
theorem tw_406 : Cond.instanceMethod yX6_cutTo ∈ ex_tb := List.mem_filter.mpr ⟨(tb_2 (List.mem_of_getElem? (i := 55) rfl)), rfl⟩
theorem tw_407 : Cond.selects RX6 yX6_cutTo yX6_cutTo ∈ ex_tb := List.mem_filter.mpr ⟨(tb_2 (List.mem_of_getElem? (i := 56) rfl)), rfl⟩
theorem tw_408 : Cond.methodLink RX8 84 yX6_cutTo ∈ ex_tb := List.mem_filter.mpr ⟨(tb_2 (List.mem_of_getElem? (i := 54) rfl)), rfl⟩
theorem tw_409 : Cond.code yX5_readTape cX5_readTape 2 none ∈ ex_tb := List.mem_filter.mpr ⟨(tb_2 (List.mem_of_getElem? (i := 65) rfl)), rfl⟩
theorem tw_410 : Cond.instanceMethod yX5_readTape ∈ ex_tb := List.mem_filter.mpr ⟨(tb_2 (List.mem_of_getElem? (i := 63) rfl)), rfl⟩
theorem tw_411 : Cond.selects RX5 yX5_readTape yX5_readTape ∈ ex_tb := List.mem_filter.mpr ⟨(tb_2 (List.mem_of_getElem? (i := 64) rfl)), rfl⟩
theorem tw_412 : Cond.methodLink RX8 88 yX5_readTape ∈ ex_tb := List.mem_filter.mpr ⟨(tb_2 (List.mem_of_getElem? (i := 62) rfl)), rfl⟩
theorem tw_413 : Cond.fieldLink RX8 91 "EyeRota$Reader" "faultMet" "I" ∈ ex_tb := List.mem_filter.mpr ⟨(tb_1 (List.mem_of_getElem? (i := 119) rfl)), rfl⟩
theorem tw_414 : Cond.fieldLink RX8 95 "EyeRota" "textFault" "I" ∈ ex_tb := List.mem_filter.mpr ⟨(tb_2 (List.mem_of_getElem? (i := 3) rfl)), rfl⟩
theorem tw_415 : Cond.fieldLink RX8 98 "EyeRota$Reader" "faultPlace" "I" ∈ ex_tb := List.mem_filter.mpr ⟨(tb_1 (List.mem_of_getElem? (i := 121) rfl)), rfl⟩
theorem tw_416 : Cond.fieldLink RX8 101 "EyeRota$Reader" "draft" "LEyeRota$Family;" ∈ ex_tb := List.mem_filter.mpr ⟨(tb_1 (List.mem_of_getElem? (i := 114) rfl)), rfl⟩
theorem tw_417 : Cond.code yX1_copyFrom cX1_copyFrom 2 none ∈ ex_tb := List.mem_filter.mpr ⟨(tb_2 (List.mem_of_getElem? (i := 208) rfl)), rfl⟩
theorem tw_418 : Cond.instanceMethod yX1_copyFrom ∈ ex_tb := List.mem_filter.mpr ⟨(tb_2 (List.mem_of_getElem? (i := 206) rfl)), rfl⟩
theorem tw_419 : Cond.selects RX1 yX1_copyFrom yX1_copyFrom ∈ ex_tb := List.mem_filter.mpr ⟨(tb_2 (List.mem_of_getElem? (i := 207) rfl)), rfl⟩
theorem tw_420 : Cond.methodLink RX8 104 yX1_copyFrom ∈ ex_tb := List.mem_filter.mpr ⟨(tb_2 (List.mem_of_getElem? (i := 205) rfl)), rfl⟩
theorem tw_421 : Cond.fieldLink RX8 108 "EyeRota$Reader" "lines" "I" ∈ ex_tb := List.mem_filter.mpr ⟨(tb_1 (List.mem_of_getElem? (i := 117) rfl)), rfl⟩
theorem tw_422 : Cond.fieldLink RX8 111 "EyeRota$Family" "kin" "LEyeRota$Rows;" ∈ ex_tb := List.mem_filter.mpr ⟨(tb_1 (List.mem_of_getElem? (i := 68) rfl)), rfl⟩
theorem tw_423 : Cond.fieldLink RX8 114 "EyeRota$Rows" "size" "I" ∈ ex_tb := List.mem_filter.mpr ⟨(tb_1 (List.mem_of_getElem? (i := 50) rfl)), rfl⟩
theorem tw_424 : Cond.fieldLink RX8 117 "EyeRota$Family" "turns" "LEyeRota$Rows;" ∈ ex_tb := List.mem_filter.mpr ⟨(tb_1 (List.mem_of_getElem? (i := 72) rfl)), rfl⟩
theorem tw_425 : Cond.fieldLink RX8 120 "EyeRota$Family" "works" "LEyeRota$Rows;" ∈ ex_tb := List.mem_filter.mpr ⟨(tb_1 (List.mem_of_getElem? (i := 76) rfl)), rfl⟩
theorem tw_426 : Cond.fieldLink RX8 123 "EyeRota$Family" "tellings" "LEyeRota$Rows;" ∈ ex_tb := List.mem_filter.mpr ⟨(tb_1 (List.mem_of_getElem? (i := 81) rfl)), rfl⟩
theorem tw_427 : Cond.code yX1_hoursHeld cX1_hoursHeld 3 (some .int) ∈ ex_tb := List.mem_filter.mpr ⟨(tb_2 (List.mem_of_getElem? (i := 232) rfl)), rfl⟩
theorem tw_428 : Cond.instanceMethod yX1_hoursHeld ∈ ex_tb := List.mem_filter.mpr ⟨(tb_2 (List.mem_of_getElem? (i := 230) rfl)), rfl⟩
theorem tw_429 : Cond.selects RX1 yX1_hoursHeld yX1_hoursHeld ∈ ex_tb := List.mem_filter.mpr ⟨(tb_2 (List.mem_of_getElem? (i := 231) rfl)), rfl⟩
theorem tw_430 : Cond.methodLink RX8 126 yX1_hoursHeld ∈ ex_tb := List.mem_filter.mpr ⟨(tb_2 (List.mem_of_getElem? (i := 229) rfl)), rfl⟩
theorem tw_431 : Cond.fieldLink RX8 130 "EyeRota$Family" "holders" "[I" ∈ ex_tb := List.mem_filter.mpr ⟨(tb_1 (List.mem_of_getElem? (i := 87) rfl)), rfl⟩
theorem tw_432 : Cond.code yX7_look cX7_look 5 none ∈ ex_tb := List.mem_filter.mpr ⟨(tb_2 (List.mem_of_getElem? (i := 236) rfl)), rfl⟩
theorem tw_433 : Cond.instanceMethod yX7_look ∈ ex_tb := List.mem_filter.mpr ⟨(tb_2 (List.mem_of_getElem? (i := 234) rfl)), rfl⟩
theorem tw_434 : Cond.selects RX7 yX7_look yX7_look ∈ ex_tb := List.mem_filter.mpr ⟨(tb_2 (List.mem_of_getElem? (i := 235) rfl)), rfl⟩
theorem tw_435 : Cond.methodLink RX8 133 yX7_look ∈ ex_tb := List.mem_filter.mpr ⟨(tb_2 (List.mem_of_getElem? (i := 233) rfl)), rfl⟩
theorem tw_436 : Cond.code yX7_hoursSeen cX7_hoursSeen 3 (some .int) ∈ ex_tb := List.mem_filter.mpr ⟨(tb_3 (List.mem_of_getElem? (i := 17) rfl)), rfl⟩
theorem tw_437 : Cond.instanceMethod yX7_hoursSeen ∈ ex_tb := List.mem_filter.mpr ⟨(tb_3 (List.mem_of_getElem? (i := 15) rfl)), rfl⟩
theorem tw_438 : Cond.selects RX7 yX7_hoursSeen yX7_hoursSeen ∈ ex_tb := List.mem_filter.mpr ⟨(tb_3 (List.mem_of_getElem? (i := 16) rfl)), rfl⟩
theorem tw_439 : Cond.methodLink RX8 137 yX7_hoursSeen ∈ ex_tb := List.mem_filter.mpr ⟨(tb_3 (List.mem_of_getElem? (i := 14) rfl)), rfl⟩
theorem tw_440 : Cond.methodLink RX8 140 yX1_isOne ∈ ex_tb := List.mem_filter.mpr ⟨(tb_3 (List.mem_of_getElem? (i := 22) rfl)), rfl⟩
theorem tw_441 : Cond.methodLink RX8 144 yX1_kindOf ∈ ex_tb := List.mem_filter.mpr ⟨(tb_3 (List.mem_of_getElem? (i := 23) rfl)), rfl⟩
theorem tw_442 : Cond.methodLink RX8 147 yX1_postOf ∈ ex_tb := List.mem_filter.mpr ⟨(tb_3 (List.mem_of_getElem? (i := 24) rfl)), rfl⟩
theorem tw_443 : Cond.methodLink RX8 150 yX1_keepsOf ∈ ex_tb := List.mem_filter.mpr ⟨(tb_3 (List.mem_of_getElem? (i := 28) rfl)), rfl⟩
theorem tw_444 : Cond.code yX1_hoursHeldBy cX1_hoursHeldBy 4 (some .int) ∈ ex_tb := List.mem_filter.mpr ⟨(tb_3 (List.mem_of_getElem? (i := 38) rfl)), rfl⟩
theorem tw_445 : Cond.instanceMethod yX1_hoursHeldBy ∈ ex_tb := List.mem_filter.mpr ⟨(tb_3 (List.mem_of_getElem? (i := 36) rfl)), rfl⟩
theorem tw_446 : Cond.selects RX1 yX1_hoursHeldBy yX1_hoursHeldBy ∈ ex_tb := List.mem_filter.mpr ⟨(tb_3 (List.mem_of_getElem? (i := 37) rfl)), rfl⟩
theorem tw_447 : Cond.methodLink RX8 153 yX1_hoursHeldBy ∈ ex_tb := List.mem_filter.mpr ⟨(tb_3 (List.mem_of_getElem? (i := 35) rfl)), rfl⟩
theorem tw_448 : Cond.methodLink RX8 156 yX7_hoursOf ∈ ex_tb := List.mem_filter.mpr ⟨(tb_3 (List.mem_of_getElem? (i := 39) rfl)), rfl⟩
theorem tw_449 : Cond.code yX8_isThing cX8_isThing 1 (some .boolean) ∈ ex_tb := List.mem_filter.mpr ⟨(tb_3 (List.mem_of_getElem? (i := 49) rfl)), rfl⟩
theorem tw_450 : Cond.initialized RX8 ∈ ex_tb := List.mem_filter.mpr ⟨(tb_1 (List.mem_of_getElem? (i := 1) rfl)), rfl⟩
theorem tw_451 : Cond.static yX8_isThing ∈ ex_tb := List.mem_filter.mpr ⟨(tb_3 (List.mem_of_getElem? (i := 48) rfl)), rfl⟩
theorem tw_452 : Cond.methodLink RX8 159 yX8_isThing ∈ ex_tb := List.mem_filter.mpr ⟨(tb_3 (List.mem_of_getElem? (i := 47) rfl)), rfl⟩
theorem tw_453 : Cond.code yX8_isHour cX8_isHour 1 (some .boolean) ∈ ex_tb := List.mem_filter.mpr ⟨(tb_3 (List.mem_of_getElem? (i := 52) rfl)), rfl⟩
theorem tw_454 : Cond.static yX8_isHour ∈ ex_tb := List.mem_filter.mpr ⟨(tb_3 (List.mem_of_getElem? (i := 51) rfl)), rfl⟩
theorem tw_455 : Cond.methodLink RX8 162 yX8_isHour ∈ ex_tb := List.mem_filter.mpr ⟨(tb_3 (List.mem_of_getElem? (i := 50) rfl)), rfl⟩
theorem tw_456 : Cond.methodLink RX8 165 yX1_valueBehind ∈ ex_tb := List.mem_filter.mpr ⟨(tb_3 (List.mem_of_getElem? (i := 53) rfl)), rfl⟩
theorem tw_457 : Cond.methodLink RX8 169 yX6_at ∈ ex_tb := List.mem_filter.mpr ⟨(tb_3 (List.mem_of_getElem? (i := 65) rfl)), rfl⟩
theorem tw_458 : Cond.methodLink RX8 172 yX6_has ∈ ex_tb := List.mem_filter.mpr ⟨(tb_3 (List.mem_of_getElem? (i := 70) rfl)), rfl⟩
theorem tw_459 : Cond.methodLink RX8 175 yX7_isDone ∈ ex_tb := List.mem_filter.mpr ⟨(tb_3 (List.mem_of_getElem? (i := 71) rfl)), rfl⟩
theorem tw_460 : Cond.code yX8_isFlag cX8_isFlag 1 (some .boolean) ∈ ex_tb := List.mem_filter.mpr ⟨(tb_3 (List.mem_of_getElem? (i := 87) rfl)), rfl⟩
theorem tw_461 : Cond.static yX8_isFlag ∈ ex_tb := List.mem_filter.mpr ⟨(tb_3 (List.mem_of_getElem? (i := 86) rfl)), rfl⟩
theorem tw_462 : Cond.methodLink RX8 179 yX8_isFlag ∈ ex_tb := List.mem_filter.mpr ⟨(tb_3 (List.mem_of_getElem? (i := 85) rfl)), rfl⟩
theorem tw_463 : Cond.methodLink RX8 182 yX6_put ∈ ex_tb := List.mem_filter.mpr ⟨(tb_3 (List.mem_of_getElem? (i := 88) rfl)), rfl⟩
theorem tw_464 : Cond.code yX8_isValue cX8_isValue 1 (some .boolean) ∈ ex_tb := List.mem_filter.mpr ⟨(tb_3 (List.mem_of_getElem? (i := 95) rfl)), rfl⟩
theorem tw_465 : Cond.static yX8_isValue ∈ ex_tb := List.mem_filter.mpr ⟨(tb_3 (List.mem_of_getElem? (i := 94) rfl)), rfl⟩
theorem tw_466 : Cond.methodLink RX8 186 yX8_isValue ∈ ex_tb := List.mem_filter.mpr ⟨(tb_3 (List.mem_of_getElem? (i := 93) rfl)), rfl⟩
theorem tw_467 : Cond.fieldLink RX8 189 "EyeRota$Family" "firstValues" "[I" ∈ ex_tb := List.mem_filter.mpr ⟨(tb_1 (List.mem_of_getElem? (i := 84) rfl)), rfl⟩
theorem tw_468 : Cond.code yX8_isShift cX8_isShift 3 (some .boolean) ∈ ex_tb := List.mem_filter.mpr ⟨(tb_3 (List.mem_of_getElem? (i := 103) rfl)), rfl⟩
theorem tw_469 : Cond.instanceMethod yX8_isShift ∈ ex_tb := List.mem_filter.mpr ⟨(tb_3 (List.mem_of_getElem? (i := 102) rfl)), rfl⟩
theorem tw_470 : Cond.selects RX8 yX8_isShift yX8_isShift ∈ ex_tb := List.mem_filter.mpr ⟨(tp_1 (List.mem_of_getElem? (i := 15) rfl)), rfl⟩
theorem tw_471 : Cond.methodLink RX8 192 yX8_isShift ∈ ex_tb := List.mem_filter.mpr ⟨(tb_3 (List.mem_of_getElem? (i := 100) rfl)), rfl⟩
theorem tw_472 : Cond.methodLink RX8 196 yX7_seerIn ∈ ex_tb := List.mem_filter.mpr ⟨(tb_3 (List.mem_of_getElem? (i := 124) rfl)), rfl⟩
theorem tw_473 : Cond.code yX0_live cX0_live 4 none ∈ ex_tb := List.mem_filter.mpr ⟨(tb_3 (List.mem_of_getElem? (i := 132) rfl)), rfl⟩
theorem tw_474 : Cond.instanceMethod yX0_live ∈ ex_tb := List.mem_filter.mpr ⟨(tb_3 (List.mem_of_getElem? (i := 130) rfl)), rfl⟩
theorem tw_475 : Cond.selects RX0 yX0_live yX0_live ∈ ex_tb := List.mem_filter.mpr ⟨(tb_3 (List.mem_of_getElem? (i := 131) rfl)), rfl⟩
theorem tw_476 : Cond.methodLink RX8 200 yX0_live ∈ ex_tb := List.mem_filter.mpr ⟨(tb_3 (List.mem_of_getElem? (i := 129) rfl)), rfl⟩
theorem tw_477 : Cond.methodLink RX8 203 yX0_valueOf ∈ ex_tb := List.mem_filter.mpr ⟨(tb_3 (List.mem_of_getElem? (i := 166) rfl)), rfl⟩
theorem tw_478 : Cond.methodLink RX8 207 yX0_ageOf ∈ ex_tb := List.mem_filter.mpr ⟨(tb_3 (List.mem_of_getElem? (i := 167) rfl)), rfl⟩
theorem tw_479 : Cond.code yX0_rightOnes cX0_rightOnes 7 (some .int) ∈ ex_tb := List.mem_filter.mpr ⟨(tb_3 (List.mem_of_getElem? (i := 175) rfl)), rfl⟩
theorem tw_480 : Cond.instanceMethod yX0_rightOnes ∈ ex_tb := List.mem_filter.mpr ⟨(tb_3 (List.mem_of_getElem? (i := 173) rfl)), rfl⟩
theorem tw_481 : Cond.selects RX0 yX0_rightOnes yX0_rightOnes ∈ ex_tb := List.mem_filter.mpr ⟨(tb_3 (List.mem_of_getElem? (i := 174) rfl)), rfl⟩
theorem tw_482 : Cond.methodLink RX8 210 yX0_rightOnes ∈ ex_tb := List.mem_filter.mpr ⟨(tb_3 (List.mem_of_getElem? (i := 172) rfl)), rfl⟩
theorem tw_483 : Cond.code yX0_wrongOnes cX0_wrongOnes 8 (some .int) ∈ ex_tb := List.mem_filter.mpr ⟨(tb_3 (List.mem_of_getElem? (i := 179) rfl)), rfl⟩
theorem tw_484 : Cond.instanceMethod yX0_wrongOnes ∈ ex_tb := List.mem_filter.mpr ⟨(tb_3 (List.mem_of_getElem? (i := 177) rfl)), rfl⟩
theorem tw_485 : Cond.selects RX0 yX0_wrongOnes yX0_wrongOnes ∈ ex_tb := List.mem_filter.mpr ⟨(tb_3 (List.mem_of_getElem? (i := 178) rfl)), rfl⟩
theorem tw_486 : Cond.methodLink RX8 214 yX0_wrongOnes ∈ ex_tb := List.mem_filter.mpr ⟨(tb_3 (List.mem_of_getElem? (i := 176) rfl)), rfl⟩
theorem tw_487 : Cond.code yX7_donePieces cX7_donePieces 4 (some .int) ∈ ex_tb := List.mem_filter.mpr ⟨(tb_3 (List.mem_of_getElem? (i := 191) rfl)), rfl⟩
theorem tw_488 : Cond.instanceMethod yX7_donePieces ∈ ex_tb := List.mem_filter.mpr ⟨(tb_3 (List.mem_of_getElem? (i := 189) rfl)), rfl⟩
theorem tw_489 : Cond.selects RX7 yX7_donePieces yX7_donePieces ∈ ex_tb := List.mem_filter.mpr ⟨(tb_3 (List.mem_of_getElem? (i := 190) rfl)), rfl⟩
theorem tw_490 : Cond.methodLink RX8 217 yX7_donePieces ∈ ex_tb := List.mem_filter.mpr ⟨(tb_3 (List.mem_of_getElem? (i := 188) rfl)), rfl⟩
theorem tw_491 : Cond.code yX7_doneWorth cX7_doneWorth 4 (some .int) ∈ ex_tb := List.mem_filter.mpr ⟨(tb_3 (List.mem_of_getElem? (i := 196) rfl)), rfl⟩
theorem tw_492 : Cond.instanceMethod yX7_doneWorth ∈ ex_tb := List.mem_filter.mpr ⟨(tb_3 (List.mem_of_getElem? (i := 194) rfl)), rfl⟩
theorem tw_493 : Cond.selects RX7 yX7_doneWorth yX7_doneWorth ∈ ex_tb := List.mem_filter.mpr ⟨(tb_3 (List.mem_of_getElem? (i := 195) rfl)), rfl⟩
theorem tw_494 : Cond.methodLink RX8 221 yX7_doneWorth ∈ ex_tb := List.mem_filter.mpr ⟨(tb_3 (List.mem_of_getElem? (i := 193) rfl)), rfl⟩
theorem tw_495 : Cond.code yX4_planFor cX4_planFor 3 none ∈ ex_tb := List.mem_filter.mpr ⟨(tb_3 (List.mem_of_getElem? (i := 208) rfl)), rfl⟩
theorem tw_496 : Cond.instanceMethod yX4_planFor ∈ ex_tb := List.mem_filter.mpr ⟨(tb_3 (List.mem_of_getElem? (i := 206) rfl)), rfl⟩
theorem tw_497 : Cond.selects RX4 yX4_planFor yX4_planFor ∈ ex_tb := List.mem_filter.mpr ⟨(tb_3 (List.mem_of_getElem? (i := 207) rfl)), rfl⟩
theorem tw_498 : Cond.methodLink RX8 224 yX4_planFor ∈ ex_tb := List.mem_filter.mpr ⟨(tb_3 (List.mem_of_getElem? (i := 205) rfl)), rfl⟩
theorem tw_499 : Cond.fieldLink RX8 227 "EyeRota$Planner" "planWorth" "I" ∈ ex_tb := List.mem_filter.mpr ⟨(tb_1 (List.mem_of_getElem? (i := 199) rfl)), rfl⟩
theorem tw_500 : Cond.fieldLink RX8 230 "EyeRota$Planner" "plan" "[I" ∈ ex_tb := List.mem_filter.mpr ⟨(tb_1 (List.mem_of_getElem? (i := 194) rfl)), rfl⟩
theorem tw_501 : Cond.methodLink RX8 303 arraycopyName ∈ ex_tb := List.mem_filter.mpr ⟨(tb_4 (List.mem_of_getElem? (i := 25) rfl)), rfl⟩
theorem tw_502 : Cond.code yX8_takeTrial cX8_takeTrial 1 none ∈ ex_tb := List.mem_filter.mpr ⟨(tb_4 (List.mem_of_getElem? (i := 24) rfl)), rfl⟩
theorem tw_503 : Cond.instanceMethod yX8_takeTrial ∈ ex_tb := List.mem_filter.mpr ⟨(tb_4 (List.mem_of_getElem? (i := 23) rfl)), rfl⟩
theorem tw_504 : Cond.selects RX8 yX8_takeTrial yX8_takeTrial ∈ ex_tb := List.mem_filter.mpr ⟨(tp_2 (List.mem_of_getElem? (i := 12) rfl)), rfl⟩
theorem tw_505 : Cond.methodLink RX8 273 yX8_takeTrial ∈ ex_tb := List.mem_filter.mpr ⟨(tb_4 (List.mem_of_getElem? (i := 21) rfl)), rfl⟩
theorem tw_506 : Cond.code yX8_worthBy cX8_worthBy 2 (some .int) ∈ ex_tb := List.mem_filter.mpr ⟨(tb_4 (List.mem_of_getElem? (i := 16) rfl)), rfl⟩
theorem tw_507 : Cond.instanceMethod yX8_worthBy ∈ ex_tb := List.mem_filter.mpr ⟨(tb_4 (List.mem_of_getElem? (i := 15) rfl)), rfl⟩
theorem tw_508 : Cond.selects RX8 yX8_worthBy yX8_worthBy ∈ ex_tb := List.mem_filter.mpr ⟨(tp_2 (List.mem_of_getElem? (i := 10) rfl)), rfl⟩
theorem tw_509 : Cond.methodLink RX8 233 yX8_worthBy ∈ ex_tb := List.mem_filter.mpr ⟨(tb_4 (List.mem_of_getElem? (i := 13) rfl)), rfl⟩
theorem tw_510 : Cond.code yX8_worthSwapped cX8_worthSwapped 3 (some .int) ∈ ex_tb := List.mem_filter.mpr ⟨(tb_4 (List.mem_of_getElem? (i := 20) rfl)), rfl⟩
theorem tw_511 : Cond.instanceMethod yX8_worthSwapped ∈ ex_tb := List.mem_filter.mpr ⟨(tb_4 (List.mem_of_getElem? (i := 19) rfl)), rfl⟩
theorem tw_512 : Cond.selects RX8 yX8_worthSwapped yX8_worthSwapped ∈ ex_tb := List.mem_filter.mpr ⟨(tp_2 (List.mem_of_getElem? (i := 11) rfl)), rfl⟩
theorem tw_513 : Cond.methodLink RX8 237 yX8_worthSwapped ∈ ex_tb := List.mem_filter.mpr ⟨(tb_4 (List.mem_of_getElem? (i := 17) rfl)), rfl⟩
theorem tw_514 : Cond.code yX8_worthGiven cX8_worthGiven 3 (some .int) ∈ ex_tb := List.mem_filter.mpr ⟨(tb_4 (List.mem_of_getElem? (i := 33) rfl)), rfl⟩
theorem tw_515 : Cond.instanceMethod yX8_worthGiven ∈ ex_tb := List.mem_filter.mpr ⟨(tb_4 (List.mem_of_getElem? (i := 32) rfl)), rfl⟩
theorem tw_516 : Cond.selects RX8 yX8_worthGiven yX8_worthGiven ∈ ex_tb := List.mem_filter.mpr ⟨(tp_2 (List.mem_of_getElem? (i := 13) rfl)), rfl⟩
theorem tw_517 : Cond.methodLink RX8 240 yX8_worthGiven ∈ ex_tb := List.mem_filter.mpr ⟨(tb_4 (List.mem_of_getElem? (i := 30) rfl)), rfl⟩
theorem tw_518 : Cond.code yJ6_bitCount_0f7a4 cJ6_bitCount_0f7a4 1 (some .int) ∈ ex_tb := List.mem_filter.mpr ⟨(tb_4 (List.mem_of_getElem? (i := 40) rfl)), rfl⟩
theorem tw_519 : Cond.initialized RJ6 ∈ ex_tb := List.mem_filter.mpr ⟨(tb_1 (List.mem_of_getElem? (i := 16) rfl)), rfl⟩
theorem tw_520 : Cond.static yJ6_bitCount_0f7a4 ∈ ex_tb := List.mem_filter.mpr ⟨(tb_4 (List.mem_of_getElem? (i := 39) rfl)), rfl⟩
theorem tw_521 : Cond.methodLink RX8 243 yJ6_bitCount_0f7a4 ∈ ex_tb := List.mem_filter.mpr ⟨(tb_4 (List.mem_of_getElem? (i := 38) rfl)), rfl⟩
theorem tw_522 : Cond.constantLong RX8 248 (-1) ∈ ex_tb := List.mem_filter.mpr ⟨(tb_4 (List.mem_of_getElem? (i := 48) rfl)), rfl⟩
theorem tw_523 : Cond.code yX7_chancesOf cX7_chancesOf 9 (some .int) ∈ ex_tb := List.mem_filter.mpr ⟨(tb_4 (List.mem_of_getElem? (i := 52) rfl)), rfl⟩
theorem tw_524 : Cond.instanceMethod yX7_chancesOf ∈ ex_tb := List.mem_filter.mpr ⟨(tb_4 (List.mem_of_getElem? (i := 50) rfl)), rfl⟩
theorem tw_525 : Cond.selects RX7 yX7_chancesOf yX7_chancesOf ∈ ex_tb := List.mem_filter.mpr ⟨(tb_4 (List.mem_of_getElem? (i := 51) rfl)), rfl⟩
theorem tw_526 : Cond.methodLink RX8 250 yX7_chancesOf ∈ ex_tb := List.mem_filter.mpr ⟨(tb_4 (List.mem_of_getElem? (i := 49) rfl)), rfl⟩
theorem tw_527 : Cond.code yX2_shareMet cX2_shareMet 5 (some .long) ∈ ex_tb := List.mem_filter.mpr ⟨(tb_4 (List.mem_of_getElem? (i := 55) rfl)), rfl⟩
theorem tw_528 : Cond.static yX2_shareMet ∈ ex_tb := List.mem_filter.mpr ⟨(tb_4 (List.mem_of_getElem? (i := 54) rfl)), rfl⟩
theorem tw_529 : Cond.methodLink RX8 254 yX2_shareMet ∈ ex_tb := List.mem_filter.mpr ⟨(tb_4 (List.mem_of_getElem? (i := 53) rfl)), rfl⟩
theorem tw_530 : Cond.code yX2_part cX2_part 5 (some .long) ∈ ex_tb := List.mem_filter.mpr ⟨(tb_4 (List.mem_of_getElem? (i := 60) rfl)), rfl⟩
theorem tw_531 : Cond.static yX2_part ∈ ex_tb := List.mem_filter.mpr ⟨(tb_4 (List.mem_of_getElem? (i := 59) rfl)), rfl⟩
theorem tw_532 : Cond.methodLink RX8 260 yX2_part ∈ ex_tb := List.mem_filter.mpr ⟨(tb_4 (List.mem_of_getElem? (i := 58) rfl)), rfl⟩
theorem tw_533 : Cond.methodLink RX8 264 yX1_worthOf ∈ ex_tb := List.mem_filter.mpr ⟨(tb_4 (List.mem_of_getElem? (i := 69) rfl)), rfl⟩
theorem tw_534 : Cond.code yX0_copyLast cX0_copyLast 3 none ∈ ex_tb := List.mem_filter.mpr ⟨(tb_4 (List.mem_of_getElem? (i := 89) rfl)), rfl⟩
theorem tw_535 : Cond.instanceMethod yX0_copyLast ∈ ex_tb := List.mem_filter.mpr ⟨(tb_4 (List.mem_of_getElem? (i := 87) rfl)), rfl⟩
theorem tw_536 : Cond.selects RX0 yX0_copyLast yX0_copyLast ∈ ex_tb := List.mem_filter.mpr ⟨(tb_4 (List.mem_of_getElem? (i := 88) rfl)), rfl⟩
theorem tw_537 : Cond.methodLink RX8 319 yX0_copyLast ∈ ex_tb := List.mem_filter.mpr ⟨(tb_4 (List.mem_of_getElem? (i := 86) rfl)), rfl⟩
theorem tw_538 : Cond.code yX0_isAsSeen cX0_isAsSeen 3 (some .boolean) ∈ ex_tb := List.mem_filter.mpr ⟨(tb_4 (List.mem_of_getElem? (i := 94) rfl)), rfl⟩
theorem tw_539 : Cond.instanceMethod yX0_isAsSeen ∈ ex_tb := List.mem_filter.mpr ⟨(tb_4 (List.mem_of_getElem? (i := 92) rfl)), rfl⟩
theorem tw_540 : Cond.selects RX0 yX0_isAsSeen yX0_isAsSeen ∈ ex_tb := List.mem_filter.mpr ⟨(tb_4 (List.mem_of_getElem? (i := 93) rfl)), rfl⟩
theorem tw_541 : Cond.methodLink RX8 323 yX0_isAsSeen ∈ ex_tb := List.mem_filter.mpr ⟨(tb_4 (List.mem_of_getElem? (i := 91) rfl)), rfl⟩
theorem tw_542 : Cond.code yX8_possibleHolders cX8_possibleHolders 5 (some .int) ∈ ex_tb := List.mem_filter.mpr ⟨(tb_4 (List.mem_of_getElem? (i := 85) rfl)), rfl⟩
theorem tw_543 : Cond.instanceMethod yX8_possibleHolders ∈ ex_tb := List.mem_filter.mpr ⟨(tb_4 (List.mem_of_getElem? (i := 84) rfl)), rfl⟩
theorem tw_544 : Cond.selects RX8 yX8_possibleHolders yX8_possibleHolders ∈ ex_tb := List.mem_filter.mpr ⟨(tp_2 (List.mem_of_getElem? (i := 14) rfl)), rfl⟩
theorem tw_545 : Cond.methodLink RX8 267 yX8_possibleHolders ∈ ex_tb := List.mem_filter.mpr ⟨(tb_4 (List.mem_of_getElem? (i := 82) rfl)), rfl⟩
theorem tw_546 : Cond.code yX8_answerBy cX8_answerBy 4 (some .int) ∈ ex_tb := List.mem_filter.mpr ⟨(tb_4 (List.mem_of_getElem? (i := 106) rfl)), rfl⟩
theorem tw_547 : Cond.instanceMethod yX8_answerBy ∈ ex_tb := List.mem_filter.mpr ⟨(tb_4 (List.mem_of_getElem? (i := 105) rfl)), rfl⟩
theorem tw_548 : Cond.selects RX8 yX8_answerBy yX8_answerBy ∈ ex_tb := List.mem_filter.mpr ⟨(tp_3 (List.mem_of_getElem? (i := 0) rfl)), rfl⟩
theorem tw_549 : Cond.methodLink RX8 327 yX8_answerBy ∈ ex_tb := List.mem_filter.mpr ⟨(tb_4 (List.mem_of_getElem? (i := 103) rfl)), rfl⟩
theorem tw_550 : Cond.methodLink RX8 330 yJ9_max_7cf53 ∈ ex_tb := List.mem_filter.mpr ⟨(tb_4 (List.mem_of_getElem? (i := 107) rfl)), rfl⟩
theorem tw_551 : Cond.code yX8_leftAtWorst cX8_leftAtWorst 9 (some .int) ∈ ex_tb := List.mem_filter.mpr ⟨(tb_4 (List.mem_of_getElem? (i := 102) rfl)), rfl⟩
theorem tw_552 : Cond.instanceMethod yX8_leftAtWorst ∈ ex_tb := List.mem_filter.mpr ⟨(tb_4 (List.mem_of_getElem? (i := 101) rfl)), rfl⟩
theorem tw_553 : Cond.selects RX8 yX8_leftAtWorst yX8_leftAtWorst ∈ ex_tb := List.mem_filter.mpr ⟨(tp_2 (List.mem_of_getElem? (i := 15) rfl)), rfl⟩
theorem tw_554 : Cond.methodLink RX8 270 yX8_leftAtWorst ∈ ex_tb := List.mem_filter.mpr ⟨(tb_4 (List.mem_of_getElem? (i := 99) rfl)), rfl⟩
theorem tw_555 : Cond.constant RX8 318 (1103515245) ∈ ex_tb := List.mem_filter.mpr ⟨(tb_4 (List.mem_of_getElem? (i := 115) rfl)), rfl⟩
theorem tw_556 : Cond.code yX8_nextSeed cX8_nextSeed 1 (some .int) ∈ ex_tb := List.mem_filter.mpr ⟨(tb_4 (List.mem_of_getElem? (i := 114) rfl)), rfl⟩
theorem tw_557 : Cond.static yX8_nextSeed ∈ ex_tb := List.mem_filter.mpr ⟨(tb_4 (List.mem_of_getElem? (i := 113) rfl)), rfl⟩
theorem tw_558 : Cond.methodLink RX8 276 yX8_nextSeed ∈ ex_tb := List.mem_filter.mpr ⟨(tb_4 (List.mem_of_getElem? (i := 112) rfl)), rfl⟩
theorem tw_559 : Cond.code yX8_drawn cX8_drawn 1 (some .int) ∈ ex_tb := List.mem_filter.mpr ⟨(tb_4 (List.mem_of_getElem? (i := 118) rfl)), rfl⟩
theorem tw_560 : Cond.static yX8_drawn ∈ ex_tb := List.mem_filter.mpr ⟨(tb_4 (List.mem_of_getElem? (i := 117) rfl)), rfl⟩
theorem tw_561 : Cond.methodLink RX8 279 yX8_drawn ∈ ex_tb := List.mem_filter.mpr ⟨(tb_4 (List.mem_of_getElem? (i := 116) rfl)), rfl⟩
theorem tw_562 : Cond.code yX8_isSheet cX8_isSheet 1 (some .boolean) ∈ ex_tb := List.mem_filter.mpr ⟨(tb_4 (List.mem_of_getElem? (i := 133) rfl)), rfl⟩
theorem tw_563 : Cond.static yX8_isSheet ∈ ex_tb := List.mem_filter.mpr ⟨(tb_4 (List.mem_of_getElem? (i := 132) rfl)), rfl⟩
theorem tw_564 : Cond.methodLink RX8 282 yX8_isSheet ∈ ex_tb := List.mem_filter.mpr ⟨(tb_4 (List.mem_of_getElem? (i := 131) rfl)), rfl⟩
theorem tw_565 : Cond.code yX8_isLane cX8_isLane 1 (some .boolean) ∈ ex_tb := List.mem_filter.mpr ⟨(tb_4 (List.mem_of_getElem? (i := 136) rfl)), rfl⟩
theorem tw_566 : Cond.static yX8_isLane ∈ ex_tb := List.mem_filter.mpr ⟨(tb_4 (List.mem_of_getElem? (i := 135) rfl)), rfl⟩
theorem tw_567 : Cond.methodLink RX8 285 yX8_isLane ∈ ex_tb := List.mem_filter.mpr ⟨(tb_4 (List.mem_of_getElem? (i := 134) rfl)), rfl⟩
theorem tw_568 : Cond.code yX3_makeNew cX3_makeNew 4 none ∈ ex_tb := List.mem_filter.mpr ⟨(tb_4 (List.mem_of_getElem? (i := 140) rfl)), rfl⟩
theorem tw_569 : Cond.instanceMethod yX3_makeNew ∈ ex_tb := List.mem_filter.mpr ⟨(tb_4 (List.mem_of_getElem? (i := 138) rfl)), rfl⟩
theorem tw_570 : Cond.selects RX3 yX3_makeNew yX3_makeNew ∈ ex_tb := List.mem_filter.mpr ⟨(tb_4 (List.mem_of_getElem? (i := 139) rfl)), rfl⟩
theorem tw_571 : Cond.methodLink RX8 288 yX3_makeNew ∈ ex_tb := List.mem_filter.mpr ⟨(tb_4 (List.mem_of_getElem? (i := 137) rfl)), rfl⟩
theorem tw_572 : Cond.methodLink RX8 291 yX3_faultAt ∈ ex_tb := List.mem_filter.mpr ⟨(tb_4 (List.mem_of_getElem? (i := 146) rfl)), rfl⟩
theorem tw_573 : Cond.code yX3_putCell cX3_putCell 3 none ∈ ex_tb := List.mem_filter.mpr ⟨(tb_4 (List.mem_of_getElem? (i := 153) rfl)), rfl⟩
theorem tw_574 : Cond.instanceMethod yX3_putCell ∈ ex_tb := List.mem_filter.mpr ⟨(tb_4 (List.mem_of_getElem? (i := 151) rfl)), rfl⟩
theorem tw_575 : Cond.selects RX3 yX3_putCell yX3_putCell ∈ ex_tb := List.mem_filter.mpr ⟨(tb_4 (List.mem_of_getElem? (i := 152) rfl)), rfl⟩
theorem tw_576 : Cond.methodLink RX8 294 yX3_putCell ∈ ex_tb := List.mem_filter.mpr ⟨(tb_4 (List.mem_of_getElem? (i := 150) rfl)), rfl⟩
theorem tw_577 : Cond.code yX3_faultOfPair cX3_faultOfPair 4 (some .int) ∈ ex_tb := List.mem_filter.mpr ⟨(tb_4 (List.mem_of_getElem? (i := 161) rfl)), rfl⟩
theorem tw_578 : Cond.instanceMethod yX3_faultOfPair ∈ ex_tb := List.mem_filter.mpr ⟨(tb_4 (List.mem_of_getElem? (i := 159) rfl)), rfl⟩
theorem tw_579 : Cond.selects RX3 yX3_faultOfPair yX3_faultOfPair ∈ ex_tb := List.mem_filter.mpr ⟨(tb_4 (List.mem_of_getElem? (i := 160) rfl)), rfl⟩
theorem tw_580 : Cond.methodLink RX8 297 yX3_faultOfPair ∈ ex_tb := List.mem_filter.mpr ⟨(tb_4 (List.mem_of_getElem? (i := 158) rfl)), rfl⟩
theorem tw_581 : Cond.code yX3_cellAt cX3_cellAt 2 (some .int) ∈ ex_tb := List.mem_filter.mpr ⟨(tb_4 (List.mem_of_getElem? (i := 166) rfl)), rfl⟩
theorem tw_582 : Cond.instanceMethod yX3_cellAt ∈ ex_tb := List.mem_filter.mpr ⟨(tb_4 (List.mem_of_getElem? (i := 164) rfl)), rfl⟩
theorem tw_583 : Cond.selects RX3 yX3_cellAt yX3_cellAt ∈ ex_tb := List.mem_filter.mpr ⟨(tb_4 (List.mem_of_getElem? (i := 165) rfl)), rfl⟩
theorem tw_584 : Cond.methodLink RX8 300 yX3_cellAt ∈ ex_tb := List.mem_filter.mpr ⟨(tb_4 (List.mem_of_getElem? (i := 163) rfl)), rfl⟩
theorem tw_585 : Cond.fieldLink RX8 309 "EyeRota" "readFault" "I" ∈ ex_tb := List.mem_filter.mpr ⟨(tb_2 (List.mem_of_getElem? (i := 4) rfl)), rfl⟩
theorem tw_586 : Cond.fieldLink RX8 312 "EyeRota$Page" "length" "I" ∈ ex_tb := List.mem_filter.mpr ⟨(tb_1 (List.mem_of_getElem? (i := 223) rfl)), rfl⟩
theorem tw_587 : Cond.code yX1_allWorth cX1_allWorth 3 (some .int) ∈ ex_tb := List.mem_filter.mpr ⟨(tb_4 (List.mem_of_getElem? (i := 178) rfl)), rfl⟩
theorem tw_588 : Cond.instanceMethod yX1_allWorth ∈ ex_tb := List.mem_filter.mpr ⟨(tb_4 (List.mem_of_getElem? (i := 176) rfl)), rfl⟩
theorem tw_589 : Cond.selects RX1 yX1_allWorth yX1_allWorth ∈ ex_tb := List.mem_filter.mpr ⟨(tb_4 (List.mem_of_getElem? (i := 177) rfl)), rfl⟩
theorem tw_590 : Cond.methodLink RX8 315 yX1_allWorth ∈ ex_tb := List.mem_filter.mpr ⟨(tb_4 (List.mem_of_getElem? (i := 175) rfl)), rfl⟩
theorem tw_591 : Cond.methodLink RX9 1 objectInit ∈ ex_tb := List.mem_filter.mpr ⟨(tb_4 (List.mem_of_getElem? (i := 185) rfl)), rfl⟩
theorem tw_592 : Cond.fieldLink RX9 7 "EyeRotaModel" "state" "[I" ∈ ex_tb := List.mem_filter.mpr ⟨(tb_4 (List.mem_of_getElem? (i := 186) rfl)), rfl⟩
theorem tw_593 : Cond.fieldLink RX9 13 "EyeRotaModel" "keeps" "[I" ∈ ex_tb := List.mem_filter.mpr ⟨(tb_4 (List.mem_of_getElem? (i := 187) rfl)), rfl⟩
theorem tw_594 : Cond.fieldLink RX9 16 "EyeRotaModel" "readPage" "[I" ∈ ex_tb := List.mem_filter.mpr ⟨(tb_4 (List.mem_of_getElem? (i := 189) rfl)), rfl⟩
theorem tw_595 : Cond.fieldLink RX9 19 "EyeRotaModel" "tape" "[I" ∈ ex_tb := List.mem_filter.mpr ⟨(tb_4 (List.mem_of_getElem? (i := 195) rfl)), rfl⟩
theorem tw_596 : Cond.fieldLink RX9 22 "EyeRotaModel" "cuts" "[I" ∈ ex_tb := List.mem_filter.mpr ⟨(tb_4 (List.mem_of_getElem? (i := 204) rfl)), rfl⟩
theorem tw_597 : Cond.fieldLink RX9 25 "EyeRotaModel" "letters" "[I" ∈ ex_tb := List.mem_filter.mpr ⟨(tb_4 (List.mem_of_getElem? (i := 205) rfl)), rfl⟩
theorem tw_598 : Cond.fieldLink RX9 28 "EyeRotaModel" "believed" "[I" ∈ ex_tb := List.mem_filter.mpr ⟨(tb_4 (List.mem_of_getElem? (i := 206) rfl)), rfl⟩
theorem tw_599 : Cond.fieldLink RX9 31 "EyeRotaModel" "old" "[I" ∈ ex_tb := List.mem_filter.mpr ⟨(tb_4 (List.mem_of_getElem? (i := 207) rfl)), rfl⟩
theorem tw_600 : Cond.fieldLink RX9 34 "EyeRotaModel" "most" "[I" ∈ ex_tb := List.mem_filter.mpr ⟨(tb_4 (List.mem_of_getElem? (i := 208) rfl)), rfl⟩
theorem tw_601 : Cond.fieldLink RX9 37 "EyeRotaModel" "seen" "[I" ∈ ex_tb := List.mem_filter.mpr ⟨(tb_4 (List.mem_of_getElem? (i := 209) rfl)), rfl⟩
theorem tw_602 : Cond.fieldLink RX9 40 "EyeRotaModel" "atLast" "[I" ∈ ex_tb := List.mem_filter.mpr ⟨(tb_4 (List.mem_of_getElem? (i := 211) rfl)), rfl⟩
theorem tw_603 : Cond.fieldLink RX9 43 "EyeRotaModel" "isKept" "[Z" ∈ ex_tb := List.mem_filter.mpr ⟨(tb_4 (List.mem_of_getElem? (i := 213) rfl)), rfl⟩
theorem tw_604 : Cond.fieldLink RX9 47 "EyeRotaModel" "lanes" "[I" ∈ ex_tb := List.mem_filter.mpr ⟨(tb_4 (List.mem_of_getElem? (i := 214) rfl)), rfl⟩
theorem tw_605 : Cond.fieldLink RX9 50 "EyeRotaModel" "lengths" "[I" ∈ ex_tb := List.mem_filter.mpr ⟨(tb_4 (List.mem_of_getElem? (i := 215) rfl)), rfl⟩
theorem tw_606 : Cond.fieldLink RX9 53 "EyeRotaModel" "cells" "[I" ∈ ex_tb := List.mem_filter.mpr ⟨(tb_4 (List.mem_of_getElem? (i := 216) rfl)), rfl⟩
theorem tw_607 : Cond.constantLong RX9 56 (127) ∈ ex_tb := List.mem_filter.mpr ⟨(tb_5 (List.mem_of_getElem? (i := 47) rfl)), rfl⟩
theorem tw_608 : Cond.code yX9_in cX9_in 6 (some .boolean) ∈ ex_tb := List.mem_filter.mpr ⟨(tb_5 (List.mem_of_getElem? (i := 50) rfl)), rfl⟩
theorem tw_609 : Cond.initialized RX9 ∈ ex_tb := List.mem_filter.mpr ⟨(tb_1 (List.mem_of_getElem? (i := 10) rfl)), rfl⟩
theorem tw_610 : Cond.static yX9_in ∈ ex_tb := List.mem_filter.mpr ⟨(tb_5 (List.mem_of_getElem? (i := 49) rfl)), rfl⟩
theorem tw_611 : Cond.methodLink RX9 58 yX9_in ∈ ex_tb := List.mem_filter.mpr ⟨(tb_5 (List.mem_of_getElem? (i := 48) rfl)), rfl⟩
theorem tw_612 : Cond.fieldLink RX9 62 "EyeRotaModel" "taped" "I" ∈ ex_tb := List.mem_filter.mpr ⟨(tb_4 (List.mem_of_getElem? (i := 196) rfl)), rfl⟩
theorem tw_613 : Cond.fieldLink RX9 66 "EyeRotaModel" "broken" "I" ∈ ex_tb := List.mem_filter.mpr ⟨(tb_4 (List.mem_of_getElem? (i := 198) rfl)), rfl⟩
theorem tw_614 : Cond.fieldLink RX9 69 "EyeRotaModel" "here" "I" ∈ ex_tb := List.mem_filter.mpr ⟨(tb_4 (List.mem_of_getElem? (i := 201) rfl)), rfl⟩
theorem tw_615 : Cond.fieldLink RX9 72 "EyeRotaModel" "brokenAt" "I" ∈ ex_tb := List.mem_filter.mpr ⟨(tb_4 (List.mem_of_getElem? (i := 199) rfl)), rfl⟩
theorem tw_616 : Cond.fieldLink RX9 75 "EyeRotaModel" "token" "I" ∈ ex_tb := List.mem_filter.mpr ⟨(tb_4 (List.mem_of_getElem? (i := 202) rfl)), rfl⟩
theorem tw_617 : Cond.fieldLink RX9 78 "EyeRotaModel" "spot" "I" ∈ ex_tb := List.mem_filter.mpr ⟨(tb_4 (List.mem_of_getElem? (i := 200) rfl)), rfl⟩
theorem tw_618 : Cond.code yX9_byteAt cX9_byteAt 2 (some .int) ∈ ex_tb := List.mem_filter.mpr ⟨(tb_5 (List.mem_of_getElem? (i := 66) rfl)), rfl⟩
theorem tw_619 : Cond.instanceMethod yX9_byteAt ∈ ex_tb := List.mem_filter.mpr ⟨(tb_5 (List.mem_of_getElem? (i := 65) rfl)), rfl⟩
theorem tw_620 : Cond.selects RX9 yX9_byteAt yX9_byteAt ∈ ex_tb := List.mem_filter.mpr ⟨(tp_3 (List.mem_of_getElem? (i := 2) rfl)), rfl⟩
theorem tw_621 : Cond.methodLink RX9 81 yX9_byteAt ∈ ex_tb := List.mem_filter.mpr ⟨(tb_5 (List.mem_of_getElem? (i := 63) rfl)), rfl⟩
theorem tw_622 : Cond.fieldLink RX9 85 "EyeRotaModel" "value" "I" ∈ ex_tb := List.mem_filter.mpr ⟨(tb_4 (List.mem_of_getElem? (i := 203) rfl)), rfl⟩
theorem tw_623 : Cond.constantLong RX9 88 (97) ∈ ex_tb := List.mem_filter.mpr ⟨(tb_5 (List.mem_of_getElem? (i := 67) rfl)), rfl⟩
theorem tw_624 : Cond.constantLong RX9 90 (122) ∈ ex_tb := List.mem_filter.mpr ⟨(tb_5 (List.mem_of_getElem? (i := 68) rfl)), rfl⟩
theorem tw_625 : Cond.constantLong RX9 92 (48) ∈ ex_tb := List.mem_filter.mpr ⟨(tb_5 (List.mem_of_getElem? (i := 69) rfl)), rfl⟩
theorem tw_626 : Cond.constantLong RX9 94 (57) ∈ ex_tb := List.mem_filter.mpr ⟨(tb_5 (List.mem_of_getElem? (i := 70) rfl)), rfl⟩
theorem tw_627 : Cond.code yX9_fails cX9_fails 2 none ∈ ex_tb := List.mem_filter.mpr ⟨(tb_5 (List.mem_of_getElem? (i := 74) rfl)), rfl⟩
theorem tw_628 : Cond.instanceMethod yX9_fails ∈ ex_tb := List.mem_filter.mpr ⟨(tb_5 (List.mem_of_getElem? (i := 73) rfl)), rfl⟩
theorem tw_629 : Cond.selects RX9 yX9_fails yX9_fails ∈ ex_tb := List.mem_filter.mpr ⟨(tp_3 (List.mem_of_getElem? (i := 3) rfl)), rfl⟩
theorem tw_630 : Cond.methodLink RX9 96 yX9_fails ∈ ex_tb := List.mem_filter.mpr ⟨(tb_5 (List.mem_of_getElem? (i := 71) rfl)), rfl⟩
theorem tw_631 : Cond.code yX9_step cX9_step 2 none ∈ ex_tb := List.mem_filter.mpr ⟨(tb_5 (List.mem_of_getElem? (i := 62) rfl)), rfl⟩
theorem tw_632 : Cond.instanceMethod yX9_step ∈ ex_tb := List.mem_filter.mpr ⟨(tb_5 (List.mem_of_getElem? (i := 61) rfl)), rfl⟩
theorem tw_633 : Cond.selects RX9 yX9_step yX9_step ∈ ex_tb := List.mem_filter.mpr ⟨(tp_3 (List.mem_of_getElem? (i := 1) rfl)), rfl⟩
theorem tw_634 : Cond.methodLink RX9 100 yX9_step ∈ ex_tb := List.mem_filter.mpr ⟨(tb_5 (List.mem_of_getElem? (i := 59) rfl)), rfl⟩
theorem tw_635 : Cond.code yX9_other cX9_other 5 (some .int) ∈ ex_tb := List.mem_filter.mpr ⟨(tb_5 (List.mem_of_getElem? (i := 95) rfl)), rfl⟩
theorem tw_636 : Cond.instanceMethod yX9_other ∈ ex_tb := List.mem_filter.mpr ⟨(tb_5 (List.mem_of_getElem? (i := 94) rfl)), rfl⟩
theorem tw_637 : Cond.selects RX9 yX9_other yX9_other ∈ ex_tb := List.mem_filter.mpr ⟨(tp_3 (List.mem_of_getElem? (i := 8) rfl)), rfl⟩
theorem tw_638 : Cond.methodLink RX9 103 yX9_other ∈ ex_tb := List.mem_filter.mpr ⟨(tb_5 (List.mem_of_getElem? (i := 92) rfl)), rfl⟩
theorem tw_639 : Cond.fieldLink RX9 107 "EyeRotaModel" "high" "I" ∈ ex_tb := List.mem_filter.mpr ⟨(tb_4 (List.mem_of_getElem? (i := 194) rfl)), rfl⟩
theorem tw_640 : Cond.fieldLink RX9 110 "EyeRotaModel" "rotaMany" "I" ∈ ex_tb := List.mem_filter.mpr ⟨(tb_4 (List.mem_of_getElem? (i := 191) rfl)), rfl⟩
theorem tw_641 : Cond.code yX9_oneHere cX9_oneHere 2 (some .int) ∈ ex_tb := List.mem_filter.mpr ⟨(tb_5 (List.mem_of_getElem? (i := 107) rfl)), rfl⟩
theorem tw_642 : Cond.instanceMethod yX9_oneHere ∈ ex_tb := List.mem_filter.mpr ⟨(tb_5 (List.mem_of_getElem? (i := 106) rfl)), rfl⟩
theorem tw_643 : Cond.selects RX9 yX9_oneHere yX9_oneHere ∈ ex_tb := List.mem_filter.mpr ⟨(tp_3 (List.mem_of_getElem? (i := 11) rfl)), rfl⟩
theorem tw_644 : Cond.methodLink RX9 113 yX9_oneHere ∈ ex_tb := List.mem_filter.mpr ⟨(tb_5 (List.mem_of_getElem? (i := 104) rfl)), rfl⟩
theorem tw_645 : Cond.fieldLink RX9 117 "EyeRotaModel" "readKin" "I" ∈ ex_tb := List.mem_filter.mpr ⟨(tb_4 (List.mem_of_getElem? (i := 190) rfl)), rfl⟩
theorem tw_646 : Cond.fieldLink RX9 120 "EyeRotaModel" "thingsTold" "I" ∈ ex_tb := List.mem_filter.mpr ⟨(tb_4 (List.mem_of_getElem? (i := 193) rfl)), rfl⟩
theorem tw_647 : Cond.code yX9_readRota cX9_readRota 2 none ∈ ex_tb := List.mem_filter.mpr ⟨(tb_5 (List.mem_of_getElem? (i := 99) rfl)), rfl⟩
theorem tw_648 : Cond.instanceMethod yX9_readRota ∈ ex_tb := List.mem_filter.mpr ⟨(tb_5 (List.mem_of_getElem? (i := 98) rfl)), rfl⟩
theorem tw_649 : Cond.selects RX9 yX9_readRota yX9_readRota ∈ ex_tb := List.mem_filter.mpr ⟨(tp_3 (List.mem_of_getElem? (i := 9) rfl)), rfl⟩
theorem tw_650 : Cond.methodLink RX9 123 yX9_readRota ∈ ex_tb := List.mem_filter.mpr ⟨(tb_5 (List.mem_of_getElem? (i := 96) rfl)), rfl⟩
theorem tw_651 : Cond.code yX9_readWork cX9_readWork 2 none ∈ ex_tb := List.mem_filter.mpr ⟨(tb_5 (List.mem_of_getElem? (i := 103) rfl)), rfl⟩
theorem tw_652 : Cond.instanceMethod yX9_readWork ∈ ex_tb := List.mem_filter.mpr ⟨(tb_5 (List.mem_of_getElem? (i := 102) rfl)), rfl⟩
theorem tw_653 : Cond.selects RX9 yX9_readWork yX9_readWork ∈ ex_tb := List.mem_filter.mpr ⟨(tp_3 (List.mem_of_getElem? (i := 10) rfl)), rfl⟩
theorem tw_654 : Cond.methodLink RX9 126 yX9_readWork ∈ ex_tb := List.mem_filter.mpr ⟨(tb_5 (List.mem_of_getElem? (i := 100) rfl)), rfl⟩
theorem tw_655 : Cond.code yX9_readTell cX9_readTell 2 none ∈ ex_tb := List.mem_filter.mpr ⟨(tb_5 (List.mem_of_getElem? (i := 111) rfl)), rfl⟩
theorem tw_656 : Cond.instanceMethod yX9_readTell ∈ ex_tb := List.mem_filter.mpr ⟨(tb_5 (List.mem_of_getElem? (i := 110) rfl)), rfl⟩
theorem tw_657 : Cond.selects RX9 yX9_readTell yX9_readTell ∈ ex_tb := List.mem_filter.mpr ⟨(tp_3 (List.mem_of_getElem? (i := 12) rfl)), rfl⟩
theorem tw_658 : Cond.methodLink RX9 129 yX9_readTell ∈ ex_tb := List.mem_filter.mpr ⟨(tb_5 (List.mem_of_getElem? (i := 108) rfl)), rfl⟩
theorem tw_659 : Cond.code yX9_nameHere cX9_nameHere 4 (some .int) ∈ ex_tb := List.mem_filter.mpr ⟨(tb_5 (List.mem_of_getElem? (i := 82) rfl)), rfl⟩
theorem tw_660 : Cond.instanceMethod yX9_nameHere ∈ ex_tb := List.mem_filter.mpr ⟨(tb_5 (List.mem_of_getElem? (i := 81) rfl)), rfl⟩
theorem tw_661 : Cond.selects RX9 yX9_nameHere yX9_nameHere ∈ ex_tb := List.mem_filter.mpr ⟨(tp_3 (List.mem_of_getElem? (i := 5) rfl)), rfl⟩
theorem tw_662 : Cond.methodLink RX9 132 yX9_nameHere ∈ ex_tb := List.mem_filter.mpr ⟨(tb_5 (List.mem_of_getElem? (i := 79) rfl)), rfl⟩
theorem tw_663 : Cond.constantLong RX9 135 (8) ∈ ex_tb := List.mem_filter.mpr ⟨(tb_5 (List.mem_of_getElem? (i := 83) rfl)), rfl⟩
theorem tw_664 : Cond.code yX9_isFull cX9_isFull 2 (some .boolean) ∈ ex_tb := List.mem_filter.mpr ⟨(tb_5 (List.mem_of_getElem? (i := 87) rfl)), rfl⟩
theorem tw_665 : Cond.instanceMethod yX9_isFull ∈ ex_tb := List.mem_filter.mpr ⟨(tb_5 (List.mem_of_getElem? (i := 86) rfl)), rfl⟩
theorem tw_666 : Cond.selects RX9 yX9_isFull yX9_isFull ∈ ex_tb := List.mem_filter.mpr ⟨(tp_3 (List.mem_of_getElem? (i := 6) rfl)), rfl⟩
theorem tw_667 : Cond.methodLink RX9 137 yX9_isFull ∈ ex_tb := List.mem_filter.mpr ⟨(tb_5 (List.mem_of_getElem? (i := 84) rfl)), rfl⟩
theorem tw_668 : Cond.fieldLink RX9 141 "EyeRotaModel" "isRotaTold" "Z" ∈ ex_tb := List.mem_filter.mpr ⟨(tb_4 (List.mem_of_getElem? (i := 192) rfl)), rfl⟩
theorem tw_669 : Cond.code yX9_readMore cX9_readMore 3 none ∈ ex_tb := List.mem_filter.mpr ⟨(tb_5 (List.mem_of_getElem? (i := 91) rfl)), rfl⟩
theorem tw_670 : Cond.instanceMethod yX9_readMore ∈ ex_tb := List.mem_filter.mpr ⟨(tb_5 (List.mem_of_getElem? (i := 90) rfl)), rfl⟩
theorem tw_671 : Cond.selects RX9 yX9_readMore yX9_readMore ∈ ex_tb := List.mem_filter.mpr ⟨(tp_3 (List.mem_of_getElem? (i := 7) rfl)), rfl⟩
theorem tw_672 : Cond.methodLink RX9 145 yX9_readMore ∈ ex_tb := List.mem_filter.mpr ⟨(tb_5 (List.mem_of_getElem? (i := 88) rfl)), rfl⟩
theorem tw_673 : Cond.code yX9_readLine cX9_readLine 2 none ∈ ex_tb := List.mem_filter.mpr ⟨(tb_5 (List.mem_of_getElem? (i := 78) rfl)), rfl⟩
theorem tw_674 : Cond.instanceMethod yX9_readLine ∈ ex_tb := List.mem_filter.mpr ⟨(tb_5 (List.mem_of_getElem? (i := 77) rfl)), rfl⟩
theorem tw_675 : Cond.selects RX9 yX9_readLine yX9_readLine ∈ ex_tb := List.mem_filter.mpr ⟨(tp_3 (List.mem_of_getElem? (i := 4) rfl)), rfl⟩
theorem tw_676 : Cond.methodLink RX9 148 yX9_readLine ∈ ex_tb := List.mem_filter.mpr ⟨(tb_5 (List.mem_of_getElem? (i := 75) rfl)), rfl⟩
theorem tw_677 : Cond.fieldLink RX9 151 "EyeRotaModel" "fault" "I" ∈ ex_tb := List.mem_filter.mpr ⟨(tb_4 (List.mem_of_getElem? (i := 197) rfl)), rfl⟩
theorem tw_678 : Cond.fieldLink RX9 154 "EyeRotaModel" "kinMany" "I" ∈ ex_tb := List.mem_filter.mpr ⟨(tb_4 (List.mem_of_getElem? (i := 188) rfl)), rfl⟩
theorem tw_679 : Cond.fieldLink RX9 157 "EyeRotaModel" "seenMany" "I" ∈ ex_tb := List.mem_filter.mpr ⟨(tb_4 (List.mem_of_getElem? (i := 210) rfl)), rfl⟩
theorem tw_680 : Cond.constantLong RX9 160 (9) ∈ ex_tb := List.mem_filter.mpr ⟨(tb_5 (List.mem_of_getElem? (i := 163) rfl)), rfl⟩
theorem tw_681 : Cond.constantLong RX9 162 (2) ∈ ex_tb := List.mem_filter.mpr ⟨(tb_5 (List.mem_of_getElem? (i := 159) rfl)), rfl⟩
theorem tw_682 : Cond.code yX9_hasEyes cX9_hasEyes 3 (some .boolean) ∈ ex_tb := List.mem_filter.mpr ⟨(tb_5 (List.mem_of_getElem? (i := 139) rfl)), rfl⟩
theorem tw_683 : Cond.instanceMethod yX9_hasEyes ∈ ex_tb := List.mem_filter.mpr ⟨(tb_5 (List.mem_of_getElem? (i := 138) rfl)), rfl⟩
theorem tw_684 : Cond.selects RX9 yX9_hasEyes yX9_hasEyes ∈ ex_tb := List.mem_filter.mpr ⟨(tp_4 (List.mem_of_getElem? (i := 1) rfl)), rfl⟩
theorem tw_685 : Cond.methodLink RX9 164 yX9_hasEyes ∈ ex_tb := List.mem_filter.mpr ⟨(tb_5 (List.mem_of_getElem? (i := 136) rfl)), rfl⟩
theorem tw_686 : Cond.code yX9_hasIt cX9_hasIt 2 (some .int) ∈ ex_tb := List.mem_filter.mpr ⟨(tb_5 (List.mem_of_getElem? (i := 127) rfl)), rfl⟩
theorem tw_687 : Cond.instanceMethod yX9_hasIt ∈ ex_tb := List.mem_filter.mpr ⟨(tb_5 (List.mem_of_getElem? (i := 126) rfl)), rfl⟩
theorem tw_688 : Cond.selects RX9 yX9_hasIt yX9_hasIt ∈ ex_tb := List.mem_filter.mpr ⟨(tp_3 (List.mem_of_getElem? (i := 14) rfl)), rfl⟩
theorem tw_689 : Cond.methodLink RX9 168 yX9_hasIt ∈ ex_tb := List.mem_filter.mpr ⟨(tb_5 (List.mem_of_getElem? (i := 124) rfl)), rfl⟩
theorem tw_690 : Cond.code yX9_wouldSee cX9_wouldSee 5 (some .boolean) ∈ ex_tb := List.mem_filter.mpr ⟨(tb_5 (List.mem_of_getElem? (i := 135) rfl)), rfl⟩
theorem tw_691 : Cond.instanceMethod yX9_wouldSee ∈ ex_tb := List.mem_filter.mpr ⟨(tb_5 (List.mem_of_getElem? (i := 134) rfl)), rfl⟩
theorem tw_692 : Cond.selects RX9 yX9_wouldSee yX9_wouldSee ∈ ex_tb := List.mem_filter.mpr ⟨(tp_4 (List.mem_of_getElem? (i := 0) rfl)), rfl⟩
theorem tw_693 : Cond.methodLink RX9 171 yX9_wouldSee ∈ ex_tb := List.mem_filter.mpr ⟨(tb_5 (List.mem_of_getElem? (i := 132) rfl)), rfl⟩
theorem tw_694 : Cond.code yX9_doesSee cX9_doesSee 2 (some .boolean) ∈ ex_tb := List.mem_filter.mpr ⟨(tb_5 (List.mem_of_getElem? (i := 131) rfl)), rfl⟩
theorem tw_695 : Cond.instanceMethod yX9_doesSee ∈ ex_tb := List.mem_filter.mpr ⟨(tb_5 (List.mem_of_getElem? (i := 130) rfl)), rfl⟩
theorem tw_696 : Cond.selects RX9 yX9_doesSee yX9_doesSee ∈ ex_tb := List.mem_filter.mpr ⟨(tp_3 (List.mem_of_getElem? (i := 15) rfl)), rfl⟩
theorem tw_697 : Cond.methodLink RX9 175 yX9_doesSee ∈ ex_tb := List.mem_filter.mpr ⟨(tb_5 (List.mem_of_getElem? (i := 128) rfl)), rfl⟩
theorem tw_698 : Cond.code yX9_valueAt cX9_valueAt 7 (some .int) ∈ ex_tb := List.mem_filter.mpr ⟨(tb_5 (List.mem_of_getElem? (i := 167) rfl)), rfl⟩
theorem tw_699 : Cond.instanceMethod yX9_valueAt ∈ ex_tb := List.mem_filter.mpr ⟨(tb_5 (List.mem_of_getElem? (i := 166) rfl)), rfl⟩
theorem tw_700 : Cond.selects RX9 yX9_valueAt yX9_valueAt ∈ ex_tb := List.mem_filter.mpr ⟨(tp_4 (List.mem_of_getElem? (i := 4) rfl)), rfl⟩
theorem tw_701 : Cond.methodLink RX9 178 yX9_valueAt ∈ ex_tb := List.mem_filter.mpr ⟨(tb_5 (List.mem_of_getElem? (i := 164) rfl)), rfl⟩
theorem tw_702 : Cond.code yX9_tellings cX9_tellings 6 none ∈ ex_tb := List.mem_filter.mpr ⟨(tb_6 (List.mem_of_getElem? (i := 4) rfl)), rfl⟩
theorem tw_703 : Cond.instanceMethod yX9_tellings ∈ ex_tb := List.mem_filter.mpr ⟨(tb_6 (List.mem_of_getElem? (i := 3) rfl)), rfl⟩
theorem tw_704 : Cond.selects RX9 yX9_tellings yX9_tellings ∈ ex_tb := List.mem_filter.mpr ⟨(tp_4 (List.mem_of_getElem? (i := 9) rfl)), rfl⟩
theorem tw_705 : Cond.methodLink RX9 182 yX9_tellings ∈ ex_tb := List.mem_filter.mpr ⟨(tb_6 (List.mem_of_getElem? (i := 1) rfl)), rfl⟩
theorem tw_706 : Cond.code yX9_hoursOf cX9_hoursOf 5 (some .int) ∈ ex_tb := List.mem_filter.mpr ⟨(tb_5 (List.mem_of_getElem? (i := 123) rfl)), rfl⟩
theorem tw_707 : Cond.instanceMethod yX9_hoursOf ∈ ex_tb := List.mem_filter.mpr ⟨(tb_5 (List.mem_of_getElem? (i := 122) rfl)), rfl⟩
theorem tw_708 : Cond.selects RX9 yX9_hoursOf yX9_hoursOf ∈ ex_tb := List.mem_filter.mpr ⟨(tp_3 (List.mem_of_getElem? (i := 13) rfl)), rfl⟩
theorem tw_709 : Cond.methodLink RX9 185 yX9_hoursOf ∈ ex_tb := List.mem_filter.mpr ⟨(tb_5 (List.mem_of_getElem? (i := 120) rfl)), rfl⟩
theorem tw_710 : Cond.code yX9_seeing cX9_seeing 3 (some .int) ∈ ex_tb := List.mem_filter.mpr ⟨(tb_5 (List.mem_of_getElem? (i := 143) rfl)), rfl⟩
theorem tw_711 : Cond.instanceMethod yX9_seeing ∈ ex_tb := List.mem_filter.mpr ⟨(tb_5 (List.mem_of_getElem? (i := 142) rfl)), rfl⟩
theorem tw_712 : Cond.selects RX9 yX9_seeing yX9_seeing ∈ ex_tb := List.mem_filter.mpr ⟨(tp_4 (List.mem_of_getElem? (i := 2) rfl)), rfl⟩
theorem tw_713 : Cond.methodLink RX9 189 yX9_seeing ∈ ex_tb := List.mem_filter.mpr ⟨(tb_5 (List.mem_of_getElem? (i := 140) rfl)), rfl⟩
theorem tw_714 : Cond.code yX9_isOne cX9_isOne 2 (some .boolean) ∈ ex_tb := List.mem_filter.mpr ⟨(tb_5 (List.mem_of_getElem? (i := 151) rfl)), rfl⟩
theorem tw_715 : Cond.instanceMethod yX9_isOne ∈ ex_tb := List.mem_filter.mpr ⟨(tb_5 (List.mem_of_getElem? (i := 150) rfl)), rfl⟩
theorem tw_716 : Cond.selects RX9 yX9_isOne yX9_isOne ∈ ex_tb := List.mem_filter.mpr ⟨(tp_4 (List.mem_of_getElem? (i := 3) rfl)), rfl⟩
theorem tw_717 : Cond.methodLink RX9 192 yX9_isOne ∈ ex_tb := List.mem_filter.mpr ⟨(tb_5 (List.mem_of_getElem? (i := 148) rfl)), rfl⟩
theorem tw_718 : Cond.code yX9_isThing cX9_isThing 1 (some .boolean) ∈ ex_tb := List.mem_filter.mpr ⟨(tb_5 (List.mem_of_getElem? (i := 158) rfl)), rfl⟩
theorem tw_719 : Cond.static yX9_isThing ∈ ex_tb := List.mem_filter.mpr ⟨(tb_5 (List.mem_of_getElem? (i := 157) rfl)), rfl⟩
theorem tw_720 : Cond.methodLink RX9 195 yX9_isThing ∈ ex_tb := List.mem_filter.mpr ⟨(tb_5 (List.mem_of_getElem? (i := 156) rfl)), rfl⟩
theorem tw_721 : Cond.code yX9_isHour cX9_isHour 1 (some .boolean) ∈ ex_tb := List.mem_filter.mpr ⟨(tb_5 (List.mem_of_getElem? (i := 162) rfl)), rfl⟩
theorem tw_722 : Cond.static yX9_isHour ∈ ex_tb := List.mem_filter.mpr ⟨(tb_5 (List.mem_of_getElem? (i := 161) rfl)), rfl⟩
theorem tw_723 : Cond.methodLink RX9 198 yX9_isHour ∈ ex_tb := List.mem_filter.mpr ⟨(tb_5 (List.mem_of_getElem? (i := 160) rfl)), rfl⟩
theorem tw_724 : Cond.code yX9_orNone cX9_orNone 1 (some .int) ∈ ex_tb := List.mem_filter.mpr ⟨(tb_5 (List.mem_of_getElem? (i := 174) rfl)), rfl⟩
theorem tw_725 : Cond.static yX9_orNone ∈ ex_tb := List.mem_filter.mpr ⟨(tb_5 (List.mem_of_getElem? (i := 173) rfl)), rfl⟩
theorem tw_726 : Cond.methodLink RX9 201 yX9_orNone ∈ ex_tb := List.mem_filter.mpr ⟨(tb_5 (List.mem_of_getElem? (i := 172) rfl)), rfl⟩
theorem tw_727 : Cond.code yX9_isDone cX9_isDone 6 (some .boolean) ∈ ex_tb := List.mem_filter.mpr ⟨(tb_5 (List.mem_of_getElem? (i := 187) rfl)), rfl⟩
theorem tw_728 : Cond.instanceMethod yX9_isDone ∈ ex_tb := List.mem_filter.mpr ⟨(tb_5 (List.mem_of_getElem? (i := 186) rfl)), rfl⟩
theorem tw_729 : Cond.selects RX9 yX9_isDone yX9_isDone ∈ ex_tb := List.mem_filter.mpr ⟨(tp_4 (List.mem_of_getElem? (i := 5) rfl)), rfl⟩
theorem tw_730 : Cond.methodLink RX9 204 yX9_isDone ∈ ex_tb := List.mem_filter.mpr ⟨(tb_5 (List.mem_of_getElem? (i := 184) rfl)), rfl⟩
theorem tw_731 : Cond.code yX9_doneBy cX9_doneBy 4 (some .int) ∈ ex_tb := List.mem_filter.mpr ⟨(tb_6 (List.mem_of_getElem? (i := 24) rfl)), rfl⟩
theorem tw_732 : Cond.instanceMethod yX9_doneBy ∈ ex_tb := List.mem_filter.mpr ⟨(tb_6 (List.mem_of_getElem? (i := 23) rfl)), rfl⟩
theorem tw_733 : Cond.selects RX9 yX9_doneBy yX9_doneBy ∈ ex_tb := List.mem_filter.mpr ⟨(tp_4 (List.mem_of_getElem? (i := 11) rfl)), rfl⟩
theorem tw_734 : Cond.methodLink RX9 207 yX9_doneBy ∈ ex_tb := List.mem_filter.mpr ⟨(tb_6 (List.mem_of_getElem? (i := 21) rfl)), rfl⟩
theorem tw_735 : Cond.code yX9_worthOf cX9_worthOf 4 (some .int) ∈ ex_tb := List.mem_filter.mpr ⟨(tb_6 (List.mem_of_getElem? (i := 28) rfl)), rfl⟩
theorem tw_736 : Cond.instanceMethod yX9_worthOf ∈ ex_tb := List.mem_filter.mpr ⟨(tb_6 (List.mem_of_getElem? (i := 27) rfl)), rfl⟩
theorem tw_737 : Cond.selects RX9 yX9_worthOf yX9_worthOf ∈ ex_tb := List.mem_filter.mpr ⟨(tp_4 (List.mem_of_getElem? (i := 12) rfl)), rfl⟩
theorem tw_738 : Cond.methodLink RX9 210 yX9_worthOf ∈ ex_tb := List.mem_filter.mpr ⟨(tb_6 (List.mem_of_getElem? (i := 25) rfl)), rfl⟩
theorem tw_739 : Cond.constantLong RX9 213 (4) ∈ ex_tb := List.mem_filter.mpr ⟨(tb_5 (List.mem_of_getElem? (i := 183) rfl)), rfl⟩
theorem tw_740 : Cond.constantLong RX9 215 (3) ∈ ex_tb := List.mem_filter.mpr ⟨(tb_5 (List.mem_of_getElem? (i := 192) rfl)), rfl⟩
theorem tw_741 : Cond.code yX9_puts cX9_puts 5 (some .int) ∈ ex_tb := List.mem_filter.mpr ⟨(tb_5 (List.mem_of_getElem? (i := 200) rfl)), rfl⟩
theorem tw_742 : Cond.instanceMethod yX9_puts ∈ ex_tb := List.mem_filter.mpr ⟨(tb_5 (List.mem_of_getElem? (i := 199) rfl)), rfl⟩
theorem tw_743 : Cond.selects RX9 yX9_puts yX9_puts ∈ ex_tb := List.mem_filter.mpr ⟨(tp_4 (List.mem_of_getElem? (i := 6) rfl)), rfl⟩
theorem tw_744 : Cond.methodLink RX9 217 yX9_puts ∈ ex_tb := List.mem_filter.mpr ⟨(tb_5 (List.mem_of_getElem? (i := 197) rfl)), rfl⟩
theorem tw_745 : Cond.code yX9_shifts cX9_shifts 4 (some .int) ∈ ex_tb := List.mem_filter.mpr ⟨(tb_5 (List.mem_of_getElem? (i := 212) rfl)), rfl⟩
theorem tw_746 : Cond.instanceMethod yX9_shifts ∈ ex_tb := List.mem_filter.mpr ⟨(tb_5 (List.mem_of_getElem? (i := 211) rfl)), rfl⟩
theorem tw_747 : Cond.selects RX9 yX9_shifts yX9_shifts ∈ ex_tb := List.mem_filter.mpr ⟨(tp_4 (List.mem_of_getElem? (i := 7) rfl)), rfl⟩
theorem tw_748 : Cond.methodLink RX9 221 yX9_shifts ∈ ex_tb := List.mem_filter.mpr ⟨(tb_5 (List.mem_of_getElem? (i := 209) rfl)), rfl⟩
theorem tw_749 : Cond.code yX9_hoursGo cX9_hoursGo 5 none ∈ ex_tb := List.mem_filter.mpr ⟨(tb_6 (List.mem_of_getElem? (i := 0) rfl)), rfl⟩
theorem tw_750 : Cond.instanceMethod yX9_hoursGo ∈ ex_tb := List.mem_filter.mpr ⟨(tb_5 (List.mem_of_getElem? (i := 239) rfl)), rfl⟩
theorem tw_751 : Cond.selects RX9 yX9_hoursGo yX9_hoursGo ∈ ex_tb := List.mem_filter.mpr ⟨(tp_4 (List.mem_of_getElem? (i := 8) rfl)), rfl⟩
theorem tw_752 : Cond.methodLink RX9 224 yX9_hoursGo ∈ ex_tb := List.mem_filter.mpr ⟨(tb_5 (List.mem_of_getElem? (i := 237) rfl)), rfl⟩
theorem tw_753 : Cond.code yX9_rightOf cX9_rightOf 8 (some .int) ∈ ex_tb := List.mem_filter.mpr ⟨(tb_6 (List.mem_of_getElem? (i := 12) rfl)), rfl⟩
theorem tw_754 : Cond.instanceMethod yX9_rightOf ∈ ex_tb := List.mem_filter.mpr ⟨(tb_6 (List.mem_of_getElem? (i := 11) rfl)), rfl⟩
theorem tw_755 : Cond.selects RX9 yX9_rightOf yX9_rightOf ∈ ex_tb := List.mem_filter.mpr ⟨(tp_4 (List.mem_of_getElem? (i := 10) rfl)), rfl⟩
theorem tw_756 : Cond.methodLink RX9 227 yX9_rightOf ∈ ex_tb := List.mem_filter.mpr ⟨(tb_6 (List.mem_of_getElem? (i := 9) rfl)), rfl⟩
theorem tw_757 : Cond.code yX9_workIn cX9_workIn 6 (some .int) ∈ ex_tb := List.mem_filter.mpr ⟨(tb_6 (List.mem_of_getElem? (i := 50) rfl)), rfl⟩
theorem tw_758 : Cond.instanceMethod yX9_workIn ∈ ex_tb := List.mem_filter.mpr ⟨(tb_6 (List.mem_of_getElem? (i := 49) rfl)), rfl⟩
theorem tw_759 : Cond.selects RX9 yX9_workIn yX9_workIn ∈ ex_tb := List.mem_filter.mpr ⟨(tp_5 (List.mem_of_getElem? (i := 0) rfl)), rfl⟩
theorem tw_760 : Cond.methodLink RX9 230 yX9_workIn ∈ ex_tb := List.mem_filter.mpr ⟨(tb_6 (List.mem_of_getElem? (i := 47) rfl)), rfl⟩
theorem tw_761 : Cond.code yX9_isChoice cX9_isChoice 2 (some .boolean) ∈ ex_tb := List.mem_filter.mpr ⟨(tb_6 (List.mem_of_getElem? (i := 42) rfl)), rfl⟩
theorem tw_762 : Cond.instanceMethod yX9_isChoice ∈ ex_tb := List.mem_filter.mpr ⟨(tb_6 (List.mem_of_getElem? (i := 41) rfl)), rfl⟩
theorem tw_763 : Cond.selects RX9 yX9_isChoice yX9_isChoice ∈ ex_tb := List.mem_filter.mpr ⟨(tp_4 (List.mem_of_getElem? (i := 14) rfl)), rfl⟩
theorem tw_764 : Cond.methodLink RX9 233 yX9_isChoice ∈ ex_tb := List.mem_filter.mpr ⟨(tb_6 (List.mem_of_getElem? (i := 39) rfl)), rfl⟩
theorem tw_765 : Cond.code yX9_comesTo cX9_comesTo 6 (some .int) ∈ ex_tb := List.mem_filter.mpr ⟨(tb_6 (List.mem_of_getElem? (i := 46) rfl)), rfl⟩
theorem tw_766 : Cond.instanceMethod yX9_comesTo ∈ ex_tb := List.mem_filter.mpr ⟨(tb_6 (List.mem_of_getElem? (i := 45) rfl)), rfl⟩
theorem tw_767 : Cond.selects RX9 yX9_comesTo yX9_comesTo ∈ ex_tb := List.mem_filter.mpr ⟨(tp_4 (List.mem_of_getElem? (i := 15) rfl)), rfl⟩
theorem tw_768 : Cond.methodLink RX9 236 yX9_comesTo ∈ ex_tb := List.mem_filter.mpr ⟨(tb_6 (List.mem_of_getElem? (i := 43) rfl)), rfl⟩
theorem tw_769 : Cond.constantLong RX9 240 (10) ∈ ex_tb := List.mem_filter.mpr ⟨(tb_6 (List.mem_of_getElem? (i := 33) rfl)), rfl⟩
theorem tw_770 : Cond.constantLong RX9 242 (19) ∈ ex_tb := List.mem_filter.mpr ⟨(tb_6 (List.mem_of_getElem? (i := 34) rfl)), rfl⟩
theorem tw_771 : Cond.code yX9_laysMost cX9_laysMost 6 none ∈ ex_tb := List.mem_filter.mpr ⟨(tb_6 (List.mem_of_getElem? (i := 38) rfl)), rfl⟩
theorem tw_772 : Cond.instanceMethod yX9_laysMost ∈ ex_tb := List.mem_filter.mpr ⟨(tb_6 (List.mem_of_getElem? (i := 37) rfl)), rfl⟩
theorem tw_773 : Cond.selects RX9 yX9_laysMost yX9_laysMost ∈ ex_tb := List.mem_filter.mpr ⟨(tp_4 (List.mem_of_getElem? (i := 13) rfl)), rfl⟩
theorem tw_774 : Cond.methodLink RX9 244 yX9_laysMost ∈ ex_tb := List.mem_filter.mpr ⟨(tb_6 (List.mem_of_getElem? (i := 35) rfl)), rfl⟩
theorem tw_775 : Cond.code yX9_worthNow cX9_worthNow 1 (some .int) ∈ ex_tb := List.mem_filter.mpr ⟨(tb_6 (List.mem_of_getElem? (i := 58) rfl)), rfl⟩
theorem tw_776 : Cond.instanceMethod yX9_worthNow ∈ ex_tb := List.mem_filter.mpr ⟨(tb_6 (List.mem_of_getElem? (i := 57) rfl)), rfl⟩
theorem tw_777 : Cond.selects RX9 yX9_worthNow yX9_worthNow ∈ ex_tb := List.mem_filter.mpr ⟨(tp_5 (List.mem_of_getElem? (i := 1) rfl)), rfl⟩
theorem tw_778 : Cond.methodLink RX9 247 yX9_worthNow ∈ ex_tb := List.mem_filter.mpr ⟨(tb_6 (List.mem_of_getElem? (i := 55) rfl)), rfl⟩
theorem tw_779 : Cond.code yX9_bitsOf cX9_bitsOf 3 (some .int) ∈ ex_tb := List.mem_filter.mpr ⟨(tb_6 (List.mem_of_getElem? (i := 69) rfl)), rfl⟩
theorem tw_780 : Cond.static yX9_bitsOf ∈ ex_tb := List.mem_filter.mpr ⟨(tb_6 (List.mem_of_getElem? (i := 68) rfl)), rfl⟩
theorem tw_781 : Cond.methodLink RX9 250 yX9_bitsOf ∈ ex_tb := List.mem_filter.mpr ⟨(tb_6 (List.mem_of_getElem? (i := 67) rfl)), rfl⟩
theorem tw_782 : Cond.code yX9_isHandOver cX9_isHandOver 2 (some .boolean) ∈ ex_tb := List.mem_filter.mpr ⟨(tb_6 (List.mem_of_getElem? (i := 81) rfl)), rfl⟩
theorem tw_783 : Cond.instanceMethod yX9_isHandOver ∈ ex_tb := List.mem_filter.mpr ⟨(tb_6 (List.mem_of_getElem? (i := 80) rfl)), rfl⟩
theorem tw_784 : Cond.selects RX9 yX9_isHandOver yX9_isHandOver ∈ ex_tb := List.mem_filter.mpr ⟨(tp_5 (List.mem_of_getElem? (i := 3) rfl)), rfl⟩
theorem tw_785 : Cond.methodLink RX9 253 yX9_isHandOver ∈ ex_tb := List.mem_filter.mpr ⟨(tb_6 (List.mem_of_getElem? (i := 78) rfl)), rfl⟩
theorem tw_786 : Cond.code yX9_seeingBut cX9_seeingBut 5 (some .int) ∈ ex_tb := List.mem_filter.mpr ⟨(tb_6 (List.mem_of_getElem? (i := 85) rfl)), rfl⟩
theorem tw_787 : Cond.instanceMethod yX9_seeingBut ∈ ex_tb := List.mem_filter.mpr ⟨(tb_6 (List.mem_of_getElem? (i := 84) rfl)), rfl⟩
theorem tw_788 : Cond.selects RX9 yX9_seeingBut yX9_seeingBut ∈ ex_tb := List.mem_filter.mpr ⟨(tp_5 (List.mem_of_getElem? (i := 4) rfl)), rfl⟩
theorem tw_789 : Cond.methodLink RX9 256 yX9_seeingBut ∈ ex_tb := List.mem_filter.mpr ⟨(tb_6 (List.mem_of_getElem? (i := 82) rfl)), rfl⟩
theorem tw_790 : Cond.code yX9_lowest cX9_lowest 11 (some .long) ∈ ex_tb := List.mem_filter.mpr ⟨(tb_6 (List.mem_of_getElem? (i := 88) rfl)), rfl⟩
theorem tw_791 : Cond.static yX9_lowest ∈ ex_tb := List.mem_filter.mpr ⟨(tb_6 (List.mem_of_getElem? (i := 87) rfl)), rfl⟩
theorem tw_792 : Cond.methodLink RX9 259 yX9_lowest ∈ ex_tb := List.mem_filter.mpr ⟨(tb_6 (List.mem_of_getElem? (i := 86) rfl)), rfl⟩
theorem tw_793 : Cond.code yX9_byMissed cX9_byMissed 13 (some .long) ∈ ex_tb := List.mem_filter.mpr ⟨(tb_6 (List.mem_of_getElem? (i := 77) rfl)), rfl⟩
theorem tw_794 : Cond.instanceMethod yX9_byMissed ∈ ex_tb := List.mem_filter.mpr ⟨(tb_6 (List.mem_of_getElem? (i := 76) rfl)), rfl⟩
theorem tw_795 : Cond.selects RX9 yX9_byMissed yX9_byMissed ∈ ex_tb := List.mem_filter.mpr ⟨(tp_5 (List.mem_of_getElem? (i := 2) rfl)), rfl⟩
theorem tw_796 : Cond.methodLink RX9 263 yX9_byMissed ∈ ex_tb := List.mem_filter.mpr ⟨(tb_6 (List.mem_of_getElem? (i := 74) rfl)), rfl⟩
theorem tw_797 : Cond.constantLong RX9 267 (-1) ∈ ex_tb := List.mem_filter.mpr ⟨(tb_6 (List.mem_of_getElem? (i := 89) rfl)), rfl⟩
theorem tw_798 : Cond.code yX9_isAsSeen cX9_isAsSeen 3 (some .boolean) ∈ ex_tb := List.mem_filter.mpr ⟨(tb_6 (List.mem_of_getElem? (i := 113) rfl)), rfl⟩
theorem tw_799 : Cond.instanceMethod yX9_isAsSeen ∈ ex_tb := List.mem_filter.mpr ⟨(tb_6 (List.mem_of_getElem? (i := 112) rfl)), rfl⟩
theorem tw_800 : Cond.selects RX9 yX9_isAsSeen yX9_isAsSeen ∈ ex_tb := List.mem_filter.mpr ⟨(tp_5 (List.mem_of_getElem? (i := 6) rfl)), rfl⟩
theorem tw_801 : Cond.methodLink RX9 269 yX9_isAsSeen ∈ ex_tb := List.mem_filter.mpr ⟨(tb_6 (List.mem_of_getElem? (i := 110) rfl)), rfl⟩
theorem tw_802 : Cond.code yX9_mayHave cX9_mayHave 6 (some .int) ∈ ex_tb := List.mem_filter.mpr ⟨(tb_6 (List.mem_of_getElem? (i := 109) rfl)), rfl⟩
theorem tw_803 : Cond.instanceMethod yX9_mayHave ∈ ex_tb := List.mem_filter.mpr ⟨(tb_6 (List.mem_of_getElem? (i := 108) rfl)), rfl⟩
theorem tw_804 : Cond.selects RX9 yX9_mayHave yX9_mayHave ∈ ex_tb := List.mem_filter.mpr ⟨(tp_5 (List.mem_of_getElem? (i := 5) rfl)), rfl⟩
theorem tw_805 : Cond.methodLink RX9 273 yX9_mayHave ∈ ex_tb := List.mem_filter.mpr ⟨(tb_6 (List.mem_of_getElem? (i := 106) rfl)), rfl⟩
theorem tw_806 : Cond.fieldLink RX9 276 "EyeRotaModel" "drawn" "I" ∈ ex_tb := List.mem_filter.mpr ⟨(tb_4 (List.mem_of_getElem? (i := 212) rfl)), rfl⟩
theorem tw_807 : Cond.constant RX9 279 (1103515245) ∈ ex_tb := List.mem_filter.mpr ⟨(tb_6 (List.mem_of_getElem? (i := 131) rfl)), rfl⟩
theorem tw_808 : Cond.constantLong RX9 280 (60) ∈ ex_tb := List.mem_filter.mpr ⟨(tb_6 (List.mem_of_getElem? (i := 122) rfl)), rfl⟩
theorem tw_809 : Cond.code yX9_copies cX9_copies 4 none ∈ ex_tb := List.mem_filter.mpr ⟨(tb_6 (List.mem_of_getElem? (i := 126) rfl)), rfl⟩
theorem tw_810 : Cond.instanceMethod yX9_copies ∈ ex_tb := List.mem_filter.mpr ⟨(tb_6 (List.mem_of_getElem? (i := 125) rfl)), rfl⟩
theorem tw_811 : Cond.selects RX9 yX9_copies yX9_copies ∈ ex_tb := List.mem_filter.mpr ⟨(tp_5 (List.mem_of_getElem? (i := 7) rfl)), rfl⟩
theorem tw_812 : Cond.methodLink RX9 282 yX9_copies ∈ ex_tb := List.mem_filter.mpr ⟨(tb_6 (List.mem_of_getElem? (i := 123) rfl)), rfl⟩
theorem tw_813 : Cond.code yX9_draws cX9_draws 2 (some .int) ∈ ex_tb := List.mem_filter.mpr ⟨(tb_6 (List.mem_of_getElem? (i := 130) rfl)), rfl⟩
theorem tw_814 : Cond.instanceMethod yX9_draws ∈ ex_tb := List.mem_filter.mpr ⟨(tb_6 (List.mem_of_getElem? (i := 129) rfl)), rfl⟩
theorem tw_815 : Cond.selects RX9 yX9_draws yX9_draws ∈ ex_tb := List.mem_filter.mpr ⟨(tp_5 (List.mem_of_getElem? (i := 8) rfl)), rfl⟩
theorem tw_816 : Cond.methodLink RX9 286 yX9_draws ∈ ex_tb := List.mem_filter.mpr ⟨(tb_6 (List.mem_of_getElem? (i := 127) rfl)), rfl⟩
theorem tw_817 : Cond.constantLong RX9 289 (20) ∈ ex_tb := List.mem_filter.mpr ⟨(tb_6 (List.mem_of_getElem? (i := 152) rfl)), rfl⟩
theorem tw_818 : Cond.fieldLink RX9 291 "EyeRotaModel" "torn" "I" ∈ ex_tb := List.mem_filter.mpr ⟨(tb_4 (List.mem_of_getElem? (i := 217) rfl)), rfl⟩
theorem tw_819 : Cond.classLink RL 7 RX8 ∈ ex_tb := List.mem_filter.mpr ⟨(tb_1 (List.mem_of_getElem? (i := 18) rfl)), rfl⟩
theorem tw_820 : Cond.instantiable RX8 14 ∈ ex_tb := List.mem_filter.mpr ⟨(tb_1 (List.mem_of_getElem? (i := 19) rfl)), rfl⟩
theorem tw_821 : Cond.code yX8_init cX8_init 2 none ∈ ex_tb := List.mem_filter.mpr ⟨(tb_1 (List.mem_of_getElem? (i := 22) rfl)), rfl⟩
theorem tw_822 : Cond.instanceMethod yX8_init ∈ ex_tb := List.mem_filter.mpr ⟨(tb_1 (List.mem_of_getElem? (i := 21) rfl)), rfl⟩
theorem tw_823 : Cond.methodLink RL 9 yX8_init ∈ ex_tb := List.mem_filter.mpr ⟨(tb_1 (List.mem_of_getElem? (i := 20) rfl)), rfl⟩
theorem tw_824 : Cond.classLink RL 10 RX9 ∈ ex_tb := List.mem_filter.mpr ⟨(tb_4 (List.mem_of_getElem? (i := 180) rfl)), rfl⟩
theorem tw_825 : Cond.instantiable RX9 32 ∈ ex_tb := List.mem_filter.mpr ⟨(tb_4 (List.mem_of_getElem? (i := 181) rfl)), rfl⟩
theorem tw_826 : Cond.code yX9_init cX9_init 1 none ∈ ex_tb := List.mem_filter.mpr ⟨(tb_4 (List.mem_of_getElem? (i := 184) rfl)), rfl⟩
theorem tw_827 : Cond.instanceMethod yX9_init ∈ ex_tb := List.mem_filter.mpr ⟨(tb_4 (List.mem_of_getElem? (i := 183) rfl)), rfl⟩
theorem tw_828 : Cond.methodLink RL 12 yX9_init ∈ ex_tb := List.mem_filter.mpr ⟨(tb_4 (List.mem_of_getElem? (i := 182) rfl)), rfl⟩
theorem tw_829 : Cond.code yX8_feed cX8_feed 2 (some .int) ∈ ex_tb := List.mem_filter.mpr ⟨(tb_2 (List.mem_of_getElem? (i := 37) rfl)), rfl⟩
theorem tw_830 : Cond.instanceMethod yX8_feed ∈ ex_tb := List.mem_filter.mpr ⟨(tb_2 (List.mem_of_getElem? (i := 35) rfl)), rfl⟩
theorem tw_831 : Cond.selects RX8 yX8_feed yX8_feed ∈ ex_tb := List.mem_filter.mpr ⟨(tb_2 (List.mem_of_getElem? (i := 36) rfl)), rfl⟩
theorem tw_832 : Cond.methodLink RL 13 yX8_feed ∈ ex_tb := List.mem_filter.mpr ⟨(tb_2 (List.mem_of_getElem? (i := 34) rfl)), rfl⟩
theorem tw_833 : Cond.code yX9_feed cX9_feed 2 (some .int) ∈ ex_tb := List.mem_filter.mpr ⟨(tb_5 (List.mem_of_getElem? (i := 46) rfl)), rfl⟩
theorem tw_834 : Cond.instanceMethod yX9_feed ∈ ex_tb := List.mem_filter.mpr ⟨(tb_5 (List.mem_of_getElem? (i := 44) rfl)), rfl⟩
theorem tw_835 : Cond.selects RX9 yX9_feed yX9_feed ∈ ex_tb := List.mem_filter.mpr ⟨(tb_5 (List.mem_of_getElem? (i := 45) rfl)), rfl⟩
theorem tw_836 : Cond.methodLink RL 17 yX9_feed ∈ ex_tb := List.mem_filter.mpr ⟨(tb_5 (List.mem_of_getElem? (i := 43) rfl)), rfl⟩
theorem tw_837 : Cond.code yX8_end cX8_end 2 (some .int) ∈ ex_tb := List.mem_filter.mpr ⟨(tb_2 (List.mem_of_getElem? (i := 53) rfl)), rfl⟩
theorem tw_838 : Cond.instanceMethod yX8_end ∈ ex_tb := List.mem_filter.mpr ⟨(tb_2 (List.mem_of_getElem? (i := 51) rfl)), rfl⟩
theorem tw_839 : Cond.selects RX8 yX8_end yX8_end ∈ ex_tb := List.mem_filter.mpr ⟨(tb_2 (List.mem_of_getElem? (i := 52) rfl)), rfl⟩
theorem tw_840 : Cond.methodLink RL 18 yX8_end ∈ ex_tb := List.mem_filter.mpr ⟨(tb_2 (List.mem_of_getElem? (i := 50) rfl)), rfl⟩
theorem tw_841 : Cond.code yX9_end cX9_end 3 (some .int) ∈ ex_tb := List.mem_filter.mpr ⟨(tb_5 (List.mem_of_getElem? (i := 54) rfl)), rfl⟩
theorem tw_842 : Cond.instanceMethod yX9_end ∈ ex_tb := List.mem_filter.mpr ⟨(tb_5 (List.mem_of_getElem? (i := 52) rfl)), rfl⟩
theorem tw_843 : Cond.selects RX9 yX9_end yX9_end ∈ ex_tb := List.mem_filter.mpr ⟨(tb_5 (List.mem_of_getElem? (i := 53) rfl)), rfl⟩
theorem tw_844 : Cond.methodLink RL 21 yX9_end ∈ ex_tb := List.mem_filter.mpr ⟨(tb_5 (List.mem_of_getElem? (i := 51) rfl)), rfl⟩
theorem tw_845 : Cond.code yX8_text cX8_text 2 (some .int) ∈ ex_tb := List.mem_filter.mpr ⟨(tb_2 (List.mem_of_getElem? (i := 61) rfl)), rfl⟩
theorem tw_846 : Cond.instanceMethod yX8_text ∈ ex_tb := List.mem_filter.mpr ⟨(tb_2 (List.mem_of_getElem? (i := 59) rfl)), rfl⟩
theorem tw_847 : Cond.selects RX8 yX8_text yX8_text ∈ ex_tb := List.mem_filter.mpr ⟨(tb_2 (List.mem_of_getElem? (i := 60) rfl)), rfl⟩
theorem tw_848 : Cond.methodLink RL 22 yX8_text ∈ ex_tb := List.mem_filter.mpr ⟨(tb_2 (List.mem_of_getElem? (i := 58) rfl)), rfl⟩
theorem tw_849 : Cond.code yX9_text cX9_text 3 (some .int) ∈ ex_tb := List.mem_filter.mpr ⟨(tb_5 (List.mem_of_getElem? (i := 58) rfl)), rfl⟩
theorem tw_850 : Cond.instanceMethod yX9_text ∈ ex_tb := List.mem_filter.mpr ⟨(tb_5 (List.mem_of_getElem? (i := 56) rfl)), rfl⟩
theorem tw_851 : Cond.selects RX9 yX9_text yX9_text ∈ ex_tb := List.mem_filter.mpr ⟨(tb_5 (List.mem_of_getElem? (i := 57) rfl)), rfl⟩
theorem tw_852 : Cond.methodLink RL 26 yX9_text ∈ ex_tb := List.mem_filter.mpr ⟨(tb_5 (List.mem_of_getElem? (i := 55) rfl)), rfl⟩
theorem tw_853 : Cond.code yX8_fault cX8_fault 1 (some .int) ∈ ex_tb := List.mem_filter.mpr ⟨(tb_2 (List.mem_of_getElem? (i := 224) rfl)), rfl⟩
theorem tw_854 : Cond.instanceMethod yX8_fault ∈ ex_tb := List.mem_filter.mpr ⟨(tb_2 (List.mem_of_getElem? (i := 222) rfl)), rfl⟩
theorem tw_855 : Cond.selects RX8 yX8_fault yX8_fault ∈ ex_tb := List.mem_filter.mpr ⟨(tb_2 (List.mem_of_getElem? (i := 223) rfl)), rfl⟩
theorem tw_856 : Cond.methodLink RL 27 yX8_fault ∈ ex_tb := List.mem_filter.mpr ⟨(tb_2 (List.mem_of_getElem? (i := 221) rfl)), rfl⟩
theorem tw_857 : Cond.code yX9_fault cX9_fault 1 (some .int) ∈ ex_tb := List.mem_filter.mpr ⟨(tb_5 (List.mem_of_getElem? (i := 115) rfl)), rfl⟩
theorem tw_858 : Cond.instanceMethod yX9_fault ∈ ex_tb := List.mem_filter.mpr ⟨(tb_5 (List.mem_of_getElem? (i := 113) rfl)), rfl⟩
theorem tw_859 : Cond.selects RX9 yX9_fault yX9_fault ∈ ex_tb := List.mem_filter.mpr ⟨(tb_5 (List.mem_of_getElem? (i := 114) rfl)), rfl⟩
theorem tw_860 : Cond.methodLink RL 30 yX9_fault ∈ ex_tb := List.mem_filter.mpr ⟨(tb_5 (List.mem_of_getElem? (i := 112) rfl)), rfl⟩
theorem tw_861 : Cond.code yX8_rule cX8_rule 2 (some .int) ∈ ex_tb := List.mem_filter.mpr ⟨(tb_2 (List.mem_of_getElem? (i := 228) rfl)), rfl⟩
theorem tw_862 : Cond.instanceMethod yX8_rule ∈ ex_tb := List.mem_filter.mpr ⟨(tb_2 (List.mem_of_getElem? (i := 226) rfl)), rfl⟩
theorem tw_863 : Cond.selects RX8 yX8_rule yX8_rule ∈ ex_tb := List.mem_filter.mpr ⟨(tb_2 (List.mem_of_getElem? (i := 227) rfl)), rfl⟩
theorem tw_864 : Cond.methodLink RL 31 yX8_rule ∈ ex_tb := List.mem_filter.mpr ⟨(tb_2 (List.mem_of_getElem? (i := 225) rfl)), rfl⟩
theorem tw_865 : Cond.code yX9_rule cX9_rule 2 (some .int) ∈ ex_tb := List.mem_filter.mpr ⟨(tb_5 (List.mem_of_getElem? (i := 119) rfl)), rfl⟩
theorem tw_866 : Cond.instanceMethod yX9_rule ∈ ex_tb := List.mem_filter.mpr ⟨(tb_5 (List.mem_of_getElem? (i := 117) rfl)), rfl⟩
theorem tw_867 : Cond.selects RX9 yX9_rule yX9_rule ∈ ex_tb := List.mem_filter.mpr ⟨(tb_5 (List.mem_of_getElem? (i := 118) rfl)), rfl⟩
theorem tw_868 : Cond.methodLink RL 34 yX9_rule ∈ ex_tb := List.mem_filter.mpr ⟨(tb_5 (List.mem_of_getElem? (i := 116) rfl)), rfl⟩
theorem tw_869 : Cond.code yX8_one cX8_one 3 (some .int) ∈ ex_tb := List.mem_filter.mpr ⟨(tb_3 (List.mem_of_getElem? (i := 21) rfl)), rfl⟩
theorem tw_870 : Cond.instanceMethod yX8_one ∈ ex_tb := List.mem_filter.mpr ⟨(tb_3 (List.mem_of_getElem? (i := 19) rfl)), rfl⟩
theorem tw_871 : Cond.selects RX8 yX8_one yX8_one ∈ ex_tb := List.mem_filter.mpr ⟨(tb_3 (List.mem_of_getElem? (i := 20) rfl)), rfl⟩
theorem tw_872 : Cond.methodLink RL 35 yX8_one ∈ ex_tb := List.mem_filter.mpr ⟨(tb_3 (List.mem_of_getElem? (i := 18) rfl)), rfl⟩
theorem tw_873 : Cond.code yX9_one cX9_one 3 (some .int) ∈ ex_tb := List.mem_filter.mpr ⟨(tb_5 (List.mem_of_getElem? (i := 147) rfl)), rfl⟩
theorem tw_874 : Cond.instanceMethod yX9_one ∈ ex_tb := List.mem_filter.mpr ⟨(tb_5 (List.mem_of_getElem? (i := 145) rfl)), rfl⟩
theorem tw_875 : Cond.selects RX9 yX9_one yX9_one ∈ ex_tb := List.mem_filter.mpr ⟨(tb_5 (List.mem_of_getElem? (i := 146) rfl)), rfl⟩
theorem tw_876 : Cond.methodLink RL 39 yX9_one ∈ ex_tb := List.mem_filter.mpr ⟨(tb_5 (List.mem_of_getElem? (i := 144) rfl)), rfl⟩
theorem tw_877 : Cond.code yX8_thing cX8_thing 3 (some .int) ∈ ex_tb := List.mem_filter.mpr ⟨(tb_3 (List.mem_of_getElem? (i := 46) rfl)), rfl⟩
theorem tw_878 : Cond.instanceMethod yX8_thing ∈ ex_tb := List.mem_filter.mpr ⟨(tb_3 (List.mem_of_getElem? (i := 44) rfl)), rfl⟩
theorem tw_879 : Cond.selects RX8 yX8_thing yX8_thing ∈ ex_tb := List.mem_filter.mpr ⟨(tb_3 (List.mem_of_getElem? (i := 45) rfl)), rfl⟩
theorem tw_880 : Cond.methodLink RL 40 yX8_thing ∈ ex_tb := List.mem_filter.mpr ⟨(tb_3 (List.mem_of_getElem? (i := 43) rfl)), rfl⟩
theorem tw_881 : Cond.code yX9_thing cX9_thing 3 (some .int) ∈ ex_tb := List.mem_filter.mpr ⟨(tb_5 (List.mem_of_getElem? (i := 155) rfl)), rfl⟩
theorem tw_882 : Cond.instanceMethod yX9_thing ∈ ex_tb := List.mem_filter.mpr ⟨(tb_5 (List.mem_of_getElem? (i := 153) rfl)), rfl⟩
theorem tw_883 : Cond.selects RX9 yX9_thing yX9_thing ∈ ex_tb := List.mem_filter.mpr ⟨(tb_5 (List.mem_of_getElem? (i := 154) rfl)), rfl⟩
theorem tw_884 : Cond.methodLink RL 43 yX9_thing ∈ ex_tb := List.mem_filter.mpr ⟨(tb_5 (List.mem_of_getElem? (i := 152) rfl)), rfl⟩
theorem tw_885 : Cond.code yX8_rota cX8_rota 2 (some .int) ∈ ex_tb := List.mem_filter.mpr ⟨(tb_3 (List.mem_of_getElem? (i := 60) rfl)), rfl⟩
theorem tw_886 : Cond.instanceMethod yX8_rota ∈ ex_tb := List.mem_filter.mpr ⟨(tb_3 (List.mem_of_getElem? (i := 58) rfl)), rfl⟩
theorem tw_887 : Cond.selects RX8 yX8_rota yX8_rota ∈ ex_tb := List.mem_filter.mpr ⟨(tb_3 (List.mem_of_getElem? (i := 59) rfl)), rfl⟩
theorem tw_888 : Cond.methodLink RL 44 yX8_rota ∈ ex_tb := List.mem_filter.mpr ⟨(tb_3 (List.mem_of_getElem? (i := 57) rfl)), rfl⟩
theorem tw_889 : Cond.code yX9_rota cX9_rota 2 (some .int) ∈ ex_tb := List.mem_filter.mpr ⟨(tb_5 (List.mem_of_getElem? (i := 171) rfl)), rfl⟩
theorem tw_890 : Cond.instanceMethod yX9_rota ∈ ex_tb := List.mem_filter.mpr ⟨(tb_5 (List.mem_of_getElem? (i := 169) rfl)), rfl⟩
theorem tw_891 : Cond.selects RX9 yX9_rota yX9_rota ∈ ex_tb := List.mem_filter.mpr ⟨(tb_5 (List.mem_of_getElem? (i := 170) rfl)), rfl⟩
theorem tw_892 : Cond.methodLink RL 47 yX9_rota ∈ ex_tb := List.mem_filter.mpr ⟨(tb_5 (List.mem_of_getElem? (i := 168) rfl)), rfl⟩
theorem tw_893 : Cond.code yX8_turn cX8_turn 3 (some .int) ∈ ex_tb := List.mem_filter.mpr ⟨(tb_3 (List.mem_of_getElem? (i := 64) rfl)), rfl⟩
theorem tw_894 : Cond.instanceMethod yX8_turn ∈ ex_tb := List.mem_filter.mpr ⟨(tb_3 (List.mem_of_getElem? (i := 62) rfl)), rfl⟩
theorem tw_895 : Cond.selects RX8 yX8_turn yX8_turn ∈ ex_tb := List.mem_filter.mpr ⟨(tb_3 (List.mem_of_getElem? (i := 63) rfl)), rfl⟩
theorem tw_896 : Cond.methodLink RL 48 yX8_turn ∈ ex_tb := List.mem_filter.mpr ⟨(tb_3 (List.mem_of_getElem? (i := 61) rfl)), rfl⟩
theorem tw_897 : Cond.code yX9_turn cX9_turn 3 (some .int) ∈ ex_tb := List.mem_filter.mpr ⟨(tb_5 (List.mem_of_getElem? (i := 178) rfl)), rfl⟩
theorem tw_898 : Cond.instanceMethod yX9_turn ∈ ex_tb := List.mem_filter.mpr ⟨(tb_5 (List.mem_of_getElem? (i := 176) rfl)), rfl⟩
theorem tw_899 : Cond.selects RX9 yX9_turn yX9_turn ∈ ex_tb := List.mem_filter.mpr ⟨(tb_5 (List.mem_of_getElem? (i := 177) rfl)), rfl⟩
theorem tw_900 : Cond.methodLink RL 51 yX9_turn ∈ ex_tb := List.mem_filter.mpr ⟨(tb_5 (List.mem_of_getElem? (i := 175) rfl)), rfl⟩
theorem tw_901 : Cond.code yX8_work cX8_work 3 (some .int) ∈ ex_tb := List.mem_filter.mpr ⟨(tb_3 (List.mem_of_getElem? (i := 69) rfl)), rfl⟩
theorem tw_902 : Cond.instanceMethod yX8_work ∈ ex_tb := List.mem_filter.mpr ⟨(tb_3 (List.mem_of_getElem? (i := 67) rfl)), rfl⟩
theorem tw_903 : Cond.selects RX8 yX8_work yX8_work ∈ ex_tb := List.mem_filter.mpr ⟨(tb_3 (List.mem_of_getElem? (i := 68) rfl)), rfl⟩
theorem tw_904 : Cond.methodLink RL 52 yX8_work ∈ ex_tb := List.mem_filter.mpr ⟨(tb_3 (List.mem_of_getElem? (i := 66) rfl)), rfl⟩
theorem tw_905 : Cond.code yX9_work cX9_work 3 (some .int) ∈ ex_tb := List.mem_filter.mpr ⟨(tb_5 (List.mem_of_getElem? (i := 182) rfl)), rfl⟩
theorem tw_906 : Cond.instanceMethod yX9_work ∈ ex_tb := List.mem_filter.mpr ⟨(tb_5 (List.mem_of_getElem? (i := 180) rfl)), rfl⟩
theorem tw_907 : Cond.selects RX9 yX9_work yX9_work ∈ ex_tb := List.mem_filter.mpr ⟨(tb_5 (List.mem_of_getElem? (i := 181) rfl)), rfl⟩
theorem tw_908 : Cond.methodLink RL 55 yX9_work ∈ ex_tb := List.mem_filter.mpr ⟨(tb_5 (List.mem_of_getElem? (i := 179) rfl)), rfl⟩
theorem tw_909 : Cond.code yX8_telling cX8_telling 3 (some .int) ∈ ex_tb := List.mem_filter.mpr ⟨(tb_3 (List.mem_of_getElem? (i := 80) rfl)), rfl⟩
theorem tw_910 : Cond.instanceMethod yX8_telling ∈ ex_tb := List.mem_filter.mpr ⟨(tb_3 (List.mem_of_getElem? (i := 78) rfl)), rfl⟩
theorem tw_911 : Cond.selects RX8 yX8_telling yX8_telling ∈ ex_tb := List.mem_filter.mpr ⟨(tb_3 (List.mem_of_getElem? (i := 79) rfl)), rfl⟩
theorem tw_912 : Cond.methodLink RL 56 yX8_telling ∈ ex_tb := List.mem_filter.mpr ⟨(tb_3 (List.mem_of_getElem? (i := 77) rfl)), rfl⟩
theorem tw_913 : Cond.code yX9_telling cX9_telling 3 (some .int) ∈ ex_tb := List.mem_filter.mpr ⟨(tb_5 (List.mem_of_getElem? (i := 191) rfl)), rfl⟩
theorem tw_914 : Cond.instanceMethod yX9_telling ∈ ex_tb := List.mem_filter.mpr ⟨(tb_5 (List.mem_of_getElem? (i := 189) rfl)), rfl⟩
theorem tw_915 : Cond.selects RX9 yX9_telling yX9_telling ∈ ex_tb := List.mem_filter.mpr ⟨(tb_5 (List.mem_of_getElem? (i := 190) rfl)), rfl⟩
theorem tw_916 : Cond.methodLink RL 59 yX9_telling ∈ ex_tb := List.mem_filter.mpr ⟨(tb_5 (List.mem_of_getElem? (i := 188) rfl)), rfl⟩
theorem tw_917 : Cond.code yX8_alter cX8_alter 5 (some .int) ∈ ex_tb := List.mem_filter.mpr ⟨(tb_3 (List.mem_of_getElem? (i := 84) rfl)), rfl⟩
theorem tw_918 : Cond.instanceMethod yX8_alter ∈ ex_tb := List.mem_filter.mpr ⟨(tb_3 (List.mem_of_getElem? (i := 82) rfl)), rfl⟩
theorem tw_919 : Cond.selects RX8 yX8_alter yX8_alter ∈ ex_tb := List.mem_filter.mpr ⟨(tb_3 (List.mem_of_getElem? (i := 83) rfl)), rfl⟩
theorem tw_920 : Cond.methodLink RL 60 yX8_alter ∈ ex_tb := List.mem_filter.mpr ⟨(tb_3 (List.mem_of_getElem? (i := 81) rfl)), rfl⟩
theorem tw_921 : Cond.code yX9_alter cX9_alter 4 (some .int) ∈ ex_tb := List.mem_filter.mpr ⟨(tb_5 (List.mem_of_getElem? (i := 196) rfl)), rfl⟩
theorem tw_922 : Cond.instanceMethod yX9_alter ∈ ex_tb := List.mem_filter.mpr ⟨(tb_5 (List.mem_of_getElem? (i := 194) rfl)), rfl⟩
theorem tw_923 : Cond.selects RX9 yX9_alter yX9_alter ∈ ex_tb := List.mem_filter.mpr ⟨(tb_5 (List.mem_of_getElem? (i := 195) rfl)), rfl⟩
theorem tw_924 : Cond.methodLink RL 64 yX9_alter ∈ ex_tb := List.mem_filter.mpr ⟨(tb_5 (List.mem_of_getElem? (i := 193) rfl)), rfl⟩
theorem tw_925 : Cond.code yX8_paint cX8_paint 4 (some .int) ∈ ex_tb := List.mem_filter.mpr ⟨(tb_3 (List.mem_of_getElem? (i := 92) rfl)), rfl⟩
theorem tw_926 : Cond.instanceMethod yX8_paint ∈ ex_tb := List.mem_filter.mpr ⟨(tb_3 (List.mem_of_getElem? (i := 90) rfl)), rfl⟩
theorem tw_927 : Cond.selects RX8 yX8_paint yX8_paint ∈ ex_tb := List.mem_filter.mpr ⟨(tb_3 (List.mem_of_getElem? (i := 91) rfl)), rfl⟩
theorem tw_928 : Cond.methodLink RL 65 yX8_paint ∈ ex_tb := List.mem_filter.mpr ⟨(tb_3 (List.mem_of_getElem? (i := 89) rfl)), rfl⟩
theorem tw_929 : Cond.code yX9_paint cX9_paint 3 (some .int) ∈ ex_tb := List.mem_filter.mpr ⟨(tb_5 (List.mem_of_getElem? (i := 204) rfl)), rfl⟩
theorem tw_930 : Cond.instanceMethod yX9_paint ∈ ex_tb := List.mem_filter.mpr ⟨(tb_5 (List.mem_of_getElem? (i := 202) rfl)), rfl⟩
theorem tw_931 : Cond.selects RX9 yX9_paint yX9_paint ∈ ex_tb := List.mem_filter.mpr ⟨(tb_5 (List.mem_of_getElem? (i := 203) rfl)), rfl⟩
theorem tw_932 : Cond.methodLink RL 68 yX9_paint ∈ ex_tb := List.mem_filter.mpr ⟨(tb_5 (List.mem_of_getElem? (i := 201) rfl)), rfl⟩
theorem tw_933 : Cond.code yX8_shift cX8_shift 4 (some .int) ∈ ex_tb := List.mem_filter.mpr ⟨(tb_3 (List.mem_of_getElem? (i := 99) rfl)), rfl⟩
theorem tw_934 : Cond.instanceMethod yX8_shift ∈ ex_tb := List.mem_filter.mpr ⟨(tb_3 (List.mem_of_getElem? (i := 97) rfl)), rfl⟩
theorem tw_935 : Cond.selects RX8 yX8_shift yX8_shift ∈ ex_tb := List.mem_filter.mpr ⟨(tb_3 (List.mem_of_getElem? (i := 98) rfl)), rfl⟩
theorem tw_936 : Cond.methodLink RL 69 yX8_shift ∈ ex_tb := List.mem_filter.mpr ⟨(tb_3 (List.mem_of_getElem? (i := 96) rfl)), rfl⟩
theorem tw_937 : Cond.code yX9_shift cX9_shift 3 (some .int) ∈ ex_tb := List.mem_filter.mpr ⟨(tb_5 (List.mem_of_getElem? (i := 208) rfl)), rfl⟩
theorem tw_938 : Cond.instanceMethod yX9_shift ∈ ex_tb := List.mem_filter.mpr ⟨(tb_5 (List.mem_of_getElem? (i := 206) rfl)), rfl⟩
theorem tw_939 : Cond.selects RX9 yX9_shift yX9_shift ∈ ex_tb := List.mem_filter.mpr ⟨(tb_5 (List.mem_of_getElem? (i := 207) rfl)), rfl⟩
theorem tw_940 : Cond.methodLink RL 72 yX9_shift ∈ ex_tb := List.mem_filter.mpr ⟨(tb_5 (List.mem_of_getElem? (i := 205) rfl)), rfl⟩
theorem tw_941 : Cond.code yX8_assign cX8_assign 5 (some .int) ∈ ex_tb := List.mem_filter.mpr ⟨(tb_3 (List.mem_of_getElem? (i := 107) rfl)), rfl⟩
theorem tw_942 : Cond.instanceMethod yX8_assign ∈ ex_tb := List.mem_filter.mpr ⟨(tb_3 (List.mem_of_getElem? (i := 105) rfl)), rfl⟩
theorem tw_943 : Cond.selects RX8 yX8_assign yX8_assign ∈ ex_tb := List.mem_filter.mpr ⟨(tb_3 (List.mem_of_getElem? (i := 106) rfl)), rfl⟩
theorem tw_944 : Cond.methodLink RL 73 yX8_assign ∈ ex_tb := List.mem_filter.mpr ⟨(tb_3 (List.mem_of_getElem? (i := 104) rfl)), rfl⟩
theorem tw_945 : Cond.code yX9_assign cX9_assign 6 (some .int) ∈ ex_tb := List.mem_filter.mpr ⟨(tb_5 (List.mem_of_getElem? (i := 216) rfl)), rfl⟩
theorem tw_946 : Cond.instanceMethod yX9_assign ∈ ex_tb := List.mem_filter.mpr ⟨(tb_5 (List.mem_of_getElem? (i := 214) rfl)), rfl⟩
theorem tw_947 : Cond.selects RX9 yX9_assign yX9_assign ∈ ex_tb := List.mem_filter.mpr ⟨(tb_5 (List.mem_of_getElem? (i := 215) rfl)), rfl⟩
theorem tw_948 : Cond.methodLink RL 77 yX9_assign ∈ ex_tb := List.mem_filter.mpr ⟨(tb_5 (List.mem_of_getElem? (i := 213) rfl)), rfl⟩
theorem tw_949 : Cond.code yX8_change cX8_change 4 (some .int) ∈ ex_tb := List.mem_filter.mpr ⟨(tb_3 (List.mem_of_getElem? (i := 111) rfl)), rfl⟩
theorem tw_950 : Cond.instanceMethod yX8_change ∈ ex_tb := List.mem_filter.mpr ⟨(tb_3 (List.mem_of_getElem? (i := 109) rfl)), rfl⟩
theorem tw_951 : Cond.selects RX8 yX8_change yX8_change ∈ ex_tb := List.mem_filter.mpr ⟨(tb_3 (List.mem_of_getElem? (i := 110) rfl)), rfl⟩
theorem tw_952 : Cond.methodLink RL 78 yX8_change ∈ ex_tb := List.mem_filter.mpr ⟨(tb_3 (List.mem_of_getElem? (i := 108) rfl)), rfl⟩
theorem tw_953 : Cond.code yX9_change cX9_change 5 (some .int) ∈ ex_tb := List.mem_filter.mpr ⟨(tb_5 (List.mem_of_getElem? (i := 220) rfl)), rfl⟩
theorem tw_954 : Cond.instanceMethod yX9_change ∈ ex_tb := List.mem_filter.mpr ⟨(tb_5 (List.mem_of_getElem? (i := 218) rfl)), rfl⟩
theorem tw_955 : Cond.selects RX9 yX9_change yX9_change ∈ ex_tb := List.mem_filter.mpr ⟨(tb_5 (List.mem_of_getElem? (i := 219) rfl)), rfl⟩
theorem tw_956 : Cond.methodLink RL 81 yX9_change ∈ ex_tb := List.mem_filter.mpr ⟨(tb_5 (List.mem_of_getElem? (i := 217) rfl)), rfl⟩
theorem tw_957 : Cond.code yX8_tell cX8_tell 5 (some .int) ∈ ex_tb := List.mem_filter.mpr ⟨(tb_3 (List.mem_of_getElem? (i := 115) rfl)), rfl⟩
theorem tw_958 : Cond.instanceMethod yX8_tell ∈ ex_tb := List.mem_filter.mpr ⟨(tb_3 (List.mem_of_getElem? (i := 113) rfl)), rfl⟩
theorem tw_959 : Cond.selects RX8 yX8_tell yX8_tell ∈ ex_tb := List.mem_filter.mpr ⟨(tb_3 (List.mem_of_getElem? (i := 114) rfl)), rfl⟩
theorem tw_960 : Cond.methodLink RL 82 yX8_tell ∈ ex_tb := List.mem_filter.mpr ⟨(tb_3 (List.mem_of_getElem? (i := 112) rfl)), rfl⟩
theorem tw_961 : Cond.code yX9_tell cX9_tell 6 (some .int) ∈ ex_tb := List.mem_filter.mpr ⟨(tb_5 (List.mem_of_getElem? (i := 224) rfl)), rfl⟩
theorem tw_962 : Cond.instanceMethod yX9_tell ∈ ex_tb := List.mem_filter.mpr ⟨(tb_5 (List.mem_of_getElem? (i := 222) rfl)), rfl⟩
theorem tw_963 : Cond.selects RX9 yX9_tell yX9_tell ∈ ex_tb := List.mem_filter.mpr ⟨(tb_5 (List.mem_of_getElem? (i := 223) rfl)), rfl⟩
theorem tw_964 : Cond.methodLink RL 85 yX9_tell ∈ ex_tb := List.mem_filter.mpr ⟨(tb_5 (List.mem_of_getElem? (i := 221) rfl)), rfl⟩
theorem tw_965 : Cond.code yX8_drop cX8_drop 3 (some .int) ∈ ex_tb := List.mem_filter.mpr ⟨(tb_3 (List.mem_of_getElem? (i := 119) rfl)), rfl⟩
theorem tw_966 : Cond.instanceMethod yX8_drop ∈ ex_tb := List.mem_filter.mpr ⟨(tb_3 (List.mem_of_getElem? (i := 117) rfl)), rfl⟩
theorem tw_967 : Cond.selects RX8 yX8_drop yX8_drop ∈ ex_tb := List.mem_filter.mpr ⟨(tb_3 (List.mem_of_getElem? (i := 118) rfl)), rfl⟩
theorem tw_968 : Cond.methodLink RL 86 yX8_drop ∈ ex_tb := List.mem_filter.mpr ⟨(tb_3 (List.mem_of_getElem? (i := 116) rfl)), rfl⟩
theorem tw_969 : Cond.code yX9_drop cX9_drop 4 (some .int) ∈ ex_tb := List.mem_filter.mpr ⟨(tb_5 (List.mem_of_getElem? (i := 228) rfl)), rfl⟩
theorem tw_970 : Cond.instanceMethod yX9_drop ∈ ex_tb := List.mem_filter.mpr ⟨(tb_5 (List.mem_of_getElem? (i := 226) rfl)), rfl⟩
theorem tw_971 : Cond.selects RX9 yX9_drop yX9_drop ∈ ex_tb := List.mem_filter.mpr ⟨(tb_5 (List.mem_of_getElem? (i := 227) rfl)), rfl⟩
theorem tw_972 : Cond.methodLink RL 89 yX9_drop ∈ ex_tb := List.mem_filter.mpr ⟨(tb_5 (List.mem_of_getElem? (i := 225) rfl)), rfl⟩
theorem tw_973 : Cond.code yX8_sees cX8_sees 2 (some .int) ∈ ex_tb := List.mem_filter.mpr ⟨(tb_3 (List.mem_of_getElem? (i := 123) rfl)), rfl⟩
theorem tw_974 : Cond.instanceMethod yX8_sees ∈ ex_tb := List.mem_filter.mpr ⟨(tb_3 (List.mem_of_getElem? (i := 121) rfl)), rfl⟩
theorem tw_975 : Cond.selects RX8 yX8_sees yX8_sees ∈ ex_tb := List.mem_filter.mpr ⟨(tb_3 (List.mem_of_getElem? (i := 122) rfl)), rfl⟩
theorem tw_976 : Cond.methodLink RL 90 yX8_sees ∈ ex_tb := List.mem_filter.mpr ⟨(tb_3 (List.mem_of_getElem? (i := 120) rfl)), rfl⟩
theorem tw_977 : Cond.code yX9_sees cX9_sees 2 (some .int) ∈ ex_tb := List.mem_filter.mpr ⟨(tb_5 (List.mem_of_getElem? (i := 232) rfl)), rfl⟩
theorem tw_978 : Cond.instanceMethod yX9_sees ∈ ex_tb := List.mem_filter.mpr ⟨(tb_5 (List.mem_of_getElem? (i := 230) rfl)), rfl⟩
theorem tw_979 : Cond.selects RX9 yX9_sees yX9_sees ∈ ex_tb := List.mem_filter.mpr ⟨(tb_5 (List.mem_of_getElem? (i := 231) rfl)), rfl⟩
theorem tw_980 : Cond.methodLink RL 93 yX9_sees ∈ ex_tb := List.mem_filter.mpr ⟨(tb_5 (List.mem_of_getElem? (i := 229) rfl)), rfl⟩
theorem tw_981 : Cond.code yX8_belief cX8_belief 5 (some .int) ∈ ex_tb := List.mem_filter.mpr ⟨(tb_3 (List.mem_of_getElem? (i := 128) rfl)), rfl⟩
theorem tw_982 : Cond.instanceMethod yX8_belief ∈ ex_tb := List.mem_filter.mpr ⟨(tb_3 (List.mem_of_getElem? (i := 126) rfl)), rfl⟩
theorem tw_983 : Cond.selects RX8 yX8_belief yX8_belief ∈ ex_tb := List.mem_filter.mpr ⟨(tb_3 (List.mem_of_getElem? (i := 127) rfl)), rfl⟩
theorem tw_984 : Cond.methodLink RL 94 yX8_belief ∈ ex_tb := List.mem_filter.mpr ⟨(tb_3 (List.mem_of_getElem? (i := 125) rfl)), rfl⟩
theorem tw_985 : Cond.code yX9_belief cX9_belief 6 (some .int) ∈ ex_tb := List.mem_filter.mpr ⟨(tb_5 (List.mem_of_getElem? (i := 236) rfl)), rfl⟩
theorem tw_986 : Cond.instanceMethod yX9_belief ∈ ex_tb := List.mem_filter.mpr ⟨(tb_5 (List.mem_of_getElem? (i := 234) rfl)), rfl⟩
theorem tw_987 : Cond.selects RX9 yX9_belief yX9_belief ∈ ex_tb := List.mem_filter.mpr ⟨(tb_5 (List.mem_of_getElem? (i := 235) rfl)), rfl⟩
theorem tw_988 : Cond.methodLink RL 97 yX9_belief ∈ ex_tb := List.mem_filter.mpr ⟨(tb_5 (List.mem_of_getElem? (i := 233) rfl)), rfl⟩
theorem tw_989 : Cond.code yX8_right cX8_right 4 (some .int) ∈ ex_tb := List.mem_filter.mpr ⟨(tb_3 (List.mem_of_getElem? (i := 171) rfl)), rfl⟩
theorem tw_990 : Cond.instanceMethod yX8_right ∈ ex_tb := List.mem_filter.mpr ⟨(tb_3 (List.mem_of_getElem? (i := 169) rfl)), rfl⟩
theorem tw_991 : Cond.selects RX8 yX8_right yX8_right ∈ ex_tb := List.mem_filter.mpr ⟨(tb_3 (List.mem_of_getElem? (i := 170) rfl)), rfl⟩
theorem tw_992 : Cond.methodLink RL 98 yX8_right ∈ ex_tb := List.mem_filter.mpr ⟨(tb_3 (List.mem_of_getElem? (i := 168) rfl)), rfl⟩
theorem tw_993 : Cond.code yX9_right cX9_right 4 (some .int) ∈ ex_tb := List.mem_filter.mpr ⟨(tb_6 (List.mem_of_getElem? (i := 8) rfl)), rfl⟩
theorem tw_994 : Cond.instanceMethod yX9_right ∈ ex_tb := List.mem_filter.mpr ⟨(tb_6 (List.mem_of_getElem? (i := 6) rfl)), rfl⟩
theorem tw_995 : Cond.selects RX9 yX9_right yX9_right ∈ ex_tb := List.mem_filter.mpr ⟨(tb_6 (List.mem_of_getElem? (i := 7) rfl)), rfl⟩
theorem tw_996 : Cond.methodLink RL 101 yX9_right ∈ ex_tb := List.mem_filter.mpr ⟨(tb_6 (List.mem_of_getElem? (i := 5) rfl)), rfl⟩
theorem tw_997 : Cond.code yX8_wrong cX8_wrong 4 (some .int) ∈ ex_tb := List.mem_filter.mpr ⟨(tb_3 (List.mem_of_getElem? (i := 183) rfl)), rfl⟩
theorem tw_998 : Cond.instanceMethod yX8_wrong ∈ ex_tb := List.mem_filter.mpr ⟨(tb_3 (List.mem_of_getElem? (i := 181) rfl)), rfl⟩
theorem tw_999 : Cond.selects RX8 yX8_wrong yX8_wrong ∈ ex_tb := List.mem_filter.mpr ⟨(tb_3 (List.mem_of_getElem? (i := 182) rfl)), rfl⟩
theorem tw_1000 : Cond.methodLink RL 102 yX8_wrong ∈ ex_tb := List.mem_filter.mpr ⟨(tb_3 (List.mem_of_getElem? (i := 180) rfl)), rfl⟩
theorem tw_1001 : Cond.code yX9_wrong cX9_wrong 4 (some .int) ∈ ex_tb := List.mem_filter.mpr ⟨(tb_6 (List.mem_of_getElem? (i := 16) rfl)), rfl⟩
theorem tw_1002 : Cond.instanceMethod yX9_wrong ∈ ex_tb := List.mem_filter.mpr ⟨(tb_6 (List.mem_of_getElem? (i := 14) rfl)), rfl⟩
theorem tw_1003 : Cond.selects RX9 yX9_wrong yX9_wrong ∈ ex_tb := List.mem_filter.mpr ⟨(tb_6 (List.mem_of_getElem? (i := 15) rfl)), rfl⟩
theorem tw_1004 : Cond.methodLink RL 105 yX9_wrong ∈ ex_tb := List.mem_filter.mpr ⟨(tb_6 (List.mem_of_getElem? (i := 13) rfl)), rfl⟩
theorem tw_1005 : Cond.code yX8_done cX8_done 2 (some .int) ∈ ex_tb := List.mem_filter.mpr ⟨(tb_3 (List.mem_of_getElem? (i := 187) rfl)), rfl⟩
theorem tw_1006 : Cond.instanceMethod yX8_done ∈ ex_tb := List.mem_filter.mpr ⟨(tb_3 (List.mem_of_getElem? (i := 185) rfl)), rfl⟩
theorem tw_1007 : Cond.selects RX8 yX8_done yX8_done ∈ ex_tb := List.mem_filter.mpr ⟨(tb_3 (List.mem_of_getElem? (i := 186) rfl)), rfl⟩
theorem tw_1008 : Cond.methodLink RL 106 yX8_done ∈ ex_tb := List.mem_filter.mpr ⟨(tb_3 (List.mem_of_getElem? (i := 184) rfl)), rfl⟩
theorem tw_1009 : Cond.code yX9_done cX9_done 3 (some .int) ∈ ex_tb := List.mem_filter.mpr ⟨(tb_6 (List.mem_of_getElem? (i := 20) rfl)), rfl⟩
theorem tw_1010 : Cond.instanceMethod yX9_done ∈ ex_tb := List.mem_filter.mpr ⟨(tb_6 (List.mem_of_getElem? (i := 18) rfl)), rfl⟩
theorem tw_1011 : Cond.selects RX9 yX9_done yX9_done ∈ ex_tb := List.mem_filter.mpr ⟨(tb_6 (List.mem_of_getElem? (i := 19) rfl)), rfl⟩
theorem tw_1012 : Cond.methodLink RL 109 yX9_done ∈ ex_tb := List.mem_filter.mpr ⟨(tb_6 (List.mem_of_getElem? (i := 17) rfl)), rfl⟩
theorem tw_1013 : Cond.code yX8_best cX8_best 2 (some .int) ∈ ex_tb := List.mem_filter.mpr ⟨(tb_3 (List.mem_of_getElem? (i := 204) rfl)), rfl⟩
theorem tw_1014 : Cond.instanceMethod yX8_best ∈ ex_tb := List.mem_filter.mpr ⟨(tb_3 (List.mem_of_getElem? (i := 202) rfl)), rfl⟩
theorem tw_1015 : Cond.selects RX8 yX8_best yX8_best ∈ ex_tb := List.mem_filter.mpr ⟨(tb_3 (List.mem_of_getElem? (i := 203) rfl)), rfl⟩
theorem tw_1016 : Cond.methodLink RL 110 yX8_best ∈ ex_tb := List.mem_filter.mpr ⟨(tb_3 (List.mem_of_getElem? (i := 201) rfl)), rfl⟩
theorem tw_1017 : Cond.code yX9_best cX9_best 8 (some .int) ∈ ex_tb := List.mem_filter.mpr ⟨(tb_6 (List.mem_of_getElem? (i := 32) rfl)), rfl⟩
theorem tw_1018 : Cond.instanceMethod yX9_best ∈ ex_tb := List.mem_filter.mpr ⟨(tb_6 (List.mem_of_getElem? (i := 30) rfl)), rfl⟩
theorem tw_1019 : Cond.selects RX9 yX9_best yX9_best ∈ ex_tb := List.mem_filter.mpr ⟨(tb_6 (List.mem_of_getElem? (i := 31) rfl)), rfl⟩
theorem tw_1020 : Cond.methodLink RL 113 yX9_best ∈ ex_tb := List.mem_filter.mpr ⟨(tb_6 (List.mem_of_getElem? (i := 29) rfl)), rfl⟩
theorem tw_1021 : Cond.code yX8_swap cX8_swap 7 (some .int) ∈ ex_tb := List.mem_filter.mpr ⟨(tb_4 (List.mem_of_getElem? (i := 12) rfl)), rfl⟩
theorem tw_1022 : Cond.instanceMethod yX8_swap ∈ ex_tb := List.mem_filter.mpr ⟨(tb_4 (List.mem_of_getElem? (i := 10) rfl)), rfl⟩
theorem tw_1023 : Cond.selects RX8 yX8_swap yX8_swap ∈ ex_tb := List.mem_filter.mpr ⟨(tb_4 (List.mem_of_getElem? (i := 11) rfl)), rfl⟩
theorem tw_1024 : Cond.methodLink RL 114 yX8_swap ∈ ex_tb := List.mem_filter.mpr ⟨(tb_4 (List.mem_of_getElem? (i := 9) rfl)), rfl⟩
theorem tw_1025 : Cond.code yX9_swap cX9_swap 9 (some .int) ∈ ex_tb := List.mem_filter.mpr ⟨(tb_6 (List.mem_of_getElem? (i := 54) rfl)), rfl⟩
theorem tw_1026 : Cond.instanceMethod yX9_swap ∈ ex_tb := List.mem_filter.mpr ⟨(tb_6 (List.mem_of_getElem? (i := 52) rfl)), rfl⟩
theorem tw_1027 : Cond.selects RX9 yX9_swap yX9_swap ∈ ex_tb := List.mem_filter.mpr ⟨(tb_6 (List.mem_of_getElem? (i := 53) rfl)), rfl⟩
theorem tw_1028 : Cond.methodLink RL 117 yX9_swap ∈ ex_tb := List.mem_filter.mpr ⟨(tb_6 (List.mem_of_getElem? (i := 51) rfl)), rfl⟩
theorem tw_1029 : Cond.code yX8_give cX8_give 7 (some .int) ∈ ex_tb := List.mem_filter.mpr ⟨(tb_4 (List.mem_of_getElem? (i := 29) rfl)), rfl⟩
theorem tw_1030 : Cond.instanceMethod yX8_give ∈ ex_tb := List.mem_filter.mpr ⟨(tb_4 (List.mem_of_getElem? (i := 27) rfl)), rfl⟩
theorem tw_1031 : Cond.selects RX8 yX8_give yX8_give ∈ ex_tb := List.mem_filter.mpr ⟨(tb_4 (List.mem_of_getElem? (i := 28) rfl)), rfl⟩
theorem tw_1032 : Cond.methodLink RL 118 yX8_give ∈ ex_tb := List.mem_filter.mpr ⟨(tb_4 (List.mem_of_getElem? (i := 26) rfl)), rfl⟩
theorem tw_1033 : Cond.code yX9_give cX9_give 8 (some .int) ∈ ex_tb := List.mem_filter.mpr ⟨(tb_6 (List.mem_of_getElem? (i := 62) rfl)), rfl⟩
theorem tw_1034 : Cond.instanceMethod yX9_give ∈ ex_tb := List.mem_filter.mpr ⟨(tb_6 (List.mem_of_getElem? (i := 60) rfl)), rfl⟩
theorem tw_1035 : Cond.selects RX9 yX9_give yX9_give ∈ ex_tb := List.mem_filter.mpr ⟨(tb_6 (List.mem_of_getElem? (i := 61) rfl)), rfl⟩
theorem tw_1036 : Cond.methodLink RL 121 yX9_give ∈ ex_tb := List.mem_filter.mpr ⟨(tb_6 (List.mem_of_getElem? (i := 59) rfl)), rfl⟩
theorem tw_1037 : Cond.code yX8_mend cX8_mend 3 (some .int) ∈ ex_tb := List.mem_filter.mpr ⟨(tb_4 (List.mem_of_getElem? (i := 37) rfl)), rfl⟩
theorem tw_1038 : Cond.instanceMethod yX8_mend ∈ ex_tb := List.mem_filter.mpr ⟨(tb_4 (List.mem_of_getElem? (i := 35) rfl)), rfl⟩
theorem tw_1039 : Cond.selects RX8 yX8_mend yX8_mend ∈ ex_tb := List.mem_filter.mpr ⟨(tb_4 (List.mem_of_getElem? (i := 36) rfl)), rfl⟩
theorem tw_1040 : Cond.methodLink RL 122 yX8_mend ∈ ex_tb := List.mem_filter.mpr ⟨(tb_4 (List.mem_of_getElem? (i := 34) rfl)), rfl⟩
theorem tw_1041 : Cond.code yX9_mend cX9_mend 3 (some .int) ∈ ex_tb := List.mem_filter.mpr ⟨(tb_6 (List.mem_of_getElem? (i := 66) rfl)), rfl⟩
theorem tw_1042 : Cond.instanceMethod yX9_mend ∈ ex_tb := List.mem_filter.mpr ⟨(tb_6 (List.mem_of_getElem? (i := 64) rfl)), rfl⟩
theorem tw_1043 : Cond.selects RX9 yX9_mend yX9_mend ∈ ex_tb := List.mem_filter.mpr ⟨(tb_6 (List.mem_of_getElem? (i := 65) rfl)), rfl⟩
theorem tw_1044 : Cond.methodLink RL 125 yX9_mend ∈ ex_tb := List.mem_filter.mpr ⟨(tb_6 (List.mem_of_getElem? (i := 63) rfl)), rfl⟩
theorem tw_1045 : Cond.code yX8_luck cX8_luck 4 (some .long) ∈ ex_tb := List.mem_filter.mpr ⟨(tb_4 (List.mem_of_getElem? (i := 47) rfl)), rfl⟩
theorem tw_1046 : Cond.instanceMethod yX8_luck ∈ ex_tb := List.mem_filter.mpr ⟨(tb_4 (List.mem_of_getElem? (i := 45) rfl)), rfl⟩
theorem tw_1047 : Cond.selects RX8 yX8_luck yX8_luck ∈ ex_tb := List.mem_filter.mpr ⟨(tb_4 (List.mem_of_getElem? (i := 46) rfl)), rfl⟩
theorem tw_1048 : Cond.methodLink RL 126 yX8_luck ∈ ex_tb := List.mem_filter.mpr ⟨(tb_4 (List.mem_of_getElem? (i := 44) rfl)), rfl⟩
theorem tw_1049 : Cond.code yX9_luck cX9_luck 4 (some .long) ∈ ex_tb := List.mem_filter.mpr ⟨(tb_6 (List.mem_of_getElem? (i := 73) rfl)), rfl⟩
theorem tw_1050 : Cond.instanceMethod yX9_luck ∈ ex_tb := List.mem_filter.mpr ⟨(tb_6 (List.mem_of_getElem? (i := 71) rfl)), rfl⟩
theorem tw_1051 : Cond.selects RX9 yX9_luck yX9_luck ∈ ex_tb := List.mem_filter.mpr ⟨(tb_6 (List.mem_of_getElem? (i := 72) rfl)), rfl⟩
theorem tw_1052 : Cond.methodLink RL 130 yX9_luck ∈ ex_tb := List.mem_filter.mpr ⟨(tb_6 (List.mem_of_getElem? (i := 70) rfl)), rfl⟩
theorem tw_1053 : Cond.code yX8_mean cX8_mean 6 (some .long) ∈ ex_tb := List.mem_filter.mpr ⟨(tb_4 (List.mem_of_getElem? (i := 68) rfl)), rfl⟩
theorem tw_1054 : Cond.instanceMethod yX8_mean ∈ ex_tb := List.mem_filter.mpr ⟨(tb_4 (List.mem_of_getElem? (i := 66) rfl)), rfl⟩
theorem tw_1055 : Cond.selects RX8 yX8_mean yX8_mean ∈ ex_tb := List.mem_filter.mpr ⟨(tb_4 (List.mem_of_getElem? (i := 67) rfl)), rfl⟩
theorem tw_1056 : Cond.methodLink RL 131 yX8_mean ∈ ex_tb := List.mem_filter.mpr ⟨(tb_4 (List.mem_of_getElem? (i := 65) rfl)), rfl⟩
theorem tw_1057 : Cond.code yX9_mean cX9_mean 3 (some .long) ∈ ex_tb := List.mem_filter.mpr ⟨(tb_6 (List.mem_of_getElem? (i := 93) rfl)), rfl⟩
theorem tw_1058 : Cond.instanceMethod yX9_mean ∈ ex_tb := List.mem_filter.mpr ⟨(tb_6 (List.mem_of_getElem? (i := 91) rfl)), rfl⟩
theorem tw_1059 : Cond.selects RX9 yX9_mean yX9_mean ∈ ex_tb := List.mem_filter.mpr ⟨(tb_6 (List.mem_of_getElem? (i := 92) rfl)), rfl⟩
theorem tw_1060 : Cond.methodLink RL 135 yX9_mean ∈ ex_tb := List.mem_filter.mpr ⟨(tb_6 (List.mem_of_getElem? (i := 90) rfl)), rfl⟩
theorem tw_1061 : Cond.code yX8_see cX8_see 5 (some .int) ∈ ex_tb := List.mem_filter.mpr ⟨(tb_4 (List.mem_of_getElem? (i := 73) rfl)), rfl⟩
theorem tw_1062 : Cond.instanceMethod yX8_see ∈ ex_tb := List.mem_filter.mpr ⟨(tb_4 (List.mem_of_getElem? (i := 71) rfl)), rfl⟩
theorem tw_1063 : Cond.selects RX8 yX8_see yX8_see ∈ ex_tb := List.mem_filter.mpr ⟨(tb_4 (List.mem_of_getElem? (i := 72) rfl)), rfl⟩
theorem tw_1064 : Cond.methodLink RL 136 yX8_see ∈ ex_tb := List.mem_filter.mpr ⟨(tb_4 (List.mem_of_getElem? (i := 70) rfl)), rfl⟩
theorem tw_1065 : Cond.code yX9_see cX9_see 5 (some .int) ∈ ex_tb := List.mem_filter.mpr ⟨(tb_6 (List.mem_of_getElem? (i := 97) rfl)), rfl⟩
theorem tw_1066 : Cond.instanceMethod yX9_see ∈ ex_tb := List.mem_filter.mpr ⟨(tb_6 (List.mem_of_getElem? (i := 95) rfl)), rfl⟩
theorem tw_1067 : Cond.selects RX9 yX9_see yX9_see ∈ ex_tb := List.mem_filter.mpr ⟨(tb_6 (List.mem_of_getElem? (i := 96) rfl)), rfl⟩
theorem tw_1068 : Cond.methodLink RL 139 yX9_see ∈ ex_tb := List.mem_filter.mpr ⟨(tb_6 (List.mem_of_getElem? (i := 94) rfl)), rfl⟩
theorem tw_1069 : Cond.code yX8_forget cX8_forget 2 (some .int) ∈ ex_tb := List.mem_filter.mpr ⟨(tb_4 (List.mem_of_getElem? (i := 77) rfl)), rfl⟩
theorem tw_1070 : Cond.instanceMethod yX8_forget ∈ ex_tb := List.mem_filter.mpr ⟨(tb_4 (List.mem_of_getElem? (i := 75) rfl)), rfl⟩
theorem tw_1071 : Cond.selects RX8 yX8_forget yX8_forget ∈ ex_tb := List.mem_filter.mpr ⟨(tb_4 (List.mem_of_getElem? (i := 76) rfl)), rfl⟩
theorem tw_1072 : Cond.methodLink RL 140 yX8_forget ∈ ex_tb := List.mem_filter.mpr ⟨(tb_4 (List.mem_of_getElem? (i := 74) rfl)), rfl⟩
theorem tw_1073 : Cond.code yX9_forget cX9_forget 3 (some .int) ∈ ex_tb := List.mem_filter.mpr ⟨(tb_6 (List.mem_of_getElem? (i := 101) rfl)), rfl⟩
theorem tw_1074 : Cond.instanceMethod yX9_forget ∈ ex_tb := List.mem_filter.mpr ⟨(tb_6 (List.mem_of_getElem? (i := 99) rfl)), rfl⟩
theorem tw_1075 : Cond.selects RX9 yX9_forget yX9_forget ∈ ex_tb := List.mem_filter.mpr ⟨(tb_6 (List.mem_of_getElem? (i := 100) rfl)), rfl⟩
theorem tw_1076 : Cond.methodLink RL 143 yX9_forget ∈ ex_tb := List.mem_filter.mpr ⟨(tb_6 (List.mem_of_getElem? (i := 98) rfl)), rfl⟩
theorem tw_1077 : Cond.code yX8_may cX8_may 2 (some .int) ∈ ex_tb := List.mem_filter.mpr ⟨(tb_4 (List.mem_of_getElem? (i := 81) rfl)), rfl⟩
theorem tw_1078 : Cond.instanceMethod yX8_may ∈ ex_tb := List.mem_filter.mpr ⟨(tb_4 (List.mem_of_getElem? (i := 79) rfl)), rfl⟩
theorem tw_1079 : Cond.selects RX8 yX8_may yX8_may ∈ ex_tb := List.mem_filter.mpr ⟨(tb_4 (List.mem_of_getElem? (i := 80) rfl)), rfl⟩
theorem tw_1080 : Cond.methodLink RL 144 yX8_may ∈ ex_tb := List.mem_filter.mpr ⟨(tb_4 (List.mem_of_getElem? (i := 78) rfl)), rfl⟩
theorem tw_1081 : Cond.code yX9_may cX9_may 2 (some .int) ∈ ex_tb := List.mem_filter.mpr ⟨(tb_6 (List.mem_of_getElem? (i := 105) rfl)), rfl⟩
theorem tw_1082 : Cond.instanceMethod yX9_may ∈ ex_tb := List.mem_filter.mpr ⟨(tb_6 (List.mem_of_getElem? (i := 103) rfl)), rfl⟩
theorem tw_1083 : Cond.selects RX9 yX9_may yX9_may ∈ ex_tb := List.mem_filter.mpr ⟨(tb_6 (List.mem_of_getElem? (i := 104) rfl)), rfl⟩
theorem tw_1084 : Cond.methodLink RL 147 yX9_may ∈ ex_tb := List.mem_filter.mpr ⟨(tb_6 (List.mem_of_getElem? (i := 102) rfl)), rfl⟩
theorem tw_1085 : Cond.code yX8_ask cX8_ask 9 (some .int) ∈ ex_tb := List.mem_filter.mpr ⟨(tb_4 (List.mem_of_getElem? (i := 98) rfl)), rfl⟩
theorem tw_1086 : Cond.instanceMethod yX8_ask ∈ ex_tb := List.mem_filter.mpr ⟨(tb_4 (List.mem_of_getElem? (i := 96) rfl)), rfl⟩
theorem tw_1087 : Cond.selects RX8 yX8_ask yX8_ask ∈ ex_tb := List.mem_filter.mpr ⟨(tb_4 (List.mem_of_getElem? (i := 97) rfl)), rfl⟩
theorem tw_1088 : Cond.methodLink RL 148 yX8_ask ∈ ex_tb := List.mem_filter.mpr ⟨(tb_4 (List.mem_of_getElem? (i := 95) rfl)), rfl⟩
theorem tw_1089 : Cond.code yX9_ask cX9_ask 11 (some .int) ∈ ex_tb := List.mem_filter.mpr ⟨(tb_6 (List.mem_of_getElem? (i := 117) rfl)), rfl⟩
theorem tw_1090 : Cond.instanceMethod yX9_ask ∈ ex_tb := List.mem_filter.mpr ⟨(tb_6 (List.mem_of_getElem? (i := 115) rfl)), rfl⟩
theorem tw_1091 : Cond.selects RX9 yX9_ask yX9_ask ∈ ex_tb := List.mem_filter.mpr ⟨(tb_6 (List.mem_of_getElem? (i := 116) rfl)), rfl⟩
theorem tw_1092 : Cond.methodLink RL 151 yX9_ask ∈ ex_tb := List.mem_filter.mpr ⟨(tb_6 (List.mem_of_getElem? (i := 114) rfl)), rfl⟩
theorem tw_1093 : Cond.code yX8_drift cX8_drift 10 (some .int) ∈ ex_tb := List.mem_filter.mpr ⟨(tb_4 (List.mem_of_getElem? (i := 111) rfl)), rfl⟩
theorem tw_1094 : Cond.instanceMethod yX8_drift ∈ ex_tb := List.mem_filter.mpr ⟨(tb_4 (List.mem_of_getElem? (i := 109) rfl)), rfl⟩
theorem tw_1095 : Cond.selects RX8 yX8_drift yX8_drift ∈ ex_tb := List.mem_filter.mpr ⟨(tb_4 (List.mem_of_getElem? (i := 110) rfl)), rfl⟩
theorem tw_1096 : Cond.methodLink RL 152 yX8_drift ∈ ex_tb := List.mem_filter.mpr ⟨(tb_4 (List.mem_of_getElem? (i := 108) rfl)), rfl⟩
theorem tw_1097 : Cond.code yX9_drift cX9_drift 8 (some .int) ∈ ex_tb := List.mem_filter.mpr ⟨(tb_6 (List.mem_of_getElem? (i := 121) rfl)), rfl⟩
theorem tw_1098 : Cond.instanceMethod yX9_drift ∈ ex_tb := List.mem_filter.mpr ⟨(tb_6 (List.mem_of_getElem? (i := 119) rfl)), rfl⟩
theorem tw_1099 : Cond.selects RX9 yX9_drift yX9_drift ∈ ex_tb := List.mem_filter.mpr ⟨(tb_6 (List.mem_of_getElem? (i := 120) rfl)), rfl⟩
theorem tw_1100 : Cond.methodLink RL 155 yX9_drift ∈ ex_tb := List.mem_filter.mpr ⟨(tb_6 (List.mem_of_getElem? (i := 118) rfl)), rfl⟩
theorem tw_1101 : Cond.code yX8_keep cX8_keep 3 (some .int) ∈ ex_tb := List.mem_filter.mpr ⟨(tb_4 (List.mem_of_getElem? (i := 122) rfl)), rfl⟩
theorem tw_1102 : Cond.instanceMethod yX8_keep ∈ ex_tb := List.mem_filter.mpr ⟨(tb_4 (List.mem_of_getElem? (i := 120) rfl)), rfl⟩
theorem tw_1103 : Cond.selects RX8 yX8_keep yX8_keep ∈ ex_tb := List.mem_filter.mpr ⟨(tb_4 (List.mem_of_getElem? (i := 121) rfl)), rfl⟩
theorem tw_1104 : Cond.methodLink RL 156 yX8_keep ∈ ex_tb := List.mem_filter.mpr ⟨(tb_4 (List.mem_of_getElem? (i := 119) rfl)), rfl⟩
theorem tw_1105 : Cond.code yX9_keep cX9_keep 3 (some .int) ∈ ex_tb := List.mem_filter.mpr ⟨(tb_6 (List.mem_of_getElem? (i := 135) rfl)), rfl⟩
theorem tw_1106 : Cond.instanceMethod yX9_keep ∈ ex_tb := List.mem_filter.mpr ⟨(tb_6 (List.mem_of_getElem? (i := 133) rfl)), rfl⟩
theorem tw_1107 : Cond.selects RX9 yX9_keep yX9_keep ∈ ex_tb := List.mem_filter.mpr ⟨(tb_6 (List.mem_of_getElem? (i := 134) rfl)), rfl⟩
theorem tw_1108 : Cond.methodLink RL 159 yX9_keep ∈ ex_tb := List.mem_filter.mpr ⟨(tb_6 (List.mem_of_getElem? (i := 132) rfl)), rfl⟩
theorem tw_1109 : Cond.code yX8_back cX8_back 2 (some .int) ∈ ex_tb := List.mem_filter.mpr ⟨(tb_4 (List.mem_of_getElem? (i := 126) rfl)), rfl⟩
theorem tw_1110 : Cond.instanceMethod yX8_back ∈ ex_tb := List.mem_filter.mpr ⟨(tb_4 (List.mem_of_getElem? (i := 124) rfl)), rfl⟩
theorem tw_1111 : Cond.selects RX8 yX8_back yX8_back ∈ ex_tb := List.mem_filter.mpr ⟨(tb_4 (List.mem_of_getElem? (i := 125) rfl)), rfl⟩
theorem tw_1112 : Cond.methodLink RL 160 yX8_back ∈ ex_tb := List.mem_filter.mpr ⟨(tb_4 (List.mem_of_getElem? (i := 123) rfl)), rfl⟩
theorem tw_1113 : Cond.code yX9_back cX9_back 2 (some .int) ∈ ex_tb := List.mem_filter.mpr ⟨(tb_6 (List.mem_of_getElem? (i := 139) rfl)), rfl⟩
theorem tw_1114 : Cond.instanceMethod yX9_back ∈ ex_tb := List.mem_filter.mpr ⟨(tb_6 (List.mem_of_getElem? (i := 137) rfl)), rfl⟩
theorem tw_1115 : Cond.selects RX9 yX9_back yX9_back ∈ ex_tb := List.mem_filter.mpr ⟨(tb_6 (List.mem_of_getElem? (i := 138) rfl)), rfl⟩
theorem tw_1116 : Cond.methodLink RL 163 yX9_back ∈ ex_tb := List.mem_filter.mpr ⟨(tb_6 (List.mem_of_getElem? (i := 136) rfl)), rfl⟩
theorem tw_1117 : Cond.code yX8_sheet cX8_sheet 4 (some .int) ∈ ex_tb := List.mem_filter.mpr ⟨(tb_4 (List.mem_of_getElem? (i := 130) rfl)), rfl⟩
theorem tw_1118 : Cond.instanceMethod yX8_sheet ∈ ex_tb := List.mem_filter.mpr ⟨(tb_4 (List.mem_of_getElem? (i := 128) rfl)), rfl⟩
theorem tw_1119 : Cond.selects RX8 yX8_sheet yX8_sheet ∈ ex_tb := List.mem_filter.mpr ⟨(tb_4 (List.mem_of_getElem? (i := 129) rfl)), rfl⟩
theorem tw_1120 : Cond.methodLink RL 164 yX8_sheet ∈ ex_tb := List.mem_filter.mpr ⟨(tb_4 (List.mem_of_getElem? (i := 127) rfl)), rfl⟩
theorem tw_1121 : Cond.code yX9_sheet cX9_sheet 5 (some .int) ∈ ex_tb := List.mem_filter.mpr ⟨(tb_6 (List.mem_of_getElem? (i := 143) rfl)), rfl⟩
theorem tw_1122 : Cond.instanceMethod yX9_sheet ∈ ex_tb := List.mem_filter.mpr ⟨(tb_6 (List.mem_of_getElem? (i := 141) rfl)), rfl⟩
theorem tw_1123 : Cond.selects RX9 yX9_sheet yX9_sheet ∈ ex_tb := List.mem_filter.mpr ⟨(tb_6 (List.mem_of_getElem? (i := 142) rfl)), rfl⟩
theorem tw_1124 : Cond.methodLink RL 167 yX9_sheet ∈ ex_tb := List.mem_filter.mpr ⟨(tb_6 (List.mem_of_getElem? (i := 140) rfl)), rfl⟩
theorem tw_1125 : Cond.code yX8_lay cX8_lay 6 (some .int) ∈ ex_tb := List.mem_filter.mpr ⟨(tb_4 (List.mem_of_getElem? (i := 145) rfl)), rfl⟩
theorem tw_1126 : Cond.instanceMethod yX8_lay ∈ ex_tb := List.mem_filter.mpr ⟨(tb_4 (List.mem_of_getElem? (i := 143) rfl)), rfl⟩
theorem tw_1127 : Cond.selects RX8 yX8_lay yX8_lay ∈ ex_tb := List.mem_filter.mpr ⟨(tb_4 (List.mem_of_getElem? (i := 144) rfl)), rfl⟩
theorem tw_1128 : Cond.methodLink RL 168 yX8_lay ∈ ex_tb := List.mem_filter.mpr ⟨(tb_4 (List.mem_of_getElem? (i := 142) rfl)), rfl⟩
theorem tw_1129 : Cond.code yX9_lay cX9_lay 4 (some .int) ∈ ex_tb := List.mem_filter.mpr ⟨(tb_6 (List.mem_of_getElem? (i := 147) rfl)), rfl⟩
theorem tw_1130 : Cond.instanceMethod yX9_lay ∈ ex_tb := List.mem_filter.mpr ⟨(tb_6 (List.mem_of_getElem? (i := 145) rfl)), rfl⟩
theorem tw_1131 : Cond.selects RX9 yX9_lay yX9_lay ∈ ex_tb := List.mem_filter.mpr ⟨(tb_6 (List.mem_of_getElem? (i := 146) rfl)), rfl⟩
theorem tw_1132 : Cond.methodLink RL 171 yX9_lay ∈ ex_tb := List.mem_filter.mpr ⟨(tb_6 (List.mem_of_getElem? (i := 144) rfl)), rfl⟩
theorem tw_1133 : Cond.code yX8_read cX8_read 11 (some .int) ∈ ex_tb := List.mem_filter.mpr ⟨(tb_4 (List.mem_of_getElem? (i := 157) rfl)), rfl⟩
theorem tw_1134 : Cond.instanceMethod yX8_read ∈ ex_tb := List.mem_filter.mpr ⟨(tb_4 (List.mem_of_getElem? (i := 155) rfl)), rfl⟩
theorem tw_1135 : Cond.selects RX8 yX8_read yX8_read ∈ ex_tb := List.mem_filter.mpr ⟨(tb_4 (List.mem_of_getElem? (i := 156) rfl)), rfl⟩
theorem tw_1136 : Cond.methodLink RL 172 yX8_read ∈ ex_tb := List.mem_filter.mpr ⟨(tb_4 (List.mem_of_getElem? (i := 154) rfl)), rfl⟩
theorem tw_1137 : Cond.code yX9_read cX9_read 9 (some .int) ∈ ex_tb := List.mem_filter.mpr ⟨(tb_6 (List.mem_of_getElem? (i := 151) rfl)), rfl⟩
theorem tw_1138 : Cond.instanceMethod yX9_read ∈ ex_tb := List.mem_filter.mpr ⟨(tb_6 (List.mem_of_getElem? (i := 149) rfl)), rfl⟩
theorem tw_1139 : Cond.selects RX9 yX9_read yX9_read ∈ ex_tb := List.mem_filter.mpr ⟨(tb_6 (List.mem_of_getElem? (i := 150) rfl)), rfl⟩
theorem tw_1140 : Cond.methodLink RL 175 yX9_read ∈ ex_tb := List.mem_filter.mpr ⟨(tb_6 (List.mem_of_getElem? (i := 148) rfl)), rfl⟩
theorem tw_1141 : Cond.code yX8_torn cX8_torn 1 (some .int) ∈ ex_tb := List.mem_filter.mpr ⟨(tb_4 (List.mem_of_getElem? (i := 170) rfl)), rfl⟩
theorem tw_1142 : Cond.instanceMethod yX8_torn ∈ ex_tb := List.mem_filter.mpr ⟨(tb_4 (List.mem_of_getElem? (i := 168) rfl)), rfl⟩
theorem tw_1143 : Cond.selects RX8 yX8_torn yX8_torn ∈ ex_tb := List.mem_filter.mpr ⟨(tb_4 (List.mem_of_getElem? (i := 169) rfl)), rfl⟩
theorem tw_1144 : Cond.methodLink RL 176 yX8_torn ∈ ex_tb := List.mem_filter.mpr ⟨(tb_4 (List.mem_of_getElem? (i := 167) rfl)), rfl⟩
theorem tw_1145 : Cond.code yX9_torn cX9_torn 1 (some .int) ∈ ex_tb := List.mem_filter.mpr ⟨(tb_6 (List.mem_of_getElem? (i := 156) rfl)), rfl⟩
theorem tw_1146 : Cond.instanceMethod yX9_torn ∈ ex_tb := List.mem_filter.mpr ⟨(tb_6 (List.mem_of_getElem? (i := 154) rfl)), rfl⟩
theorem tw_1147 : Cond.selects RX9 yX9_torn yX9_torn ∈ ex_tb := List.mem_filter.mpr ⟨(tb_6 (List.mem_of_getElem? (i := 155) rfl)), rfl⟩
theorem tw_1148 : Cond.methodLink RL 179 yX9_torn ∈ ex_tb := List.mem_filter.mpr ⟨(tb_6 (List.mem_of_getElem? (i := 153) rfl)), rfl⟩
theorem tw_1149 : Cond.code yX8_count cX8_count 2 (some .int) ∈ ex_tb := List.mem_filter.mpr ⟨(tb_4 (List.mem_of_getElem? (i := 174) rfl)), rfl⟩
theorem tw_1150 : Cond.instanceMethod yX8_count ∈ ex_tb := List.mem_filter.mpr ⟨(tb_4 (List.mem_of_getElem? (i := 172) rfl)), rfl⟩
theorem tw_1151 : Cond.selects RX8 yX8_count yX8_count ∈ ex_tb := List.mem_filter.mpr ⟨(tb_4 (List.mem_of_getElem? (i := 173) rfl)), rfl⟩
theorem tw_1152 : Cond.methodLink RL 180 yX8_count ∈ ex_tb := List.mem_filter.mpr ⟨(tb_4 (List.mem_of_getElem? (i := 171) rfl)), rfl⟩
theorem tw_1153 : Cond.code yX9_count cX9_count 2 (some .int) ∈ ex_tb := List.mem_filter.mpr ⟨(tb_6 (List.mem_of_getElem? (i := 160) rfl)), rfl⟩
theorem tw_1154 : Cond.instanceMethod yX9_count ∈ ex_tb := List.mem_filter.mpr ⟨(tb_6 (List.mem_of_getElem? (i := 158) rfl)), rfl⟩
theorem tw_1155 : Cond.selects RX9 yX9_count yX9_count ∈ ex_tb := List.mem_filter.mpr ⟨(tb_6 (List.mem_of_getElem? (i := 159) rfl)), rfl⟩
theorem tw_1156 : Cond.methodLink RL 183 yX9_count ∈ ex_tb := List.mem_filter.mpr ⟨(tb_6 (List.mem_of_getElem? (i := 157) rfl)), rfl⟩
theorem mwJ0_coder_7d493 : MW yJ0_coder_7d493 cJ0_coder_7d493 1 (some .byte) 0 := ⟨tw_7, tw_8, by decide +kernel, by decide +kernel, by decide +kernel⟩
theorem mvJ0_coder_7d493 : Cond.instanceMethod yJ0_coder_7d493 ∈ ex_tb ∧ Cond.selects yJ0_coder_7d493.cls yJ0_coder_7d493 yJ0_coder_7d493 ∈ ex_tb := ⟨tw_9, tw_10⟩
theorem mwJ3_checkIndex_8e157 : MW yJ3_checkIndex_8e157 cJ3_checkIndex_8e157 3 (some .int) 3 := ⟨tw_13, tw_14, by decide +kernel, by decide +kernel, by decide +kernel⟩
theorem mvJ3_checkIndex_8e157 : Cond.static yJ3_checkIndex_8e157 ∈ ex_tb := tw_15
theorem mwJ0_checkIndex_df160 : MW yJ0_checkIndex_df160 cJ0_checkIndex_df160 2 none 2 := ⟨tw_17, tw_8, by decide +kernel, by decide +kernel, by decide +kernel⟩
theorem mvJ0_checkIndex_df160 : Cond.static yJ0_checkIndex_df160 ∈ ex_tb := tw_18
theorem mwJ0_isLatin1_aae02 : MW yJ0_isLatin1_aae02 cJ0_isLatin1_aae02 1 (some .boolean) 0 := ⟨tw_20, tw_8, by decide +kernel, by decide +kernel, by decide +kernel⟩
theorem mvJ0_isLatin1_aae02 : Cond.instanceMethod yJ0_isLatin1_aae02 ∈ ex_tb ∧ Cond.selects yJ0_isLatin1_aae02.cls yJ0_isLatin1_aae02 yJ0_isLatin1_aae02 ∈ ex_tb := ⟨tw_21, tw_22⟩
theorem mwJ1_charAt_3b067 : MW yJ1_charAt_3b067 cJ1_charAt_3b067 2 (some .char) 2 := ⟨tw_24, tw_25, by decide +kernel, by decide +kernel, by decide +kernel⟩
theorem mvJ1_charAt_3b067 : Cond.static yJ1_charAt_3b067 ∈ ex_tb := tw_26
theorem fpX6_15 : FP RX6 15 5 0 .int true := ⟨_, _, _, tyX6, rfl, inTX6, by decide, tw_35, tyX6_ok, nmX6, rfl, by decide +kernel, fun _ => rfl⟩
theorem fpX6_21 : FP RX6 21 5 1 .int true := ⟨_, _, _, tyX6, rfl, inTX6, by decide, tw_36, tyX6_ok, nmX6, rfl, by decide +kernel, fun _ => rfl⟩
theorem flX6_15 : FL RX6 15 5 0 := ⟨_, _, _, rfl, inTX6, by decide, tw_35⟩
theorem flX6_21 : FL RX6 21 5 1 := ⟨_, _, _, rfl, inTX6, by decide, tw_36⟩
theorem fpX6_24 : FP RX6 24 5 2 (.array .int) true := ⟨_, _, _, tyX6, rfl, inTX6, by decide, tw_38, tyX6_ok, nmX6, rfl, by decide +kernel, fun _ => rfl⟩
theorem flX6_28 : FL RX6 28 5 3 := ⟨_, _, _, rfl, inTX6, by decide, tw_39⟩
theorem flX6_24 : FL RX6 24 5 2 := ⟨_, _, _, rfl, inTX6, by decide, tw_38⟩
theorem mwX6_has : MW yX6_has cX6_has 2 (some .boolean) 1 := ⟨tw_40, tw_41, by decide +kernel, by decide +kernel, by decide +kernel⟩
theorem mvX6_has : Cond.instanceMethod yX6_has ∈ ex_tb ∧ Cond.selects yX6_has.cls yX6_has yX6_has ∈ ex_tb := ⟨tw_42, tw_43⟩
theorem fpX6_28 : FP RX6 28 5 3 .int false := ⟨_, _, _, tyX6, rfl, inTX6, by decide, tw_39, tyX6_ok, nmX6, rfl, by decide +kernel, fun h => by cases h⟩
theorem mwX6_put : MW yX6_put cX6_put 4 none 3 := ⟨tw_45, tw_41, by decide +kernel, by decide +kernel, by decide +kernel⟩
theorem mvX6_put : Cond.instanceMethod yX6_put ∈ ex_tb ∧ Cond.selects yX6_put.cls yX6_put yX6_put ∈ ex_tb := ⟨tw_46, tw_47⟩
theorem mwX2_greatestCommon : MW yX2_greatestCommon cX2_greatestCommon 11 (some .long) 2 := ⟨tw_58, tw_59, by decide +kernel, by decide +kernel, by decide +kernel⟩
theorem mvX2_greatestCommon : Cond.static yX2_greatestCommon ∈ ex_tb := tw_60
theorem fpX3_9 : FP RX3 9 2 0 (.array .int) true := ⟨_, _, _, tyX3, rfl, inTX3, by decide, tw_64, tyX3_ok, nmX3, rfl, by decide +kernel, fun _ => rfl⟩
theorem fpX3_15 : FP RX3 15 2 2 .int false := ⟨_, _, _, tyX3, rfl, inTX3, by decide, tw_65, tyX3_ok, nmX3, rfl, by decide +kernel, fun h => by cases h⟩
theorem fpX3_19 : FP RX3 19 2 1 .int false := ⟨_, _, _, tyX3, rfl, inTX3, by decide, tw_66, tyX3_ok, nmX3, rfl, by decide +kernel, fun h => by cases h⟩
theorem flX3_9 : FL RX3 9 2 0 := ⟨_, _, _, rfl, inTX3, by decide, tw_64⟩
theorem flX3_15 : FL RX3 15 2 2 := ⟨_, _, _, rfl, inTX3, by decide, tw_65⟩
theorem flX3_19 : FL RX3 19 2 1 := ⟨_, _, _, rfl, inTX3, by decide, tw_66⟩
theorem mwX3_faultAt : MW yX3_faultAt cX3_faultAt 2 (some .int) 1 := ⟨tw_68, tw_69, by decide +kernel, by decide +kernel, by decide +kernel⟩
theorem mvX3_faultAt : Cond.instanceMethod yX3_faultAt ∈ ex_tb ∧ Cond.selects yX3_faultAt.cls yX3_faultAt yX3_faultAt ∈ ex_tb := ⟨tw_70, tw_71⟩
theorem flX1_14 : FL RX1 14 1 0 := ⟨_, _, _, rfl, inTX1, by decide, tw_73⟩
theorem fpX1_39 : FP RX1 39 5 3 .int false := ⟨_, _, _, tyX6, rfl, inTX6, by decide, tw_74, tyX6_ok, nmX6, rfl, by decide +kernel, fun h => by cases h⟩
theorem flX1_20 : FL RX1 20 1 1 := ⟨_, _, _, rfl, inTX1, by decide, tw_75⟩
theorem flX1_23 : FL RX1 23 1 2 := ⟨_, _, _, rfl, inTX1, by decide, tw_76⟩
theorem flX1_26 : FL RX1 26 1 3 := ⟨_, _, _, rfl, inTX1, by decide, tw_77⟩
theorem flX1_29 : FL RX1 29 1 4 := ⟨_, _, _, rfl, inTX1, by decide, tw_78⟩
theorem flX1_33 : FL RX1 33 1 5 := ⟨_, _, _, rfl, inTX1, by decide, tw_79⟩
theorem mwX6_init : MW yX6_init cX6_init 3 none 2 := ⟨tw_83, tw_41, by decide +kernel, by decide +kernel, by decide +kernel⟩
theorem mvX6_init : Cond.instanceMethod yX6_init ∈ ex_tb := tw_84
theorem fpX1_14 : FP RX1 14 1 0 (.object "EyeRota$Rows") true := ⟨_, _, _, tyX1, rfl, inTX1, by decide, tw_73, tyX1_ok, nmX1, rfl, by decide +kernel, fun _ => rfl⟩
theorem fpX1_20 : FP RX1 20 1 1 (.object "EyeRota$Rows") true := ⟨_, _, _, tyX1, rfl, inTX1, by decide, tw_75, tyX1_ok, nmX1, rfl, by decide +kernel, fun _ => rfl⟩
theorem fpX1_23 : FP RX1 23 1 2 (.object "EyeRota$Rows") true := ⟨_, _, _, tyX1, rfl, inTX1, by decide, tw_76, tyX1_ok, nmX1, rfl, by decide +kernel, fun _ => rfl⟩
theorem fpX1_26 : FP RX1 26 1 3 (.object "EyeRota$Rows") true := ⟨_, _, _, tyX1, rfl, inTX1, by decide, tw_77, tyX1_ok, nmX1, rfl, by decide +kernel, fun _ => rfl⟩
theorem fpX1_29 : FP RX1 29 1 4 (.array .int) true := ⟨_, _, _, tyX1, rfl, inTX1, by decide, tw_78, tyX1_ok, nmX1, rfl, by decide +kernel, fun _ => rfl⟩
theorem fpX1_33 : FP RX1 33 1 5 (.array .int) true := ⟨_, _, _, tyX1, rfl, inTX1, by decide, tw_79, tyX1_ok, nmX1, rfl, by decide +kernel, fun _ => rfl⟩
theorem mwX1_makeEmpty : MW yX1_makeEmpty cX1_makeEmpty 2 none 0 := ⟨tw_86, tw_87, by decide +kernel, by decide +kernel, by decide +kernel⟩
theorem mvX1_makeEmpty : Cond.instanceMethod yX1_makeEmpty ∈ ex_tb ∧ Cond.selects yX1_makeEmpty.cls yX1_makeEmpty yX1_makeEmpty ∈ ex_tb := ⟨tw_88, tw_89⟩
theorem mwX6_copyFrom : MW yX6_copyFrom cX6_copyFrom 2 none 1 := ⟨tw_91, tw_41, by decide +kernel, by decide +kernel, by decide +kernel⟩
theorem mvX6_copyFrom : Cond.instanceMethod yX6_copyFrom ∈ ex_tb ∧ Cond.selects yX6_copyFrom.cls yX6_copyFrom yX6_copyFrom ∈ ex_tb := ⟨tw_92, tw_93⟩
theorem mwX6_at : MW yX6_at cX6_at 4 (some .int) 2 := ⟨tw_97, tw_41, by decide +kernel, by decide +kernel, by decide +kernel⟩
theorem mvX6_at : Cond.instanceMethod yX6_at ∈ ex_tb ∧ Cond.selects yX6_at.cls yX6_at yX6_at ∈ ex_tb := ⟨tw_98, tw_99⟩
theorem mwX1_kindOf : MW yX1_kindOf cX1_kindOf 2 (some .int) 1 := ⟨tw_101, tw_87, by decide +kernel, by decide +kernel, by decide +kernel⟩
theorem mvX1_kindOf : Cond.instanceMethod yX1_kindOf ∈ ex_tb ∧ Cond.selects yX1_kindOf.cls yX1_kindOf yX1_kindOf ∈ ex_tb := ⟨tw_102, tw_103⟩
theorem flX1_39 : FL RX1 39 5 3 := ⟨_, _, _, rfl, inTX6, by decide, tw_74⟩
theorem mwX1_worthOf : MW yX1_worthOf cX1_worthOf 2 (some .int) 1 := ⟨tw_106, tw_87, by decide +kernel, by decide +kernel, by decide +kernel⟩
theorem mvX1_worthOf : Cond.instanceMethod yX1_worthOf ∈ ex_tb ∧ Cond.selects yX1_worthOf.cls yX1_worthOf yX1_worthOf ∈ ex_tb := ⟨tw_107, tw_108⟩
theorem mwX1_isOne : MW yX1_isOne cX1_isOne 2 (some .boolean) 1 := ⟨tw_110, tw_87, by decide +kernel, by decide +kernel, by decide +kernel⟩
theorem mvX1_isOne : Cond.instanceMethod yX1_isOne ∈ ex_tb ∧ Cond.selects yX1_isOne.cls yX1_isOne yX1_isOne ∈ ex_tb := ⟨tw_111, tw_112⟩
theorem fpX7_9 : FP RX7 9 6 0 (.array .int) true := ⟨_, _, _, tyX7, rfl, inTX7, by decide, tw_115, tyX7_ok, nmX7, rfl, by decide +kernel, fun _ => rfl⟩
theorem fpX7_15 : FP RX7 15 6 1 (.array .int) true := ⟨_, _, _, tyX7, rfl, inTX7, by decide, tw_116, tyX7_ok, nmX7, rfl, by decide +kernel, fun _ => rfl⟩
theorem fpX7_18 : FP RX7 18 6 2 (.array .int) true := ⟨_, _, _, tyX7, rfl, inTX7, by decide, tw_117, tyX7_ok, nmX7, rfl, by decide +kernel, fun _ => rfl⟩
theorem mwX7_hasEyes : MW yX7_hasEyes cX7_hasEyes 2 (some .boolean) 2 := ⟨tw_123, tw_124, by decide +kernel, by decide +kernel, by decide +kernel⟩
theorem mvX7_hasEyes : Cond.static yX7_hasEyes ∈ ex_tb := tw_125
theorem mwX7_isNear : MW yX7_isNear cX7_isNear 2 (some .boolean) 2 := ⟨tw_127, tw_124, by decide +kernel, by decide +kernel, by decide +kernel⟩
theorem mvX7_isNear : Cond.static yX7_isNear ∈ ex_tb := tw_128
theorem flX7_18 : FL RX7 18 6 2 := ⟨_, _, _, rfl, inTX7, by decide, tw_117⟩
theorem mwX7_seerIn : MW yX7_seerIn cX7_seerIn 5 (some .int) 3 := ⟨tw_130, tw_124, by decide +kernel, by decide +kernel, by decide +kernel⟩
theorem mvX7_seerIn : Cond.static yX7_seerIn ∈ ex_tb := tw_131
theorem flX7_9 : FL RX7 9 6 0 := ⟨_, _, _, rfl, inTX7, by decide, tw_115⟩
theorem flX7_15 : FL RX7 15 6 1 := ⟨_, _, _, rfl, inTX7, by decide, tw_116⟩
theorem flX7_47 : FL RX7 47 1 2 := ⟨_, _, _, rfl, inTX1, by decide, tw_133⟩
theorem mwX7_hoursOf : MW yX7_hoursOf cX7_hoursOf 2 (some .int) 1 := ⟨tw_135, tw_124, by decide +kernel, by decide +kernel, by decide +kernel⟩
theorem mvX7_hoursOf : Cond.instanceMethod yX7_hoursOf ∈ ex_tb ∧ Cond.selects yX7_hoursOf.cls yX7_hoursOf yX7_hoursOf ∈ ex_tb := ⟨tw_136, tw_137⟩
theorem flX7_60 : FL RX7 60 5 3 := ⟨_, _, _, rfl, inTX6, by decide, tw_139⟩
theorem mwX7_isDone : MW yX7_isDone cX7_isDone 6 (some .boolean) 2 := ⟨tw_140, tw_124, by decide +kernel, by decide +kernel, by decide +kernel⟩
theorem mvX7_isDone : Cond.instanceMethod yX7_isDone ∈ ex_tb ∧ Cond.selects yX7_isDone.cls yX7_isDone yX7_isDone ∈ ex_tb := ⟨tw_141, tw_142⟩
theorem fpX0_11 : FP RX0 11 0 0 (.array .int) true := ⟨_, _, _, tyX0, rfl, inTX0, by decide, tw_146, tyX0_ok, nmX0, rfl, by decide +kernel, fun _ => rfl⟩
theorem fpX0_15 : FP RX0 15 0 1 (.array .int) true := ⟨_, _, _, tyX0, rfl, inTX0, by decide, tw_147, tyX0_ok, nmX0, rfl, by decide +kernel, fun _ => rfl⟩
theorem mwX1_keepsOf : MW yX1_keepsOf cX1_keepsOf 3 (some .int) 1 := ⟨tw_148, tw_87, by decide +kernel, by decide +kernel, by decide +kernel⟩
theorem mvX1_keepsOf : Cond.instanceMethod yX1_keepsOf ∈ ex_tb ∧ Cond.selects yX1_keepsOf.cls yX1_keepsOf yX1_keepsOf ∈ ex_tb := ⟨tw_149, tw_150⟩
theorem mwX0_placeOf : MW yX0_placeOf cX0_placeOf 3 (some .int) 3 := ⟨tw_152, tw_153, by decide +kernel, by decide +kernel, by decide +kernel⟩
theorem mvX0_placeOf : Cond.static yX0_placeOf ∈ ex_tb := tw_154
theorem flX0_11 : FL RX0 11 0 0 := ⟨_, _, _, rfl, inTX0, by decide, tw_146⟩
theorem flX0_15 : FL RX0 15 0 1 := ⟨_, _, _, rfl, inTX0, by decide, tw_147⟩
theorem mwX1_postOf : MW yX1_postOf cX1_postOf 2 (some .int) 1 := ⟨tw_158, tw_87, by decide +kernel, by decide +kernel, by decide +kernel⟩
theorem mvX1_postOf : Cond.instanceMethod yX1_postOf ∈ ex_tb ∧ Cond.selects yX1_postOf.cls yX1_postOf yX1_postOf ∈ ex_tb := ⟨tw_159, tw_160⟩
theorem mwX1_valueBehind : MW yX1_valueBehind cX1_valueBehind 7 (some .int) 2 := ⟨tw_162, tw_87, by decide +kernel, by decide +kernel, by decide +kernel⟩
theorem mvX1_valueBehind : Cond.instanceMethod yX1_valueBehind ∈ ex_tb ∧ Cond.selects yX1_valueBehind.cls yX1_valueBehind yX1_valueBehind ∈ ex_tb := ⟨tw_163, tw_164⟩
theorem mwX0_believe : MW yX0_believe cX0_believe 4 none 3 := ⟨tw_166, tw_153, by decide +kernel, by decide +kernel, by decide +kernel⟩
theorem mvX0_believe : Cond.instanceMethod yX0_believe ∈ ex_tb ∧ Cond.selects yX0_believe.cls yX0_believe yX0_believe ∈ ex_tb := ⟨tw_167, tw_168⟩
theorem flX0_60 : FL RX0 60 1 3 := ⟨_, _, _, rfl, inTX1, by decide, tw_170⟩
theorem flX0_64 : FL RX0 64 5 3 := ⟨_, _, _, rfl, inTX6, by decide, tw_171⟩
theorem mwX0_valueOf : MW yX0_valueOf cX0_valueOf 5 (some .int) 3 := ⟨tw_173, tw_153, by decide +kernel, by decide +kernel, by decide +kernel⟩
theorem mvX0_valueOf : Cond.instanceMethod yX0_valueOf ∈ ex_tb ∧ Cond.selects yX0_valueOf.cls yX0_valueOf yX0_valueOf ∈ ex_tb := ⟨tw_174, tw_175⟩
theorem mwX0_ageOf : MW yX0_ageOf cX0_ageOf 5 (some .int) 3 := ⟨tw_177, tw_153, by decide +kernel, by decide +kernel, by decide +kernel⟩
theorem mvX0_ageOf : Cond.instanceMethod yX0_ageOf ∈ ex_tb ∧ Cond.selects yX0_ageOf.cls yX0_ageOf yX0_ageOf ∈ ex_tb := ⟨tw_178, tw_179⟩
theorem mwX0_growOlder : MW yX0_growOlder cX0_growOlder 9 none 2 := ⟨tw_181, tw_153, by decide +kernel, by decide +kernel, by decide +kernel⟩
theorem mvX0_growOlder : Cond.instanceMethod yX0_growOlder ∈ ex_tb ∧ Cond.selects yX0_growOlder.cls yX0_growOlder yX0_growOlder ∈ ex_tb := ⟨tw_182, tw_183⟩
theorem mwX0_lookOut : MW yX0_lookOut cX0_lookOut 6 none 3 := ⟨tw_185, tw_153, by decide +kernel, by decide +kernel, by decide +kernel⟩
theorem mvX0_lookOut : Cond.instanceMethod yX0_lookOut ∈ ex_tb ∧ Cond.selects yX0_lookOut.cls yX0_lookOut yX0_lookOut ∈ ex_tb := ⟨tw_186, tw_187⟩
theorem mwX0_passOn : MW yX0_passOn cX0_passOn 8 none 2 := ⟨tw_189, tw_153, by decide +kernel, by decide +kernel, by decide +kernel⟩
theorem mvX0_passOn : Cond.instanceMethod yX0_passOn ∈ ex_tb ∧ Cond.selects yX0_passOn.cls yX0_passOn yX0_passOn ∈ ex_tb := ⟨tw_190, tw_191⟩
theorem flX0_79 : FL RX0 79 1 0 := ⟨_, _, _, rfl, inTX1, by decide, tw_193⟩
theorem fpX4_11 : FP RX4 11 3 0 (.array .int) true := ⟨_, _, _, tyX4, rfl, inTX4, by decide, tw_196, tyX4_ok, nmX4, rfl, by decide +kernel, fun _ => rfl⟩
theorem fpX4_15 : FP RX4 15 3 1 (.array .int) true := ⟨_, _, _, tyX4, rfl, inTX4, by decide, tw_197, tyX4_ok, nmX4, rfl, by decide +kernel, fun _ => rfl⟩
theorem fpX4_18 : FP RX4 18 3 2 (.array .int) true := ⟨_, _, _, tyX4, rfl, inTX4, by decide, tw_198, tyX4_ok, nmX4, rfl, by decide +kernel, fun _ => rfl⟩
theorem fpX4_26 : FP RX4 26 3 3 (.object "EyeRota$Rows") true := ⟨_, _, _, tyX4, rfl, inTX4, by decide, tw_201, tyX4_ok, nmX4, rfl, by decide +kernel, fun _ => rfl⟩
theorem fpX4_30 : FP RX4 30 3 4 (.object "EyeRota$Rows") true := ⟨_, _, _, tyX4, rfl, inTX4, by decide, tw_202, tyX4_ok, nmX4, rfl, by decide +kernel, fun _ => rfl⟩
theorem flX4_46 : FL RX4 46 1 2 := ⟨_, _, _, rfl, inTX1, by decide, tw_203⟩
theorem flX4_64 : FL RX4 64 5 3 := ⟨_, _, _, rfl, inTX6, by decide, tw_204⟩
theorem flX4_37 : FL RX4 37 1 0 := ⟨_, _, _, rfl, inTX1, by decide, tw_206⟩
theorem flX4_11 : FL RX4 11 3 0 := ⟨_, _, _, rfl, inTX4, by decide, tw_196⟩
theorem mwX4_placeOf : MW yX4_placeOf cX4_placeOf 3 (some .int) 3 := ⟨tw_207, tw_208, by decide +kernel, by decide +kernel, by decide +kernel⟩
theorem mvX4_placeOf : Cond.static yX4_placeOf ∈ ex_tb := tw_209
theorem flX4_15 : FL RX4 15 3 1 := ⟨_, _, _, rfl, inTX4, by decide, tw_197⟩
theorem mwX4_worksIn : MW yX4_worksIn cX4_worksIn 8 (some .int) 3 := ⟨tw_215, tw_208, by decide +kernel, by decide +kernel, by decide +kernel⟩
theorem mvX4_worksIn : Cond.instanceMethod yX4_worksIn ∈ ex_tb ∧ Cond.selects yX4_worksIn.cls yX4_worksIn yX4_worksIn ∈ ex_tb := ⟨tw_216, tw_217⟩
theorem mwX4_worksBegunAhead : MW yX4_worksBegunAhead cX4_worksBegunAhead 4 (some .int) 2 := ⟨tw_219, tw_208, by decide +kernel, by decide +kernel, by decide +kernel⟩
theorem mvX4_worksBegunAhead : Cond.static yX4_worksBegunAhead ∈ ex_tb := tw_220
theorem mwX4_findGains : MW yX4_findGains cX4_findGains 8 none 3 := ⟨tw_222, tw_208, by decide +kernel, by decide +kernel, by decide +kernel⟩
theorem mvX4_findGains : Cond.instanceMethod yX4_findGains ∈ ex_tb ∧ Cond.selects yX4_findGains.cls yX4_findGains yX4_findGains ∈ ex_tb := ⟨tw_223, tw_224⟩
theorem mwX4_mostFrom : MW yX4_mostFrom cX4_mostFrom 8 (some .int) 3 := ⟨tw_226, tw_208, by decide +kernel, by decide +kernel, by decide +kernel⟩
theorem mvX4_mostFrom : Cond.instanceMethod yX4_mostFrom ∈ ex_tb ∧ Cond.selects yX4_mostFrom.cls yX4_mostFrom yX4_mostFrom ∈ ex_tb := ⟨tw_227, tw_228⟩
theorem fpX4_107 : FP RX4 107 3 6 .int false := ⟨_, _, _, tyX4, rfl, inTX4, by decide, tw_230, tyX4_ok, nmX4, rfl, by decide +kernel, fun h => by cases h⟩
theorem flX4_107 : FL RX4 107 3 6 := ⟨_, _, _, rfl, inTX4, by decide, tw_230⟩
theorem flX4_18 : FL RX4 18 3 2 := ⟨_, _, _, rfl, inTX4, by decide, tw_198⟩
theorem flX4_33 : FL RX4 33 3 5 := ⟨_, _, _, rfl, inTX4, by decide, tw_231⟩
theorem flX4_26 : FL RX4 26 3 3 := ⟨_, _, _, rfl, inTX4, by decide, tw_201⟩
theorem mwX6_isLike : MW yX6_isLike cX6_isLike 3 (some .boolean) 1 := ⟨tw_232, tw_41, by decide +kernel, by decide +kernel, by decide +kernel⟩
theorem mvX6_isLike : Cond.instanceMethod yX6_isLike ∈ ex_tb ∧ Cond.selects yX6_isLike.cls yX6_isLike yX6_isLike ∈ ex_tb := ⟨tw_233, tw_234⟩
theorem flX4_30 : FL RX4 30 3 4 := ⟨_, _, _, rfl, inTX4, by decide, tw_202⟩
theorem fpX4_33 : FP RX4 33 3 5 .boolean false := ⟨_, _, _, tyX4, rfl, inTX4, by decide, tw_231, tyX4_ok, nmX4, rfl, by decide +kernel, fun h => by cases h⟩
theorem mwX4_fillEnd : MW yX4_fillEnd cX4_fillEnd 6 none 1 := ⟨tw_237, tw_208, by decide +kernel, by decide +kernel, by decide +kernel⟩
theorem mvX4_fillEnd : Cond.instanceMethod yX4_fillEnd ∈ ex_tb ∧ Cond.selects yX4_fillEnd.cls yX4_fillEnd yX4_fillEnd ∈ ex_tb := ⟨tw_238, tw_239⟩
theorem mwX4_fillHour : MW yX4_fillHour cX4_fillHour 6 none 2 := ⟨tw_241, tw_208, by decide +kernel, by decide +kernel, by decide +kernel⟩
theorem mvX4_fillHour : Cond.instanceMethod yX4_fillHour ∈ ex_tb ∧ Cond.selects yX4_fillHour.cls yX4_fillHour yX4_fillHour ∈ ex_tb := ⟨tw_242, tw_243⟩
theorem mwX4_takeFirst : MW yX4_takeFirst cX4_takeFirst 7 none 1 := ⟨tw_245, tw_208, by decide +kernel, by decide +kernel, by decide +kernel⟩
theorem mvX4_takeFirst : Cond.instanceMethod yX4_takeFirst ∈ ex_tb ∧ Cond.selects yX4_takeFirst.cls yX4_takeFirst yX4_takeFirst ∈ ex_tb := ⟨tw_246, tw_247⟩
theorem mwX1_init : MW yX1_init cX1_init 1 none 0 := ⟨tw_252, tw_87, by decide +kernel, by decide +kernel, by decide +kernel⟩
theorem mvX1_init : Cond.instanceMethod yX1_init ∈ ex_tb := tw_253
theorem fpX5_12 : FP RX5 12 4 0 (.object "EyeRota$Family") true := ⟨_, _, _, tyX5, rfl, inTX5, by decide, tw_255, tyX5_ok, nmX5, rfl, by decide +kernel, fun _ => rfl⟩
theorem fpX5_18 : FP RX5 18 4 1 (.object "EyeRota$Rows") true := ⟨_, _, _, tyX5, rfl, inTX5, by decide, tw_256, tyX5_ok, nmX5, rfl, by decide +kernel, fun _ => rfl⟩
theorem flX5_35 : FL RX5 35 4 7 := ⟨_, _, _, rfl, inTX5, by decide, tw_257⟩
theorem flX5_18 : FL RX5 18 4 1 := ⟨_, _, _, rfl, inTX5, by decide, tw_256⟩
theorem flX5_58 : FL RX5 58 5 3 := ⟨_, _, _, rfl, inTX6, by decide, tw_258⟩
theorem mwX5_isLetter : MW yX5_isLetter cX5_isLetter 1 (some .boolean) 1 := ⟨tw_260, tw_261, by decide +kernel, by decide +kernel, by decide +kernel⟩
theorem mvX5_isLetter : Cond.static yX5_isLetter ∈ ex_tb := tw_262
theorem fpX5_35 : FP RX5 35 4 7 .int false := ⟨_, _, _, tyX5, rfl, inTX5, by decide, tw_257, tyX5_ok, nmX5, rfl, by decide +kernel, fun h => by cases h⟩
theorem fpX5_29 : FP RX5 29 4 3 .int false := ⟨_, _, _, tyX5, rfl, inTX5, by decide, tw_264, tyX5_ok, nmX5, rfl, by decide +kernel, fun h => by cases h⟩
theorem flX5_63 : FL RX5 63 4 6 := ⟨_, _, _, rfl, inTX5, by decide, tw_265⟩
theorem fpX5_32 : FP RX5 32 4 4 .int false := ⟨_, _, _, tyX5, rfl, inTX5, by decide, tw_266, tyX5_ok, nmX5, rfl, by decide +kernel, fun h => by cases h⟩
theorem fpX5_86 : FP RX5 86 4 8 .int false := ⟨_, _, _, tyX5, rfl, inTX5, by decide, tw_267, tyX5_ok, nmX5, rfl, by decide +kernel, fun h => by cases h⟩
theorem mwX5_isFigure : MW yX5_isFigure cX5_isFigure 1 (some .boolean) 1 := ⟨tw_268, tw_261, by decide +kernel, by decide +kernel, by decide +kernel⟩
theorem mvX5_isFigure : Cond.static yX5_isFigure ∈ ex_tb := tw_269
theorem mwX5_meet : MW yX5_meet cX5_meet 2 (some .boolean) 1 := ⟨tw_271, tw_261, by decide +kernel, by decide +kernel, by decide +kernel⟩
theorem mvX5_meet : Cond.instanceMethod yX5_meet ∈ ex_tb ∧ Cond.selects yX5_meet.cls yX5_meet yX5_meet ∈ ex_tb := ⟨tw_272, tw_273⟩
theorem flX5_86 : FL RX5 86 4 8 := ⟨_, _, _, rfl, inTX5, by decide, tw_267⟩
theorem fpX5_63 : FP RX5 63 4 6 .int false := ⟨_, _, _, tyX5, rfl, inTX5, by decide, tw_265, tyX5_ok, nmX5, rfl, by decide +kernel, fun h => by cases h⟩
theorem fpX5_49 : FP RX5 49 4 5 .int false := ⟨_, _, _, tyX5, rfl, inTX5, by decide, tw_275, tyX5_ok, nmX5, rfl, by decide +kernel, fun h => by cases h⟩
theorem mwX5_passLetters : MW yX5_passLetters cX5_passLetters 1 none 0 := ⟨tw_276, tw_261, by decide +kernel, by decide +kernel, by decide +kernel⟩
theorem mvX5_passLetters : Cond.instanceMethod yX5_passLetters ∈ ex_tb ∧ Cond.selects yX5_passLetters.cls yX5_passLetters yX5_passLetters ∈ ex_tb := ⟨tw_277, tw_278⟩
theorem mwX5_takeFigures : MW yX5_takeFigures cX5_takeFigures 1 (some .boolean) 0 := ⟨tw_280, tw_261, by decide +kernel, by decide +kernel, by decide +kernel⟩
theorem mvX5_takeFigures : Cond.instanceMethod yX5_takeFigures ∈ ex_tb ∧ Cond.selects yX5_takeFigures.cls yX5_takeFigures yX5_takeFigures ∈ ex_tb := ⟨tw_281, tw_282⟩
theorem mwJ0_length_8abf5 : MW yJ0_length_8abf5 cJ0_length_8abf5 1 (some .int) 0 := ⟨tw_284, tw_8, by decide +kernel, by decide +kernel, by decide +kernel⟩
theorem mvJ0_length_8abf5 : Cond.instanceMethod yJ0_length_8abf5 ∈ ex_tb ∧ Cond.selects yJ0_length_8abf5.cls yJ0_length_8abf5 yJ0_length_8abf5 ∈ ex_tb := ⟨tw_285, tw_286⟩
theorem mwJ0_charAt_5068e : MW yJ0_charAt_5068e cJ0_charAt_5068e 2 (some .char) 1 := ⟨tw_288, tw_8, by decide +kernel, by decide +kernel, by decide +kernel⟩
theorem mvJ0_charAt_5068e : Cond.instanceMethod yJ0_charAt_5068e ∈ ex_tb ∧ Cond.selects yJ0_charAt_5068e.cls yJ0_charAt_5068e yJ0_charAt_5068e ∈ ex_tb := ⟨tw_289, tw_290⟩
theorem flX5_139 : FL RX5 139 5 1 := ⟨_, _, _, rfl, inTX6, by decide, tw_292⟩
theorem mwX5_takeToken : MW yX5_takeToken cX5_takeToken 2 (some .boolean) 0 := ⟨tw_293, tw_261, by decide +kernel, by decide +kernel, by decide +kernel⟩
theorem mvX5_takeToken : Cond.instanceMethod yX5_takeToken ∈ ex_tb ∧ Cond.selects yX5_takeToken.cls yX5_takeToken yX5_takeToken ∈ ex_tb := ⟨tw_294, tw_295⟩
theorem flX5_49 : FL RX5 49 4 5 := ⟨_, _, _, rfl, inTX5, by decide, tw_275⟩
theorem flX5_12 : FL RX5 12 4 0 := ⟨_, _, _, rfl, inTX5, by decide, tw_255⟩
theorem flX5_142 : FL RX5 142 1 0 := ⟨_, _, _, rfl, inTX1, by decide, tw_297⟩
theorem mwX5_hasRoom : MW yX5_hasRoom cX5_hasRoom 2 (some .boolean) 1 := ⟨tw_298, tw_261, by decide +kernel, by decide +kernel, by decide +kernel⟩
theorem mvX5_hasRoom : Cond.instanceMethod yX5_hasRoom ∈ ex_tb ∧ Cond.selects yX5_hasRoom.cls yX5_hasRoom yX5_hasRoom ∈ ex_tb := ⟨tw_299, tw_300⟩
theorem mwX5_takeNumber : MW yX5_takeNumber cX5_takeNumber 3 (some .boolean) 2 := ⟨tw_302, tw_261, by decide +kernel, by decide +kernel, by decide +kernel⟩
theorem mvX5_takeNumber : Cond.instanceMethod yX5_takeNumber ∈ ex_tb ∧ Cond.selects yX5_takeNumber.cls yX5_takeNumber yX5_takeNumber ∈ ex_tb := ⟨tw_303, tw_304⟩
theorem mwX5_takeStop : MW yX5_takeStop cX5_takeStop 1 (some .boolean) 0 := ⟨tw_306, tw_261, by decide +kernel, by decide +kernel, by decide +kernel⟩
theorem mvX5_takeStop : Cond.instanceMethod yX5_takeStop ∈ ex_tb ∧ Cond.selects yX5_takeStop.cls yX5_takeStop yX5_takeStop ∈ ex_tb := ⟨tw_307, tw_308⟩
theorem mwX6_add : MW yX6_add cX6_add 5 (some .int) 4 := ⟨tw_310, tw_41, by decide +kernel, by decide +kernel, by decide +kernel⟩
theorem mvX6_add : Cond.instanceMethod yX6_add ∈ ex_tb ∧ Cond.selects yX6_add.cls yX6_add yX6_add ∈ ex_tb := ⟨tw_311, tw_312⟩
theorem flX5_38 : FL RX5 38 4 9 := ⟨_, _, _, rfl, inTX5, by decide, tw_314⟩
theorem fpX5_38 : FP RX5 38 4 9 .int false := ⟨_, _, _, tyX5, rfl, inTX5, by decide, tw_314, tyX5_ok, nmX5, rfl, by decide +kernel, fun h => by cases h⟩
theorem flX5_160 : FL RX5 160 1 4 := ⟨_, _, _, rfl, inTX1, by decide, tw_315⟩
theorem flX5_164 : FL RX5 164 1 1 := ⟨_, _, _, rfl, inTX1, by decide, tw_316⟩
theorem flX5_41 : FL RX5 41 4 10 := ⟨_, _, _, rfl, inTX5, by decide, tw_317⟩
theorem fpX5_41 : FP RX5 41 4 10 .boolean false := ⟨_, _, _, tyX5, rfl, inTX5, by decide, tw_317, tyX5_ok, nmX5, rfl, by decide +kernel, fun h => by cases h⟩
theorem flX5_167 : FL RX5 167 1 5 := ⟨_, _, _, rfl, inTX1, by decide, tw_318⟩
theorem flX5_170 : FL RX5 170 1 2 := ⟨_, _, _, rfl, inTX1, by decide, tw_319⟩
theorem flX5_173 : FL RX5 173 1 3 := ⟨_, _, _, rfl, inTX1, by decide, tw_320⟩
theorem mwX5_isWord : MW yX5_isWord cX5_isWord 3 (some .boolean) 1 := ⟨tw_321, tw_261, by decide +kernel, by decide +kernel, by decide +kernel⟩
theorem mvX5_isWord : Cond.instanceMethod yX5_isWord ∈ ex_tb ∧ Cond.selects yX5_isWord.cls yX5_isWord yX5_isWord ∈ ex_tb := ⟨tw_322, tw_323⟩
theorem mwX5_takeOne : MW yX5_takeOne cX5_takeOne 2 (some .boolean) 1 := ⟨tw_325, tw_261, by decide +kernel, by decide +kernel, by decide +kernel⟩
theorem mvX5_takeOne : Cond.instanceMethod yX5_takeOne ∈ ex_tb ∧ Cond.selects yX5_takeOne.cls yX5_takeOne yX5_takeOne ∈ ex_tb := ⟨tw_326, tw_327⟩
theorem mwX5_takeThing : MW yX5_takeThing cX5_takeThing 2 (some .boolean) 0 := ⟨tw_329, tw_261, by decide +kernel, by decide +kernel, by decide +kernel⟩
theorem mvX5_takeThing : Cond.instanceMethod yX5_takeThing ∈ ex_tb ∧ Cond.selects yX5_takeThing.cls yX5_takeThing yX5_takeThing ∈ ex_tb := ⟨tw_330, tw_331⟩
theorem mwX5_takeTurn : MW yX5_takeTurn cX5_takeTurn 3 (some .boolean) 0 := ⟨tw_333, tw_261, by decide +kernel, by decide +kernel, by decide +kernel⟩
theorem mvX5_takeTurn : Cond.instanceMethod yX5_takeTurn ∈ ex_tb ∧ Cond.selects yX5_takeTurn.cls yX5_takeTurn yX5_takeTurn ∈ ex_tb := ⟨tw_334, tw_335⟩
theorem mwX5_takeRota : MW yX5_takeRota cX5_takeRota 2 (some .boolean) 0 := ⟨tw_337, tw_261, by decide +kernel, by decide +kernel, by decide +kernel⟩
theorem mvX5_takeRota : Cond.instanceMethod yX5_takeRota ∈ ex_tb ∧ Cond.selects yX5_takeRota.cls yX5_takeRota yX5_takeRota ∈ ex_tb := ⟨tw_338, tw_339⟩
theorem mwX5_takeWork : MW yX5_takeWork cX5_takeWork 4 (some .boolean) 0 := ⟨tw_341, tw_261, by decide +kernel, by decide +kernel, by decide +kernel⟩
theorem mvX5_takeWork : Cond.instanceMethod yX5_takeWork ∈ ex_tb ∧ Cond.selects yX5_takeWork.cls yX5_takeWork yX5_takeWork ∈ ex_tb := ⟨tw_342, tw_343⟩
theorem mwX5_takeTelling : MW yX5_takeTelling cX5_takeTelling 4 (some .boolean) 0 := ⟨tw_345, tw_261, by decide +kernel, by decide +kernel, by decide +kernel⟩
theorem mvX5_takeTelling : Cond.instanceMethod yX5_takeTelling ∈ ex_tb ∧ Cond.selects yX5_takeTelling.cls yX5_takeTelling yX5_takeTelling ∈ ex_tb := ⟨tw_346, tw_347⟩
theorem fpX5_25 : FP RX5 25 4 2 .int false := ⟨_, _, _, tyX5, rfl, inTX5, by decide, tw_350, tyX5_ok, nmX5, rfl, by decide +kernel, fun h => by cases h⟩
theorem flX5_25 : FL RX5 25 4 2 := ⟨_, _, _, rfl, inTX5, by decide, tw_350⟩
theorem mwX5_takeLine : MW yX5_takeLine cX5_takeLine 1 (some .boolean) 0 := ⟨tw_351, tw_261, by decide +kernel, by decide +kernel, by decide +kernel⟩
theorem mvX5_takeLine : Cond.instanceMethod yX5_takeLine ∈ ex_tb ∧ Cond.selects yX5_takeLine.cls yX5_takeLine yX5_takeLine ∈ ex_tb := ⟨tw_352, tw_353⟩
theorem flX5_29 : FL RX5 29 4 3 := ⟨_, _, _, rfl, inTX5, by decide, tw_264⟩
theorem mwX1_namesOnlyKin : MW yX1_namesOnlyKin cX1_namesOnlyKin 2 (some .boolean) 0 := ⟨tw_355, tw_87, by decide +kernel, by decide +kernel, by decide +kernel⟩
theorem mvX1_namesOnlyKin : Cond.instanceMethod yX1_namesOnlyKin ∈ ex_tb ∧ Cond.selects yX1_namesOnlyKin.cls yX1_namesOnlyKin yX1_namesOnlyKin ∈ ex_tb := ⟨tw_356, tw_357⟩
theorem fpX8_10 : FP RX8 10 7 0 (.object "EyeRota$Family") true := ⟨_, _, _, tyX8, rfl, inTX8, by decide, tw_362, tyX8_ok, nmX8, rfl, by decide +kernel, fun _ => rfl⟩
theorem fpX8_16 : FP RX8 16 7 1 (.array (.object "EyeRota$Family")) true := ⟨_, _, _, tyX8, rfl, inTX8, by decide, tw_364, tyX8_ok, nmX8, rfl, by decide +kernel, fun _ => rfl⟩
theorem fpX8_20 : FP RX8 20 7 2 (.array .boolean) true := ⟨_, _, _, tyX8, rfl, inTX8, by decide, tw_366, tyX8_ok, nmX8, rfl, by decide +kernel, fun _ => rfl⟩
theorem fpX8_29 : FP RX8 29 7 3 (.object "EyeRota$Rows") true := ⟨_, _, _, tyX8, rfl, inTX8, by decide, tw_369, tyX8_ok, nmX8, rfl, by decide +kernel, fun _ => rfl⟩
theorem fpX8_33 : FP RX8 33 7 4 (.object "EyeRota$Rows") true := ⟨_, _, _, tyX8, rfl, inTX8, by decide, tw_370, tyX8_ok, nmX8, rfl, by decide +kernel, fun _ => rfl⟩
theorem flX8_33 : FL RX8 33 7 4 := ⟨_, _, _, rfl, inTX8, by decide, tw_370⟩
theorem mwX5_init : MW yX5_init cX5_init 2 none 1 := ⟨tw_373, tw_261, by decide +kernel, by decide +kernel, by decide +kernel⟩
theorem mvX5_init : Cond.instanceMethod yX5_init ∈ ex_tb := tw_374
theorem fpX8_41 : FP RX8 41 7 5 (.object "EyeRota$Reader") true := ⟨_, _, _, tyX8, rfl, inTX8, by decide, tw_376, tyX8_ok, nmX8, rfl, by decide +kernel, fun _ => rfl⟩
theorem fpX8_47 : FP RX8 47 7 6 (.array (.object "EyeRota$Page")) true := ⟨_, _, _, tyX8, rfl, inTX8, by decide, tw_379, tyX8_ok, nmX8, rfl, by decide +kernel, fun _ => rfl⟩
theorem mwX7_init : MW yX7_init cX7_init 1 none 0 := ⟨tw_382, tw_124, by decide +kernel, by decide +kernel, by decide +kernel⟩
theorem mvX7_init : Cond.instanceMethod yX7_init ∈ ex_tb := tw_383
theorem fpX8_54 : FP RX8 54 7 7 (.object "EyeRota$Sight") true := ⟨_, _, _, tyX8, rfl, inTX8, by decide, tw_385, tyX8_ok, nmX8, rfl, by decide +kernel, fun _ => rfl⟩
theorem mwX0_init : MW yX0_init cX0_init 1 none 0 := ⟨tw_388, tw_153, by decide +kernel, by decide +kernel, by decide +kernel⟩
theorem mvX0_init : Cond.instanceMethod yX0_init ∈ ex_tb := tw_389
theorem fpX8_61 : FP RX8 61 7 8 (.object "EyeRota$Day") true := ⟨_, _, _, tyX8, rfl, inTX8, by decide, tw_391, tyX8_ok, nmX8, rfl, by decide +kernel, fun _ => rfl⟩
theorem mwX4_init : MW yX4_init cX4_init 1 none 0 := ⟨tw_394, tw_208, by decide +kernel, by decide +kernel, by decide +kernel⟩
theorem mvX4_init : Cond.instanceMethod yX4_init ∈ ex_tb := tw_395
theorem fpX8_68 : FP RX8 68 7 9 (.object "EyeRota$Planner") true := ⟨_, _, _, tyX8, rfl, inTX8, by decide, tw_397, tyX8_ok, nmX8, rfl, by decide +kernel, fun _ => rfl⟩
theorem fpX8_72 : FP RX8 72 7 10 (.array .int) true := ⟨_, _, _, tyX8, rfl, inTX8, by decide, tw_398, tyX8_ok, nmX8, rfl, by decide +kernel, fun _ => rfl⟩
theorem fpX8_76 : FP RX8 76 7 11 (.array .int) true := ⟨_, _, _, tyX8, rfl, inTX8, by decide, tw_399, tyX8_ok, nmX8, rfl, by decide +kernel, fun _ => rfl⟩
theorem flX8_16 : FL RX8 16 7 1 := ⟨_, _, _, rfl, inTX8, by decide, tw_364⟩
theorem flX8_47 : FL RX8 47 7 6 := ⟨_, _, _, rfl, inTX8, by decide, tw_379⟩
theorem mwX3_init : MW yX3_init cX3_init 1 none 0 := ⟨tw_401, tw_69, by decide +kernel, by decide +kernel, by decide +kernel⟩
theorem mvX3_init : Cond.instanceMethod yX3_init ∈ ex_tb := tw_402
theorem mwX6_cutTo : MW yX6_cutTo cX6_cutTo 3 (some .int) 1 := ⟨tw_405, tw_41, by decide +kernel, by decide +kernel, by decide +kernel⟩
theorem mvX6_cutTo : Cond.instanceMethod yX6_cutTo ∈ ex_tb ∧ Cond.selects yX6_cutTo.cls yX6_cutTo yX6_cutTo ∈ ex_tb := ⟨tw_406, tw_407⟩
theorem flX8_41 : FL RX8 41 7 5 := ⟨_, _, _, rfl, inTX8, by decide, tw_376⟩
theorem mwX5_readTape : MW yX5_readTape cX5_readTape 2 none 0 := ⟨tw_409, tw_261, by decide +kernel, by decide +kernel, by decide +kernel⟩
theorem mvX5_readTape : Cond.instanceMethod yX5_readTape ∈ ex_tb ∧ Cond.selects yX5_readTape.cls yX5_readTape yX5_readTape ∈ ex_tb := ⟨tw_410, tw_411⟩
theorem flX8_91 : FL RX8 91 4 3 := ⟨_, _, _, rfl, inTX5, by decide, tw_413⟩
theorem fpX8_95 : FP RX8 95 7 12 .int false := ⟨_, _, _, tyX8, rfl, inTX8, by decide, tw_414, tyX8_ok, nmX8, rfl, by decide +kernel, fun h => by cases h⟩
theorem flX8_95 : FL RX8 95 7 12 := ⟨_, _, _, rfl, inTX8, by decide, tw_414⟩
theorem flX8_98 : FL RX8 98 4 4 := ⟨_, _, _, rfl, inTX5, by decide, tw_415⟩
theorem flX8_10 : FL RX8 10 7 0 := ⟨_, _, _, rfl, inTX8, by decide, tw_362⟩
theorem flX8_101 : FL RX8 101 4 0 := ⟨_, _, _, rfl, inTX5, by decide, tw_416⟩
theorem mwX1_copyFrom : MW yX1_copyFrom cX1_copyFrom 2 none 1 := ⟨tw_417, tw_87, by decide +kernel, by decide +kernel, by decide +kernel⟩
theorem mvX1_copyFrom : Cond.instanceMethod yX1_copyFrom ∈ ex_tb ∧ Cond.selects yX1_copyFrom.cls yX1_copyFrom yX1_copyFrom ∈ ex_tb := ⟨tw_418, tw_419⟩
theorem flX8_29 : FL RX8 29 7 3 := ⟨_, _, _, rfl, inTX8, by decide, tw_369⟩
theorem flX8_20 : FL RX8 20 7 2 := ⟨_, _, _, rfl, inTX8, by decide, tw_366⟩
theorem flX8_108 : FL RX8 108 4 2 := ⟨_, _, _, rfl, inTX5, by decide, tw_421⟩
theorem flX8_111 : FL RX8 111 1 0 := ⟨_, _, _, rfl, inTX1, by decide, tw_422⟩
theorem flX8_114 : FL RX8 114 5 3 := ⟨_, _, _, rfl, inTX6, by decide, tw_423⟩
theorem flX8_117 : FL RX8 117 1 1 := ⟨_, _, _, rfl, inTX1, by decide, tw_424⟩
theorem flX8_120 : FL RX8 120 1 2 := ⟨_, _, _, rfl, inTX1, by decide, tw_425⟩
theorem flX8_123 : FL RX8 123 1 3 := ⟨_, _, _, rfl, inTX1, by decide, tw_426⟩
theorem mwX1_hoursHeld : MW yX1_hoursHeld cX1_hoursHeld 3 (some .int) 0 := ⟨tw_427, tw_87, by decide +kernel, by decide +kernel, by decide +kernel⟩
theorem mvX1_hoursHeld : Cond.instanceMethod yX1_hoursHeld ∈ ex_tb ∧ Cond.selects yX1_hoursHeld.cls yX1_hoursHeld yX1_hoursHeld ∈ ex_tb := ⟨tw_428, tw_429⟩
theorem flX8_54 : FL RX8 54 7 7 := ⟨_, _, _, rfl, inTX8, by decide, tw_385⟩
theorem flX8_130 : FL RX8 130 1 5 := ⟨_, _, _, rfl, inTX1, by decide, tw_431⟩
theorem mwX7_look : MW yX7_look cX7_look 5 none 2 := ⟨tw_432, tw_124, by decide +kernel, by decide +kernel, by decide +kernel⟩
theorem mvX7_look : Cond.instanceMethod yX7_look ∈ ex_tb ∧ Cond.selects yX7_look.cls yX7_look yX7_look ∈ ex_tb := ⟨tw_433, tw_434⟩
theorem mwX7_hoursSeen : MW yX7_hoursSeen cX7_hoursSeen 3 (some .int) 0 := ⟨tw_436, tw_124, by decide +kernel, by decide +kernel, by decide +kernel⟩
theorem mvX7_hoursSeen : Cond.instanceMethod yX7_hoursSeen ∈ ex_tb ∧ Cond.selects yX7_hoursSeen.cls yX7_hoursSeen yX7_hoursSeen ∈ ex_tb := ⟨tw_437, tw_438⟩
theorem mwX1_hoursHeldBy : MW yX1_hoursHeldBy cX1_hoursHeldBy 4 (some .int) 1 := ⟨tw_444, tw_87, by decide +kernel, by decide +kernel, by decide +kernel⟩
theorem mvX1_hoursHeldBy : Cond.instanceMethod yX1_hoursHeldBy ∈ ex_tb ∧ Cond.selects yX1_hoursHeldBy.cls yX1_hoursHeldBy yX1_hoursHeldBy ∈ ex_tb := ⟨tw_445, tw_446⟩
theorem mwX8_isThing : MW yX8_isThing cX8_isThing 1 (some .boolean) 1 := ⟨tw_449, tw_450, by decide +kernel, by decide +kernel, by decide +kernel⟩
theorem mvX8_isThing : Cond.static yX8_isThing ∈ ex_tb := tw_451
theorem mwX8_isHour : MW yX8_isHour cX8_isHour 1 (some .boolean) 1 := ⟨tw_453, tw_450, by decide +kernel, by decide +kernel, by decide +kernel⟩
theorem mvX8_isHour : Cond.static yX8_isHour ∈ ex_tb := tw_454
theorem mwX8_isFlag : MW yX8_isFlag cX8_isFlag 1 (some .boolean) 1 := ⟨tw_460, tw_450, by decide +kernel, by decide +kernel, by decide +kernel⟩
theorem mvX8_isFlag : Cond.static yX8_isFlag ∈ ex_tb := tw_461
theorem mwX8_isValue : MW yX8_isValue cX8_isValue 1 (some .boolean) 1 := ⟨tw_464, tw_450, by decide +kernel, by decide +kernel, by decide +kernel⟩
theorem mvX8_isValue : Cond.static yX8_isValue ∈ ex_tb := tw_465
theorem flX8_189 : FL RX8 189 1 4 := ⟨_, _, _, rfl, inTX1, by decide, tw_467⟩
theorem mwX8_isShift : MW yX8_isShift cX8_isShift 3 (some .boolean) 2 := ⟨tw_468, tw_450, by decide +kernel, by decide +kernel, by decide +kernel⟩
theorem mvX8_isShift : Cond.instanceMethod yX8_isShift ∈ ex_tb ∧ Cond.selects yX8_isShift.cls yX8_isShift yX8_isShift ∈ ex_tb := ⟨tw_469, tw_470⟩
theorem flX8_61 : FL RX8 61 7 8 := ⟨_, _, _, rfl, inTX8, by decide, tw_391⟩
theorem mwX0_live : MW yX0_live cX0_live 4 none 2 := ⟨tw_473, tw_153, by decide +kernel, by decide +kernel, by decide +kernel⟩
theorem mvX0_live : Cond.instanceMethod yX0_live ∈ ex_tb ∧ Cond.selects yX0_live.cls yX0_live yX0_live ∈ ex_tb := ⟨tw_474, tw_475⟩
theorem mwX0_rightOnes : MW yX0_rightOnes cX0_rightOnes 7 (some .int) 3 := ⟨tw_479, tw_153, by decide +kernel, by decide +kernel, by decide +kernel⟩
theorem mvX0_rightOnes : Cond.instanceMethod yX0_rightOnes ∈ ex_tb ∧ Cond.selects yX0_rightOnes.cls yX0_rightOnes yX0_rightOnes ∈ ex_tb := ⟨tw_480, tw_481⟩
theorem mwX0_wrongOnes : MW yX0_wrongOnes cX0_wrongOnes 8 (some .int) 3 := ⟨tw_483, tw_153, by decide +kernel, by decide +kernel, by decide +kernel⟩
theorem mvX0_wrongOnes : Cond.instanceMethod yX0_wrongOnes ∈ ex_tb ∧ Cond.selects yX0_wrongOnes.cls yX0_wrongOnes yX0_wrongOnes ∈ ex_tb := ⟨tw_484, tw_485⟩
theorem mwX7_donePieces : MW yX7_donePieces cX7_donePieces 4 (some .int) 1 := ⟨tw_487, tw_124, by decide +kernel, by decide +kernel, by decide +kernel⟩
theorem mvX7_donePieces : Cond.instanceMethod yX7_donePieces ∈ ex_tb ∧ Cond.selects yX7_donePieces.cls yX7_donePieces yX7_donePieces ∈ ex_tb := ⟨tw_488, tw_489⟩
theorem mwX7_doneWorth : MW yX7_doneWorth cX7_doneWorth 4 (some .int) 1 := ⟨tw_491, tw_124, by decide +kernel, by decide +kernel, by decide +kernel⟩
theorem mvX7_doneWorth : Cond.instanceMethod yX7_doneWorth ∈ ex_tb ∧ Cond.selects yX7_doneWorth.cls yX7_doneWorth yX7_doneWorth ∈ ex_tb := ⟨tw_492, tw_493⟩
theorem flX8_68 : FL RX8 68 7 9 := ⟨_, _, _, rfl, inTX8, by decide, tw_397⟩
theorem mwX4_planFor : MW yX4_planFor cX4_planFor 3 none 1 := ⟨tw_495, tw_208, by decide +kernel, by decide +kernel, by decide +kernel⟩
theorem mvX4_planFor : Cond.instanceMethod yX4_planFor ∈ ex_tb ∧ Cond.selects yX4_planFor.cls yX4_planFor yX4_planFor ∈ ex_tb := ⟨tw_496, tw_497⟩
theorem flX8_227 : FL RX8 227 3 6 := ⟨_, _, _, rfl, inTX4, by decide, tw_499⟩
theorem flX8_230 : FL RX8 230 3 2 := ⟨_, _, _, rfl, inTX4, by decide, tw_500⟩
theorem flX8_72 : FL RX8 72 7 10 := ⟨_, _, _, rfl, inTX8, by decide, tw_398⟩
theorem mwX8_takeTrial : MW yX8_takeTrial cX8_takeTrial 1 none 0 := ⟨tw_502, tw_450, by decide +kernel, by decide +kernel, by decide +kernel⟩
theorem mvX8_takeTrial : Cond.instanceMethod yX8_takeTrial ∈ ex_tb ∧ Cond.selects yX8_takeTrial.cls yX8_takeTrial yX8_takeTrial ∈ ex_tb := ⟨tw_503, tw_504⟩
theorem mwX8_worthBy : MW yX8_worthBy cX8_worthBy 2 (some .int) 1 := ⟨tw_506, tw_450, by decide +kernel, by decide +kernel, by decide +kernel⟩
theorem mvX8_worthBy : Cond.instanceMethod yX8_worthBy ∈ ex_tb ∧ Cond.selects yX8_worthBy.cls yX8_worthBy yX8_worthBy ∈ ex_tb := ⟨tw_507, tw_508⟩
theorem mwX8_worthSwapped : MW yX8_worthSwapped cX8_worthSwapped 3 (some .int) 2 := ⟨tw_510, tw_450, by decide +kernel, by decide +kernel, by decide +kernel⟩
theorem mvX8_worthSwapped : Cond.instanceMethod yX8_worthSwapped ∈ ex_tb ∧ Cond.selects yX8_worthSwapped.cls yX8_worthSwapped yX8_worthSwapped ∈ ex_tb := ⟨tw_511, tw_512⟩
theorem mwX8_worthGiven : MW yX8_worthGiven cX8_worthGiven 3 (some .int) 2 := ⟨tw_514, tw_450, by decide +kernel, by decide +kernel, by decide +kernel⟩
theorem mvX8_worthGiven : Cond.instanceMethod yX8_worthGiven ∈ ex_tb ∧ Cond.selects yX8_worthGiven.cls yX8_worthGiven yX8_worthGiven ∈ ex_tb := ⟨tw_515, tw_516⟩
theorem mwJ6_bitCount_0f7a4 : MW yJ6_bitCount_0f7a4 cJ6_bitCount_0f7a4 1 (some .int) 1 := ⟨tw_518, tw_519, by decide +kernel, by decide +kernel, by decide +kernel⟩
theorem mvJ6_bitCount_0f7a4 : Cond.static yJ6_bitCount_0f7a4 ∈ ex_tb := tw_520
theorem mwX7_chancesOf : MW yX7_chancesOf cX7_chancesOf 9 (some .int) 2 := ⟨tw_523, tw_124, by decide +kernel, by decide +kernel, by decide +kernel⟩
theorem mvX7_chancesOf : Cond.instanceMethod yX7_chancesOf ∈ ex_tb ∧ Cond.selects yX7_chancesOf.cls yX7_chancesOf yX7_chancesOf ∈ ex_tb := ⟨tw_524, tw_525⟩
theorem mwX2_shareMet : MW yX2_shareMet cX2_shareMet 5 (some .long) 2 := ⟨tw_527, tw_59, by decide +kernel, by decide +kernel, by decide +kernel⟩
theorem mvX2_shareMet : Cond.static yX2_shareMet ∈ ex_tb := tw_528
theorem mwX2_part : MW yX2_part cX2_part 5 (some .long) 2 := ⟨tw_530, tw_59, by decide +kernel, by decide +kernel, by decide +kernel⟩
theorem mvX2_part : Cond.static yX2_part ∈ ex_tb := tw_531
theorem flX8_76 : FL RX8 76 7 11 := ⟨_, _, _, rfl, inTX8, by decide, tw_399⟩
theorem mwX0_copyLast : MW yX0_copyLast cX0_copyLast 3 none 2 := ⟨tw_534, tw_153, by decide +kernel, by decide +kernel, by decide +kernel⟩
theorem mvX0_copyLast : Cond.instanceMethod yX0_copyLast ∈ ex_tb ∧ Cond.selects yX0_copyLast.cls yX0_copyLast yX0_copyLast ∈ ex_tb := ⟨tw_535, tw_536⟩
theorem mwX0_isAsSeen : MW yX0_isAsSeen cX0_isAsSeen 3 (some .boolean) 1 := ⟨tw_538, tw_153, by decide +kernel, by decide +kernel, by decide +kernel⟩
theorem mvX0_isAsSeen : Cond.instanceMethod yX0_isAsSeen ∈ ex_tb ∧ Cond.selects yX0_isAsSeen.cls yX0_isAsSeen yX0_isAsSeen ∈ ex_tb := ⟨tw_539, tw_540⟩
theorem mwX8_possibleHolders : MW yX8_possibleHolders cX8_possibleHolders 5 (some .int) 1 := ⟨tw_542, tw_450, by decide +kernel, by decide +kernel, by decide +kernel⟩
theorem mvX8_possibleHolders : Cond.instanceMethod yX8_possibleHolders ∈ ex_tb ∧ Cond.selects yX8_possibleHolders.cls yX8_possibleHolders yX8_possibleHolders ∈ ex_tb := ⟨tw_543, tw_544⟩
theorem mwX8_answerBy : MW yX8_answerBy cX8_answerBy 4 (some .int) 3 := ⟨tw_546, tw_450, by decide +kernel, by decide +kernel, by decide +kernel⟩
theorem mvX8_answerBy : Cond.instanceMethod yX8_answerBy ∈ ex_tb ∧ Cond.selects yX8_answerBy.cls yX8_answerBy yX8_answerBy ∈ ex_tb := ⟨tw_547, tw_548⟩
theorem mwX8_leftAtWorst : MW yX8_leftAtWorst cX8_leftAtWorst 9 (some .int) 3 := ⟨tw_551, tw_450, by decide +kernel, by decide +kernel, by decide +kernel⟩
theorem mvX8_leftAtWorst : Cond.instanceMethod yX8_leftAtWorst ∈ ex_tb ∧ Cond.selects yX8_leftAtWorst.cls yX8_leftAtWorst yX8_leftAtWorst ∈ ex_tb := ⟨tw_552, tw_553⟩
theorem mwX8_nextSeed : MW yX8_nextSeed cX8_nextSeed 1 (some .int) 1 := ⟨tw_556, tw_450, by decide +kernel, by decide +kernel, by decide +kernel⟩
theorem mvX8_nextSeed : Cond.static yX8_nextSeed ∈ ex_tb := tw_557
theorem mwX8_drawn : MW yX8_drawn cX8_drawn 1 (some .int) 1 := ⟨tw_559, tw_450, by decide +kernel, by decide +kernel, by decide +kernel⟩
theorem mvX8_drawn : Cond.static yX8_drawn ∈ ex_tb := tw_560
theorem mwX8_isSheet : MW yX8_isSheet cX8_isSheet 1 (some .boolean) 1 := ⟨tw_562, tw_450, by decide +kernel, by decide +kernel, by decide +kernel⟩
theorem mvX8_isSheet : Cond.static yX8_isSheet ∈ ex_tb := tw_563
theorem mwX8_isLane : MW yX8_isLane cX8_isLane 1 (some .boolean) 1 := ⟨tw_565, tw_450, by decide +kernel, by decide +kernel, by decide +kernel⟩
theorem mvX8_isLane : Cond.static yX8_isLane ∈ ex_tb := tw_566
theorem mwX3_makeNew : MW yX3_makeNew cX3_makeNew 4 none 2 := ⟨tw_568, tw_69, by decide +kernel, by decide +kernel, by decide +kernel⟩
theorem mvX3_makeNew : Cond.instanceMethod yX3_makeNew ∈ ex_tb ∧ Cond.selects yX3_makeNew.cls yX3_makeNew yX3_makeNew ∈ ex_tb := ⟨tw_569, tw_570⟩
theorem mwX3_putCell : MW yX3_putCell cX3_putCell 3 none 2 := ⟨tw_573, tw_69, by decide +kernel, by decide +kernel, by decide +kernel⟩
theorem mvX3_putCell : Cond.instanceMethod yX3_putCell ∈ ex_tb ∧ Cond.selects yX3_putCell.cls yX3_putCell yX3_putCell ∈ ex_tb := ⟨tw_574, tw_575⟩
theorem mwX3_faultOfPair : MW yX3_faultOfPair cX3_faultOfPair 4 (some .int) 2 := ⟨tw_577, tw_69, by decide +kernel, by decide +kernel, by decide +kernel⟩
theorem mvX3_faultOfPair : Cond.instanceMethod yX3_faultOfPair ∈ ex_tb ∧ Cond.selects yX3_faultOfPair.cls yX3_faultOfPair yX3_faultOfPair ∈ ex_tb := ⟨tw_578, tw_579⟩
theorem mwX3_cellAt : MW yX3_cellAt cX3_cellAt 2 (some .int) 1 := ⟨tw_581, tw_69, by decide +kernel, by decide +kernel, by decide +kernel⟩
theorem mvX3_cellAt : Cond.instanceMethod yX3_cellAt ∈ ex_tb ∧ Cond.selects yX3_cellAt.cls yX3_cellAt yX3_cellAt ∈ ex_tb := ⟨tw_582, tw_583⟩
theorem fpX8_309 : FP RX8 309 7 13 .int false := ⟨_, _, _, tyX8, rfl, inTX8, by decide, tw_585, tyX8_ok, nmX8, rfl, by decide +kernel, fun h => by cases h⟩
theorem flX8_309 : FL RX8 309 7 13 := ⟨_, _, _, rfl, inTX8, by decide, tw_585⟩
theorem flX8_312 : FL RX8 312 2 2 := ⟨_, _, _, rfl, inTX3, by decide, tw_586⟩
theorem mwX1_allWorth : MW yX1_allWorth cX1_allWorth 3 (some .int) 0 := ⟨tw_587, tw_87, by decide +kernel, by decide +kernel, by decide +kernel⟩
theorem mvX1_allWorth : Cond.instanceMethod yX1_allWorth ∈ ex_tb ∧ Cond.selects yX1_allWorth.cls yX1_allWorth yX1_allWorth ∈ ex_tb := ⟨tw_588, tw_589⟩
theorem fpX9_7 : FP RX9 7 8 0 (.array .int) true := ⟨_, _, _, tyX9, rfl, inTX9, by decide, tw_592, tyX9_ok, nmX9, rfl, by decide +kernel, fun _ => rfl⟩
theorem fpX9_13 : FP RX9 13 8 1 (.array .int) true := ⟨_, _, _, tyX9, rfl, inTX9, by decide, tw_593, tyX9_ok, nmX9, rfl, by decide +kernel, fun _ => rfl⟩
theorem fpX9_16 : FP RX9 16 8 3 (.array .int) true := ⟨_, _, _, tyX9, rfl, inTX9, by decide, tw_594, tyX9_ok, nmX9, rfl, by decide +kernel, fun _ => rfl⟩
theorem fpX9_19 : FP RX9 19 8 9 (.array .int) true := ⟨_, _, _, tyX9, rfl, inTX9, by decide, tw_595, tyX9_ok, nmX9, rfl, by decide +kernel, fun _ => rfl⟩
theorem fpX9_22 : FP RX9 22 8 18 (.array .int) true := ⟨_, _, _, tyX9, rfl, inTX9, by decide, tw_596, tyX9_ok, nmX9, rfl, by decide +kernel, fun _ => rfl⟩
theorem fpX9_25 : FP RX9 25 8 19 (.array .int) true := ⟨_, _, _, tyX9, rfl, inTX9, by decide, tw_597, tyX9_ok, nmX9, rfl, by decide +kernel, fun _ => rfl⟩
theorem fpX9_28 : FP RX9 28 8 20 (.array .int) true := ⟨_, _, _, tyX9, rfl, inTX9, by decide, tw_598, tyX9_ok, nmX9, rfl, by decide +kernel, fun _ => rfl⟩
theorem fpX9_31 : FP RX9 31 8 21 (.array .int) true := ⟨_, _, _, tyX9, rfl, inTX9, by decide, tw_599, tyX9_ok, nmX9, rfl, by decide +kernel, fun _ => rfl⟩
theorem fpX9_34 : FP RX9 34 8 22 (.array .int) true := ⟨_, _, _, tyX9, rfl, inTX9, by decide, tw_600, tyX9_ok, nmX9, rfl, by decide +kernel, fun _ => rfl⟩
theorem fpX9_37 : FP RX9 37 8 23 (.array .int) true := ⟨_, _, _, tyX9, rfl, inTX9, by decide, tw_601, tyX9_ok, nmX9, rfl, by decide +kernel, fun _ => rfl⟩
theorem fpX9_40 : FP RX9 40 8 25 (.array .int) true := ⟨_, _, _, tyX9, rfl, inTX9, by decide, tw_602, tyX9_ok, nmX9, rfl, by decide +kernel, fun _ => rfl⟩
theorem fpX9_43 : FP RX9 43 8 27 (.array .boolean) true := ⟨_, _, _, tyX9, rfl, inTX9, by decide, tw_603, tyX9_ok, nmX9, rfl, by decide +kernel, fun _ => rfl⟩
theorem fpX9_47 : FP RX9 47 8 28 (.array .int) true := ⟨_, _, _, tyX9, rfl, inTX9, by decide, tw_604, tyX9_ok, nmX9, rfl, by decide +kernel, fun _ => rfl⟩
theorem fpX9_50 : FP RX9 50 8 29 (.array .int) true := ⟨_, _, _, tyX9, rfl, inTX9, by decide, tw_605, tyX9_ok, nmX9, rfl, by decide +kernel, fun _ => rfl⟩
theorem fpX9_53 : FP RX9 53 8 30 (.array .int) true := ⟨_, _, _, tyX9, rfl, inTX9, by decide, tw_606, tyX9_ok, nmX9, rfl, by decide +kernel, fun _ => rfl⟩
theorem mwX9_in : MW yX9_in cX9_in 6 (some .boolean) 3 := ⟨tw_608, tw_609, by decide +kernel, by decide +kernel, by decide +kernel⟩
theorem mvX9_in : Cond.static yX9_in ∈ ex_tb := tw_610
theorem flX9_62 : FL RX9 62 8 10 := ⟨_, _, _, rfl, inTX9, by decide, tw_612⟩
theorem flX9_19 : FL RX9 19 8 9 := ⟨_, _, _, rfl, inTX9, by decide, tw_595⟩
theorem fpX9_62 : FP RX9 62 8 10 .int false := ⟨_, _, _, tyX9, rfl, inTX9, by decide, tw_612, tyX9_ok, nmX9, rfl, by decide +kernel, fun h => by cases h⟩
theorem flX9_66 : FL RX9 66 8 12 := ⟨_, _, _, rfl, inTX9, by decide, tw_613⟩
theorem fpX9_66 : FP RX9 66 8 12 .int false := ⟨_, _, _, tyX9, rfl, inTX9, by decide, tw_613, tyX9_ok, nmX9, rfl, by decide +kernel, fun h => by cases h⟩
theorem flX9_69 : FL RX9 69 8 15 := ⟨_, _, _, rfl, inTX9, by decide, tw_614⟩
theorem fpX9_72 : FP RX9 72 8 13 .int false := ⟨_, _, _, tyX9, rfl, inTX9, by decide, tw_615, tyX9_ok, nmX9, rfl, by decide +kernel, fun h => by cases h⟩
theorem flX9_75 : FL RX9 75 8 16 := ⟨_, _, _, rfl, inTX9, by decide, tw_616⟩
theorem flX9_78 : FL RX9 78 8 14 := ⟨_, _, _, rfl, inTX9, by decide, tw_617⟩
theorem flX9_22 : FL RX9 22 8 18 := ⟨_, _, _, rfl, inTX9, by decide, tw_596⟩
theorem mwX9_byteAt : MW yX9_byteAt cX9_byteAt 2 (some .int) 1 := ⟨tw_618, tw_609, by decide +kernel, by decide +kernel, by decide +kernel⟩
theorem mvX9_byteAt : Cond.instanceMethod yX9_byteAt ∈ ex_tb ∧ Cond.selects yX9_byteAt.cls yX9_byteAt yX9_byteAt ∈ ex_tb := ⟨tw_619, tw_620⟩
theorem flX9_25 : FL RX9 25 8 19 := ⟨_, _, _, rfl, inTX9, by decide, tw_597⟩
theorem fpX9_78 : FP RX9 78 8 14 .int false := ⟨_, _, _, tyX9, rfl, inTX9, by decide, tw_617, tyX9_ok, nmX9, rfl, by decide +kernel, fun h => by cases h⟩
theorem fpX9_69 : FP RX9 69 8 15 .int false := ⟨_, _, _, tyX9, rfl, inTX9, by decide, tw_614, tyX9_ok, nmX9, rfl, by decide +kernel, fun h => by cases h⟩
theorem fpX9_85 : FP RX9 85 8 17 .int false := ⟨_, _, _, tyX9, rfl, inTX9, by decide, tw_622, tyX9_ok, nmX9, rfl, by decide +kernel, fun h => by cases h⟩
theorem fpX9_75 : FP RX9 75 8 16 .int false := ⟨_, _, _, tyX9, rfl, inTX9, by decide, tw_616, tyX9_ok, nmX9, rfl, by decide +kernel, fun h => by cases h⟩
theorem flX9_85 : FL RX9 85 8 17 := ⟨_, _, _, rfl, inTX9, by decide, tw_622⟩
theorem mwX9_fails : MW yX9_fails cX9_fails 2 none 1 := ⟨tw_627, tw_609, by decide +kernel, by decide +kernel, by decide +kernel⟩
theorem mvX9_fails : Cond.instanceMethod yX9_fails ∈ ex_tb ∧ Cond.selects yX9_fails.cls yX9_fails yX9_fails ∈ ex_tb := ⟨tw_628, tw_629⟩
theorem mwX9_step : MW yX9_step cX9_step 2 none 0 := ⟨tw_631, tw_609, by decide +kernel, by decide +kernel, by decide +kernel⟩
theorem mvX9_step : Cond.instanceMethod yX9_step ∈ ex_tb ∧ Cond.selects yX9_step.cls yX9_step yX9_step ∈ ex_tb := ⟨tw_632, tw_633⟩
theorem mwX9_other : MW yX9_other cX9_other 5 (some .int) 3 := ⟨tw_635, tw_609, by decide +kernel, by decide +kernel, by decide +kernel⟩
theorem mvX9_other : Cond.instanceMethod yX9_other ∈ ex_tb ∧ Cond.selects yX9_other.cls yX9_other yX9_other ∈ ex_tb := ⟨tw_636, tw_637⟩
theorem flX9_107 : FL RX9 107 8 8 := ⟨_, _, _, rfl, inTX9, by decide, tw_639⟩
theorem fpX9_107 : FP RX9 107 8 8 .int false := ⟨_, _, _, tyX9, rfl, inTX9, by decide, tw_639, tyX9_ok, nmX9, rfl, by decide +kernel, fun h => by cases h⟩
theorem flX9_110 : FL RX9 110 8 5 := ⟨_, _, _, rfl, inTX9, by decide, tw_640⟩
theorem flX9_16 : FL RX9 16 8 3 := ⟨_, _, _, rfl, inTX9, by decide, tw_594⟩
theorem fpX9_110 : FP RX9 110 8 5 .int false := ⟨_, _, _, tyX9, rfl, inTX9, by decide, tw_640, tyX9_ok, nmX9, rfl, by decide +kernel, fun h => by cases h⟩
theorem mwX9_oneHere : MW yX9_oneHere cX9_oneHere 2 (some .int) 0 := ⟨tw_641, tw_609, by decide +kernel, by decide +kernel, by decide +kernel⟩
theorem mvX9_oneHere : Cond.instanceMethod yX9_oneHere ∈ ex_tb ∧ Cond.selects yX9_oneHere.cls yX9_oneHere yX9_oneHere ∈ ex_tb := ⟨tw_642, tw_643⟩
theorem flX9_117 : FL RX9 117 8 4 := ⟨_, _, _, rfl, inTX9, by decide, tw_645⟩
theorem fpX9_117 : FP RX9 117 8 4 .int false := ⟨_, _, _, tyX9, rfl, inTX9, by decide, tw_645, tyX9_ok, nmX9, rfl, by decide +kernel, fun h => by cases h⟩
theorem flX9_120 : FL RX9 120 8 7 := ⟨_, _, _, rfl, inTX9, by decide, tw_646⟩
theorem fpX9_120 : FP RX9 120 8 7 .int false := ⟨_, _, _, tyX9, rfl, inTX9, by decide, tw_646, tyX9_ok, nmX9, rfl, by decide +kernel, fun h => by cases h⟩
theorem mwX9_readRota : MW yX9_readRota cX9_readRota 2 none 0 := ⟨tw_647, tw_609, by decide +kernel, by decide +kernel, by decide +kernel⟩
theorem mvX9_readRota : Cond.instanceMethod yX9_readRota ∈ ex_tb ∧ Cond.selects yX9_readRota.cls yX9_readRota yX9_readRota ∈ ex_tb := ⟨tw_648, tw_649⟩
theorem mwX9_readWork : MW yX9_readWork cX9_readWork 2 none 0 := ⟨tw_651, tw_609, by decide +kernel, by decide +kernel, by decide +kernel⟩
theorem mvX9_readWork : Cond.instanceMethod yX9_readWork ∈ ex_tb ∧ Cond.selects yX9_readWork.cls yX9_readWork yX9_readWork ∈ ex_tb := ⟨tw_652, tw_653⟩
theorem mwX9_readTell : MW yX9_readTell cX9_readTell 2 none 0 := ⟨tw_655, tw_609, by decide +kernel, by decide +kernel, by decide +kernel⟩
theorem mvX9_readTell : Cond.instanceMethod yX9_readTell ∈ ex_tb ∧ Cond.selects yX9_readTell.cls yX9_readTell yX9_readTell ∈ ex_tb := ⟨tw_656, tw_657⟩
theorem mwX9_nameHere : MW yX9_nameHere cX9_nameHere 4 (some .int) 0 := ⟨tw_659, tw_609, by decide +kernel, by decide +kernel, by decide +kernel⟩
theorem mvX9_nameHere : Cond.instanceMethod yX9_nameHere ∈ ex_tb ∧ Cond.selects yX9_nameHere.cls yX9_nameHere yX9_nameHere ∈ ex_tb := ⟨tw_660, tw_661⟩
theorem mwX9_isFull : MW yX9_isFull cX9_isFull 2 (some .boolean) 1 := ⟨tw_664, tw_609, by decide +kernel, by decide +kernel, by decide +kernel⟩
theorem mvX9_isFull : Cond.instanceMethod yX9_isFull ∈ ex_tb ∧ Cond.selects yX9_isFull.cls yX9_isFull yX9_isFull ∈ ex_tb := ⟨tw_665, tw_666⟩
theorem flX9_141 : FL RX9 141 8 6 := ⟨_, _, _, rfl, inTX9, by decide, tw_668⟩
theorem fpX9_141 : FP RX9 141 8 6 .boolean false := ⟨_, _, _, tyX9, rfl, inTX9, by decide, tw_668, tyX9_ok, nmX9, rfl, by decide +kernel, fun h => by cases h⟩
theorem mwX9_readMore : MW yX9_readMore cX9_readMore 3 none 1 := ⟨tw_669, tw_609, by decide +kernel, by decide +kernel, by decide +kernel⟩
theorem mvX9_readMore : Cond.instanceMethod yX9_readMore ∈ ex_tb ∧ Cond.selects yX9_readMore.cls yX9_readMore yX9_readMore ∈ ex_tb := ⟨tw_670, tw_671⟩
theorem mwX9_readLine : MW yX9_readLine cX9_readLine 2 none 0 := ⟨tw_673, tw_609, by decide +kernel, by decide +kernel, by decide +kernel⟩
theorem mvX9_readLine : Cond.instanceMethod yX9_readLine ∈ ex_tb ∧ Cond.selects yX9_readLine.cls yX9_readLine yX9_readLine ∈ ex_tb := ⟨tw_674, tw_675⟩
theorem fpX9_151 : FP RX9 151 8 11 .int false := ⟨_, _, _, tyX9, rfl, inTX9, by decide, tw_677, tyX9_ok, nmX9, rfl, by decide +kernel, fun h => by cases h⟩
theorem flX9_72 : FL RX9 72 8 13 := ⟨_, _, _, rfl, inTX9, by decide, tw_615⟩
theorem flX9_7 : FL RX9 7 8 0 := ⟨_, _, _, rfl, inTX9, by decide, tw_592⟩
theorem fpX9_154 : FP RX9 154 8 2 .int false := ⟨_, _, _, tyX9, rfl, inTX9, by decide, tw_678, tyX9_ok, nmX9, rfl, by decide +kernel, fun h => by cases h⟩
theorem fpX9_157 : FP RX9 157 8 24 .int false := ⟨_, _, _, tyX9, rfl, inTX9, by decide, tw_679, tyX9_ok, nmX9, rfl, by decide +kernel, fun h => by cases h⟩
theorem flX9_43 : FL RX9 43 8 27 := ⟨_, _, _, rfl, inTX9, by decide, tw_603⟩
theorem flX9_151 : FL RX9 151 8 11 := ⟨_, _, _, rfl, inTX9, by decide, tw_677⟩
theorem flX9_154 : FL RX9 154 8 2 := ⟨_, _, _, rfl, inTX9, by decide, tw_678⟩
theorem mwX9_hasEyes : MW yX9_hasEyes cX9_hasEyes 3 (some .boolean) 2 := ⟨tw_682, tw_609, by decide +kernel, by decide +kernel, by decide +kernel⟩
theorem mvX9_hasEyes : Cond.instanceMethod yX9_hasEyes ∈ ex_tb ∧ Cond.selects yX9_hasEyes.cls yX9_hasEyes yX9_hasEyes ∈ ex_tb := ⟨tw_683, tw_684⟩
theorem mwX9_hasIt : MW yX9_hasIt cX9_hasIt 2 (some .int) 1 := ⟨tw_686, tw_609, by decide +kernel, by decide +kernel, by decide +kernel⟩
theorem mvX9_hasIt : Cond.instanceMethod yX9_hasIt ∈ ex_tb ∧ Cond.selects yX9_hasIt.cls yX9_hasIt yX9_hasIt ∈ ex_tb := ⟨tw_687, tw_688⟩
theorem mwX9_wouldSee : MW yX9_wouldSee cX9_wouldSee 5 (some .boolean) 3 := ⟨tw_690, tw_609, by decide +kernel, by decide +kernel, by decide +kernel⟩
theorem mvX9_wouldSee : Cond.instanceMethod yX9_wouldSee ∈ ex_tb ∧ Cond.selects yX9_wouldSee.cls yX9_wouldSee yX9_wouldSee ∈ ex_tb := ⟨tw_691, tw_692⟩
theorem mwX9_doesSee : MW yX9_doesSee cX9_doesSee 2 (some .boolean) 1 := ⟨tw_694, tw_609, by decide +kernel, by decide +kernel, by decide +kernel⟩
theorem mvX9_doesSee : Cond.instanceMethod yX9_doesSee ∈ ex_tb ∧ Cond.selects yX9_doesSee.cls yX9_doesSee yX9_doesSee ∈ ex_tb := ⟨tw_695, tw_696⟩
theorem flX9_28 : FL RX9 28 8 20 := ⟨_, _, _, rfl, inTX9, by decide, tw_598⟩
theorem flX9_31 : FL RX9 31 8 21 := ⟨_, _, _, rfl, inTX9, by decide, tw_599⟩
theorem flX9_13 : FL RX9 13 8 1 := ⟨_, _, _, rfl, inTX9, by decide, tw_593⟩
theorem mwX9_valueAt : MW yX9_valueAt cX9_valueAt 7 (some .int) 2 := ⟨tw_698, tw_609, by decide +kernel, by decide +kernel, by decide +kernel⟩
theorem mvX9_valueAt : Cond.instanceMethod yX9_valueAt ∈ ex_tb ∧ Cond.selects yX9_valueAt.cls yX9_valueAt yX9_valueAt ∈ ex_tb := ⟨tw_699, tw_700⟩
theorem mwX9_tellings : MW yX9_tellings cX9_tellings 6 none 1 := ⟨tw_702, tw_609, by decide +kernel, by decide +kernel, by decide +kernel⟩
theorem mvX9_tellings : Cond.instanceMethod yX9_tellings ∈ ex_tb ∧ Cond.selects yX9_tellings.cls yX9_tellings yX9_tellings ∈ ex_tb := ⟨tw_703, tw_704⟩
theorem mwX9_hoursOf : MW yX9_hoursOf cX9_hoursOf 5 (some .int) 2 := ⟨tw_706, tw_609, by decide +kernel, by decide +kernel, by decide +kernel⟩
theorem mvX9_hoursOf : Cond.instanceMethod yX9_hoursOf ∈ ex_tb ∧ Cond.selects yX9_hoursOf.cls yX9_hoursOf yX9_hoursOf ∈ ex_tb := ⟨tw_707, tw_708⟩
theorem mwX9_seeing : MW yX9_seeing cX9_seeing 3 (some .int) 0 := ⟨tw_710, tw_609, by decide +kernel, by decide +kernel, by decide +kernel⟩
theorem mvX9_seeing : Cond.instanceMethod yX9_seeing ∈ ex_tb ∧ Cond.selects yX9_seeing.cls yX9_seeing yX9_seeing ∈ ex_tb := ⟨tw_711, tw_712⟩
theorem mwX9_isOne : MW yX9_isOne cX9_isOne 2 (some .boolean) 1 := ⟨tw_714, tw_609, by decide +kernel, by decide +kernel, by decide +kernel⟩
theorem mvX9_isOne : Cond.instanceMethod yX9_isOne ∈ ex_tb ∧ Cond.selects yX9_isOne.cls yX9_isOne yX9_isOne ∈ ex_tb := ⟨tw_715, tw_716⟩
theorem mwX9_isThing : MW yX9_isThing cX9_isThing 1 (some .boolean) 1 := ⟨tw_718, tw_609, by decide +kernel, by decide +kernel, by decide +kernel⟩
theorem mvX9_isThing : Cond.static yX9_isThing ∈ ex_tb := tw_719
theorem mwX9_isHour : MW yX9_isHour cX9_isHour 1 (some .boolean) 1 := ⟨tw_721, tw_609, by decide +kernel, by decide +kernel, by decide +kernel⟩
theorem mvX9_isHour : Cond.static yX9_isHour ∈ ex_tb := tw_722
theorem mwX9_orNone : MW yX9_orNone cX9_orNone 1 (some .int) 1 := ⟨tw_724, tw_609, by decide +kernel, by decide +kernel, by decide +kernel⟩
theorem mvX9_orNone : Cond.static yX9_orNone ∈ ex_tb := tw_725
theorem mwX9_isDone : MW yX9_isDone cX9_isDone 6 (some .boolean) 2 := ⟨tw_727, tw_609, by decide +kernel, by decide +kernel, by decide +kernel⟩
theorem mvX9_isDone : Cond.instanceMethod yX9_isDone ∈ ex_tb ∧ Cond.selects yX9_isDone.cls yX9_isDone yX9_isDone ∈ ex_tb := ⟨tw_728, tw_729⟩
theorem mwX9_doneBy : MW yX9_doneBy cX9_doneBy 4 (some .int) 1 := ⟨tw_731, tw_609, by decide +kernel, by decide +kernel, by decide +kernel⟩
theorem mvX9_doneBy : Cond.instanceMethod yX9_doneBy ∈ ex_tb ∧ Cond.selects yX9_doneBy.cls yX9_doneBy yX9_doneBy ∈ ex_tb := ⟨tw_732, tw_733⟩
theorem mwX9_worthOf : MW yX9_worthOf cX9_worthOf 4 (some .int) 1 := ⟨tw_735, tw_609, by decide +kernel, by decide +kernel, by decide +kernel⟩
theorem mvX9_worthOf : Cond.instanceMethod yX9_worthOf ∈ ex_tb ∧ Cond.selects yX9_worthOf.cls yX9_worthOf yX9_worthOf ∈ ex_tb := ⟨tw_736, tw_737⟩
theorem mwX9_puts : MW yX9_puts cX9_puts 5 (some .int) 3 := ⟨tw_741, tw_609, by decide +kernel, by decide +kernel, by decide +kernel⟩
theorem mvX9_puts : Cond.instanceMethod yX9_puts ∈ ex_tb ∧ Cond.selects yX9_puts.cls yX9_puts yX9_puts ∈ ex_tb := ⟨tw_742, tw_743⟩
theorem mwX9_shifts : MW yX9_shifts cX9_shifts 4 (some .int) 2 := ⟨tw_745, tw_609, by decide +kernel, by decide +kernel, by decide +kernel⟩
theorem mvX9_shifts : Cond.instanceMethod yX9_shifts ∈ ex_tb ∧ Cond.selects yX9_shifts.cls yX9_shifts yX9_shifts ∈ ex_tb := ⟨tw_746, tw_747⟩
theorem mwX9_hoursGo : MW yX9_hoursGo cX9_hoursGo 5 none 0 := ⟨tw_749, tw_609, by decide +kernel, by decide +kernel, by decide +kernel⟩
theorem mvX9_hoursGo : Cond.instanceMethod yX9_hoursGo ∈ ex_tb ∧ Cond.selects yX9_hoursGo.cls yX9_hoursGo yX9_hoursGo ∈ ex_tb := ⟨tw_750, tw_751⟩
theorem mwX9_rightOf : MW yX9_rightOf cX9_rightOf 8 (some .int) 3 := ⟨tw_753, tw_609, by decide +kernel, by decide +kernel, by decide +kernel⟩
theorem mvX9_rightOf : Cond.instanceMethod yX9_rightOf ∈ ex_tb ∧ Cond.selects yX9_rightOf.cls yX9_rightOf yX9_rightOf ∈ ex_tb := ⟨tw_754, tw_755⟩
theorem mwX9_workIn : MW yX9_workIn cX9_workIn 6 (some .int) 2 := ⟨tw_757, tw_609, by decide +kernel, by decide +kernel, by decide +kernel⟩
theorem mvX9_workIn : Cond.instanceMethod yX9_workIn ∈ ex_tb ∧ Cond.selects yX9_workIn.cls yX9_workIn yX9_workIn ∈ ex_tb := ⟨tw_758, tw_759⟩
theorem flX9_34 : FL RX9 34 8 22 := ⟨_, _, _, rfl, inTX9, by decide, tw_600⟩
theorem mwX9_isChoice : MW yX9_isChoice cX9_isChoice 2 (some .boolean) 1 := ⟨tw_761, tw_609, by decide +kernel, by decide +kernel, by decide +kernel⟩
theorem mvX9_isChoice : Cond.instanceMethod yX9_isChoice ∈ ex_tb ∧ Cond.selects yX9_isChoice.cls yX9_isChoice yX9_isChoice ∈ ex_tb := ⟨tw_762, tw_763⟩
theorem mwX9_comesTo : MW yX9_comesTo cX9_comesTo 6 (some .int) 4 := ⟨tw_765, tw_609, by decide +kernel, by decide +kernel, by decide +kernel⟩
theorem mvX9_comesTo : Cond.instanceMethod yX9_comesTo ∈ ex_tb ∧ Cond.selects yX9_comesTo.cls yX9_comesTo yX9_comesTo ∈ ex_tb := ⟨tw_766, tw_767⟩
theorem mwX9_laysMost : MW yX9_laysMost cX9_laysMost 6 none 0 := ⟨tw_771, tw_609, by decide +kernel, by decide +kernel, by decide +kernel⟩
theorem mvX9_laysMost : Cond.instanceMethod yX9_laysMost ∈ ex_tb ∧ Cond.selects yX9_laysMost.cls yX9_laysMost yX9_laysMost ∈ ex_tb := ⟨tw_772, tw_773⟩
theorem mwX9_worthNow : MW yX9_worthNow cX9_worthNow 1 (some .int) 0 := ⟨tw_775, tw_609, by decide +kernel, by decide +kernel, by decide +kernel⟩
theorem mvX9_worthNow : Cond.instanceMethod yX9_worthNow ∈ ex_tb ∧ Cond.selects yX9_worthNow.cls yX9_worthNow yX9_worthNow ∈ ex_tb := ⟨tw_776, tw_777⟩
theorem mwX9_bitsOf : MW yX9_bitsOf cX9_bitsOf 3 (some .int) 1 := ⟨tw_779, tw_609, by decide +kernel, by decide +kernel, by decide +kernel⟩
theorem mvX9_bitsOf : Cond.static yX9_bitsOf ∈ ex_tb := tw_780
theorem mwX9_isHandOver : MW yX9_isHandOver cX9_isHandOver 2 (some .boolean) 1 := ⟨tw_782, tw_609, by decide +kernel, by decide +kernel, by decide +kernel⟩
theorem mvX9_isHandOver : Cond.instanceMethod yX9_isHandOver ∈ ex_tb ∧ Cond.selects yX9_isHandOver.cls yX9_isHandOver yX9_isHandOver ∈ ex_tb := ⟨tw_783, tw_784⟩
theorem mwX9_seeingBut : MW yX9_seeingBut cX9_seeingBut 5 (some .int) 1 := ⟨tw_786, tw_609, by decide +kernel, by decide +kernel, by decide +kernel⟩
theorem mvX9_seeingBut : Cond.instanceMethod yX9_seeingBut ∈ ex_tb ∧ Cond.selects yX9_seeingBut.cls yX9_seeingBut yX9_seeingBut ∈ ex_tb := ⟨tw_787, tw_788⟩
theorem mwX9_lowest : MW yX9_lowest cX9_lowest 11 (some .long) 3 := ⟨tw_790, tw_609, by decide +kernel, by decide +kernel, by decide +kernel⟩
theorem mvX9_lowest : Cond.static yX9_lowest ∈ ex_tb := tw_791
theorem mwX9_byMissed : MW yX9_byMissed cX9_byMissed 13 (some .long) 3 := ⟨tw_793, tw_609, by decide +kernel, by decide +kernel, by decide +kernel⟩
theorem mvX9_byMissed : Cond.instanceMethod yX9_byMissed ∈ ex_tb ∧ Cond.selects yX9_byMissed.cls yX9_byMissed yX9_byMissed ∈ ex_tb := ⟨tw_794, tw_795⟩
theorem flX9_157 : FL RX9 157 8 24 := ⟨_, _, _, rfl, inTX9, by decide, tw_679⟩
theorem flX9_37 : FL RX9 37 8 23 := ⟨_, _, _, rfl, inTX9, by decide, tw_601⟩
theorem mwX9_isAsSeen : MW yX9_isAsSeen cX9_isAsSeen 3 (some .boolean) 0 := ⟨tw_798, tw_609, by decide +kernel, by decide +kernel, by decide +kernel⟩
theorem mvX9_isAsSeen : Cond.instanceMethod yX9_isAsSeen ∈ ex_tb ∧ Cond.selects yX9_isAsSeen.cls yX9_isAsSeen yX9_isAsSeen ∈ ex_tb := ⟨tw_799, tw_800⟩
theorem flX9_40 : FL RX9 40 8 25 := ⟨_, _, _, rfl, inTX9, by decide, tw_602⟩
theorem mwX9_mayHave : MW yX9_mayHave cX9_mayHave 6 (some .int) 1 := ⟨tw_802, tw_609, by decide +kernel, by decide +kernel, by decide +kernel⟩
theorem mvX9_mayHave : Cond.instanceMethod yX9_mayHave ∈ ex_tb ∧ Cond.selects yX9_mayHave.cls yX9_mayHave yX9_mayHave ∈ ex_tb := ⟨tw_803, tw_804⟩
theorem flX9_276 : FL RX9 276 8 26 := ⟨_, _, _, rfl, inTX9, by decide, tw_806⟩
theorem fpX9_276 : FP RX9 276 8 26 .int false := ⟨_, _, _, tyX9, rfl, inTX9, by decide, tw_806, tyX9_ok, nmX9, rfl, by decide +kernel, fun h => by cases h⟩
theorem mwX9_copies : MW yX9_copies cX9_copies 4 none 2 := ⟨tw_809, tw_609, by decide +kernel, by decide +kernel, by decide +kernel⟩
theorem mvX9_copies : Cond.instanceMethod yX9_copies ∈ ex_tb ∧ Cond.selects yX9_copies.cls yX9_copies yX9_copies ∈ ex_tb := ⟨tw_810, tw_811⟩
theorem mwX9_draws : MW yX9_draws cX9_draws 2 (some .int) 1 := ⟨tw_813, tw_609, by decide +kernel, by decide +kernel, by decide +kernel⟩
theorem mvX9_draws : Cond.instanceMethod yX9_draws ∈ ex_tb ∧ Cond.selects yX9_draws.cls yX9_draws yX9_draws ∈ ex_tb := ⟨tw_814, tw_815⟩
theorem flX9_47 : FL RX9 47 8 28 := ⟨_, _, _, rfl, inTX9, by decide, tw_604⟩
theorem flX9_50 : FL RX9 50 8 29 := ⟨_, _, _, rfl, inTX9, by decide, tw_605⟩
theorem flX9_53 : FL RX9 53 8 30 := ⟨_, _, _, rfl, inTX9, by decide, tw_606⟩
theorem fpX9_291 : FP RX9 291 8 31 .int false := ⟨_, _, _, tyX9, rfl, inTX9, by decide, tw_818, tyX9_ok, nmX9, rfl, by decide +kernel, fun h => by cases h⟩
theorem flX9_291 : FL RX9 291 8 31 := ⟨_, _, _, rfl, inTX9, by decide, tw_818⟩
theorem mwX8_init : MW yX8_init cX8_init 2 none 0 := ⟨tw_821, tw_450, by decide +kernel, by decide +kernel, by decide +kernel⟩
theorem mvX8_init : Cond.instanceMethod yX8_init ∈ ex_tb := tw_822
theorem mwX9_init : MW yX9_init cX9_init 1 none 0 := ⟨tw_826, tw_609, by decide +kernel, by decide +kernel, by decide +kernel⟩
theorem mvX9_init : Cond.instanceMethod yX9_init ∈ ex_tb := tw_827
theorem mwX8_feed : MW yX8_feed cX8_feed 2 (some .int) 1 := ⟨tw_829, tw_450, by decide +kernel, by decide +kernel, by decide +kernel⟩
theorem mvX8_feed : Cond.instanceMethod yX8_feed ∈ ex_tb ∧ Cond.selects yX8_feed.cls yX8_feed yX8_feed ∈ ex_tb := ⟨tw_830, tw_831⟩
theorem mwX9_feed : MW yX9_feed cX9_feed 2 (some .int) 1 := ⟨tw_833, tw_609, by decide +kernel, by decide +kernel, by decide +kernel⟩
theorem mvX9_feed : Cond.instanceMethod yX9_feed ∈ ex_tb ∧ Cond.selects yX9_feed.cls yX9_feed yX9_feed ∈ ex_tb := ⟨tw_834, tw_835⟩
theorem mwX8_end : MW yX8_end cX8_end 2 (some .int) 1 := ⟨tw_837, tw_450, by decide +kernel, by decide +kernel, by decide +kernel⟩
theorem mvX8_end : Cond.instanceMethod yX8_end ∈ ex_tb ∧ Cond.selects yX8_end.cls yX8_end yX8_end ∈ ex_tb := ⟨tw_838, tw_839⟩
theorem mwX9_end : MW yX9_end cX9_end 3 (some .int) 1 := ⟨tw_841, tw_609, by decide +kernel, by decide +kernel, by decide +kernel⟩
theorem mvX9_end : Cond.instanceMethod yX9_end ∈ ex_tb ∧ Cond.selects yX9_end.cls yX9_end yX9_end ∈ ex_tb := ⟨tw_842, tw_843⟩
theorem mwX8_text : MW yX8_text cX8_text 2 (some .int) 0 := ⟨tw_845, tw_450, by decide +kernel, by decide +kernel, by decide +kernel⟩
theorem mvX8_text : Cond.instanceMethod yX8_text ∈ ex_tb ∧ Cond.selects yX8_text.cls yX8_text yX8_text ∈ ex_tb := ⟨tw_846, tw_847⟩
theorem mwX9_text : MW yX9_text cX9_text 3 (some .int) 0 := ⟨tw_849, tw_609, by decide +kernel, by decide +kernel, by decide +kernel⟩
theorem mvX9_text : Cond.instanceMethod yX9_text ∈ ex_tb ∧ Cond.selects yX9_text.cls yX9_text yX9_text ∈ ex_tb := ⟨tw_850, tw_851⟩
theorem mwX8_fault : MW yX8_fault cX8_fault 1 (some .int) 0 := ⟨tw_853, tw_450, by decide +kernel, by decide +kernel, by decide +kernel⟩
theorem mvX8_fault : Cond.instanceMethod yX8_fault ∈ ex_tb ∧ Cond.selects yX8_fault.cls yX8_fault yX8_fault ∈ ex_tb := ⟨tw_854, tw_855⟩
theorem mwX9_fault : MW yX9_fault cX9_fault 1 (some .int) 0 := ⟨tw_857, tw_609, by decide +kernel, by decide +kernel, by decide +kernel⟩
theorem mvX9_fault : Cond.instanceMethod yX9_fault ∈ ex_tb ∧ Cond.selects yX9_fault.cls yX9_fault yX9_fault ∈ ex_tb := ⟨tw_858, tw_859⟩
theorem mwX8_rule : MW yX8_rule cX8_rule 2 (some .int) 1 := ⟨tw_861, tw_450, by decide +kernel, by decide +kernel, by decide +kernel⟩
theorem mvX8_rule : Cond.instanceMethod yX8_rule ∈ ex_tb ∧ Cond.selects yX8_rule.cls yX8_rule yX8_rule ∈ ex_tb := ⟨tw_862, tw_863⟩
theorem mwX9_rule : MW yX9_rule cX9_rule 2 (some .int) 1 := ⟨tw_865, tw_609, by decide +kernel, by decide +kernel, by decide +kernel⟩
theorem mvX9_rule : Cond.instanceMethod yX9_rule ∈ ex_tb ∧ Cond.selects yX9_rule.cls yX9_rule yX9_rule ∈ ex_tb := ⟨tw_866, tw_867⟩
theorem mwX8_one : MW yX8_one cX8_one 3 (some .int) 2 := ⟨tw_869, tw_450, by decide +kernel, by decide +kernel, by decide +kernel⟩
theorem mvX8_one : Cond.instanceMethod yX8_one ∈ ex_tb ∧ Cond.selects yX8_one.cls yX8_one yX8_one ∈ ex_tb := ⟨tw_870, tw_871⟩
theorem mwX9_one : MW yX9_one cX9_one 3 (some .int) 2 := ⟨tw_873, tw_609, by decide +kernel, by decide +kernel, by decide +kernel⟩
theorem mvX9_one : Cond.instanceMethod yX9_one ∈ ex_tb ∧ Cond.selects yX9_one.cls yX9_one yX9_one ∈ ex_tb := ⟨tw_874, tw_875⟩
theorem mwX8_thing : MW yX8_thing cX8_thing 3 (some .int) 2 := ⟨tw_877, tw_450, by decide +kernel, by decide +kernel, by decide +kernel⟩
theorem mvX8_thing : Cond.instanceMethod yX8_thing ∈ ex_tb ∧ Cond.selects yX8_thing.cls yX8_thing yX8_thing ∈ ex_tb := ⟨tw_878, tw_879⟩
theorem mwX9_thing : MW yX9_thing cX9_thing 3 (some .int) 2 := ⟨tw_881, tw_609, by decide +kernel, by decide +kernel, by decide +kernel⟩
theorem mvX9_thing : Cond.instanceMethod yX9_thing ∈ ex_tb ∧ Cond.selects yX9_thing.cls yX9_thing yX9_thing ∈ ex_tb := ⟨tw_882, tw_883⟩
theorem mwX8_rota : MW yX8_rota cX8_rota 2 (some .int) 1 := ⟨tw_885, tw_450, by decide +kernel, by decide +kernel, by decide +kernel⟩
theorem mvX8_rota : Cond.instanceMethod yX8_rota ∈ ex_tb ∧ Cond.selects yX8_rota.cls yX8_rota yX8_rota ∈ ex_tb := ⟨tw_886, tw_887⟩
theorem mwX9_rota : MW yX9_rota cX9_rota 2 (some .int) 1 := ⟨tw_889, tw_609, by decide +kernel, by decide +kernel, by decide +kernel⟩
theorem mvX9_rota : Cond.instanceMethod yX9_rota ∈ ex_tb ∧ Cond.selects yX9_rota.cls yX9_rota yX9_rota ∈ ex_tb := ⟨tw_890, tw_891⟩
theorem mwX8_turn : MW yX8_turn cX8_turn 3 (some .int) 2 := ⟨tw_893, tw_450, by decide +kernel, by decide +kernel, by decide +kernel⟩
theorem mvX8_turn : Cond.instanceMethod yX8_turn ∈ ex_tb ∧ Cond.selects yX8_turn.cls yX8_turn yX8_turn ∈ ex_tb := ⟨tw_894, tw_895⟩
theorem mwX9_turn : MW yX9_turn cX9_turn 3 (some .int) 2 := ⟨tw_897, tw_609, by decide +kernel, by decide +kernel, by decide +kernel⟩
theorem mvX9_turn : Cond.instanceMethod yX9_turn ∈ ex_tb ∧ Cond.selects yX9_turn.cls yX9_turn yX9_turn ∈ ex_tb := ⟨tw_898, tw_899⟩
theorem mwX8_work : MW yX8_work cX8_work 3 (some .int) 2 := ⟨tw_901, tw_450, by decide +kernel, by decide +kernel, by decide +kernel⟩
theorem mvX8_work : Cond.instanceMethod yX8_work ∈ ex_tb ∧ Cond.selects yX8_work.cls yX8_work yX8_work ∈ ex_tb := ⟨tw_902, tw_903⟩
theorem mwX9_work : MW yX9_work cX9_work 3 (some .int) 2 := ⟨tw_905, tw_609, by decide +kernel, by decide +kernel, by decide +kernel⟩
theorem mvX9_work : Cond.instanceMethod yX9_work ∈ ex_tb ∧ Cond.selects yX9_work.cls yX9_work yX9_work ∈ ex_tb := ⟨tw_906, tw_907⟩
theorem mwX8_telling : MW yX8_telling cX8_telling 3 (some .int) 2 := ⟨tw_909, tw_450, by decide +kernel, by decide +kernel, by decide +kernel⟩
theorem mvX8_telling : Cond.instanceMethod yX8_telling ∈ ex_tb ∧ Cond.selects yX8_telling.cls yX8_telling yX8_telling ∈ ex_tb := ⟨tw_910, tw_911⟩
theorem mwX9_telling : MW yX9_telling cX9_telling 3 (some .int) 2 := ⟨tw_913, tw_609, by decide +kernel, by decide +kernel, by decide +kernel⟩
theorem mvX9_telling : Cond.instanceMethod yX9_telling ∈ ex_tb ∧ Cond.selects yX9_telling.cls yX9_telling yX9_telling ∈ ex_tb := ⟨tw_914, tw_915⟩
theorem mwX8_alter : MW yX8_alter cX8_alter 5 (some .int) 3 := ⟨tw_917, tw_450, by decide +kernel, by decide +kernel, by decide +kernel⟩
theorem mvX8_alter : Cond.instanceMethod yX8_alter ∈ ex_tb ∧ Cond.selects yX8_alter.cls yX8_alter yX8_alter ∈ ex_tb := ⟨tw_918, tw_919⟩
theorem mwX9_alter : MW yX9_alter cX9_alter 4 (some .int) 3 := ⟨tw_921, tw_609, by decide +kernel, by decide +kernel, by decide +kernel⟩
theorem mvX9_alter : Cond.instanceMethod yX9_alter ∈ ex_tb ∧ Cond.selects yX9_alter.cls yX9_alter yX9_alter ∈ ex_tb := ⟨tw_922, tw_923⟩
theorem mwX8_paint : MW yX8_paint cX8_paint 4 (some .int) 2 := ⟨tw_925, tw_450, by decide +kernel, by decide +kernel, by decide +kernel⟩
theorem mvX8_paint : Cond.instanceMethod yX8_paint ∈ ex_tb ∧ Cond.selects yX8_paint.cls yX8_paint yX8_paint ∈ ex_tb := ⟨tw_926, tw_927⟩
theorem mwX9_paint : MW yX9_paint cX9_paint 3 (some .int) 2 := ⟨tw_929, tw_609, by decide +kernel, by decide +kernel, by decide +kernel⟩
theorem mvX9_paint : Cond.instanceMethod yX9_paint ∈ ex_tb ∧ Cond.selects yX9_paint.cls yX9_paint yX9_paint ∈ ex_tb := ⟨tw_930, tw_931⟩
theorem mwX8_shift : MW yX8_shift cX8_shift 4 (some .int) 2 := ⟨tw_933, tw_450, by decide +kernel, by decide +kernel, by decide +kernel⟩
theorem mvX8_shift : Cond.instanceMethod yX8_shift ∈ ex_tb ∧ Cond.selects yX8_shift.cls yX8_shift yX8_shift ∈ ex_tb := ⟨tw_934, tw_935⟩
theorem mwX9_shift : MW yX9_shift cX9_shift 3 (some .int) 2 := ⟨tw_937, tw_609, by decide +kernel, by decide +kernel, by decide +kernel⟩
theorem mvX9_shift : Cond.instanceMethod yX9_shift ∈ ex_tb ∧ Cond.selects yX9_shift.cls yX9_shift yX9_shift ∈ ex_tb := ⟨tw_938, tw_939⟩
theorem mwX8_assign : MW yX8_assign cX8_assign 5 (some .int) 4 := ⟨tw_941, tw_450, by decide +kernel, by decide +kernel, by decide +kernel⟩
theorem mvX8_assign : Cond.instanceMethod yX8_assign ∈ ex_tb ∧ Cond.selects yX8_assign.cls yX8_assign yX8_assign ∈ ex_tb := ⟨tw_942, tw_943⟩
theorem mwX9_assign : MW yX9_assign cX9_assign 6 (some .int) 4 := ⟨tw_945, tw_609, by decide +kernel, by decide +kernel, by decide +kernel⟩
theorem mvX9_assign : Cond.instanceMethod yX9_assign ∈ ex_tb ∧ Cond.selects yX9_assign.cls yX9_assign yX9_assign ∈ ex_tb := ⟨tw_946, tw_947⟩
theorem mwX8_change : MW yX8_change cX8_change 4 (some .int) 3 := ⟨tw_949, tw_450, by decide +kernel, by decide +kernel, by decide +kernel⟩
theorem mvX8_change : Cond.instanceMethod yX8_change ∈ ex_tb ∧ Cond.selects yX8_change.cls yX8_change yX8_change ∈ ex_tb := ⟨tw_950, tw_951⟩
theorem mwX9_change : MW yX9_change cX9_change 5 (some .int) 3 := ⟨tw_953, tw_609, by decide +kernel, by decide +kernel, by decide +kernel⟩
theorem mvX9_change : Cond.instanceMethod yX9_change ∈ ex_tb ∧ Cond.selects yX9_change.cls yX9_change yX9_change ∈ ex_tb := ⟨tw_954, tw_955⟩
theorem mwX8_tell : MW yX8_tell cX8_tell 5 (some .int) 4 := ⟨tw_957, tw_450, by decide +kernel, by decide +kernel, by decide +kernel⟩
theorem mvX8_tell : Cond.instanceMethod yX8_tell ∈ ex_tb ∧ Cond.selects yX8_tell.cls yX8_tell yX8_tell ∈ ex_tb := ⟨tw_958, tw_959⟩
theorem mwX9_tell : MW yX9_tell cX9_tell 6 (some .int) 4 := ⟨tw_961, tw_609, by decide +kernel, by decide +kernel, by decide +kernel⟩
theorem mvX9_tell : Cond.instanceMethod yX9_tell ∈ ex_tb ∧ Cond.selects yX9_tell.cls yX9_tell yX9_tell ∈ ex_tb := ⟨tw_962, tw_963⟩
theorem mwX8_drop : MW yX8_drop cX8_drop 3 (some .int) 2 := ⟨tw_965, tw_450, by decide +kernel, by decide +kernel, by decide +kernel⟩
theorem mvX8_drop : Cond.instanceMethod yX8_drop ∈ ex_tb ∧ Cond.selects yX8_drop.cls yX8_drop yX8_drop ∈ ex_tb := ⟨tw_966, tw_967⟩
theorem mwX9_drop : MW yX9_drop cX9_drop 4 (some .int) 2 := ⟨tw_969, tw_609, by decide +kernel, by decide +kernel, by decide +kernel⟩
theorem mvX9_drop : Cond.instanceMethod yX9_drop ∈ ex_tb ∧ Cond.selects yX9_drop.cls yX9_drop yX9_drop ∈ ex_tb := ⟨tw_970, tw_971⟩
theorem mwX8_sees : MW yX8_sees cX8_sees 2 (some .int) 1 := ⟨tw_973, tw_450, by decide +kernel, by decide +kernel, by decide +kernel⟩
theorem mvX8_sees : Cond.instanceMethod yX8_sees ∈ ex_tb ∧ Cond.selects yX8_sees.cls yX8_sees yX8_sees ∈ ex_tb := ⟨tw_974, tw_975⟩
theorem mwX9_sees : MW yX9_sees cX9_sees 2 (some .int) 1 := ⟨tw_977, tw_609, by decide +kernel, by decide +kernel, by decide +kernel⟩
theorem mvX9_sees : Cond.instanceMethod yX9_sees ∈ ex_tb ∧ Cond.selects yX9_sees.cls yX9_sees yX9_sees ∈ ex_tb := ⟨tw_978, tw_979⟩
theorem mwX8_belief : MW yX8_belief cX8_belief 5 (some .int) 4 := ⟨tw_981, tw_450, by decide +kernel, by decide +kernel, by decide +kernel⟩
theorem mvX8_belief : Cond.instanceMethod yX8_belief ∈ ex_tb ∧ Cond.selects yX8_belief.cls yX8_belief yX8_belief ∈ ex_tb := ⟨tw_982, tw_983⟩
theorem mwX9_belief : MW yX9_belief cX9_belief 6 (some .int) 4 := ⟨tw_985, tw_609, by decide +kernel, by decide +kernel, by decide +kernel⟩
theorem mvX9_belief : Cond.instanceMethod yX9_belief ∈ ex_tb ∧ Cond.selects yX9_belief.cls yX9_belief yX9_belief ∈ ex_tb := ⟨tw_986, tw_987⟩
theorem mwX8_right : MW yX8_right cX8_right 4 (some .int) 3 := ⟨tw_989, tw_450, by decide +kernel, by decide +kernel, by decide +kernel⟩
theorem mvX8_right : Cond.instanceMethod yX8_right ∈ ex_tb ∧ Cond.selects yX8_right.cls yX8_right yX8_right ∈ ex_tb := ⟨tw_990, tw_991⟩
theorem mwX9_right : MW yX9_right cX9_right 4 (some .int) 3 := ⟨tw_993, tw_609, by decide +kernel, by decide +kernel, by decide +kernel⟩
theorem mvX9_right : Cond.instanceMethod yX9_right ∈ ex_tb ∧ Cond.selects yX9_right.cls yX9_right yX9_right ∈ ex_tb := ⟨tw_994, tw_995⟩
theorem mwX8_wrong : MW yX8_wrong cX8_wrong 4 (some .int) 2 := ⟨tw_997, tw_450, by decide +kernel, by decide +kernel, by decide +kernel⟩
theorem mvX8_wrong : Cond.instanceMethod yX8_wrong ∈ ex_tb ∧ Cond.selects yX8_wrong.cls yX8_wrong yX8_wrong ∈ ex_tb := ⟨tw_998, tw_999⟩
theorem mwX9_wrong : MW yX9_wrong cX9_wrong 4 (some .int) 2 := ⟨tw_1001, tw_609, by decide +kernel, by decide +kernel, by decide +kernel⟩
theorem mvX9_wrong : Cond.instanceMethod yX9_wrong ∈ ex_tb ∧ Cond.selects yX9_wrong.cls yX9_wrong yX9_wrong ∈ ex_tb := ⟨tw_1002, tw_1003⟩
theorem mwX8_done : MW yX8_done cX8_done 2 (some .int) 1 := ⟨tw_1005, tw_450, by decide +kernel, by decide +kernel, by decide +kernel⟩
theorem mvX8_done : Cond.instanceMethod yX8_done ∈ ex_tb ∧ Cond.selects yX8_done.cls yX8_done yX8_done ∈ ex_tb := ⟨tw_1006, tw_1007⟩
theorem mwX9_done : MW yX9_done cX9_done 3 (some .int) 1 := ⟨tw_1009, tw_609, by decide +kernel, by decide +kernel, by decide +kernel⟩
theorem mvX9_done : Cond.instanceMethod yX9_done ∈ ex_tb ∧ Cond.selects yX9_done.cls yX9_done yX9_done ∈ ex_tb := ⟨tw_1010, tw_1011⟩
theorem mwX8_best : MW yX8_best cX8_best 2 (some .int) 1 := ⟨tw_1013, tw_450, by decide +kernel, by decide +kernel, by decide +kernel⟩
theorem mvX8_best : Cond.instanceMethod yX8_best ∈ ex_tb ∧ Cond.selects yX8_best.cls yX8_best yX8_best ∈ ex_tb := ⟨tw_1014, tw_1015⟩
theorem mwX9_best : MW yX9_best cX9_best 8 (some .int) 1 := ⟨tw_1017, tw_609, by decide +kernel, by decide +kernel, by decide +kernel⟩
theorem mvX9_best : Cond.instanceMethod yX9_best ∈ ex_tb ∧ Cond.selects yX9_best.cls yX9_best yX9_best ∈ ex_tb := ⟨tw_1018, tw_1019⟩
theorem mwX8_swap : MW yX8_swap cX8_swap 7 (some .int) 1 := ⟨tw_1021, tw_450, by decide +kernel, by decide +kernel, by decide +kernel⟩
theorem mvX8_swap : Cond.instanceMethod yX8_swap ∈ ex_tb ∧ Cond.selects yX8_swap.cls yX8_swap yX8_swap ∈ ex_tb := ⟨tw_1022, tw_1023⟩
theorem mwX9_swap : MW yX9_swap cX9_swap 9 (some .int) 1 := ⟨tw_1025, tw_609, by decide +kernel, by decide +kernel, by decide +kernel⟩
theorem mvX9_swap : Cond.instanceMethod yX9_swap ∈ ex_tb ∧ Cond.selects yX9_swap.cls yX9_swap yX9_swap ∈ ex_tb := ⟨tw_1026, tw_1027⟩
theorem mwX8_give : MW yX8_give cX8_give 7 (some .int) 1 := ⟨tw_1029, tw_450, by decide +kernel, by decide +kernel, by decide +kernel⟩
theorem mvX8_give : Cond.instanceMethod yX8_give ∈ ex_tb ∧ Cond.selects yX8_give.cls yX8_give yX8_give ∈ ex_tb := ⟨tw_1030, tw_1031⟩
theorem mwX9_give : MW yX9_give cX9_give 8 (some .int) 1 := ⟨tw_1033, tw_609, by decide +kernel, by decide +kernel, by decide +kernel⟩
theorem mvX9_give : Cond.instanceMethod yX9_give ∈ ex_tb ∧ Cond.selects yX9_give.cls yX9_give yX9_give ∈ ex_tb := ⟨tw_1034, tw_1035⟩
theorem mwX8_mend : MW yX8_mend cX8_mend 3 (some .int) 1 := ⟨tw_1037, tw_450, by decide +kernel, by decide +kernel, by decide +kernel⟩
theorem mvX8_mend : Cond.instanceMethod yX8_mend ∈ ex_tb ∧ Cond.selects yX8_mend.cls yX8_mend yX8_mend ∈ ex_tb := ⟨tw_1038, tw_1039⟩
theorem mwX9_mend : MW yX9_mend cX9_mend 3 (some .int) 1 := ⟨tw_1041, tw_609, by decide +kernel, by decide +kernel, by decide +kernel⟩
theorem mvX9_mend : Cond.instanceMethod yX9_mend ∈ ex_tb ∧ Cond.selects yX9_mend.cls yX9_mend yX9_mend ∈ ex_tb := ⟨tw_1042, tw_1043⟩
theorem mwX8_luck : MW yX8_luck cX8_luck 4 (some .long) 3 := ⟨tw_1045, tw_450, by decide +kernel, by decide +kernel, by decide +kernel⟩
theorem mvX8_luck : Cond.instanceMethod yX8_luck ∈ ex_tb ∧ Cond.selects yX8_luck.cls yX8_luck yX8_luck ∈ ex_tb := ⟨tw_1046, tw_1047⟩
theorem mwX9_luck : MW yX9_luck cX9_luck 4 (some .long) 3 := ⟨tw_1049, tw_609, by decide +kernel, by decide +kernel, by decide +kernel⟩
theorem mvX9_luck : Cond.instanceMethod yX9_luck ∈ ex_tb ∧ Cond.selects yX9_luck.cls yX9_luck yX9_luck ∈ ex_tb := ⟨tw_1050, tw_1051⟩
theorem mwX8_mean : MW yX8_mean cX8_mean 6 (some .long) 2 := ⟨tw_1053, tw_450, by decide +kernel, by decide +kernel, by decide +kernel⟩
theorem mvX8_mean : Cond.instanceMethod yX8_mean ∈ ex_tb ∧ Cond.selects yX8_mean.cls yX8_mean yX8_mean ∈ ex_tb := ⟨tw_1054, tw_1055⟩
theorem mwX9_mean : MW yX9_mean cX9_mean 3 (some .long) 2 := ⟨tw_1057, tw_609, by decide +kernel, by decide +kernel, by decide +kernel⟩
theorem mvX9_mean : Cond.instanceMethod yX9_mean ∈ ex_tb ∧ Cond.selects yX9_mean.cls yX9_mean yX9_mean ∈ ex_tb := ⟨tw_1058, tw_1059⟩
theorem mwX8_see : MW yX8_see cX8_see 5 (some .int) 4 := ⟨tw_1061, tw_450, by decide +kernel, by decide +kernel, by decide +kernel⟩
theorem mvX8_see : Cond.instanceMethod yX8_see ∈ ex_tb ∧ Cond.selects yX8_see.cls yX8_see yX8_see ∈ ex_tb := ⟨tw_1062, tw_1063⟩
theorem mwX9_see : MW yX9_see cX9_see 5 (some .int) 4 := ⟨tw_1065, tw_609, by decide +kernel, by decide +kernel, by decide +kernel⟩
theorem mvX9_see : Cond.instanceMethod yX9_see ∈ ex_tb ∧ Cond.selects yX9_see.cls yX9_see yX9_see ∈ ex_tb := ⟨tw_1066, tw_1067⟩
theorem mwX8_forget : MW yX8_forget cX8_forget 2 (some .int) 1 := ⟨tw_1069, tw_450, by decide +kernel, by decide +kernel, by decide +kernel⟩
theorem mvX8_forget : Cond.instanceMethod yX8_forget ∈ ex_tb ∧ Cond.selects yX8_forget.cls yX8_forget yX8_forget ∈ ex_tb := ⟨tw_1070, tw_1071⟩
theorem mwX9_forget : MW yX9_forget cX9_forget 3 (some .int) 1 := ⟨tw_1073, tw_609, by decide +kernel, by decide +kernel, by decide +kernel⟩
theorem mvX9_forget : Cond.instanceMethod yX9_forget ∈ ex_tb ∧ Cond.selects yX9_forget.cls yX9_forget yX9_forget ∈ ex_tb := ⟨tw_1074, tw_1075⟩
theorem mwX8_may : MW yX8_may cX8_may 2 (some .int) 1 := ⟨tw_1077, tw_450, by decide +kernel, by decide +kernel, by decide +kernel⟩
theorem mvX8_may : Cond.instanceMethod yX8_may ∈ ex_tb ∧ Cond.selects yX8_may.cls yX8_may yX8_may ∈ ex_tb := ⟨tw_1078, tw_1079⟩
theorem mwX9_may : MW yX9_may cX9_may 2 (some .int) 1 := ⟨tw_1081, tw_609, by decide +kernel, by decide +kernel, by decide +kernel⟩
theorem mvX9_may : Cond.instanceMethod yX9_may ∈ ex_tb ∧ Cond.selects yX9_may.cls yX9_may yX9_may ∈ ex_tb := ⟨tw_1082, tw_1083⟩
theorem mwX8_ask : MW yX8_ask cX8_ask 9 (some .int) 2 := ⟨tw_1085, tw_450, by decide +kernel, by decide +kernel, by decide +kernel⟩
theorem mvX8_ask : Cond.instanceMethod yX8_ask ∈ ex_tb ∧ Cond.selects yX8_ask.cls yX8_ask yX8_ask ∈ ex_tb := ⟨tw_1086, tw_1087⟩
theorem mwX9_ask : MW yX9_ask cX9_ask 11 (some .int) 2 := ⟨tw_1089, tw_609, by decide +kernel, by decide +kernel, by decide +kernel⟩
theorem mvX9_ask : Cond.instanceMethod yX9_ask ∈ ex_tb ∧ Cond.selects yX9_ask.cls yX9_ask yX9_ask ∈ ex_tb := ⟨tw_1090, tw_1091⟩
theorem mwX8_drift : MW yX8_drift cX8_drift 10 (some .int) 3 := ⟨tw_1093, tw_450, by decide +kernel, by decide +kernel, by decide +kernel⟩
theorem mvX8_drift : Cond.instanceMethod yX8_drift ∈ ex_tb ∧ Cond.selects yX8_drift.cls yX8_drift yX8_drift ∈ ex_tb := ⟨tw_1094, tw_1095⟩
theorem mwX9_drift : MW yX9_drift cX9_drift 8 (some .int) 3 := ⟨tw_1097, tw_609, by decide +kernel, by decide +kernel, by decide +kernel⟩
theorem mvX9_drift : Cond.instanceMethod yX9_drift ∈ ex_tb ∧ Cond.selects yX9_drift.cls yX9_drift yX9_drift ∈ ex_tb := ⟨tw_1098, tw_1099⟩
theorem mwX8_keep : MW yX8_keep cX8_keep 3 (some .int) 1 := ⟨tw_1101, tw_450, by decide +kernel, by decide +kernel, by decide +kernel⟩
theorem mvX8_keep : Cond.instanceMethod yX8_keep ∈ ex_tb ∧ Cond.selects yX8_keep.cls yX8_keep yX8_keep ∈ ex_tb := ⟨tw_1102, tw_1103⟩
theorem mwX9_keep : MW yX9_keep cX9_keep 3 (some .int) 1 := ⟨tw_1105, tw_609, by decide +kernel, by decide +kernel, by decide +kernel⟩
theorem mvX9_keep : Cond.instanceMethod yX9_keep ∈ ex_tb ∧ Cond.selects yX9_keep.cls yX9_keep yX9_keep ∈ ex_tb := ⟨tw_1106, tw_1107⟩
theorem mwX8_back : MW yX8_back cX8_back 2 (some .int) 1 := ⟨tw_1109, tw_450, by decide +kernel, by decide +kernel, by decide +kernel⟩
theorem mvX8_back : Cond.instanceMethod yX8_back ∈ ex_tb ∧ Cond.selects yX8_back.cls yX8_back yX8_back ∈ ex_tb := ⟨tw_1110, tw_1111⟩
theorem mwX9_back : MW yX9_back cX9_back 2 (some .int) 1 := ⟨tw_1113, tw_609, by decide +kernel, by decide +kernel, by decide +kernel⟩
theorem mvX9_back : Cond.instanceMethod yX9_back ∈ ex_tb ∧ Cond.selects yX9_back.cls yX9_back yX9_back ∈ ex_tb := ⟨tw_1114, tw_1115⟩
theorem mwX8_sheet : MW yX8_sheet cX8_sheet 4 (some .int) 3 := ⟨tw_1117, tw_450, by decide +kernel, by decide +kernel, by decide +kernel⟩
theorem mvX8_sheet : Cond.instanceMethod yX8_sheet ∈ ex_tb ∧ Cond.selects yX8_sheet.cls yX8_sheet yX8_sheet ∈ ex_tb := ⟨tw_1118, tw_1119⟩
theorem mwX9_sheet : MW yX9_sheet cX9_sheet 5 (some .int) 3 := ⟨tw_1121, tw_609, by decide +kernel, by decide +kernel, by decide +kernel⟩
theorem mvX9_sheet : Cond.instanceMethod yX9_sheet ∈ ex_tb ∧ Cond.selects yX9_sheet.cls yX9_sheet yX9_sheet ∈ ex_tb := ⟨tw_1122, tw_1123⟩
theorem mwX8_lay : MW yX8_lay cX8_lay 6 (some .int) 3 := ⟨tw_1125, tw_450, by decide +kernel, by decide +kernel, by decide +kernel⟩
theorem mvX8_lay : Cond.instanceMethod yX8_lay ∈ ex_tb ∧ Cond.selects yX8_lay.cls yX8_lay yX8_lay ∈ ex_tb := ⟨tw_1126, tw_1127⟩
theorem mwX9_lay : MW yX9_lay cX9_lay 4 (some .int) 3 := ⟨tw_1129, tw_609, by decide +kernel, by decide +kernel, by decide +kernel⟩
theorem mvX9_lay : Cond.instanceMethod yX9_lay ∈ ex_tb ∧ Cond.selects yX9_lay.cls yX9_lay yX9_lay ∈ ex_tb := ⟨tw_1130, tw_1131⟩
theorem mwX8_read : MW yX8_read cX8_read 11 (some .int) 4 := ⟨tw_1133, tw_450, by decide +kernel, by decide +kernel, by decide +kernel⟩
theorem mvX8_read : Cond.instanceMethod yX8_read ∈ ex_tb ∧ Cond.selects yX8_read.cls yX8_read yX8_read ∈ ex_tb := ⟨tw_1134, tw_1135⟩
theorem mwX9_read : MW yX9_read cX9_read 9 (some .int) 4 := ⟨tw_1137, tw_609, by decide +kernel, by decide +kernel, by decide +kernel⟩
theorem mvX9_read : Cond.instanceMethod yX9_read ∈ ex_tb ∧ Cond.selects yX9_read.cls yX9_read yX9_read ∈ ex_tb := ⟨tw_1138, tw_1139⟩
theorem mwX8_torn : MW yX8_torn cX8_torn 1 (some .int) 0 := ⟨tw_1141, tw_450, by decide +kernel, by decide +kernel, by decide +kernel⟩
theorem mvX8_torn : Cond.instanceMethod yX8_torn ∈ ex_tb ∧ Cond.selects yX8_torn.cls yX8_torn yX8_torn ∈ ex_tb := ⟨tw_1142, tw_1143⟩
theorem mwX9_torn : MW yX9_torn cX9_torn 1 (some .int) 0 := ⟨tw_1145, tw_609, by decide +kernel, by decide +kernel, by decide +kernel⟩
theorem mvX9_torn : Cond.instanceMethod yX9_torn ∈ ex_tb ∧ Cond.selects yX9_torn.cls yX9_torn yX9_torn ∈ ex_tb := ⟨tw_1146, tw_1147⟩
theorem mwX8_count : MW yX8_count cX8_count 2 (some .int) 1 := ⟨tw_1149, tw_450, by decide +kernel, by decide +kernel, by decide +kernel⟩
theorem mvX8_count : Cond.instanceMethod yX8_count ∈ ex_tb ∧ Cond.selects yX8_count.cls yX8_count yX8_count ∈ ex_tb := ⟨tw_1150, tw_1151⟩
theorem mwX9_count : MW yX9_count cX9_count 2 (some .int) 1 := ⟨tw_1153, tw_609, by decide +kernel, by decide +kernel, by decide +kernel⟩
theorem mvX9_count : Cond.instanceMethod yX9_count ∈ ex_tb ∧ Cond.selects yX9_count.cls yX9_count yX9_count ∈ ex_tb := ⟨tw_1154, tw_1155⟩
