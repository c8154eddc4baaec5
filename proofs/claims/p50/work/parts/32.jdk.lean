/-! The library's own methods: the builder's. -/
set_option maxRecDepth 100000 in
theorem jw_fl_32 : Cond.fieldLink RJ5 79 "java/lang/AbstractStringBuilder" "count" "I" ∈ q_W := q_t1 159 rfl rfl
set_option maxRecDepth 100000 in
theorem jw_ml_33 : Cond.methodLink RJ5 100 yJ5_ensureCapacityInternal_d00df ∈ q_W := q_t1 180 rfl rfl
set_option maxRecDepth 100000 in
theorem jw_sa_34 : Cond.sameMethod "java/lang/AbstractStringBuilder" "java/lang/AbstractStringBuilder" "ensureCapacityInternal" "(I)V" ∈ q_W := q_t6 172 rfl rfl
set_option maxRecDepth 100000 in
theorem jw_in_35 : Cond.instanceMethod yJ5_ensureCapacityInternal_d00df ∈ q_W := q_t1 182 rfl rfl
set_option maxRecDepth 100000 in
theorem jw_co_36 : Cond.code yJ5_ensureCapacityInternal_d00df cJ5_ensureCapacityInternal_d00df 3 (Option.none : Option Jvm.ClassFile.FieldType) ∈ q_W := q_t1 183 rfl rfl
set_option maxRecDepth 100000 in
theorem jw_ml_37 : Cond.methodLink RJ5 83 yJ5_isLatin1_aae02 ∈ q_W := q_t1 215 rfl rfl
set_option maxRecDepth 100000 in
theorem jw_sa_38 : Cond.sameMethod "java/lang/AbstractStringBuilder" "java/lang/AbstractStringBuilder" "isLatin1" "()Z" ∈ q_W := q_t1 217 rfl rfl
set_option maxRecDepth 100000 in
theorem jw_se_39 : Cond.selects "java/lang/StringBuilder" yJ5_isLatin1_aae02 yJ5_isLatin1_aae02 ∈ q_W := q_t1 218 rfl rfl
set_option maxRecDepth 100000 in
theorem jw_in_40 : Cond.instanceMethod yJ5_isLatin1_aae02 ∈ q_W := q_t1 216 rfl rfl
set_option maxRecDepth 100000 in
theorem jw_co_41 : Cond.code yJ5_isLatin1_aae02 cJ5_isLatin1_aae02 1 (Option.some Jvm.ClassFile.FieldType.boolean) ∈ q_W := q_t1 219 rfl rfl
set_option maxRecDepth 100000 in
theorem jw_ml_42 : Cond.methodLink RJ5 191 yJ1_canEncode_fc78d ∈ q_W := q_t2 209 rfl rfl
set_option maxRecDepth 100000 in
theorem jw_st_43 : Cond.static yJ1_canEncode_fc78d ∈ q_W := q_t2 210 rfl rfl
set_option maxRecDepth 100000 in
theorem jw_ii_44 : Cond.initialized "java/lang/StringLatin1" ∈ q_W := q_t1 29 rfl rfl
set_option maxRecDepth 100000 in
theorem jw_co_45 : Cond.code yJ1_canEncode_fc78d cJ1_canEncode_fc78d 1 (Option.some Jvm.ClassFile.FieldType.boolean) ∈ q_W := q_t2 211 rfl rfl
set_option maxRecDepth 100000 in
theorem jw_ml_46 : Cond.methodLink RJ5 245 yJ6_stringSize_0f7a4 ∈ q_W := q_t2 56 rfl rfl
set_option maxRecDepth 100000 in
theorem jw_st_47 : Cond.static yJ6_stringSize_0f7a4 ∈ q_W := q_t2 57 rfl rfl
set_option maxRecDepth 100000 in
theorem jw_ii_48 : Cond.initialized "java/lang/Integer" ∈ q_W := q_t1 31 rfl rfl
set_option maxRecDepth 100000 in
theorem jw_co_49 : Cond.code yJ6_stringSize_0f7a4 cJ6_stringSize_0f7a4 4 (Option.some Jvm.ClassFile.FieldType.int) ∈ q_W := q_t2 58 rfl rfl
set_option maxRecDepth 100000 in
theorem jw_ml_50 : Cond.methodLink RJ5 248 yJ6_getChars_ba4f3 ∈ q_W := q_t2 59 rfl rfl
set_option maxRecDepth 100000 in
theorem jw_st_51 : Cond.static yJ6_getChars_ba4f3 ∈ q_W := q_t2 60 rfl rfl
set_option maxRecDepth 100000 in
theorem jw_co_52 : Cond.code yJ6_getChars_ba4f3 cJ6_getChars_ba4f3 7 (Option.some Jvm.ClassFile.FieldType.int) ∈ q_W := q_t2 61 rfl rfl
set_option maxRecDepth 100000 in
theorem jw_ml_53 : Cond.methodLink RJ5 138 Lib.Math.min.name ∈ q_W := q_t5 216 rfl rfl
set_option maxRecDepth 100000 in
theorem jw_ml_54 : Cond.methodLink RJ5 144 yJ0_checkIndex_df160 ∈ q_W := q_t5 217 rfl rfl
set_option maxRecDepth 100000 in
theorem jw_st_55 : Cond.static yJ0_checkIndex_df160 ∈ q_W := q_t2 219 rfl rfl
set_option maxRecDepth 100000 in
theorem jw_ii_56 : Cond.initialized "java/lang/String" ∈ q_W := q_t1 10 rfl rfl
set_option maxRecDepth 100000 in
theorem jw_co_57 : Cond.code yJ0_checkIndex_df160 cJ0_checkIndex_df160 2 (Option.none : Option Jvm.ClassFile.FieldType) ∈ q_W := q_t2 220 rfl rfl
set_option maxRecDepth 100000 in
theorem jw_fl_58 : Cond.fieldLink RJ5 73 "java/lang/AbstractStringBuilder" "maybeLatin1" "Z" ∈ q_W := q_t1 157 rfl rfl
set_option maxRecDepth 100000 in
theorem jw_ml_59 : Cond.methodLink RJ4 50 yJ5_append_3fe6f ∈ q_W := q_t2 206 rfl rfl
set_option maxRecDepth 100000 in
theorem jw_sa_60 : Cond.sameMethod "java/lang/AbstractStringBuilder" "java/lang/AbstractStringBuilder" "append" "(C)Ljava/lang/AbstractStringBuilder;" ∈ q_W := q_t6 178 rfl rfl
set_option maxRecDepth 100000 in
theorem jw_su_61 : Cond.superclass "java/lang/StringBuilder" "java/lang/AbstractStringBuilder" ∈ q_W := q_t1 129 rfl rfl
set_option maxRecDepth 100000 in
theorem jw_in_62 : Cond.instanceMethod yJ5_append_3fe6f ∈ q_W := q_t2 207 rfl rfl
set_option maxRecDepth 100000 in
theorem jw_co_63 : Cond.code yJ5_append_3fe6f cJ5_append_3fe6f 2 (Option.some (Jvm.ClassFile.FieldType.object "java/lang/AbstractStringBuilder")) ∈ q_W := q_t2 208 rfl rfl
set_option maxRecDepth 100000 in
theorem jw_ml_64 : Cond.methodLink RJ4 53 yJ5_append_c97b9 ∈ q_W := q_t2 53 rfl rfl
set_option maxRecDepth 100000 in
theorem jw_sa_65 : Cond.sameMethod "java/lang/AbstractStringBuilder" "java/lang/AbstractStringBuilder" "append" "(I)Ljava/lang/AbstractStringBuilder;" ∈ q_W := q_t6 177 rfl rfl
set_option maxRecDepth 100000 in
theorem jw_in_66 : Cond.instanceMethod yJ5_append_c97b9 ∈ q_W := q_t2 54 rfl rfl
set_option maxRecDepth 100000 in
theorem jw_co_67 : Cond.code yJ5_append_c97b9 cJ5_append_c97b9 4 (Option.some (Jvm.ClassFile.FieldType.object "java/lang/AbstractStringBuilder")) ∈ q_W := q_t2 55 rfl rfl
set_option maxRecDepth 100000 in
theorem jw_ml_68 : Cond.methodLink RJ4 329 yJ5_charAt_5068e ∈ q_W := q_t5 213 rfl rfl
set_option maxRecDepth 100000 in
theorem jw_sa_69 : Cond.sameMethod "java/lang/AbstractStringBuilder" "java/lang/AbstractStringBuilder" "charAt" "(I)C" ∈ q_W := q_t6 180 rfl rfl
set_option maxRecDepth 100000 in
theorem jw_in_70 : Cond.instanceMethod yJ5_charAt_5068e ∈ q_W := q_t5 214 rfl rfl
set_option maxRecDepth 100000 in
theorem jw_co_71 : Cond.code yJ5_charAt_5068e cJ5_charAt_5068e 5 (Option.some Jvm.ClassFile.FieldType.char) ∈ q_W := q_t5 215 rfl rfl
set_option maxRecDepth 100000 in
theorem jw_ml_72 : Cond.methodLink RJ4 343 yJ5_length_8abf5 ∈ q_W := q_t2 98 rfl rfl
set_option maxRecDepth 100000 in
theorem jw_sa_73 : Cond.sameMethod "java/lang/AbstractStringBuilder" "java/lang/AbstractStringBuilder" "length" "()I" ∈ q_W := q_t2 94 rfl rfl
set_option maxRecDepth 100000 in
theorem jw_in_74 : Cond.instanceMethod yJ5_length_8abf5 ∈ q_W := q_t2 93 rfl rfl
set_option maxRecDepth 100000 in
theorem jw_co_75 : Cond.code yJ5_length_8abf5 cJ5_length_8abf5 1 (Option.some Jvm.ClassFile.FieldType.int) ∈ q_W := q_t2 99 rfl rfl
set_option maxRecDepth 100000 in
theorem jw_ml_76 : Cond.methodLink RJ4 333 yJ5_setLength_d00df ∈ q_W := q_t1 128 rfl rfl
set_option maxRecDepth 100000 in
theorem jw_sa_77 : Cond.sameMethod "java/lang/AbstractStringBuilder" "java/lang/AbstractStringBuilder" "setLength" "(I)V" ∈ q_W := q_t6 169 rfl rfl
set_option maxRecDepth 100000 in
theorem jw_in_78 : Cond.instanceMethod yJ5_setLength_d00df ∈ q_W := q_t1 130 rfl rfl
set_option maxRecDepth 100000 in
theorem jw_co_79 : Cond.code yJ5_setLength_d00df cJ5_setLength_d00df 2 (Option.none : Option Jvm.ClassFile.FieldType) ∈ q_W := q_t1 131 rfl rfl
theorem dJ4_append_bf812_0 : decode cJ4_append_bf812 0 = .ok (.aload_n 0, 1) := by decide +kernel
theorem dJ4_append_bf812_1 : decode cJ4_append_bf812 1 = .ok (.iload_n 1, 1) := by decide +kernel
theorem dJ4_append_bf812_2 : decode cJ4_append_bf812 2 = .ok (.invokespecial 53, 3) := by decide +kernel
theorem dJ4_append_bf812_5 : decode cJ4_append_bf812 5 = .ok (.pop, 1) := by decide +kernel
theorem dJ4_append_bf812_6 : decode cJ4_append_bf812 6 = .ok (.aload_n 0, 1) := by decide +kernel
theorem dJ4_append_bf812_7 : decode cJ4_append_bf812 7 = .ok (.areturn, 1) := by decide +kernel
theorem dJ4_append_cf468_0 : decode cJ4_append_cf468 0 = .ok (.aload_n 0, 1) := by decide +kernel
theorem dJ4_append_cf468_1 : decode cJ4_append_cf468 1 = .ok (.iload_n 1, 1) := by decide +kernel
theorem dJ4_append_cf468_2 : decode cJ4_append_cf468 2 = .ok (.invokespecial 50, 3) := by decide +kernel
theorem dJ4_append_cf468_5 : decode cJ4_append_cf468 5 = .ok (.pop, 1) := by decide +kernel
theorem dJ4_append_cf468_6 : decode cJ4_append_cf468 6 = .ok (.aload_n 0, 1) := by decide +kernel
theorem dJ4_append_cf468_7 : decode cJ4_append_cf468 7 = .ok (.areturn, 1) := by decide +kernel
theorem dJ4_charAt_5068e_0 : decode cJ4_charAt_5068e 0 = .ok (.aload_n 0, 1) := by decide +kernel
theorem dJ4_charAt_5068e_1 : decode cJ4_charAt_5068e 1 = .ok (.iload_n 1, 1) := by decide +kernel
theorem dJ4_charAt_5068e_2 : decode cJ4_charAt_5068e 2 = .ok (.invokespecial 329, 3) := by decide +kernel
theorem dJ4_charAt_5068e_5 : decode cJ4_charAt_5068e 5 = .ok (.ireturn, 1) := by decide +kernel
theorem dJ4_length_8abf5_0 : decode cJ4_length_8abf5 0 = .ok (.aload_n 0, 1) := by decide +kernel
theorem dJ4_length_8abf5_1 : decode cJ4_length_8abf5 1 = .ok (.invokespecial 343, 3) := by decide +kernel
theorem dJ4_length_8abf5_4 : decode cJ4_length_8abf5 4 = .ok (.ireturn, 1) := by decide +kernel
theorem dJ4_setLength_d00df_0 : decode cJ4_setLength_d00df 0 = .ok (.aload_n 0, 1) := by decide +kernel
theorem dJ4_setLength_d00df_1 : decode cJ4_setLength_d00df 1 = .ok (.iload_n 1, 1) := by decide +kernel
theorem dJ4_setLength_d00df_2 : decode cJ4_setLength_d00df 2 = .ok (.invokespecial 333, 3) := by decide +kernel
theorem dJ4_setLength_d00df_5 : decode cJ4_setLength_d00df 5 = .ok (.return_, 1) := by decide +kernel
theorem dJ5_append_3fe6f_0 : decode cJ5_append_3fe6f 0 = .ok (.aload_n 0, 1) := by decide +kernel
theorem dJ5_append_3fe6f_1 : decode cJ5_append_3fe6f 1 = .ok (.aload_n 0, 1) := by decide +kernel
theorem dJ5_append_3fe6f_2 : decode cJ5_append_3fe6f 2 = .ok (.getfield 79, 3) := by decide +kernel
theorem dJ5_append_3fe6f_5 : decode cJ5_append_3fe6f 5 = .ok (.iconst 1, 1) := by decide +kernel
theorem dJ5_append_3fe6f_6 : decode cJ5_append_3fe6f 6 = .ok (.iadd, 1) := by decide +kernel
theorem dJ5_append_3fe6f_7 : decode cJ5_append_3fe6f 7 = .ok (.invokevirtual 100, 3) := by decide +kernel
theorem dJ5_append_3fe6f_10 : decode cJ5_append_3fe6f 10 = .ok (.aload_n 0, 1) := by decide +kernel
theorem dJ5_append_3fe6f_11 : decode cJ5_append_3fe6f 11 = .ok (.invokevirtual 83, 3) := by decide +kernel
theorem dJ5_append_3fe6f_14 : decode cJ5_append_3fe6f 14 = .ok (.ifCond .eq 31, 3) := by decide +kernel
theorem dJ5_append_3fe6f_17 : decode cJ5_append_3fe6f 17 = .ok (.iload_n 1, 1) := by decide +kernel
theorem dJ5_append_3fe6f_18 : decode cJ5_append_3fe6f 18 = .ok (.invokestatic 191, 3) := by decide +kernel
theorem dJ5_append_3fe6f_21 : decode cJ5_append_3fe6f 21 = .ok (.ifCond .eq 24, 3) := by decide +kernel
theorem dJ5_append_3fe6f_24 : decode cJ5_append_3fe6f 24 = .ok (.aload_n 0, 1) := by decide +kernel
theorem dJ5_append_3fe6f_25 : decode cJ5_append_3fe6f 25 = .ok (.getfield 15, 3) := by decide +kernel
theorem dJ5_append_3fe6f_28 : decode cJ5_append_3fe6f 28 = .ok (.aload_n 0, 1) := by decide +kernel
theorem dJ5_append_3fe6f_29 : decode cJ5_append_3fe6f 29 = .ok (.dup, 1) := by decide +kernel
theorem dJ5_append_3fe6f_30 : decode cJ5_append_3fe6f 30 = .ok (.getfield 79, 3) := by decide +kernel
theorem dJ5_append_3fe6f_33 : decode cJ5_append_3fe6f 33 = .ok (.dup_x1, 1) := by decide +kernel
theorem dJ5_append_3fe6f_34 : decode cJ5_append_3fe6f 34 = .ok (.iconst 1, 1) := by decide +kernel
theorem dJ5_append_3fe6f_35 : decode cJ5_append_3fe6f 35 = .ok (.iadd, 1) := by decide +kernel
theorem dJ5_append_3fe6f_36 : decode cJ5_append_3fe6f 36 = .ok (.putfield 79, 3) := by decide +kernel
theorem dJ5_append_3fe6f_39 : decode cJ5_append_3fe6f 39 = .ok (.iload_n 1, 1) := by decide +kernel
theorem dJ5_append_3fe6f_40 : decode cJ5_append_3fe6f 40 = .ok (.i2b, 1) := by decide +kernel
theorem dJ5_append_3fe6f_41 : decode cJ5_append_3fe6f 41 = .ok (.bastore, 1) := by decide +kernel
theorem dJ5_append_3fe6f_42 : decode cJ5_append_3fe6f 42 = .ok (.goto 33, 3) := by decide +kernel
theorem dJ5_append_3fe6f_75 : decode cJ5_append_3fe6f 75 = .ok (.aload_n 0, 1) := by decide +kernel
theorem dJ5_append_3fe6f_76 : decode cJ5_append_3fe6f 76 = .ok (.areturn, 1) := by decide +kernel
theorem dJ5_append_c97b9_0 : decode cJ5_append_c97b9 0 = .ok (.aload_n 0, 1) := by decide +kernel
theorem dJ5_append_c97b9_1 : decode cJ5_append_c97b9 1 = .ok (.getfield 79, 3) := by decide +kernel
theorem dJ5_append_c97b9_4 : decode cJ5_append_c97b9 4 = .ok (.istore_n 2, 1) := by decide +kernel
theorem dJ5_append_c97b9_5 : decode cJ5_append_c97b9 5 = .ok (.iload_n 2, 1) := by decide +kernel
theorem dJ5_append_c97b9_6 : decode cJ5_append_c97b9 6 = .ok (.iload_n 1, 1) := by decide +kernel
theorem dJ5_append_c97b9_7 : decode cJ5_append_c97b9 7 = .ok (.invokestatic 245, 3) := by decide +kernel
theorem dJ5_append_c97b9_10 : decode cJ5_append_c97b9 10 = .ok (.iadd, 1) := by decide +kernel
theorem dJ5_append_c97b9_11 : decode cJ5_append_c97b9 11 = .ok (.istore_n 3, 1) := by decide +kernel
theorem dJ5_append_c97b9_12 : decode cJ5_append_c97b9 12 = .ok (.aload_n 0, 1) := by decide +kernel
theorem dJ5_append_c97b9_13 : decode cJ5_append_c97b9 13 = .ok (.iload_n 3, 1) := by decide +kernel
theorem dJ5_append_c97b9_14 : decode cJ5_append_c97b9 14 = .ok (.invokevirtual 100, 3) := by decide +kernel
theorem dJ5_append_c97b9_17 : decode cJ5_append_c97b9 17 = .ok (.aload_n 0, 1) := by decide +kernel
theorem dJ5_append_c97b9_18 : decode cJ5_append_c97b9 18 = .ok (.invokevirtual 83, 3) := by decide +kernel
theorem dJ5_append_c97b9_21 : decode cJ5_append_c97b9 21 = .ok (.ifCond .eq 16, 3) := by decide +kernel
theorem dJ5_append_c97b9_24 : decode cJ5_append_c97b9 24 = .ok (.iload_n 1, 1) := by decide +kernel
theorem dJ5_append_c97b9_25 : decode cJ5_append_c97b9 25 = .ok (.iload_n 3, 1) := by decide +kernel
theorem dJ5_append_c97b9_26 : decode cJ5_append_c97b9 26 = .ok (.aload_n 0, 1) := by decide +kernel
theorem dJ5_append_c97b9_27 : decode cJ5_append_c97b9 27 = .ok (.getfield 15, 3) := by decide +kernel
theorem dJ5_append_c97b9_30 : decode cJ5_append_c97b9 30 = .ok (.invokestatic 248, 3) := by decide +kernel
theorem dJ5_append_c97b9_33 : decode cJ5_append_c97b9 33 = .ok (.pop, 1) := by decide +kernel
theorem dJ5_append_c97b9_34 : decode cJ5_append_c97b9 34 = .ok (.goto 14, 3) := by decide +kernel
theorem dJ5_append_c97b9_48 : decode cJ5_append_c97b9 48 = .ok (.aload_n 0, 1) := by decide +kernel
theorem dJ5_append_c97b9_49 : decode cJ5_append_c97b9 49 = .ok (.iload_n 3, 1) := by decide +kernel
theorem dJ5_append_c97b9_50 : decode cJ5_append_c97b9 50 = .ok (.putfield 79, 3) := by decide +kernel
theorem dJ5_append_c97b9_53 : decode cJ5_append_c97b9 53 = .ok (.aload_n 0, 1) := by decide +kernel
theorem dJ5_append_c97b9_54 : decode cJ5_append_c97b9 54 = .ok (.areturn, 1) := by decide +kernel
theorem dJ5_charAt_5068e_0 : decode cJ5_charAt_5068e 0 = .ok (.aload_n 0, 1) := by decide +kernel
theorem dJ5_charAt_5068e_1 : decode cJ5_charAt_5068e 1 = .ok (.getfield 22, 3) := by decide +kernel
theorem dJ5_charAt_5068e_4 : decode cJ5_charAt_5068e 4 = .ok (.istore_n 2, 1) := by decide +kernel
theorem dJ5_charAt_5068e_5 : decode cJ5_charAt_5068e 5 = .ok (.aload_n 0, 1) := by decide +kernel
theorem dJ5_charAt_5068e_6 : decode cJ5_charAt_5068e 6 = .ok (.getfield 15, 3) := by decide +kernel
theorem dJ5_charAt_5068e_9 : decode cJ5_charAt_5068e 9 = .ok (.astore_n 3, 1) := by decide +kernel
theorem dJ5_charAt_5068e_10 : decode cJ5_charAt_5068e 10 = .ok (.aload_n 0, 1) := by decide +kernel
theorem dJ5_charAt_5068e_11 : decode cJ5_charAt_5068e 11 = .ok (.getfield 79, 3) := by decide +kernel
theorem dJ5_charAt_5068e_14 : decode cJ5_charAt_5068e 14 = .ok (.aload_n 3, 1) := by decide +kernel
theorem dJ5_charAt_5068e_15 : decode cJ5_charAt_5068e 15 = .ok (.arraylength, 1) := by decide +kernel
theorem dJ5_charAt_5068e_16 : decode cJ5_charAt_5068e 16 = .ok (.iload_n 2, 1) := by decide +kernel
theorem dJ5_charAt_5068e_17 : decode cJ5_charAt_5068e 17 = .ok (.ishr, 1) := by decide +kernel
theorem dJ5_charAt_5068e_18 : decode cJ5_charAt_5068e 18 = .ok (.invokestatic 138, 3) := by decide +kernel
theorem dJ5_charAt_5068e_21 : decode cJ5_charAt_5068e 21 = .ok (.istore 4, 2) := by decide +kernel
theorem dJ5_charAt_5068e_23 : decode cJ5_charAt_5068e 23 = .ok (.iload_n 1, 1) := by decide +kernel
theorem dJ5_charAt_5068e_24 : decode cJ5_charAt_5068e 24 = .ok (.iload 4, 2) := by decide +kernel
theorem dJ5_charAt_5068e_26 : decode cJ5_charAt_5068e 26 = .ok (.invokestatic 144, 3) := by decide +kernel
theorem dJ5_charAt_5068e_29 : decode cJ5_charAt_5068e 29 = .ok (.iload_n 2, 1) := by decide +kernel
theorem dJ5_charAt_5068e_30 : decode cJ5_charAt_5068e 30 = .ok (.ifCond .ne 12, 3) := by decide +kernel
theorem dJ5_charAt_5068e_33 : decode cJ5_charAt_5068e 33 = .ok (.aload_n 3, 1) := by decide +kernel
theorem dJ5_charAt_5068e_34 : decode cJ5_charAt_5068e 34 = .ok (.iload_n 1, 1) := by decide +kernel
theorem dJ5_charAt_5068e_35 : decode cJ5_charAt_5068e 35 = .ok (.baload, 1) := by decide +kernel
theorem dJ5_charAt_5068e_36 : decode cJ5_charAt_5068e 36 = .ok (.sipush 255, 3) := by decide +kernel
theorem dJ5_charAt_5068e_39 : decode cJ5_charAt_5068e 39 = .ok (.iand, 1) := by decide +kernel
theorem dJ5_charAt_5068e_40 : decode cJ5_charAt_5068e 40 = .ok (.i2c, 1) := by decide +kernel
theorem dJ5_charAt_5068e_41 : decode cJ5_charAt_5068e 41 = .ok (.ireturn, 1) := by decide +kernel
theorem dJ5_length_8abf5_0 : decode cJ5_length_8abf5 0 = .ok (.aload_n 0, 1) := by decide +kernel
theorem dJ5_length_8abf5_1 : decode cJ5_length_8abf5 1 = .ok (.getfield 79, 3) := by decide +kernel
theorem dJ5_length_8abf5_4 : decode cJ5_length_8abf5 4 = .ok (.ireturn, 1) := by decide +kernel
theorem dJ5_setLength_d00df_0 : decode cJ5_setLength_d00df 0 = .ok (.iload_n 1, 1) := by decide +kernel
theorem dJ5_setLength_d00df_1 : decode cJ5_setLength_d00df 1 = .ok (.ifCond .ge 12, 3) := by decide +kernel
theorem dJ5_setLength_d00df_13 : decode cJ5_setLength_d00df 13 = .ok (.aload_n 0, 1) := by decide +kernel
theorem dJ5_setLength_d00df_14 : decode cJ5_setLength_d00df 14 = .ok (.iload_n 1, 1) := by decide +kernel
theorem dJ5_setLength_d00df_15 : decode cJ5_setLength_d00df 15 = .ok (.invokevirtual 100, 3) := by decide +kernel
theorem dJ5_setLength_d00df_18 : decode cJ5_setLength_d00df 18 = .ok (.aload_n 0, 1) := by decide +kernel
theorem dJ5_setLength_d00df_19 : decode cJ5_setLength_d00df 19 = .ok (.getfield 79, 3) := by decide +kernel
theorem dJ5_setLength_d00df_22 : decode cJ5_setLength_d00df 22 = .ok (.iload_n 1, 1) := by decide +kernel
theorem dJ5_setLength_d00df_23 : decode cJ5_setLength_d00df 23 = .ok (.if_icmp .ge 40, 3) := by decide +kernel
theorem dJ5_setLength_d00df_63 : decode cJ5_setLength_d00df 63 = .ok (.aload_n 0, 1) := by decide +kernel
theorem dJ5_setLength_d00df_64 : decode cJ5_setLength_d00df 64 = .ok (.getfield 79, 3) := by decide +kernel
theorem dJ5_setLength_d00df_67 : decode cJ5_setLength_d00df 67 = .ok (.iload_n 1, 1) := by decide +kernel
theorem dJ5_setLength_d00df_68 : decode cJ5_setLength_d00df 68 = .ok (.if_icmp .le 8, 3) := by decide +kernel
theorem dJ5_setLength_d00df_71 : decode cJ5_setLength_d00df 71 = .ok (.aload_n 0, 1) := by decide +kernel
theorem dJ5_setLength_d00df_72 : decode cJ5_setLength_d00df 72 = .ok (.iconst 1, 1) := by decide +kernel
theorem dJ5_setLength_d00df_73 : decode cJ5_setLength_d00df 73 = .ok (.putfield 73, 3) := by decide +kernel
theorem dJ5_setLength_d00df_76 : decode cJ5_setLength_d00df 76 = .ok (.aload_n 0, 1) := by decide +kernel
theorem dJ5_setLength_d00df_77 : decode cJ5_setLength_d00df 77 = .ok (.iload_n 1, 1) := by decide +kernel
theorem dJ5_setLength_d00df_78 : decode cJ5_setLength_d00df 78 = .ok (.putfield 79, 3) := by decide +kernel
theorem dJ5_setLength_d00df_81 : decode cJ5_setLength_d00df 81 = .ok (.return_, 1) := by decide +kernel
theorem s_i8 (x : Int32) : x.toInt8.toInt32.toInt8.toInt32 = x.toInt8.toInt32 := pk_vb x
set_option maxRecDepth 100000 in
set_option maxHeartbeats 4000000 in
theorem s_appC {α : Nat → Nat} {D : va_G} {κ : Nat → ClassId} (h b : Nat) (ml : Int32) (mm n : Nat) (a : Nat → Int32) (tx : Nat → Nat) (c0 kc : Nat) (hm : mm ≤ 65536) (hn : n ≤ mm) (hL : sb_Lat tx n a) (hf : sb_Fit a) (h0 : c0 < 256) (hkc : n + 1 ≤ mm ∨ sb_cap (n + 1) mm ≤ kc) (l : Launch) (sz : Nat) : Met l yJ5_append_3fe6f (Cond.code yJ5_append_3fe6f cJ5_append_3fe6f 2 (Option.some (Jvm.ClassFile.FieldType.object "java/lang/AbstractStringBuilder")) :: q_W) ({ frames := 4, cells := 1, slots := kc, locals := 112 } : Room) (s_Pc α D κ [.ref h, .int (nI c0)] [(h, .inr (1, [.ref b, .int 0, .int ml, .int (nI n)])), (b, .inl (κ 1, mm, .inl a))] sz) (va_Qr (fun u : Nat × (Nat → Int32) => sb_Lat (sb_cat tx n (fun _ => c0)) (n + 1) u.2 ∧ sb_Fit u.2) (fun u ra t => ra = h ∧ va_P D vwCl [(h, .inr (1, [.ref u.1, .int 0, .int ml, .int (nI (n + 1))])), (u.1, .inl (κ 1, sb_cap (n + 1) mm, .inl u.2))] t.heap ∧ va_D (va_A [(h, .inr (1, [.ref b, .int 0, .int ml, .int (nI n)])), (b, .inl (κ 1, mm, .inl a))] sz) [(h, .inr (1, [.ref u.1, .int 0, .int ml, .int (nI (n + 1))])), (u.1, .inl (κ 1, sb_cap (n + 1) mm, .inl u.2))]) (va_A [(h, .inr (1, [.ref b, .int 0, .int ml, .int (nI n)])), (b, .inl (κ 1, mm, .inl a))] sz)) 1 (kc) (va_A [(h, .inr (1, [.ref b, .int 0, .int ml, .int (nI n)])), (b, .inl (κ 1, mm, .inl a))] sz) := by
  refine Met.ofW (cc := cJ5_append_3fe6f) (maxL := 2) (ret := (Option.some (Jvm.ClassFile.FieldType.object "java/lang/AbstractStringBuilder"))) (by decide) rfl ?_
  intro p e s m args below meth c s₁ B hml hv
  obtain ⟨C, hr, ⟨ls, hle, hl⟩, hP, hD, hS⟩ := s_enter RJ5 rfl (Nat.le_of_ble_eq_true rfl) B hml hv
  obtain rfl : s.heap.size = sz := hv.2.1
  clear hv
  rw [hle]
  generalize va_A [(h, .inr (1, [.ref b, .int 0, .int ml, .int (nI n)])), (b, .inl (κ 1, mm, .inl a))] s.heap.size = A0 at C hD hS ⊢
  have hl : lv_has ls 2 [(0, .ref h), (1, .int (nI c0))] := hl
  have C0 := C
  obtain ⟨hx, hb, -, hown, hts, hK, hE, hA, hlocks⟩ := C
  have hg := sb_cap_ge (n + 1) mm
  have hcl : sb_cap (n + 1) mm < 2 ^ 28 := by unfold sb_cap; (repeat' split) <;> omega
  refine lv_aload_n hx hb dJ5_append_3fe6f_0 rfl (lv_at hl 0 rfl) ?_
  refine lv_aload_n hx hb dJ5_append_3fe6f_1 rfl (lv_at hl 0 rfl) ?_
  refine va_get (ci := 1) (C := RJ4) (T := TJ4) (N := 4) hx hb hts q_u_J4 hown hK hP 0 rfl rfl 3 (by decide) (hts _ jw_fl_32) (fun _ h9 => h9) rfl dJ5_append_3fe6f_2 ?_
  refine lv_iconst hx hb dJ5_append_3fe6f_5 (by decide : Int32.ofInt 1 = 1) ?_
  refine lv_iadd hx hb dJ5_append_3fe6f_6 ?_
  refine lv_topi (fun x1 hx2 => ?_)
  obtain rfl : x1 = nI (n + 1) := by rw [hx2]; exact (nI_1 _)
  have hfree := s_free C0 (wc := [(h, .inr (1, [.ref b, .int 0, .int ml, .int (nI n)])), (b, .inl (κ 1, mm, .inl a))]) hD hS [0, 1] rfl
  refine va_callv (s_runP C0 (n := 1) (wc := [(h, .inr (1, [.ref b, .int 0, .int ml, .int (nI n)])), (b, .inl (κ 1, mm, .inl a))]) (As := [.int (nI (n + 1))]) (rest := []) jw_ml_33 jw_sa_34 (List.mem_of_getElem? (i := 0) rfl) jw_in_35 jw_ii_19 jw_co_36 (by decide +kernel) ⟨by decide +kernel, by decide +kernel⟩ (s_ensure (α := α) (D := D) (κ := κ) h b ml (nI n) mm a (n + 1) hm (by omega) hf kc hkc l s.heap.size) hP hD hS [0, 1] rfl rfl (by decide) 0 rfl rfl rfl dJ5_append_3fe6f_7 hl rfl (Nat.le_of_ble_eq_true rfl) ⟨(Nat.le_of_ble_eq_true rfl), (Nat.le_of_ble_eq_true rfl)⟩ ⟨(by show 0 + 1 ≤ 1; omega), (by show 0 + kc ≤ kc; omega)⟩) hS (fun q _ hq => hfree q hq) hfree (fun u t H locs ht hvm hpost hB hz hk hS => ?_)
  obtain ⟨b2, a2⟩ := u
  obtain ⟨hf2, hk2⟩ := hpost
  obtain ⟨hP1, hD1⟩ := hB
  rw [ht] at hP1
  have hP := hP1
  have hD := hD1.weaken (fun _ _ _ hq => hfree _ hq)
  have hP : va_P D vwCl [(h, .inr (1, [.ref b2, .int 0, .int ml, .int (nI n)])), (b2, .inl (κ 1, sb_cap (n + 1) mm, .inl a2))] H := hP
  have hD : va_D A0 [(h, .inr (1, [.ref b2, .int 0, .int ml, .int (nI n)])), (b2, .inl (κ 1, sb_cap (n + 1) mm, .inl a2))] := hD
  refine W.eq (g2 := F0 m 10 ls []) rfl ?_
  have hk2 : ∀ j, j < mm → a2 j = a j := hk2
  refine lv_aload_n hx hb dJ5_append_3fe6f_10 rfl (lv_at hl 0 rfl) ?_
  refine s_callp (v := some (.int 1)) (s_runU C0 (n := 0) (wc := [(h, .inr (1, [.ref b2, .int 0, .int ml, .int (nI n)]))]) (As := []) (rest := []) jw_ml_37 jw_sa_38 jw_se_39 jw_in_40 jw_ii_19 jw_co_41 rfl (by decide +kernel) (s_isLatin1 (α := α) (D := D) (κ := κ) h b2 ml (nI n) l H.size) hP hD hS [0] rfl rfl (by decide) 0 rfl rfl rfl dJ5_append_3fe6f_11 hl rfl (Nat.le_of_ble_eq_true rfl) ⟨(Nat.le_of_ble_eq_true rfl), (Nat.le_of_ble_eq_true rfl)⟩ ⟨(by show (0 + 1) + 0 ≤ 1; omega), (by show (0 + kc) + 0 ≤ kc; omega)⟩) hS (s_free C0 (wc := [(h, .inr (1, [.ref b2, .int 0, .int ml, .int (nI n)]))]) hD hS [0] rfl) (fun locs hS => ?_)
  refine W.eq (g2 := F0 m 14 ls [.int 1]) rfl ?_
  refine lv_if_eq hx hb dJ5_append_3fe6f_14 (tgt := 45) (by decide) (fun hq9 => absurd hq9 ((by decide : ¬ (1 : Int32) = 0))) (fun _ => ?_)
  refine lv_iload_n hx hb dJ5_append_3fe6f_17 rfl (lv_at hl 1 rfl) ?_
  refine s_callp (v := some (.int 1)) (s_runS C0 (n := 1) (wc := []) (As := [.int (nI c0)]) (rest := []) jw_ml_42 jw_st_43 jw_ii_44 jw_co_45 (by decide +kernel) (s_canEncode (α := α) (D := D) (κ := κ) c0 h0 l H.size) hP hD hS [] rfl rfl (by decide) rfl dJ5_append_3fe6f_18 hl rfl (Nat.le_of_ble_eq_true rfl) ⟨(Nat.le_of_ble_eq_true rfl), (Nat.le_of_ble_eq_true rfl)⟩ ⟨(by show (0 + 1) + 0 + 0 ≤ 1; omega), (by show (0 + kc) + 0 + 0 ≤ kc; omega)⟩) hS (s_free C0 (wc := []) hD hS [] rfl) (fun locs hS => ?_)
  refine W.eq (g2 := F0 m 21 ls [.int 1]) rfl ?_
  refine lv_if_eq hx hb dJ5_append_3fe6f_21 (tgt := 45) (by decide) (fun hq9 => absurd hq9 ((by decide : ¬ (1 : Int32) = 0))) (fun _ => ?_)
  refine lv_aload_n hx hb dJ5_append_3fe6f_24 rfl (lv_at hl 0 rfl) ?_
  refine va_get (ci := 1) (C := RJ4) (T := TJ4) (N := 4) hx hb hts q_u_J4 hown hK hP 0 rfl rfl 0 (by decide) (hts _ jw_fl_4) (fun _ h9 => h9) rfl dJ5_append_3fe6f_25 ?_
  refine lv_aload_n hx hb dJ5_append_3fe6f_28 rfl (lv_at hl 0 rfl) ?_
  refine lv_dup hx hb dJ5_append_3fe6f_29 rfl ?_
  refine va_get (ci := 1) (C := RJ4) (T := TJ4) (N := 4) hx hb hts q_u_J4 hown hK hP 0 rfl rfl 3 (by decide) (hts _ jw_fl_32) (fun _ h9 => h9) rfl dJ5_append_3fe6f_30 ?_
  refine lv_dup_x1 hx hb dJ5_append_3fe6f_33 rfl rfl ?_
  refine lv_iconst hx hb dJ5_append_3fe6f_34 (by decide : Int32.ofInt 1 = 1) ?_
  refine lv_iadd hx hb dJ5_append_3fe6f_35 ?_
  refine lv_topi (fun x3 hx4 => ?_)
  obtain rfl : x3 = nI (n + 1) := by rw [hx4]; exact (nI_1 _)
  refine va_put (ty := .int) (ci := 1) (C := RJ4) (T := TJ4) (N := 4) hx hb hts q_u_J4 tyJ4 tyJ4_ok nmJ4 hown hK hP hD hS 0 rfl rfl 3 (by decide) (hts _ jw_fl_32) (fun _ h9 => h9) rfl (by decide +kernel) rfl rfl (Nat.le_of_ble_eq_true rfl) dJ5_append_3fe6f_36 (fun H locs hP hD hS => ?_)
  have hP : va_P D vwCl [(h, .inr (1, [.ref b2, .int 0, .int ml, .int (nI (n + 1))])), (b2, .inl (κ 1, sb_cap (n + 1) mm, .inl a2))] H := hP
  have hD : va_D A0 [(h, .inr (1, [.ref b2, .int 0, .int ml, .int (nI (n + 1))])), (b2, .inl (κ 1, sb_cap (n + 1) mm, .inl a2))] := hD
  refine lv_iload_n hx hb dJ5_append_3fe6f_39 rfl (lv_at hl 1 rfl) ?_
  refine lv_i2b hx hb dJ5_append_3fe6f_40 (show (nI c0).toInt8.toInt32 = sb_b c0 from rfl) ?_
  refine va_bast hx hb hK hP hD hS 1 1 rfl rfl (vp_in_nI (by omega) (by omega)) dJ5_append_3fe6f_41 (fun H locs hP hD hS => ?_)
  have hP : va_P D vwCl [(h, .inr (1, [.ref b2, .int 0, .int ml, .int (nI (n + 1))])), (b2, .inl (κ 1, sb_cap (n + 1) mm, .inl (upd a2 n (sb_b c0))))] H := by rw [← (show upd a2 (nI n).toNatClampNeg (vp_nar .byte (sb_b c0)) = upd a2 n (sb_b c0) from by rw [nI_clamp (n := n) (by omega), vp_nar_byte]; unfold sb_b; rw [s_i8])]; exact hP
  have hD : va_D A0 [(h, .inr (1, [.ref b2, .int 0, .int ml, .int (nI (n + 1))])), (b2, .inl (κ 1, sb_cap (n + 1) mm, .inl (upd a2 n (sb_b c0))))] := by rw [← (show upd a2 (nI n).toNatClampNeg (vp_nar .byte (sb_b c0)) = upd a2 n (sb_b c0) from by rw [nI_clamp (n := n) (by omega), vp_nar_byte]; unfold sb_b; rw [s_i8])]; exact hD
  refine lv_goto hx hb dJ5_append_3fe6f_42 (tgt := 75) (by decide) ?_
  refine lv_aload_n hx hb dJ5_append_3fe6f_75 rfl (lv_at hl 0 rfl) ?_
  refine W.widen (k := 1) (n := kc) (by omega) (by omega) ?_
  have hLat : sb_Lat (sb_cat tx n (fun _ => c0)) (n + 1) (upd a2 n (sb_b c0)) := sb_latPut hL (fun j hj => by rw [pk_un (by omega)]; exact hk2 j (by omega)) (fun i hi => by have hi0 : i = 0 := (by omega); subst hi0; exact ⟨h0, pk_us⟩)
  exact W.aret (v := .ref h) hx hb hr (Or.inl ⟨_, rfl⟩) (Or.inr ⟨_, rfl⟩) (fun t ht hW => ⟨⟨(b2, upd a2 n (sb_b c0)), h, rfl, ⟨hLat, sb_fitU hf2 (sb_fitB c0)⟩, rfl, by rw [ht]; exact hP, hD⟩, hS.F ht⟩) hS.2.2 dJ5_append_3fe6f_76 hlocks
set_option maxRecDepth 100000 in
set_option maxHeartbeats 4000000 in
theorem s_appI {α : Nat → Nat} {D : va_G} {κ : Nat → ClassId} (h b : Nat) (ml : Int32) (mm n : Nat) (a : Nat → Int32) (tx : Nat → Nat) (v kc : Nat) (hm : mm ≤ 65536) (hn : n ≤ mm) (hL : sb_Lat tx n a) (hf : sb_Fit a) (h0 : v < 2 ^ 31) (hkc : n + sb_dg v ≤ mm ∨ sb_cap (n + sb_dg v) mm ≤ kc) (hcap : sb_cap (n + sb_dg v) mm ≤ 65536) (l : Launch) (sz : Nat) : Met l yJ5_append_c97b9 (Cond.code yJ5_append_c97b9 cJ5_append_c97b9 4 (Option.some (Jvm.ClassFile.FieldType.object "java/lang/AbstractStringBuilder")) :: q_W) ({ frames := 4, cells := 1, slots := kc, locals := 112 } : Room) (s_Pc α D κ [.ref h, .int (nI v)] [(h, .inr (1, [.ref b, .int 0, .int ml, .int (nI n)])), (b, .inl (κ 1, mm, .inl a))] sz) (va_Qr (fun u : Nat × (Nat → Int32) => sb_Lat (sb_cat tx n (sb_dec v)) (n + sb_dg v) u.2 ∧ sb_Fit u.2) (fun u ra t => ra = h ∧ va_P D vwCl [(h, .inr (1, [.ref u.1, .int 0, .int ml, .int (nI (n + sb_dg v))])), (u.1, .inl (κ 1, sb_cap (n + sb_dg v) mm, .inl u.2))] t.heap ∧ va_D (va_A [(h, .inr (1, [.ref b, .int 0, .int ml, .int (nI n)])), (b, .inl (κ 1, mm, .inl a))] sz) [(h, .inr (1, [.ref u.1, .int 0, .int ml, .int (nI (n + sb_dg v))])), (u.1, .inl (κ 1, sb_cap (n + sb_dg v) mm, .inl u.2))]) (va_A [(h, .inr (1, [.ref b, .int 0, .int ml, .int (nI n)])), (b, .inl (κ 1, mm, .inl a))] sz)) 1 (kc) (va_A [(h, .inr (1, [.ref b, .int 0, .int ml, .int (nI n)])), (b, .inl (κ 1, mm, .inl a))] sz) := by
  refine Met.ofW (cc := cJ5_append_c97b9) (maxL := 4) (ret := (Option.some (Jvm.ClassFile.FieldType.object "java/lang/AbstractStringBuilder"))) (by decide) rfl ?_
  intro p e s m args below meth c s₁ B hml hv
  obtain ⟨C, hr, ⟨ls, hle, hl⟩, hP, hD, hS⟩ := s_enter RJ5 rfl (Nat.le_of_ble_eq_true rfl) B hml hv
  obtain rfl : s.heap.size = sz := hv.2.1
  clear hv
  rw [hle]
  generalize va_A [(h, .inr (1, [.ref b, .int 0, .int ml, .int (nI n)])), (b, .inl (κ 1, mm, .inl a))] s.heap.size = A0 at C hD hS ⊢
  have hl : lv_has ls 4 [(0, .ref h), (1, .int (nI v))] := hl
  have C0 := C
  obtain ⟨hx, hb, -, hown, hts, hK, hE, hA, hlocks⟩ := C
  have hg := sb_cap_ge (n + sb_dg v) mm
  have hdg := sb_dg_in v
  refine lv_aload_n hx hb dJ5_append_c97b9_0 rfl (lv_at hl 0 rfl) ?_
  refine va_get (ci := 1) (C := RJ4) (T := TJ4) (N := 4) hx hb hts q_u_J4 hown hK hP 0 rfl rfl 3 (by decide) (hts _ jw_fl_32) (fun _ h9 => h9) rfl dJ5_append_c97b9_1 ?_
  refine lv_istore_n hx hb dJ5_append_c97b9_4 rfl hl (Nat.le_of_ble_eq_true rfl) (lv' := [(2, .int (nI n)), (0, .ref h), (1, .int (nI v))]) rfl (fun ls hl => ?_)
  refine lv_iload_n hx hb dJ5_append_c97b9_5 rfl (lv_at hl 0 rfl) ?_
  refine lv_iload_n hx hb dJ5_append_c97b9_6 rfl (lv_at hl 2 rfl) ?_
  refine s_callp (v := some (.int (nI (sb_dg v)))) (s_runS C0 (n := 1) (wc := []) (As := [.int (nI v)]) (rest := [.int (nI n)]) jw_ml_46 jw_st_47 jw_ii_48 jw_co_49 (by decide +kernel) (s_stringSize (α := α) (D := D) (κ := κ) v h0 l s.heap.size) hP hD hS [] rfl rfl (by decide) rfl dJ5_append_c97b9_7 hl rfl (Nat.le_of_ble_eq_true rfl) ⟨(Nat.le_of_ble_eq_true rfl), (Nat.le_of_ble_eq_true rfl)⟩ ⟨(by show 0 + 0 ≤ 1; omega), (by show 0 + 0 ≤ kc; omega)⟩) hS (s_free C0 (wc := []) hD hS [] rfl) (fun locs hS => ?_)
  refine W.eq (g2 := F0 m 10 ls [.int (nI (sb_dg v)), .int (nI n)]) rfl ?_
  refine lv_iadd hx hb dJ5_append_c97b9_10 ?_
  refine lv_topi (fun x1 hx2 => ?_)
  obtain rfl : x1 = nI (n + sb_dg v) := by rw [hx2]; exact (nI_add _ _)
  refine lv_istore_n hx hb dJ5_append_c97b9_11 rfl hl (Nat.le_of_ble_eq_true rfl) (lv' := [(3, .int (nI (n + sb_dg v))), (2, .int (nI n)), (0, .ref h), (1, .int (nI v))]) rfl (fun ls hl => ?_)
  refine lv_aload_n hx hb dJ5_append_c97b9_12 rfl (lv_at hl 2 rfl) ?_
  refine lv_iload_n hx hb dJ5_append_c97b9_13 rfl (lv_at hl 0 rfl) ?_
  have hfree := s_free C0 (wc := [(h, .inr (1, [.ref b, .int 0, .int ml, .int (nI n)])), (b, .inl (κ 1, mm, .inl a))]) hD hS [0, 1] rfl
  refine va_callv (s_runP C0 (n := 1) (wc := [(h, .inr (1, [.ref b, .int 0, .int ml, .int (nI n)])), (b, .inl (κ 1, mm, .inl a))]) (As := [.int (nI (n + sb_dg v))]) (rest := []) jw_ml_33 jw_sa_34 (List.mem_of_getElem? (i := 0) rfl) jw_in_35 jw_ii_19 jw_co_36 (by decide +kernel) ⟨by decide +kernel, by decide +kernel⟩ (s_ensure (α := α) (D := D) (κ := κ) h b ml (nI n) mm a (n + sb_dg v) hm (by omega) hf kc hkc l s.heap.size) hP hD hS [0, 1] rfl rfl (by decide) 0 rfl rfl rfl dJ5_append_c97b9_14 hl rfl (Nat.le_of_ble_eq_true rfl) ⟨(Nat.le_of_ble_eq_true rfl), (Nat.le_of_ble_eq_true rfl)⟩ ⟨(by show 0 + 0 + 1 ≤ 1; omega), (by show 0 + 0 + kc ≤ kc; omega)⟩) hS (fun q _ hq => hfree q hq) hfree (fun u t H locs ht hvm hpost hB hz hk hS => ?_)
  obtain ⟨b2, a2⟩ := u
  obtain ⟨hf2, hk2⟩ := hpost
  obtain ⟨hP1, hD1⟩ := hB
  rw [ht] at hP1
  have hP := hP1
  have hD := hD1.weaken (fun _ _ _ hq => hfree _ hq)
  have hP : va_P D vwCl [(h, .inr (1, [.ref b2, .int 0, .int ml, .int (nI n)])), (b2, .inl (κ 1, sb_cap (n + sb_dg v) mm, .inl a2))] H := hP
  have hD : va_D A0 [(h, .inr (1, [.ref b2, .int 0, .int ml, .int (nI n)])), (b2, .inl (κ 1, sb_cap (n + sb_dg v) mm, .inl a2))] := hD
  refine W.eq (g2 := F0 m 17 ls []) rfl ?_
  have hk2 : ∀ j, j < mm → a2 j = a j := hk2
  refine lv_aload_n hx hb dJ5_append_c97b9_17 rfl (lv_at hl 2 rfl) ?_
  refine s_callp (v := some (.int 1)) (s_runU C0 (n := 0) (wc := [(h, .inr (1, [.ref b2, .int 0, .int ml, .int (nI n)]))]) (As := []) (rest := []) jw_ml_37 jw_sa_38 jw_se_39 jw_in_40 jw_ii_19 jw_co_41 rfl (by decide +kernel) (s_isLatin1 (α := α) (D := D) (κ := κ) h b2 ml (nI n) l H.size) hP hD hS [0] rfl rfl (by decide) 0 rfl rfl rfl dJ5_append_c97b9_18 hl rfl (Nat.le_of_ble_eq_true rfl) ⟨(Nat.le_of_ble_eq_true rfl), (Nat.le_of_ble_eq_true rfl)⟩ ⟨(by show (0 + 0 + 1) + 0 ≤ 1; omega), (by show (0 + 0 + kc) + 0 ≤ kc; omega)⟩) hS (s_free C0 (wc := [(h, .inr (1, [.ref b2, .int 0, .int ml, .int (nI n)]))]) hD hS [0] rfl) (fun locs hS => ?_)
  refine W.eq (g2 := F0 m 21 ls [.int 1]) rfl ?_
  refine lv_if_eq hx hb dJ5_append_c97b9_21 (tgt := 37) (by decide) (fun hq9 => absurd hq9 ((by decide : ¬ (1 : Int32) = 0))) (fun _ => ?_)
  refine lv_iload_n hx hb dJ5_append_c97b9_24 rfl (lv_at hl 3 rfl) ?_
  refine lv_iload_n hx hb dJ5_append_c97b9_25 rfl (lv_at hl 0 rfl) ?_
  refine lv_aload_n hx hb dJ5_append_c97b9_26 rfl (lv_at hl 2 rfl) ?_
  refine va_get (ci := 1) (C := RJ4) (T := TJ4) (N := 4) hx hb hts q_u_J4 hown hK hP 0 rfl rfl 0 (by decide) (hts _ jw_fl_4) (fun _ h9 => h9) rfl dJ5_append_c97b9_27 ?_
  have hfree := s_free C0 (wc := [(b2, .inl (κ 1, sb_cap (n + sb_dg v) mm, .inl a2))]) hD hS [1] rfl
  refine va_calli (s_runS C0 (n := 3) (wc := [(b2, .inl (κ 1, sb_cap (n + sb_dg v) mm, .inl a2))]) (As := [.int (nI v), .int (nI (n + sb_dg v)), .ref b2]) (rest := []) jw_ml_50 jw_st_51 jw_ii_48 jw_co_52 (by decide +kernel) (s_getChars (α := α) (D := D) (κ := κ) b2 (sb_cap (n + sb_dg v) mm) n v a2 hcap h0 hg l H.size) hP hD hS [1] rfl rfl (by decide) rfl dJ5_append_c97b9_30 hl rfl (Nat.le_of_ble_eq_true rfl) ⟨(Nat.le_of_ble_eq_true rfl), (Nat.le_of_ble_eq_true rfl)⟩ ⟨(by show (0 + 0 + 1) + 0 + 0 ≤ 1; omega), (by show (0 + 0 + kc) + 0 + 0 ≤ kc; omega)⟩) hS (fun q _ hq => hfree q hq) hfree (fun r a3 t H locs ht hvm hpost hB hz hk hS => ?_)
  obtain ⟨hr1, g1, g2, g3⟩ := hpost
  obtain ⟨hP1, hD1⟩ := hB
  rw [ht] at hP1
  obtain ⟨hP, hD⟩ := va_join hP hD [1] [0] (wr := [(h, .inr (1, [.ref b2, .int 0, .int ml, .int (nI n)]))]) rfl rfl rfl (by decide) hk hfree hP1 hD1
  have hP : va_P D vwCl [(h, .inr (1, [.ref b2, .int 0, .int ml, .int (nI n)])), (b2, .inl (κ 1, sb_cap (n + sb_dg v) mm, .inl a3))] H := hP
  have hD : va_D A0 [(h, .inr (1, [.ref b2, .int 0, .int ml, .int (nI n)])), (b2, .inl (κ 1, sb_cap (n + sb_dg v) mm, .inl a3))] := hD
  refine W.eq (g2 := F0 m 33 ls [.int r]) rfl ?_
  refine lv_pop hx hb dJ5_append_c97b9_33 rfl ?_
  refine lv_goto hx hb dJ5_append_c97b9_34 (tgt := 48) (by decide) ?_
  refine lv_aload_n hx hb dJ5_append_c97b9_48 rfl (lv_at hl 2 rfl) ?_
  refine lv_iload_n hx hb dJ5_append_c97b9_49 rfl (lv_at hl 0 rfl) ?_
  refine va_put (ty := .int) (ci := 1) (C := RJ4) (T := TJ4) (N := 4) hx hb hts q_u_J4 tyJ4 tyJ4_ok nmJ4 hown hK hP hD hS 0 rfl rfl 3 (by decide) (hts _ jw_fl_32) (fun _ h9 => h9) rfl (by decide +kernel) rfl rfl (Nat.le_of_ble_eq_true rfl) dJ5_append_c97b9_50 (fun H locs hP hD hS => ?_)
  have hP : va_P D vwCl [(h, .inr (1, [.ref b2, .int 0, .int ml, .int (nI (n + sb_dg v))])), (b2, .inl (κ 1, sb_cap (n + sb_dg v) mm, .inl a3))] H := hP
  have hD : va_D A0 [(h, .inr (1, [.ref b2, .int 0, .int ml, .int (nI (n + sb_dg v))])), (b2, .inl (κ 1, sb_cap (n + sb_dg v) mm, .inl a3))] := hD
  refine lv_aload_n hx hb dJ5_append_c97b9_53 rfl (lv_at hl 2 rfl) ?_
  refine W.widen (k := 1) (n := kc) (by omega) (by omega) ?_
  have hLat : sb_Lat (sb_cat tx n (sb_dec v)) (n + sb_dg v) a3 := sb_latPut hL (fun j hj => by rw [g1 j (Or.inl hj)]; exact hk2 j (by omega)) (fun i hi => by
      have h9 := g2 (sb_dg v - 1 - i) (by omega)
      rw [show n + sb_dg v - 1 - (sb_dg v - 1 - i) = n + i by omega] at h9
      exact ⟨by unfold sb_dec; omega, h9⟩)
  exact W.aret (v := .ref h) hx hb hr (Or.inl ⟨_, rfl⟩) (Or.inr ⟨_, rfl⟩) (fun t ht hW => ⟨⟨(b2, a3), h, rfl, ⟨hLat, g3 hf2⟩, rfl, by rw [ht]; exact hP, hD⟩, hS.F ht⟩) hS.2.2 dJ5_append_c97b9_54 hlocks
set_option maxRecDepth 100000 in
set_option maxHeartbeats 4000000 in
theorem s_sbAt {α : Nat → Nat} {D : va_G} {κ : Nat → ClassId} (h b : Nat) (ml : Int32) (mm n : Nat) (a : Nat → Int32) (tx : Nat → Nat) (i : Nat) (hm : mm ≤ 65536) (hn : n ≤ mm) (hL : sb_Lat tx n a) (h0 : i < n) (l : Launch) (sz : Nat) : Met l yJ5_charAt_5068e (Cond.code yJ5_charAt_5068e cJ5_charAt_5068e 5 (Option.some Jvm.ClassFile.FieldType.char) :: q_W) ({ frames := 2, cells := 0, slots := 0, locals := 45 } : Room) (s_Pc α D κ [.ref h, .int (nI i)] [(h, .inr (1, [.ref b, .int 0, .int ml, .int (nI n)])), (b, .inl (κ 1, mm, .inl a))] sz) (s_Qp (some (.int (nI (tx i))))) 0 0 (va_A [(h, .inr (1, [.ref b, .int 0, .int ml, .int (nI n)])), (b, .inl (κ 1, mm, .inl a))] sz) := by
  refine Met.ofW (cc := cJ5_charAt_5068e) (maxL := 5) (ret := (Option.some Jvm.ClassFile.FieldType.char)) (by decide) rfl ?_
  intro p e s m args below meth c s₁ B hml hv
  obtain ⟨C, hr, ⟨ls, hle, hl⟩, hP, hD, hS⟩ := s_enter RJ5 rfl (Nat.le_of_ble_eq_true rfl) B hml hv
  obtain rfl : s.heap.size = sz := hv.2.1
  clear hv
  rw [hle]
  generalize va_A [(h, .inr (1, [.ref b, .int 0, .int ml, .int (nI n)])), (b, .inl (κ 1, mm, .inl a))] s.heap.size = A0 at C hD hS ⊢
  have hl : lv_has ls 5 [(0, .ref h), (1, .int (nI i))] := hl
  have C0 := C
  obtain ⟨hx, hb, -, hown, hts, hK, hE, hA, hlocks⟩ := C
  refine lv_aload_n hx hb dJ5_charAt_5068e_0 rfl (lv_at hl 0 rfl) ?_
  refine va_get (ci := 1) (C := RJ4) (T := TJ4) (N := 4) hx hb hts q_u_J4 hown hK hP 0 rfl rfl 1 (by decide) (hts _ jw_fl_1) (fun _ h9 => h9) rfl dJ5_charAt_5068e_1 ?_
  refine lv_istore_n hx hb dJ5_charAt_5068e_4 rfl hl (Nat.le_of_ble_eq_true rfl) (lv' := [(2, .int 0), (0, .ref h), (1, .int (nI i))]) rfl (fun ls hl => ?_)
  refine lv_aload_n hx hb dJ5_charAt_5068e_5 rfl (lv_at hl 1 rfl) ?_
  refine va_get (ci := 1) (C := RJ4) (T := TJ4) (N := 4) hx hb hts q_u_J4 hown hK hP 0 rfl rfl 0 (by decide) (hts _ jw_fl_4) (fun _ h9 => h9) rfl dJ5_charAt_5068e_6 ?_
  refine lv_astore_n hx hb dJ5_charAt_5068e_9 rfl hl (Nat.le_of_ble_eq_true rfl) (lv' := [(3, .ref b), (2, .int 0), (0, .ref h), (1, .int (nI i))]) rfl (fun ls hl => ?_)
  refine lv_aload_n hx hb dJ5_charAt_5068e_10 rfl (lv_at hl 2 rfl) ?_
  refine va_get (ci := 1) (C := RJ4) (T := TJ4) (N := 4) hx hb hts q_u_J4 hown hK hP 0 rfl rfl 3 (by decide) (hts _ jw_fl_32) (fun _ h9 => h9) rfl dJ5_charAt_5068e_11 ?_
  refine lv_aload_n hx hb dJ5_charAt_5068e_14 rfl (lv_at hl 0 rfl) ?_
  refine va_alen hx hb hK hP 1 1 rfl rfl (v := nI mm) rfl dJ5_charAt_5068e_15 ?_
  refine lv_iload_n hx hb dJ5_charAt_5068e_16 rfl (lv_at hl 1 rfl) ?_
  refine lv_ishr hx hb dJ5_charAt_5068e_17 ?_
  refine lv_topi (fun x1 hx2 => ?_)
  obtain rfl : x1 = nI mm := by rw [hx2]; exact (sb_shr0 _)
  refine va_mmin hx hb (C0.2.2.1.trans hl.1.symm) hown (hts _ jw_ml_53) (hts _ q_mn1) (hts _ q_init_java_lang_Math) (hts _ q_mn2) (Nat.le_of_ble_eq_true rfl) (Nat.le_of_ble_eq_true rfl) (by show 0 ≤ 0; omega) (by show 0 ≤ 0; omega) dJ5_charAt_5068e_18 ?_
  refine lv_topi (fun x3 hx4 => ?_)
  obtain rfl : x3 = nI n := by rw [hx4]; exact (show (if nI mm < nI n then nI mm else nI n) = nI n from if_neg (nI_nlt hn (by omega)))
  refine lv_istore hx hb dJ5_charAt_5068e_21 hl (Nat.le_of_ble_eq_true rfl) (lv' := [(4, .int (nI n)), (3, .ref b), (2, .int 0), (0, .ref h), (1, .int (nI i))]) rfl (fun ls hl => ?_)
  refine lv_iload_n hx hb dJ5_charAt_5068e_23 rfl (lv_at hl 4 rfl) ?_
  refine lv_iload hx hb dJ5_charAt_5068e_24 (lv_at hl 0 rfl) ?_
  refine s_callp (v := none) (s_runS C0 (n := 2) (wc := []) (As := [.int (nI i), .int (nI n)]) (rest := []) jw_ml_54 jw_st_55 jw_ii_56 jw_co_57 (by decide +kernel) (s_checkIndex (α := α) (D := D) (κ := κ) i n h0 (by omega) l s.heap.size) hP hD hS [] rfl rfl (by decide) rfl dJ5_charAt_5068e_26 hl rfl (Nat.le_of_ble_eq_true rfl) ⟨(Nat.le_of_ble_eq_true rfl), (Nat.le_of_ble_eq_true rfl)⟩ ⟨(by show 0 + 0 ≤ 0; omega), (by show 0 + 0 ≤ 0; omega)⟩) hS (s_free C0 (wc := []) hD hS [] rfl) (fun locs hS => ?_)
  refine W.eq (g2 := F0 m 29 ls []) rfl ?_
  refine lv_iload_n hx hb dJ5_charAt_5068e_29 rfl (lv_at hl 2 rfl) ?_
  refine lv_if_ne hx hb dJ5_charAt_5068e_30 (tgt := 42) (by decide) (fun hq9 => absurd ((by decide : (0 : Int32) = 0)) hq9) (fun _ => ?_)
  obtain ⟨q1, q2⟩ := hL i h0
  obtain ⟨b1, b2, -⟩ := sb_byte _ q1
  refine lv_aload_n hx hb dJ5_charAt_5068e_33 rfl (lv_at hl 1 rfl) ?_
  refine lv_iload_n hx hb dJ5_charAt_5068e_34 rfl (lv_at hl 4 rfl) ?_
  refine va_bald hx hb hK hP 1 1 rfl rfl (vp_in_nI (by omega) (by omega)) dJ5_charAt_5068e_35 ?_
  refine lv_topi (fun x5 hx6 => ?_)
  obtain rfl : x5 = sb_b (tx i) := by rw [hx6]; exact (by rw [nI_clamp (n := i) (by omega), q2])
  refine lv_sipush hx hb dJ5_charAt_5068e_36 (by decide : (Int16.ofInt 255).toInt32 = 255) ?_
  refine lv_iand hx hb dJ5_charAt_5068e_39 ?_
  refine lv_topi (fun x7 hx8 => ?_)
  obtain rfl : x7 = nI (tx i) := by rw [hx8]; exact (b1)
  refine lv_i2c hx hb dJ5_charAt_5068e_40 b2 ?_
  exact W.zret (v := nI (tx i)) hx hb hr ((pk_charN (q := tx i) (by omega)).1) (fun t ht hW => ⟨rfl, ht⟩) hS.2.2 dJ5_charAt_5068e_41 hlocks
set_option maxRecDepth 100000 in
set_option maxHeartbeats 4000000 in
theorem s_sbLen {α : Nat → Nat} {D : va_G} {κ : Nat → ClassId} (h b : Nat) (ml cnt : Int32) (l : Launch) (sz : Nat) : Met l yJ5_length_8abf5 (Cond.code yJ5_length_8abf5 cJ5_length_8abf5 1 (Option.some Jvm.ClassFile.FieldType.int) :: q_W) ({ frames := 0, cells := 0, slots := 0, locals := 0 } : Room) (s_Pc α D κ [.ref h] [(h, .inr (1, [.ref b, .int 0, .int ml, .int cnt]))] sz) (s_Qp (some (.int cnt))) 0 0 (va_A [(h, .inr (1, [.ref b, .int 0, .int ml, .int cnt]))] sz) := by
  refine Met.ofW (cc := cJ5_length_8abf5) (maxL := 1) (ret := (Option.some Jvm.ClassFile.FieldType.int)) (by decide) rfl ?_
  intro p e s m args below meth c s₁ B hml hv
  obtain ⟨C, hr, ⟨ls, hle, hl⟩, hP, hD, hS⟩ := s_enter RJ5 rfl (Nat.le_of_ble_eq_true rfl) B hml hv
  obtain rfl : s.heap.size = sz := hv.2.1
  clear hv
  rw [hle]
  generalize va_A [(h, .inr (1, [.ref b, .int 0, .int ml, .int cnt]))] s.heap.size = A0 at C hD hS ⊢
  have hl : lv_has ls 1 [(0, .ref h)] := hl
  have C0 := C
  obtain ⟨hx, hb, -, hown, hts, hK, hE, hA, hlocks⟩ := C
  refine lv_aload_n hx hb dJ5_length_8abf5_0 rfl (lv_at hl 0 rfl) ?_
  refine va_get (ci := 1) (C := RJ4) (T := TJ4) (N := 4) hx hb hts q_u_J4 hown hK hP 0 rfl rfl 3 (by decide) (hts _ jw_fl_32) (fun _ h9 => h9) rfl dJ5_length_8abf5_1 ?_
  exact W.iret (v := cnt) hx hb hr (fun t ht hW => ⟨rfl, ht⟩) hS.2.2 dJ5_length_8abf5_4 hlocks
set_option maxRecDepth 100000 in
set_option maxHeartbeats 4000000 in
theorem s_set0 {α : Nat → Nat} {D : va_G} {κ : Nat → ClassId} (h b : Nat) (ml : Int32) (mm n : Nat) (a : Nat → Int32) (hm : mm ≤ 65536) (hn : n ≤ mm) (l : Launch) (sz : Nat) : Met l yJ5_setLength_d00df (Cond.code yJ5_setLength_d00df cJ5_setLength_d00df 2 (Option.none : Option Jvm.ClassFile.FieldType) :: q_W) ({ frames := 4, cells := 0, slots := 0, locals := 112 } : Room) (s_Pc α D κ [.ref h, .int 0] [(h, .inr (1, [.ref b, .int 0, .int ml, .int (nI n)])), (b, .inl (κ 1, mm, .inl a))] sz) (va_Qv (fun _ : Int32 => True) (fun u t => va_P D vwCl [(h, .inr (1, [.ref b, .int 0, .int u, .int 0])), (b, .inl (κ 1, mm, .inl a))] t.heap ∧ va_D (va_A [(h, .inr (1, [.ref b, .int 0, .int ml, .int (nI n)])), (b, .inl (κ 1, mm, .inl a))] sz) [(h, .inr (1, [.ref b, .int 0, .int u, .int 0])), (b, .inl (κ 1, mm, .inl a))]) (va_A [(h, .inr (1, [.ref b, .int 0, .int ml, .int (nI n)])), (b, .inl (κ 1, mm, .inl a))] sz)) 0 0 (va_A [(h, .inr (1, [.ref b, .int 0, .int ml, .int (nI n)])), (b, .inl (κ 1, mm, .inl a))] sz) := by
  refine Met.ofW (cc := cJ5_setLength_d00df) (maxL := 2) (ret := (Option.none : Option Jvm.ClassFile.FieldType)) (by decide) rfl ?_
  intro p e s m args below meth c s₁ B hml hv
  obtain ⟨C, hr, ⟨ls, hle, hl⟩, hP, hD, hS⟩ := s_enter RJ5 rfl (Nat.le_of_ble_eq_true rfl) B hml hv
  obtain rfl : s.heap.size = sz := hv.2.1
  clear hv
  rw [hle]
  generalize va_A [(h, .inr (1, [.ref b, .int 0, .int ml, .int (nI n)])), (b, .inl (κ 1, mm, .inl a))] s.heap.size = A0 at C hD hS ⊢
  have hl : lv_has ls 2 [(0, .ref h), (1, .int 0)] := hl
  have C0 := C
  obtain ⟨hx, hb, -, hown, hts, hK, hE, hA, hlocks⟩ := C
  refine lv_iload_n hx hb dJ5_setLength_d00df_0 rfl (lv_at hl 1 rfl) ?_
  refine lv_if_ge hx hb dJ5_setLength_d00df_1 (tgt := 13) (by decide) (fun _ => ?_) (fun hq9 => absurd ((by decide : (0 : Int32) ≤ 0)) hq9)
  refine lv_aload_n hx hb dJ5_setLength_d00df_13 rfl (lv_at hl 0 rfl) ?_
  refine lv_iload_n hx hb dJ5_setLength_d00df_14 rfl (lv_at hl 1 rfl) ?_
  refine W.eq (g2 := F0 m 15 ls [.int (nI 0), .ref h]) rfl ?_
  refine s_callp (v := none) (s_runP C0 (n := 1) (wc := [(h, .inr (1, [.ref b, .int 0, .int ml, .int (nI n)])), (b, .inl (κ 1, mm, .inl a))]) (As := [.int (nI 0)]) (rest := []) jw_ml_33 jw_sa_34 (List.mem_of_getElem? (i := 0) rfl) jw_in_35 jw_ii_19 jw_co_36 (by decide +kernel) ⟨by decide +kernel, by decide +kernel⟩ (s_ensure0 (α := α) (D := D) (κ := κ) h b ml (nI n) mm a 0 hm (by omega) (by omega) l s.heap.size) hP hD hS [0, 1] rfl rfl (by decide) 0 rfl rfl rfl dJ5_setLength_d00df_15 hl rfl (Nat.le_of_ble_eq_true rfl) ⟨(Nat.le_of_ble_eq_true rfl), (Nat.le_of_ble_eq_true rfl)⟩ ⟨(by show 0 + 0 ≤ 0; omega), (by show 0 + 0 ≤ 0; omega)⟩) hS (s_free C0 (wc := [(h, .inr (1, [.ref b, .int 0, .int ml, .int (nI n)])), (b, .inl (κ 1, mm, .inl a))]) hD hS [0, 1] rfl) (fun locs hS => ?_)
  refine W.eq (g2 := F0 m 18 ls []) rfl ?_
  refine lv_aload_n hx hb dJ5_setLength_d00df_18 rfl (lv_at hl 0 rfl) ?_
  refine va_get (ci := 1) (C := RJ4) (T := TJ4) (N := 4) hx hb hts q_u_J4 hown hK hP 0 rfl rfl 3 (by decide) (hts _ jw_fl_32) (fun _ h9 => h9) rfl dJ5_setLength_d00df_19 ?_
  refine lv_iload_n hx hb dJ5_setLength_d00df_22 rfl (lv_at hl 1 rfl) ?_
  refine lv_icmp_ge hx hb dJ5_setLength_d00df_23 (tgt := 63) (by decide) (fun _ => ?_) (fun hq9 => absurd (show (0 : Int32) ≤ nI n from nI_pos' (by omega)) hq9)
  refine lv_aload_n hx hb dJ5_setLength_d00df_63 rfl (lv_at hl 0 rfl) ?_
  refine va_get (ci := 1) (C := RJ4) (T := TJ4) (N := 4) hx hb hts q_u_J4 hown hK hP 0 rfl rfl 3 (by decide) (hts _ jw_fl_32) (fun _ h9 => h9) rfl dJ5_setLength_d00df_64 ?_
  refine lv_iload_n hx hb dJ5_setLength_d00df_67 rfl (lv_at hl 1 rfl) ?_
  by_cases hz0 : n = 0
  · skip
    refine lv_icmp_le hx hb dJ5_setLength_d00df_68 (tgt := 76) (by decide) (fun _ => ?_) (fun hq9 => absurd (show nI n ≤ 0 from by rw [hz0]; decide) hq9)
    refine lv_aload_n hx hb dJ5_setLength_d00df_76 rfl (lv_at hl 0 rfl) ?_
    refine lv_iload_n hx hb dJ5_setLength_d00df_77 rfl (lv_at hl 1 rfl) ?_
    refine va_put (ty := .int) (ci := 1) (C := RJ4) (T := TJ4) (N := 4) hx hb hts q_u_J4 tyJ4 tyJ4_ok nmJ4 hown hK hP hD hS 0 rfl rfl 3 (by decide) (hts _ jw_fl_32) (fun _ h9 => h9) rfl (by decide +kernel) rfl rfl (Nat.le_of_ble_eq_true rfl) dJ5_setLength_d00df_78 (fun H locs hP hD hS => ?_)
    have hP : va_P D vwCl [(h, .inr (1, [.ref b, .int 0, .int ml, .int 0])), (b, .inl (κ 1, mm, .inl a))] H := hP
    have hD : va_D A0 [(h, .inr (1, [.ref b, .int 0, .int ml, .int 0])), (b, .inl (κ 1, mm, .inl a))] := hD
    exact W.vret hx hb hr (fun t ht hW => ⟨⟨ml, rfl, trivial, by rw [ht]; exact hP, hD⟩, hS.F ht⟩) hS.2.2 dJ5_setLength_d00df_81 hlocks
  refine lv_icmp_le hx hb dJ5_setLength_d00df_68 (tgt := 76) (by decide) (fun hq9 => absurd hq9 (show ¬ nI n ≤ 0 from nI_nle (by omega) (by omega))) (fun _ => ?_)
  refine lv_aload_n hx hb dJ5_setLength_d00df_71 rfl (lv_at hl 0 rfl) ?_
  refine lv_iconst hx hb dJ5_setLength_d00df_72 (by decide : Int32.ofInt 1 = 1) ?_
  refine va_put (ty := .boolean) (ci := 1) (C := RJ4) (T := TJ4) (N := 4) hx hb hts q_u_J4 tyJ4 tyJ4_ok nmJ4 hown hK hP hD hS 0 rfl rfl 2 (by decide) (hts _ jw_fl_58) (fun _ h9 => h9) rfl (by decide +kernel) (by decide +kernel) (by decide +kernel) (Nat.le_of_ble_eq_true rfl) dJ5_setLength_d00df_73 (fun H locs hP hD hS => ?_)
  have hP : va_P D vwCl [(h, .inr (1, [.ref b, .int 0, .int 1, .int (nI n)])), (b, .inl (κ 1, mm, .inl a))] H := hP
  have hD : va_D A0 [(h, .inr (1, [.ref b, .int 0, .int 1, .int (nI n)])), (b, .inl (κ 1, mm, .inl a))] := hD
  refine lv_aload_n hx hb dJ5_setLength_d00df_76 rfl (lv_at hl 0 rfl) ?_
  refine lv_iload_n hx hb dJ5_setLength_d00df_77 rfl (lv_at hl 1 rfl) ?_
  refine va_put (ty := .int) (ci := 1) (C := RJ4) (T := TJ4) (N := 4) hx hb hts q_u_J4 tyJ4 tyJ4_ok nmJ4 hown hK hP hD hS 0 rfl rfl 3 (by decide) (hts _ jw_fl_32) (fun _ h9 => h9) rfl (by decide +kernel) rfl rfl (Nat.le_of_ble_eq_true rfl) dJ5_setLength_d00df_78 (fun H locs hP hD hS => ?_)
  have hP : va_P D vwCl [(h, .inr (1, [.ref b, .int 0, .int 1, .int 0])), (b, .inl (κ 1, mm, .inl a))] H := hP
  have hD : va_D A0 [(h, .inr (1, [.ref b, .int 0, .int 1, .int 0])), (b, .inl (κ 1, mm, .inl a))] := hD
  exact W.vret hx hb hr (fun t ht hW => ⟨⟨1, rfl, trivial, by rw [ht]; exact hP, hD⟩, hS.F ht⟩) hS.2.2 dJ5_setLength_d00df_81 hlocks
set_option maxRecDepth 100000 in
set_option maxHeartbeats 4000000 in
theorem s_AppC {α : Nat → Nat} {D : va_G} {κ : Nat → ClassId} (h b : Nat) (ml : Int32) (mm n : Nat) (a : Nat → Int32) (tx : Nat → Nat) (c0 kc : Nat) (hm : mm ≤ 65536) (hn : n ≤ mm) (hL : sb_Lat tx n a) (hf : sb_Fit a) (h0 : c0 < 256) (hkc : n + 1 ≤ mm ∨ sb_cap (n + 1) mm ≤ kc) (l : Launch) (sz : Nat) : Met l yJ4_append_cf468 (Cond.code yJ4_append_cf468 cJ4_append_cf468 2 (Option.some (Jvm.ClassFile.FieldType.object "java/lang/StringBuilder")) :: q_W) ({ frames := 5, cells := 1, slots := kc, locals := 140 } : Room) (s_Pc α D κ [.ref h, .int (nI c0)] [(h, .inr (1, [.ref b, .int 0, .int ml, .int (nI n)])), (b, .inl (κ 1, mm, .inl a))] sz) (va_Qr (fun u : Nat × (Nat → Int32) => sb_Lat (sb_cat tx n (fun _ => c0)) (n + 1) u.2 ∧ sb_Fit u.2) (fun u ra t => ra = h ∧ va_P D vwCl [(h, .inr (1, [.ref u.1, .int 0, .int ml, .int (nI (n + 1))])), (u.1, .inl (κ 1, sb_cap (n + 1) mm, .inl u.2))] t.heap ∧ va_D (va_A [(h, .inr (1, [.ref b, .int 0, .int ml, .int (nI n)])), (b, .inl (κ 1, mm, .inl a))] sz) [(h, .inr (1, [.ref u.1, .int 0, .int ml, .int (nI (n + 1))])), (u.1, .inl (κ 1, sb_cap (n + 1) mm, .inl u.2))]) (va_A [(h, .inr (1, [.ref b, .int 0, .int ml, .int (nI n)])), (b, .inl (κ 1, mm, .inl a))] sz)) 1 (kc) (va_A [(h, .inr (1, [.ref b, .int 0, .int ml, .int (nI n)])), (b, .inl (κ 1, mm, .inl a))] sz) := by
  refine Met.ofW (cc := cJ4_append_cf468) (maxL := 2) (ret := (Option.some (Jvm.ClassFile.FieldType.object "java/lang/StringBuilder"))) (by decide) rfl ?_
  intro p e s m args below meth c s₁ B hml hv
  obtain ⟨C, hr, ⟨ls, hle, hl⟩, hP, hD, hS⟩ := s_enter RJ4 rfl (Nat.le_of_ble_eq_true rfl) B hml hv
  obtain rfl : s.heap.size = sz := hv.2.1
  clear hv
  rw [hle]
  generalize va_A [(h, .inr (1, [.ref b, .int 0, .int ml, .int (nI n)])), (b, .inl (κ 1, mm, .inl a))] s.heap.size = A0 at C hD hS ⊢
  have hl : lv_has ls 2 [(0, .ref h), (1, .int (nI c0))] := hl
  have C0 := C
  obtain ⟨hx, hb, -, hown, hts, hK, hE, hA, hlocks⟩ := C
  refine lv_aload_n hx hb dJ4_append_cf468_0 rfl (lv_at hl 0 rfl) ?_
  refine lv_iload_n hx hb dJ4_append_cf468_1 rfl (lv_at hl 1 rfl) ?_
  have hfree := s_free C0 (wc := [(h, .inr (1, [.ref b, .int 0, .int ml, .int (nI n)])), (b, .inl (κ 1, mm, .inl a))]) hD hS [0, 1] rfl
  refine va_callr (s_runSU C0 (n := 1) (wc := [(h, .inr (1, [.ref b, .int 0, .int ml, .int (nI n)])), (b, .inl (κ 1, mm, .inl a))]) (As := [.int (nI c0)]) (rest := []) jw_ml_59 jw_sa_60 jw_su_61 jw_in_62 jw_ii_19 jw_co_63 (by decide +kernel) (s_appC (α := α) (D := D) (κ := κ) h b ml mm n a tx c0 kc hm hn hL hf h0 hkc l s.heap.size) hP hD hS [0, 1] rfl rfl (by decide) 0 rfl rfl rfl dJ4_append_cf468_2 hl rfl (Nat.le_of_ble_eq_true rfl) ⟨(Nat.le_of_ble_eq_true rfl), (Nat.le_of_ble_eq_true rfl)⟩ ⟨(by show 0 + 1 ≤ 1; omega), (by show 0 + kc ≤ kc; omega)⟩) hS (fun q _ hq => hfree q hq) hfree (fun u ra t H locs ht hvm hpost hB hz hk hS => ?_)
  obtain ⟨b2, a2⟩ := u
  obtain ⟨hLat, hf2⟩ := hpost
  obtain ⟨hra, hP1, hD1⟩ := hB
  rw [ht] at hP1
  have hP := hP1
  have hD := hD1.weaken (fun _ _ _ hq => hfree _ hq)
  have hP : va_P D vwCl [(h, .inr (1, [.ref b2, .int 0, .int ml, .int (nI (n + 1))])), (b2, .inl (κ 1, sb_cap (n + 1) mm, .inl a2))] H := hP
  have hD : va_D A0 [(h, .inr (1, [.ref b2, .int 0, .int ml, .int (nI (n + 1))])), (b2, .inl (κ 1, sb_cap (n + 1) mm, .inl a2))] := hD
  refine W.eq (g2 := F0 m 5 ls [.ref ra]) rfl ?_
  refine lv_pop hx hb dJ4_append_cf468_5 rfl ?_
  refine lv_aload_n hx hb dJ4_append_cf468_6 rfl (lv_at hl 0 rfl) ?_
  refine W.widen (k := 1) (n := kc) (by omega) (by omega) ?_
  exact W.aret (v := .ref h) hx hb hr (Or.inl ⟨_, rfl⟩) (Or.inr ⟨_, rfl⟩) (fun t ht hW => ⟨⟨(b2, a2), h, rfl, ⟨hLat, hf2⟩, rfl, by rw [ht]; exact hP, hD⟩, hS.F ht⟩) hS.2.2 dJ4_append_cf468_7 hlocks
set_option maxRecDepth 100000 in
set_option maxHeartbeats 4000000 in
theorem s_AppI {α : Nat → Nat} {D : va_G} {κ : Nat → ClassId} (h b : Nat) (ml : Int32) (mm n : Nat) (a : Nat → Int32) (tx : Nat → Nat) (v kc : Nat) (hm : mm ≤ 65536) (hn : n ≤ mm) (hL : sb_Lat tx n a) (hf : sb_Fit a) (h0 : v < 2 ^ 31) (hkc : n + sb_dg v ≤ mm ∨ sb_cap (n + sb_dg v) mm ≤ kc) (hcap : sb_cap (n + sb_dg v) mm ≤ 65536) (l : Launch) (sz : Nat) : Met l yJ4_append_bf812 (Cond.code yJ4_append_bf812 cJ4_append_bf812 2 (Option.some (Jvm.ClassFile.FieldType.object "java/lang/StringBuilder")) :: q_W) ({ frames := 5, cells := 1, slots := kc, locals := 140 } : Room) (s_Pc α D κ [.ref h, .int (nI v)] [(h, .inr (1, [.ref b, .int 0, .int ml, .int (nI n)])), (b, .inl (κ 1, mm, .inl a))] sz) (va_Qr (fun u : Nat × (Nat → Int32) => sb_Lat (sb_cat tx n (sb_dec v)) (n + sb_dg v) u.2 ∧ sb_Fit u.2) (fun u ra t => ra = h ∧ va_P D vwCl [(h, .inr (1, [.ref u.1, .int 0, .int ml, .int (nI (n + sb_dg v))])), (u.1, .inl (κ 1, sb_cap (n + sb_dg v) mm, .inl u.2))] t.heap ∧ va_D (va_A [(h, .inr (1, [.ref b, .int 0, .int ml, .int (nI n)])), (b, .inl (κ 1, mm, .inl a))] sz) [(h, .inr (1, [.ref u.1, .int 0, .int ml, .int (nI (n + sb_dg v))])), (u.1, .inl (κ 1, sb_cap (n + sb_dg v) mm, .inl u.2))]) (va_A [(h, .inr (1, [.ref b, .int 0, .int ml, .int (nI n)])), (b, .inl (κ 1, mm, .inl a))] sz)) 1 (kc) (va_A [(h, .inr (1, [.ref b, .int 0, .int ml, .int (nI n)])), (b, .inl (κ 1, mm, .inl a))] sz) := by
  refine Met.ofW (cc := cJ4_append_bf812) (maxL := 2) (ret := (Option.some (Jvm.ClassFile.FieldType.object "java/lang/StringBuilder"))) (by decide) rfl ?_
  intro p e s m args below meth c s₁ B hml hv
  obtain ⟨C, hr, ⟨ls, hle, hl⟩, hP, hD, hS⟩ := s_enter RJ4 rfl (Nat.le_of_ble_eq_true rfl) B hml hv
  obtain rfl : s.heap.size = sz := hv.2.1
  clear hv
  rw [hle]
  generalize va_A [(h, .inr (1, [.ref b, .int 0, .int ml, .int (nI n)])), (b, .inl (κ 1, mm, .inl a))] s.heap.size = A0 at C hD hS ⊢
  have hl : lv_has ls 2 [(0, .ref h), (1, .int (nI v))] := hl
  have C0 := C
  obtain ⟨hx, hb, -, hown, hts, hK, hE, hA, hlocks⟩ := C
  refine lv_aload_n hx hb dJ4_append_bf812_0 rfl (lv_at hl 0 rfl) ?_
  refine lv_iload_n hx hb dJ4_append_bf812_1 rfl (lv_at hl 1 rfl) ?_
  have hfree := s_free C0 (wc := [(h, .inr (1, [.ref b, .int 0, .int ml, .int (nI n)])), (b, .inl (κ 1, mm, .inl a))]) hD hS [0, 1] rfl
  refine va_callr (s_runSU C0 (n := 1) (wc := [(h, .inr (1, [.ref b, .int 0, .int ml, .int (nI n)])), (b, .inl (κ 1, mm, .inl a))]) (As := [.int (nI v)]) (rest := []) jw_ml_64 jw_sa_65 jw_su_61 jw_in_66 jw_ii_19 jw_co_67 (by decide +kernel) (s_appI (α := α) (D := D) (κ := κ) h b ml mm n a tx v kc hm hn hL hf h0 hkc hcap l s.heap.size) hP hD hS [0, 1] rfl rfl (by decide) 0 rfl rfl rfl dJ4_append_bf812_2 hl rfl (Nat.le_of_ble_eq_true rfl) ⟨(Nat.le_of_ble_eq_true rfl), (Nat.le_of_ble_eq_true rfl)⟩ ⟨(by show 0 + 1 ≤ 1; omega), (by show 0 + kc ≤ kc; omega)⟩) hS (fun q _ hq => hfree q hq) hfree (fun u ra t H locs ht hvm hpost hB hz hk hS => ?_)
  obtain ⟨b2, a2⟩ := u
  obtain ⟨hLat, hf2⟩ := hpost
  obtain ⟨hra, hP1, hD1⟩ := hB
  rw [ht] at hP1
  have hP := hP1
  have hD := hD1.weaken (fun _ _ _ hq => hfree _ hq)
  have hP : va_P D vwCl [(h, .inr (1, [.ref b2, .int 0, .int ml, .int (nI (n + sb_dg v))])), (b2, .inl (κ 1, sb_cap (n + sb_dg v) mm, .inl a2))] H := hP
  have hD : va_D A0 [(h, .inr (1, [.ref b2, .int 0, .int ml, .int (nI (n + sb_dg v))])), (b2, .inl (κ 1, sb_cap (n + sb_dg v) mm, .inl a2))] := hD
  refine W.eq (g2 := F0 m 5 ls [.ref ra]) rfl ?_
  refine lv_pop hx hb dJ4_append_bf812_5 rfl ?_
  refine lv_aload_n hx hb dJ4_append_bf812_6 rfl (lv_at hl 0 rfl) ?_
  refine W.widen (k := 1) (n := kc) (by omega) (by omega) ?_
  exact W.aret (v := .ref h) hx hb hr (Or.inl ⟨_, rfl⟩) (Or.inr ⟨_, rfl⟩) (fun t ht hW => ⟨⟨(b2, a2), h, rfl, ⟨hLat, hf2⟩, rfl, by rw [ht]; exact hP, hD⟩, hS.F ht⟩) hS.2.2 dJ4_append_bf812_7 hlocks
set_option maxRecDepth 100000 in
set_option maxHeartbeats 4000000 in
theorem s_At {α : Nat → Nat} {D : va_G} {κ : Nat → ClassId} (h b : Nat) (ml : Int32) (mm n : Nat) (a : Nat → Int32) (tx : Nat → Nat) (i : Nat) (hm : mm ≤ 65536) (hn : n ≤ mm) (hL : sb_Lat tx n a) (h0 : i < n) (l : Launch) (sz : Nat) : Met l yJ4_charAt_5068e (Cond.code yJ4_charAt_5068e cJ4_charAt_5068e 2 (Option.some Jvm.ClassFile.FieldType.char) :: q_W) ({ frames := 3, cells := 0, slots := 0, locals := 75 } : Room) (s_Pc α D κ [.ref h, .int (nI i)] [(h, .inr (1, [.ref b, .int 0, .int ml, .int (nI n)])), (b, .inl (κ 1, mm, .inl a))] sz) (s_Qp (some (.int (nI (tx i))))) 0 0 (va_A [(h, .inr (1, [.ref b, .int 0, .int ml, .int (nI n)])), (b, .inl (κ 1, mm, .inl a))] sz) := by
  refine Met.ofW (cc := cJ4_charAt_5068e) (maxL := 2) (ret := (Option.some Jvm.ClassFile.FieldType.char)) (by decide) rfl ?_
  intro p e s m args below meth c s₁ B hml hv
  obtain ⟨C, hr, ⟨ls, hle, hl⟩, hP, hD, hS⟩ := s_enter RJ4 rfl (Nat.le_of_ble_eq_true rfl) B hml hv
  obtain rfl : s.heap.size = sz := hv.2.1
  clear hv
  rw [hle]
  generalize va_A [(h, .inr (1, [.ref b, .int 0, .int ml, .int (nI n)])), (b, .inl (κ 1, mm, .inl a))] s.heap.size = A0 at C hD hS ⊢
  have hl : lv_has ls 2 [(0, .ref h), (1, .int (nI i))] := hl
  have C0 := C
  obtain ⟨hx, hb, -, hown, hts, hK, hE, hA, hlocks⟩ := C
  refine lv_aload_n hx hb dJ4_charAt_5068e_0 rfl (lv_at hl 0 rfl) ?_
  refine lv_iload_n hx hb dJ4_charAt_5068e_1 rfl (lv_at hl 1 rfl) ?_
  refine s_callp (v := some (.int (nI (tx i)))) (s_runSU C0 (n := 1) (wc := [(h, .inr (1, [.ref b, .int 0, .int ml, .int (nI n)])), (b, .inl (κ 1, mm, .inl a))]) (As := [.int (nI i)]) (rest := []) jw_ml_68 jw_sa_69 jw_su_61 jw_in_70 jw_ii_19 jw_co_71 (by decide +kernel) (s_sbAt (α := α) (D := D) (κ := κ) h b ml mm n a tx i hm hn hL h0 l s.heap.size) hP hD hS [0, 1] rfl rfl (by decide) 0 rfl rfl rfl dJ4_charAt_5068e_2 hl rfl (Nat.le_of_ble_eq_true rfl) ⟨(Nat.le_of_ble_eq_true rfl), (Nat.le_of_ble_eq_true rfl)⟩ ⟨(by show 0 + 0 ≤ 0; omega), (by show 0 + 0 ≤ 0; omega)⟩) hS (s_free C0 (wc := [(h, .inr (1, [.ref b, .int 0, .int ml, .int (nI n)])), (b, .inl (κ 1, mm, .inl a))]) hD hS [0, 1] rfl) (fun locs hS => ?_)
  refine W.eq (g2 := F0 m 5 ls [.int (nI (tx i))]) rfl ?_
  have q1 := (hL i h0).1
  exact W.zret (v := nI (tx i)) hx hb hr ((pk_charN (q := tx i) (by omega)).1) (fun t ht hW => ⟨rfl, ht⟩) hS.2.2 dJ4_charAt_5068e_5 hlocks
set_option maxRecDepth 100000 in
set_option maxHeartbeats 4000000 in
theorem s_Len {α : Nat → Nat} {D : va_G} {κ : Nat → ClassId} (h b : Nat) (ml cnt : Int32) (l : Launch) (sz : Nat) : Met l yJ4_length_8abf5 (Cond.code yJ4_length_8abf5 cJ4_length_8abf5 1 (Option.some Jvm.ClassFile.FieldType.int) :: q_W) ({ frames := 1, cells := 0, slots := 0, locals := 20 } : Room) (s_Pc α D κ [.ref h] [(h, .inr (1, [.ref b, .int 0, .int ml, .int cnt]))] sz) (s_Qp (some (.int cnt))) 0 0 (va_A [(h, .inr (1, [.ref b, .int 0, .int ml, .int cnt]))] sz) := by
  refine Met.ofW (cc := cJ4_length_8abf5) (maxL := 1) (ret := (Option.some Jvm.ClassFile.FieldType.int)) (by decide) rfl ?_
  intro p e s m args below meth c s₁ B hml hv
  obtain ⟨C, hr, ⟨ls, hle, hl⟩, hP, hD, hS⟩ := s_enter RJ4 rfl (Nat.le_of_ble_eq_true rfl) B hml hv
  obtain rfl : s.heap.size = sz := hv.2.1
  clear hv
  rw [hle]
  generalize va_A [(h, .inr (1, [.ref b, .int 0, .int ml, .int cnt]))] s.heap.size = A0 at C hD hS ⊢
  have hl : lv_has ls 1 [(0, .ref h)] := hl
  have C0 := C
  obtain ⟨hx, hb, -, hown, hts, hK, hE, hA, hlocks⟩ := C
  refine lv_aload_n hx hb dJ4_length_8abf5_0 rfl (lv_at hl 0 rfl) ?_
  refine s_callp (v := some (.int cnt)) (s_runSU C0 (n := 0) (wc := [(h, .inr (1, [.ref b, .int 0, .int ml, .int cnt]))]) (As := []) (rest := []) jw_ml_72 jw_sa_73 jw_su_61 jw_in_74 jw_ii_19 jw_co_75 (by decide +kernel) (s_sbLen (α := α) (D := D) (κ := κ) h b ml cnt l s.heap.size) hP hD hS [0] rfl rfl (by decide) 0 rfl rfl rfl dJ4_length_8abf5_1 hl rfl (Nat.le_of_ble_eq_true rfl) ⟨(Nat.le_of_ble_eq_true rfl), (Nat.le_of_ble_eq_true rfl)⟩ ⟨(by show 0 + 0 ≤ 0; omega), (by show 0 + 0 ≤ 0; omega)⟩) hS (s_free C0 (wc := [(h, .inr (1, [.ref b, .int 0, .int ml, .int cnt]))]) hD hS [0] rfl) (fun locs hS => ?_)
  refine W.eq (g2 := F0 m 4 ls [.int cnt]) rfl ?_
  exact W.iret (v := cnt) hx hb hr (fun t ht hW => ⟨rfl, ht⟩) hS.2.2 dJ4_length_8abf5_4 hlocks
set_option maxRecDepth 100000 in
set_option maxHeartbeats 4000000 in
theorem s_Set0 {α : Nat → Nat} {D : va_G} {κ : Nat → ClassId} (h b : Nat) (ml : Int32) (mm n : Nat) (a : Nat → Int32) (hm : mm ≤ 65536) (hn : n ≤ mm) (l : Launch) (sz : Nat) : Met l yJ4_setLength_d00df (Cond.code yJ4_setLength_d00df cJ4_setLength_d00df 2 (Option.none : Option Jvm.ClassFile.FieldType) :: q_W) ({ frames := 5, cells := 0, slots := 0, locals := 140 } : Room) (s_Pc α D κ [.ref h, .int 0] [(h, .inr (1, [.ref b, .int 0, .int ml, .int (nI n)])), (b, .inl (κ 1, mm, .inl a))] sz) (va_Qv (fun _ : Int32 => True) (fun u t => va_P D vwCl [(h, .inr (1, [.ref b, .int 0, .int u, .int 0])), (b, .inl (κ 1, mm, .inl a))] t.heap ∧ va_D (va_A [(h, .inr (1, [.ref b, .int 0, .int ml, .int (nI n)])), (b, .inl (κ 1, mm, .inl a))] sz) [(h, .inr (1, [.ref b, .int 0, .int u, .int 0])), (b, .inl (κ 1, mm, .inl a))]) (va_A [(h, .inr (1, [.ref b, .int 0, .int ml, .int (nI n)])), (b, .inl (κ 1, mm, .inl a))] sz)) 0 0 (va_A [(h, .inr (1, [.ref b, .int 0, .int ml, .int (nI n)])), (b, .inl (κ 1, mm, .inl a))] sz) := by
  refine Met.ofW (cc := cJ4_setLength_d00df) (maxL := 2) (ret := (Option.none : Option Jvm.ClassFile.FieldType)) (by decide) rfl ?_
  intro p e s m args below meth c s₁ B hml hv
  obtain ⟨C, hr, ⟨ls, hle, hl⟩, hP, hD, hS⟩ := s_enter RJ4 rfl (Nat.le_of_ble_eq_true rfl) B hml hv
  obtain rfl : s.heap.size = sz := hv.2.1
  clear hv
  rw [hle]
  generalize va_A [(h, .inr (1, [.ref b, .int 0, .int ml, .int (nI n)])), (b, .inl (κ 1, mm, .inl a))] s.heap.size = A0 at C hD hS ⊢
  have hl : lv_has ls 2 [(0, .ref h), (1, .int 0)] := hl
  have C0 := C
  obtain ⟨hx, hb, -, hown, hts, hK, hE, hA, hlocks⟩ := C
  refine lv_aload_n hx hb dJ4_setLength_d00df_0 rfl (lv_at hl 0 rfl) ?_
  refine lv_iload_n hx hb dJ4_setLength_d00df_1 rfl (lv_at hl 1 rfl) ?_
  have hfree := s_free C0 (wc := [(h, .inr (1, [.ref b, .int 0, .int ml, .int (nI n)])), (b, .inl (κ 1, mm, .inl a))]) hD hS [0, 1] rfl
  refine va_callv (s_runSU C0 (n := 1) (wc := [(h, .inr (1, [.ref b, .int 0, .int ml, .int (nI n)])), (b, .inl (κ 1, mm, .inl a))]) (As := [.int 0]) (rest := []) jw_ml_76 jw_sa_77 jw_su_61 jw_in_78 jw_ii_19 jw_co_79 (by decide +kernel) (s_set0 (α := α) (D := D) (κ := κ) h b ml mm n a hm hn l s.heap.size) hP hD hS [0, 1] rfl rfl (by decide) 0 rfl rfl rfl dJ4_setLength_d00df_2 hl rfl (Nat.le_of_ble_eq_true rfl) ⟨(Nat.le_of_ble_eq_true rfl), (Nat.le_of_ble_eq_true rfl)⟩ ⟨(by show 0 + 0 ≤ 0; omega), (by show 0 + 0 ≤ 0; omega)⟩) hS (fun q _ hq => hfree q hq) hfree (fun ml2 t H locs ht hvm hpost hB hz hk hS => ?_)
  obtain ⟨hP1, hD1⟩ := hB
  rw [ht] at hP1
  have hP := hP1
  have hD := hD1.weaken (fun _ _ _ hq => hfree _ hq)
  have hP : va_P D vwCl [(h, .inr (1, [.ref b, .int 0, .int ml2, .int 0])), (b, .inl (κ 1, mm, .inl a))] H := hP
  have hD : va_D A0 [(h, .inr (1, [.ref b, .int 0, .int ml2, .int 0])), (b, .inl (κ 1, mm, .inl a))] := hD
  refine W.eq (g2 := F0 m 5 ls []) rfl ?_
  exact W.vret hx hb hr (fun t ht hW => ⟨⟨ml2, rfl, trivial, by rw [ht]; exact hP, hD⟩, hS.F ht⟩) hS.2.2 dJ4_setLength_d00df_5 hlocks
