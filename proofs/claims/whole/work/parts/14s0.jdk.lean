/-! ===== the methods of the JDK that charAt and indexOf reach ===== -/
abbrev yS_charAt : MethodName := ⟨"java/lang/String", "charAt", "(I)C"⟩
abbrev mS_charAt : MK := (yS_charAt, prog_13_method_56_code, 2, (some .char))
theorem ok_S_charAt : mOK mS_charAt 1 := ⟨by decide +kernel, ⟨by decide +kernel, by decide +kernel, by decide +kernel⟩, (TWt1 11 rfl rfl), (TWt2 148 rfl rfl), by decide⟩
theorem vi_S_charAt : Cond.instanceMethod mS_charAt.1 ∈ TW ∧ Cond.selects mS_charAt.1.cls mS_charAt.1 mS_charAt.1 ∈ TW := ⟨(TWt2 146 rfl rfl), (TWt2 147 rfl rfl)⟩
abbrev yS_isLatin1 : MethodName := ⟨"java/lang/String", "isLatin1", "()Z"⟩
abbrev mS_isLatin1 : MK := (yS_isLatin1, prog_13_method_154_code, 1, (some .boolean))
theorem ok_S_isLatin1 : mOK mS_isLatin1 0 := ⟨by decide +kernel, ⟨by decide +kernel, by decide +kernel, by decide +kernel⟩, (TWt1 11 rfl rfl), (TWt2 152 rfl rfl), by decide⟩
theorem vi_S_isLatin1 : Cond.instanceMethod mS_isLatin1.1 ∈ TW ∧ Cond.selects mS_isLatin1.1.cls mS_isLatin1.1 mS_isLatin1.1 ∈ TW := ⟨(TWt2 150 rfl rfl), (TWt2 151 rfl rfl)⟩
abbrev yS_checkIndex : MethodName := ⟨"java/lang/String", "checkIndex", "(II)V"⟩
abbrev mS_checkIndex : MK := (yS_checkIndex, prog_13_method_155_code, 2, none)
theorem ok_S_checkIndex : mOK mS_checkIndex 2 := ⟨by decide +kernel, ⟨by decide +kernel, by decide +kernel, by decide +kernel⟩, (TWt1 11 rfl rfl), (TWt2 160 rfl rfl), by decide⟩
theorem sv_S_checkIndex : Cond.static mS_checkIndex.1 ∈ TW := (TWt2 159 rfl rfl)
abbrev yS_indexOf : MethodName := ⟨"java/lang/String", "indexOf", "(I)I"⟩
abbrev mS_indexOf : MK := (yS_indexOf, prog_13_method_79_code, 2, (some .int))
theorem ok_S_indexOf : mOK mS_indexOf 1 := ⟨by decide +kernel, ⟨by decide +kernel, by decide +kernel, by decide +kernel⟩, (TWt1 11 rfl rfl), (TWt2 197 rfl rfl), by decide⟩
theorem vi_S_indexOf : Cond.instanceMethod mS_indexOf.1 ∈ TW ∧ Cond.selects mS_indexOf.1.cls mS_indexOf.1 mS_indexOf.1 ∈ TW := ⟨(TWt2 195 rfl rfl), (TWt2 196 rfl rfl)⟩
abbrev yS_indexOf2 : MethodName := ⟨"java/lang/String", "indexOf", "(II)I"⟩
abbrev mS_indexOf2 : MK := (yS_indexOf2, prog_13_method_80_code, 3, (some .int))
theorem ok_S_indexOf2 : mOK mS_indexOf2 2 := ⟨by decide +kernel, ⟨by decide +kernel, by decide +kernel, by decide +kernel⟩, (TWt1 11 rfl rfl), (TWt2 201 rfl rfl), by decide⟩
theorem vi_S_indexOf2 : Cond.instanceMethod mS_indexOf2.1 ∈ TW ∧ Cond.selects mS_indexOf2.1.cls mS_indexOf2.1 mS_indexOf2.1 ∈ TW := ⟨(TWt2 199 rfl rfl), (TWt2 200 rfl rfl)⟩
abbrev yS_length : MethodName := ⟨"java/lang/String", "length", "()I"⟩
abbrev mS_length : MK := (yS_length, prog_13_method_54_code, 1, (some .int))
theorem ok_S_length : mOK mS_length 0 := ⟨by decide +kernel, ⟨by decide +kernel, by decide +kernel, by decide +kernel⟩, (TWt1 11 rfl rfl), (TWt2 205 rfl rfl), by decide⟩
theorem vi_S_length : Cond.instanceMethod mS_length.1 ∈ TW ∧ Cond.selects mS_length.1.cls mS_length.1 mS_length.1 ∈ TW := ⟨(TWt2 203 rfl rfl), (TWt2 204 rfl rfl)⟩
abbrev yS_coder : MethodName := ⟨"java/lang/String", "coder", "()B"⟩
abbrev mS_coder : MK := (yS_coder, prog_13_method_152_code, 1, (some .byte))
theorem ok_S_coder : mOK mS_coder 0 := ⟨by decide +kernel, ⟨by decide +kernel, by decide +kernel, by decide +kernel⟩, (TWt1 11 rfl rfl), (TWt2 209 rfl rfl), by decide⟩
theorem vi_S_coder : Cond.instanceMethod mS_coder.1 ∈ TW ∧ Cond.selects mS_coder.1.cls mS_coder.1 mS_coder.1 ∈ TW := ⟨(TWt2 207 rfl rfl), (TWt2 208 rfl rfl)⟩
abbrev yLa_charAt : MethodName := ⟨"java/lang/StringLatin1", "charAt", "([BI)C"⟩
abbrev mLa_charAt : MK := (yLa_charAt, prog_14_method_2_code, 2, (some .char))
theorem ok_La_charAt : mOK mLa_charAt 2 := ⟨by decide +kernel, ⟨by decide +kernel, by decide +kernel, by decide +kernel⟩, (TWt1 12 rfl rfl), (TWt2 157 rfl rfl), by decide⟩
theorem sv_La_charAt : Cond.static mLa_charAt.1 ∈ TW := (TWt2 156 rfl rfl)
abbrev yLa_canEncode : MethodName := ⟨"java/lang/StringLatin1", "canEncode", "(I)Z"⟩
abbrev mLa_canEncode : MK := (yLa_canEncode, prog_14_method_4_code, 1, (some .boolean))
theorem ok_La_canEncode : mOK mLa_canEncode 1 := ⟨by decide +kernel, ⟨by decide +kernel, by decide +kernel, by decide +kernel⟩, (TWt1 12 rfl rfl), (TWt2 215 rfl rfl), by decide⟩
theorem sv_La_canEncode : Cond.static mLa_canEncode.1 ∈ TW := (TWt2 214 rfl rfl)
abbrev yLa_indexOf : MethodName := ⟨"java/lang/StringLatin1", "indexOf", "([BIII)I"⟩
abbrev mLa_indexOf : MK := (yLa_indexOf, prog_14_method_22_code, 4, (some .int))
theorem ok_La_indexOf : mOK mLa_indexOf 4 := ⟨by decide +kernel, ⟨by decide +kernel, by decide +kernel, by decide +kernel⟩, (TWt1 12 rfl rfl), (TWt2 212 rfl rfl), by decide⟩
theorem sv_La_indexOf : Cond.static mLa_indexOf.1 ∈ TW := (TWt2 211 rfl rfl)
abbrev yLa_indexOfChar : MethodName := ⟨"java/lang/StringLatin1", "indexOfChar", "([BIII)I"⟩
abbrev mLa_indexOfChar : MK := (yLa_indexOfChar, prog_14_method_23_code, 6, (some .int))
theorem ok_La_indexOfChar : mOK mLa_indexOfChar 4 := ⟨by decide +kernel, ⟨by decide +kernel, by decide +kernel, by decide +kernel⟩, (TWt1 12 rfl rfl), (TWt2 220 rfl rfl), by decide⟩
theorem sv_La_indexOfChar : Cond.static mLa_indexOfChar.1 ∈ TW := (TWt2 219 rfl rfl)
abbrev yPr_checkIndex : MethodName := ⟨"jdk/internal/util/Preconditions", "checkIndex", "(IILjava/util/function/BiFunction;)I"⟩
abbrev mPr_checkIndex : MK := (yPr_checkIndex, prog_17_method_11_code, 3, (some .int))
theorem ok_Pr_checkIndex : mOK mPr_checkIndex 3 := ⟨by decide +kernel, ⟨by decide +kernel, by decide +kernel, by decide +kernel⟩, (TWt1 13 rfl rfl), (TWt2 165 rfl rfl), by decide⟩
theorem sv_Pr_checkIndex : Cond.static mPr_checkIndex.1 ∈ TW := (TWt2 164 rfl rfl)
theorem ml_X5_44 : Cond.methodLink "HorsesOwnWays$Tape" 44 yS_indexOf ∈ TW := (TWt2 194 rfl rfl)
theorem ml_X5_56 : Cond.methodLink "HorsesOwnWays$Tape" 56 yS_charAt ∈ TW := (TWt2 145 rfl rfl)
theorem ml_S_335 : Cond.methodLink "java/lang/String" 335 yS_coder ∈ TW := (TWt2 206 rfl rfl)
theorem ml_S_492 : Cond.methodLink "java/lang/String" 492 yS_isLatin1 ∈ TW := (TWt2 149 rfl rfl)
theorem ml_S_495 : Cond.methodLink "java/lang/String" 495 yLa_charAt ∈ TW := (TWt2 155 rfl rfl)
theorem ml_S_505 : Cond.methodLink "java/lang/String" 505 yS_length ∈ TW := (TWt2 202 rfl rfl)
theorem ml_S_633 : Cond.methodLink "java/lang/String" 633 yS_indexOf2 ∈ TW := (TWt2 198 rfl rfl)
theorem ml_S_637 : Cond.methodLink "java/lang/String" 637 yLa_indexOf ∈ TW := (TWt2 210 rfl rfl)
theorem ml_S_1059 : Cond.methodLink "java/lang/String" 1059 yPr_checkIndex ∈ TW := (TWt2 163 rfl rfl)
theorem ml_La_9 : Cond.methodLink "java/lang/StringLatin1" 9 yS_checkIndex ∈ TW := (TWt2 158 rfl rfl)
theorem ml_La_88 : Cond.methodLink "java/lang/StringLatin1" 88 yLa_canEncode ∈ TW := (TWt2 213 rfl rfl)
theorem ml_La_95 : Cond.methodLink "java/lang/StringLatin1" 95 yLa_indexOfChar ∈ TW := (TWt2 218 rfl rfl)
theorem dS_charAt_0 : decode mS_charAt.2.1 0 = .ok (.aload_n 0, 1) := by decide +kernel
theorem dS_charAt_1 : decode mS_charAt.2.1 1 = .ok (.invokevirtual 492, 3) := by decide +kernel
theorem dS_charAt_4 : decode mS_charAt.2.1 4 = .ok (.ifCond .eq 12, 3) := by decide +kernel
theorem dS_charAt_7 : decode mS_charAt.2.1 7 = .ok (.aload_n 0, 1) := by decide +kernel
theorem dS_charAt_8 : decode mS_charAt.2.1 8 = .ok (.getfield 9, 3) := by decide +kernel
theorem dS_charAt_11 : decode mS_charAt.2.1 11 = .ok (.iload_n 1, 1) := by decide +kernel
theorem dS_charAt_12 : decode mS_charAt.2.1 12 = .ok (.invokestatic 495, 3) := by decide +kernel
theorem dS_charAt_15 : decode mS_charAt.2.1 15 = .ok (.ireturn, 1) := by decide +kernel
theorem dS_isLatin1_0 : decode mS_isLatin1.2.1 0 = .ok (.getstatic 38, 3) := by decide +kernel
theorem dS_isLatin1_3 : decode mS_isLatin1.2.1 3 = .ok (.ifCond .eq 14, 3) := by decide +kernel
theorem dS_isLatin1_6 : decode mS_isLatin1.2.1 6 = .ok (.aload_n 0, 1) := by decide +kernel
theorem dS_isLatin1_7 : decode mS_isLatin1.2.1 7 = .ok (.getfield 15, 3) := by decide +kernel
theorem dS_isLatin1_10 : decode mS_isLatin1.2.1 10 = .ok (.ifCond .ne 7, 3) := by decide +kernel
theorem dS_isLatin1_13 : decode mS_isLatin1.2.1 13 = .ok (.iconst 1, 1) := by decide +kernel
theorem dS_isLatin1_14 : decode mS_isLatin1.2.1 14 = .ok (.goto 4, 3) := by decide +kernel
theorem dS_isLatin1_18 : decode mS_isLatin1.2.1 18 = .ok (.ireturn, 1) := by decide +kernel
theorem dS_checkIndex_0 : decode mS_checkIndex.2.1 0 = .ok (.iload_n 0, 1) := by decide +kernel
theorem dS_checkIndex_1 : decode mS_checkIndex.2.1 1 = .ok (.iload_n 1, 1) := by decide +kernel
theorem dS_checkIndex_2 : decode mS_checkIndex.2.1 2 = .ok (.getstatic 1053, 3) := by decide +kernel
theorem dS_checkIndex_5 : decode mS_checkIndex.2.1 5 = .ok (.invokestatic 1059, 3) := by decide +kernel
theorem dS_checkIndex_8 : decode mS_checkIndex.2.1 8 = .ok (.pop, 1) := by decide +kernel
theorem dS_checkIndex_9 : decode mS_checkIndex.2.1 9 = .ok (.return_, 1) := by decide +kernel
theorem dS_indexOf_0 : decode mS_indexOf.2.1 0 = .ok (.aload_n 0, 1) := by decide +kernel
theorem dS_indexOf_1 : decode mS_indexOf.2.1 1 = .ok (.iload_n 1, 1) := by decide +kernel
theorem dS_indexOf_2 : decode mS_indexOf.2.1 2 = .ok (.iconst 0, 1) := by decide +kernel
theorem dS_indexOf_3 : decode mS_indexOf.2.1 3 = .ok (.invokevirtual 633, 3) := by decide +kernel
theorem dS_indexOf_6 : decode mS_indexOf.2.1 6 = .ok (.ireturn, 1) := by decide +kernel
theorem dS_indexOf2_0 : decode mS_indexOf2.2.1 0 = .ok (.aload_n 0, 1) := by decide +kernel
theorem dS_indexOf2_1 : decode mS_indexOf2.2.1 1 = .ok (.invokevirtual 492, 3) := by decide +kernel
theorem dS_indexOf2_4 : decode mS_indexOf2.2.1 4 = .ok (.ifCond .eq 19, 3) := by decide +kernel
theorem dS_indexOf2_7 : decode mS_indexOf2.2.1 7 = .ok (.aload_n 0, 1) := by decide +kernel
theorem dS_indexOf2_8 : decode mS_indexOf2.2.1 8 = .ok (.getfield 9, 3) := by decide +kernel
theorem dS_indexOf2_11 : decode mS_indexOf2.2.1 11 = .ok (.iload_n 1, 1) := by decide +kernel
theorem dS_indexOf2_12 : decode mS_indexOf2.2.1 12 = .ok (.iload_n 2, 1) := by decide +kernel
theorem dS_indexOf2_13 : decode mS_indexOf2.2.1 13 = .ok (.aload_n 0, 1) := by decide +kernel
theorem dS_indexOf2_14 : decode mS_indexOf2.2.1 14 = .ok (.invokevirtual 505, 3) := by decide +kernel
theorem dS_indexOf2_17 : decode mS_indexOf2.2.1 17 = .ok (.invokestatic 637, 3) := by decide +kernel
theorem dS_indexOf2_20 : decode mS_indexOf2.2.1 20 = .ok (.goto 16, 3) := by decide +kernel
theorem dS_indexOf2_36 : decode mS_indexOf2.2.1 36 = .ok (.ireturn, 1) := by decide +kernel
theorem dS_length_0 : decode mS_length.2.1 0 = .ok (.aload_n 0, 1) := by decide +kernel
theorem dS_length_1 : decode mS_length.2.1 1 = .ok (.getfield 9, 3) := by decide +kernel
theorem dS_length_4 : decode mS_length.2.1 4 = .ok (.arraylength, 1) := by decide +kernel
theorem dS_length_5 : decode mS_length.2.1 5 = .ok (.aload_n 0, 1) := by decide +kernel
theorem dS_length_6 : decode mS_length.2.1 6 = .ok (.invokevirtual 335, 3) := by decide +kernel
theorem dS_length_9 : decode mS_length.2.1 9 = .ok (.ishr, 1) := by decide +kernel
theorem dS_length_10 : decode mS_length.2.1 10 = .ok (.ireturn, 1) := by decide +kernel
theorem dS_coder_0 : decode mS_coder.2.1 0 = .ok (.getstatic 38, 3) := by decide +kernel
theorem dS_coder_3 : decode mS_coder.2.1 3 = .ok (.ifCond .eq 10, 3) := by decide +kernel
theorem dS_coder_6 : decode mS_coder.2.1 6 = .ok (.aload_n 0, 1) := by decide +kernel
theorem dS_coder_7 : decode mS_coder.2.1 7 = .ok (.getfield 15, 3) := by decide +kernel
theorem dS_coder_10 : decode mS_coder.2.1 10 = .ok (.goto 4, 3) := by decide +kernel
theorem dS_coder_14 : decode mS_coder.2.1 14 = .ok (.ireturn, 1) := by decide +kernel
theorem dLa_charAt_0 : decode mLa_charAt.2.1 0 = .ok (.iload_n 1, 1) := by decide +kernel
theorem dLa_charAt_1 : decode mLa_charAt.2.1 1 = .ok (.aload_n 0, 1) := by decide +kernel
theorem dLa_charAt_2 : decode mLa_charAt.2.1 2 = .ok (.arraylength, 1) := by decide +kernel
theorem dLa_charAt_3 : decode mLa_charAt.2.1 3 = .ok (.invokestatic 9, 3) := by decide +kernel
theorem dLa_charAt_6 : decode mLa_charAt.2.1 6 = .ok (.aload_n 0, 1) := by decide +kernel
theorem dLa_charAt_7 : decode mLa_charAt.2.1 7 = .ok (.iload_n 1, 1) := by decide +kernel
theorem dLa_charAt_8 : decode mLa_charAt.2.1 8 = .ok (.baload, 1) := by decide +kernel
theorem dLa_charAt_9 : decode mLa_charAt.2.1 9 = .ok (.sipush 255, 3) := by decide +kernel
theorem dLa_charAt_12 : decode mLa_charAt.2.1 12 = .ok (.iand, 1) := by decide +kernel
theorem dLa_charAt_13 : decode mLa_charAt.2.1 13 = .ok (.i2c, 1) := by decide +kernel
theorem dLa_charAt_14 : decode mLa_charAt.2.1 14 = .ok (.ireturn, 1) := by decide +kernel
theorem dLa_canEncode_0 : decode mLa_canEncode.2.1 0 = .ok (.iload_n 0, 1) := by decide +kernel
theorem dLa_canEncode_1 : decode mLa_canEncode.2.1 1 = .ok (.ifCond .lt 14, 3) := by decide +kernel
theorem dLa_canEncode_4 : decode mLa_canEncode.2.1 4 = .ok (.iload_n 0, 1) := by decide +kernel
theorem dLa_canEncode_5 : decode mLa_canEncode.2.1 5 = .ok (.sipush 255, 3) := by decide +kernel
theorem dLa_canEncode_8 : decode mLa_canEncode.2.1 8 = .ok (.if_icmp .gt 7, 3) := by decide +kernel
theorem dLa_canEncode_11 : decode mLa_canEncode.2.1 11 = .ok (.iconst 1, 1) := by decide +kernel
theorem dLa_canEncode_12 : decode mLa_canEncode.2.1 12 = .ok (.goto 4, 3) := by decide +kernel
theorem dLa_canEncode_15 : decode mLa_canEncode.2.1 15 = .ok (.iconst 0, 1) := by decide +kernel
theorem dLa_canEncode_16 : decode mLa_canEncode.2.1 16 = .ok (.ireturn, 1) := by decide +kernel
theorem dLa_indexOf_0 : decode mLa_indexOf.2.1 0 = .ok (.iload_n 1, 1) := by decide +kernel
theorem dLa_indexOf_1 : decode mLa_indexOf.2.1 1 = .ok (.invokestatic 88, 3) := by decide +kernel
theorem dLa_indexOf_4 : decode mLa_indexOf.2.1 4 = .ok (.ifCond .ne 5, 3) := by decide +kernel
theorem dLa_indexOf_7 : decode mLa_indexOf.2.1 7 = .ok (.iconst (-1), 1) := by decide +kernel
theorem dLa_indexOf_8 : decode mLa_indexOf.2.1 8 = .ok (.ireturn, 1) := by decide +kernel
theorem dLa_indexOf_9 : decode mLa_indexOf.2.1 9 = .ok (.iload_n 2, 1) := by decide +kernel
theorem dLa_indexOf_10 : decode mLa_indexOf.2.1 10 = .ok (.iconst 0, 1) := by decide +kernel
theorem dLa_indexOf_11 : decode mLa_indexOf.2.1 11 = .ok (.invokestatic 92, 3) := by decide +kernel
theorem dLa_indexOf_14 : decode mLa_indexOf.2.1 14 = .ok (.istore_n 2, 1) := by decide +kernel
theorem dLa_indexOf_15 : decode mLa_indexOf.2.1 15 = .ok (.iload_n 3, 1) := by decide +kernel
theorem dLa_indexOf_16 : decode mLa_indexOf.2.1 16 = .ok (.aload_n 0, 1) := by decide +kernel
theorem dLa_indexOf_17 : decode mLa_indexOf.2.1 17 = .ok (.arraylength, 1) := by decide +kernel
theorem dLa_indexOf_18 : decode mLa_indexOf.2.1 18 = .ok (.invokestatic 38, 3) := by decide +kernel
theorem dLa_indexOf_21 : decode mLa_indexOf.2.1 21 = .ok (.istore_n 3, 1) := by decide +kernel
theorem dLa_indexOf_22 : decode mLa_indexOf.2.1 22 = .ok (.iload_n 2, 1) := by decide +kernel
theorem dLa_indexOf_23 : decode mLa_indexOf.2.1 23 = .ok (.iload_n 3, 1) := by decide +kernel
theorem dLa_indexOf_24 : decode mLa_indexOf.2.1 24 = .ok (.if_icmp .lt 5, 3) := by decide +kernel
theorem dLa_indexOf_29 : decode mLa_indexOf.2.1 29 = .ok (.aload_n 0, 1) := by decide +kernel
theorem dLa_indexOf_30 : decode mLa_indexOf.2.1 30 = .ok (.iload_n 1, 1) := by decide +kernel
theorem dLa_indexOf_31 : decode mLa_indexOf.2.1 31 = .ok (.iload_n 2, 1) := by decide +kernel
theorem dLa_indexOf_32 : decode mLa_indexOf.2.1 32 = .ok (.iload_n 3, 1) := by decide +kernel
theorem dLa_indexOf_33 : decode mLa_indexOf.2.1 33 = .ok (.invokestatic 95, 3) := by decide +kernel
theorem dLa_indexOf_36 : decode mLa_indexOf.2.1 36 = .ok (.ireturn, 1) := by decide +kernel
theorem dLa_indexOfChar_0 : decode mLa_indexOfChar.2.1 0 = .ok (.iload_n 1, 1) := by decide +kernel
theorem dLa_indexOfChar_1 : decode mLa_indexOfChar.2.1 1 = .ok (.i2b, 1) := by decide +kernel
theorem dLa_indexOfChar_2 : decode mLa_indexOfChar.2.1 2 = .ok (.istore 4, 2) := by decide +kernel
theorem dLa_indexOfChar_4 : decode mLa_indexOfChar.2.1 4 = .ok (.iload_n 2, 1) := by decide +kernel
theorem dLa_indexOfChar_5 : decode mLa_indexOfChar.2.1 5 = .ok (.istore 5, 2) := by decide +kernel
theorem dLa_indexOfChar_7 : decode mLa_indexOfChar.2.1 7 = .ok (.iload 5, 2) := by decide +kernel
theorem dLa_indexOfChar_9 : decode mLa_indexOfChar.2.1 9 = .ok (.iload_n 3, 1) := by decide +kernel
theorem dLa_indexOfChar_10 : decode mLa_indexOfChar.2.1 10 = .ok (.if_icmp .ge 21, 3) := by decide +kernel
theorem dLa_indexOfChar_13 : decode mLa_indexOfChar.2.1 13 = .ok (.aload_n 0, 1) := by decide +kernel
theorem dLa_indexOfChar_14 : decode mLa_indexOfChar.2.1 14 = .ok (.iload 5, 2) := by decide +kernel
theorem dLa_indexOfChar_16 : decode mLa_indexOfChar.2.1 16 = .ok (.baload, 1) := by decide +kernel
theorem dLa_indexOfChar_17 : decode mLa_indexOfChar.2.1 17 = .ok (.iload 4, 2) := by decide +kernel
theorem dLa_indexOfChar_19 : decode mLa_indexOfChar.2.1 19 = .ok (.if_icmp .ne 6, 3) := by decide +kernel
theorem dLa_indexOfChar_22 : decode mLa_indexOfChar.2.1 22 = .ok (.iload 5, 2) := by decide +kernel
theorem dLa_indexOfChar_24 : decode mLa_indexOfChar.2.1 24 = .ok (.ireturn, 1) := by decide +kernel
theorem dLa_indexOfChar_25 : decode mLa_indexOfChar.2.1 25 = .ok (.iinc 5 1, 3) := by decide +kernel
theorem dLa_indexOfChar_28 : decode mLa_indexOfChar.2.1 28 = .ok (.goto (-21), 3) := by decide +kernel
theorem dLa_indexOfChar_31 : decode mLa_indexOfChar.2.1 31 = .ok (.iconst (-1), 1) := by decide +kernel
theorem dLa_indexOfChar_32 : decode mLa_indexOfChar.2.1 32 = .ok (.ireturn, 1) := by decide +kernel
theorem dPr_checkIndex_0 : decode mPr_checkIndex.2.1 0 = .ok (.iload_n 0, 1) := by decide +kernel
theorem dPr_checkIndex_1 : decode mPr_checkIndex.2.1 1 = .ok (.ifCond .lt 8, 3) := by decide +kernel
theorem dPr_checkIndex_4 : decode mPr_checkIndex.2.1 4 = .ok (.iload_n 0, 1) := by decide +kernel
theorem dPr_checkIndex_5 : decode mPr_checkIndex.2.1 5 = .ok (.iload_n 1, 1) := by decide +kernel
theorem dPr_checkIndex_6 : decode mPr_checkIndex.2.1 6 = .ok (.if_icmp .lt 10, 3) := by decide +kernel
theorem dPr_checkIndex_16 : decode mPr_checkIndex.2.1 16 = .ok (.iload_n 0, 1) := by decide +kernel
theorem dPr_checkIndex_17 : decode mPr_checkIndex.2.1 17 = .ok (.ireturn, 1) := by decide +kernel
