/-! ===== a row for each instruction: how the small machine steps there (by program) ===== -/
theorem ff1_9 : cm_as cm_fld 1 9 = some (1, 0) := by decide +kernel
theorem ff5_63 : cm_as cm_fld 5 63 = some (1, 0) := by decide +kernel
theorem ff0_60 : cm_as cm_fld 0 60 = some (1, 0) := by decide +kernel
theorem ff1_15 : cm_as cm_fld 1 15 = some (1, 1) := by decide +kernel
theorem ff5_124 : cm_as cm_fld 5 124 = some (1, 1) := by decide +kernel
theorem ff0_111 : cm_as cm_fld 0 111 = some (1, 1) := by decide +kernel
theorem ff1_18 : cm_as cm_fld 1 18 = some (1, 2) := by decide +kernel
theorem ff5_127 : cm_as cm_fld 5 127 = some (1, 2) := by decide +kernel
theorem ff0_91 : cm_as cm_fld 0 91 = some (1, 2) := by decide +kernel
theorem ff1_21 : cm_as cm_fld 1 21 = some (1, 3) := by decide +kernel
theorem ff5_111 : cm_as cm_fld 5 111 = some (1, 3) := by decide +kernel
theorem ff1_24 : cm_as cm_fld 1 24 = some (1, 4) := by decide +kernel
theorem ff0_67 : cm_as cm_fld 0 67 = some (1, 4) := by decide +kernel
theorem ff5_82 : cm_as cm_fld 5 82 = some (1, 4) := by decide +kernel
theorem ff1_36 : cm_as cm_fld 1 36 = some (1, 5) := by decide +kernel
theorem ff0_50 : cm_as cm_fld 0 50 = some (1, 5) := by decide +kernel
theorem ff5_100 : cm_as cm_fld 5 100 = some (1, 5) := by decide +kernel
theorem ff0_12 : cm_as cm_fld 0 12 = some (0, 0) := by decide +kernel
theorem ff5_16 : cm_as cm_fld 5 16 = some (0, 0) := by decide +kernel
theorem ff0_18 : cm_as cm_fld 0 18 = some (0, 1) := by decide +kernel
theorem ff5_130 : cm_as cm_fld 5 130 = some (0, 1) := by decide +kernel
theorem ff0_22 : cm_as cm_fld 0 22 = some (0, 2) := by decide +kernel
theorem ff5_139 : cm_as cm_fld 5 139 = some (0, 2) := by decide +kernel
theorem ff0_25 : cm_as cm_fld 0 25 = some (0, 3) := by decide +kernel
theorem ff5_136 : cm_as cm_fld 5 136 = some (0, 3) := by decide +kernel
theorem ff0_46 : cm_as cm_fld 0 46 = some (0, 4) := by decide +kernel
theorem ff5_175 : cm_as cm_fld 5 175 = some (0, 4) := by decide +kernel
theorem ff0_28 : cm_as cm_fld 0 28 = some (0, 5) := by decide +kernel
theorem ff0_31 : cm_as cm_fld 0 31 = some (0, 6) := by decide +kernel
theorem ff0_34 : cm_as cm_fld 0 34 = some (0, 7) := by decide +kernel
theorem ff0_57 : cm_as cm_fld 0 57 = some (0, 8) := by decide +kernel
theorem ff3_9 : cm_as cm_fld 3 9 = some (3, 0) := by decide +kernel
theorem ff5_121 : cm_as cm_fld 5 121 = some (3, 1) := by decide +kernel
theorem ff2_11 : cm_as cm_fld 2 11 = some (2, 0) := by decide +kernel
theorem ff2_22 : cm_as cm_fld 2 22 = some (2, 1) := by decide +kernel
theorem ff5_187 : cm_as cm_fld 5 187 = some (2, 1) := by decide +kernel
theorem ff2_18 : cm_as cm_fld 2 18 = some (2, 2) := by decide +kernel
theorem ff4_11 : cm_as cm_fld 4 11 = some (4, 0) := by decide +kernel
theorem ff4_17 : cm_as cm_fld 4 17 = some (4, 1) := by decide +kernel
theorem ff5_10 : cm_as cm_fld 5 10 = some (5, 0) := by decide +kernel
theorem ff5_20 : cm_as cm_fld 5 20 = some (5, 1) := by decide +kernel
theorem ff5_21 : cm_as cm_fld 5 21 = some (5, 2) := by decide +kernel
theorem ff5_24 : cm_as cm_fld 5 24 = some (5, 3) := by decide +kernel
theorem ff5_30 : cm_as cm_fld 5 30 = some (5, 4) := by decide +kernel
theorem ff5_37 : cm_as cm_fld 5 37 = some (5, 5) := by decide +kernel
theorem ff5_44 : cm_as cm_fld 5 44 = some (5, 6) := by decide +kernel
theorem fc0_3 : cm_as cm_call 0 3 = some (0, 1000) := by decide +kernel
theorem fc0_11 : cm_as cm_call 0 11 = some (0, 26) := by decide +kernel
theorem fc0_37 : cm_as cm_call 0 37 = some (0, 2) := by decide +kernel
theorem fc0_40 : cm_as cm_call 0 40 = some (0, 3) := by decide +kernel
theorem fc0_43 : cm_as cm_call 0 43 = some (0, 6) := by decide +kernel
theorem fc0_53 : cm_as cm_call 0 53 = some (0, 31) := by decide +kernel
theorem fc0_63 : cm_as cm_call 0 63 = some (0, 5) := by decide +kernel
theorem fc0_70 : cm_as cm_call 0 70 = some (0, 4) := by decide +kernel
theorem fc0_74 : cm_as cm_call 0 74 = some (0, 9) := by decide +kernel
theorem fc0_78 : cm_as cm_call 0 78 = some (0, 7) := by decide +kernel
theorem fc0_81 : cm_as cm_call 0 81 = some (0, 8) := by decide +kernel
theorem fc0_84 : cm_as cm_call 0 84 = some (0, 11) := by decide +kernel
theorem fc0_87 : cm_as cm_call 0 87 = some (0, 14) := by decide +kernel
theorem fc0_94 : cm_as cm_call 0 94 = some (0, 18) := by decide +kernel
theorem fc0_97 : cm_as cm_call 0 97 = some (0, 1001) := by decide +kernel
theorem fc0_102 : cm_as cm_call 0 102 = some (0, 20) := by decide +kernel
theorem fc0_105 : cm_as cm_call 0 105 = some (0, 19) := by decide +kernel
theorem fc0_108 : cm_as cm_call 0 108 = some (0, 21) := by decide +kernel
theorem fc1_3 : cm_as cm_call 1 3 = some (0, 1000) := by decide +kernel
theorem fc1_30 : cm_as cm_call 1 30 = some (0, 1002) := by decide +kernel
theorem fc1_40 : cm_as cm_call 1 40 = some (0, 28) := by decide +kernel
theorem fc1_44 : cm_as cm_call 1 44 = some (0, 29) := by decide +kernel
theorem fc1_48 : cm_as cm_call 1 48 = some (0, 34) := by decide +kernel
theorem fc1_52 : cm_as cm_call 1 52 = some (0, 32) := by decide +kernel
theorem fc1_55 : cm_as cm_call 1 55 = some (0, 35) := by decide +kernel
theorem fc2_3 : cm_as cm_call 2 3 = some (0, 1000) := by decide +kernel
theorem fc2_17 : cm_as cm_call 2 17 = some (0, 26) := by decide +kernel
theorem fc2_25 : cm_as cm_call 2 25 = some (0, 27) := by decide +kernel
theorem fc3_3 : cm_as cm_call 3 3 = some (0, 1000) := by decide +kernel
theorem fc4_3 : cm_as cm_call 4 3 = some (0, 1000) := by decide +kernel
theorem fc4_21 : cm_as cm_call 4 21 = some (0, 26) := by decide +kernel
theorem fc5_1 : cm_as cm_call 5 1 = some (0, 1000) := by decide +kernel
theorem fc5_9 : cm_as cm_call 5 9 = some (1, 0) := by decide +kernel
theorem fc5_29 : cm_as cm_call 5 29 = some (1, 43) := by decide +kernel
theorem fc5_36 : cm_as cm_call 5 36 = some (0, 41) := by decide +kernel
theorem fc5_43 : cm_as cm_call 5 43 = some (0, 44) := by decide +kernel
theorem fc5_55 : cm_as cm_call 5 55 = some (0, 61) := by decide +kernel
theorem fc5_59 : cm_as cm_call 5 59 = some (0, 42) := by decide +kernel
theorem fc5_68 : cm_as cm_call 5 68 = some (0, 62) := by decide +kernel
theorem fc5_72 : cm_as cm_call 5 72 = some (0, 59) := by decide +kernel
theorem fc5_76 : cm_as cm_call 5 76 = some (0, 30) := by decide +kernel
theorem fc5_79 : cm_as cm_call 5 79 = some (0, 63) := by decide +kernel
theorem fc5_85 : cm_as cm_call 5 85 = some (0, 1) := by decide +kernel
theorem fc5_88 : cm_as cm_call 5 88 = some (0, 10) := by decide +kernel
theorem fc5_92 : cm_as cm_call 5 92 = some (0, 32) := by decide +kernel
theorem fc5_96 : cm_as cm_call 5 96 = some (0, 33) := by decide +kernel
theorem fc5_133 : cm_as cm_call 5 133 = some (0, 31) := by decide +kernel
theorem fc5_142 : cm_as cm_call 5 142 = some (0, 37) := by decide +kernel
theorem fc5_145 : cm_as cm_call 5 145 = some (0, 21) := by decide +kernel
theorem fc5_148 : cm_as cm_call 5 148 = some (0, 19) := by decide +kernel
theorem fc5_151 : cm_as cm_call 5 151 = some (0, 18) := by decide +kernel
theorem fc5_154 : cm_as cm_call 5 154 = some (0, 60) := by decide +kernel
theorem fc5_157 : cm_as cm_call 5 157 = some (0, 15) := by decide +kernel
theorem fc5_160 : cm_as cm_call 5 160 = some (0, 16) := by decide +kernel
theorem fc5_163 : cm_as cm_call 5 163 = some (0, 17) := by decide +kernel
theorem fc5_166 : cm_as cm_call 5 166 = some (0, 12) := by decide +kernel
theorem fc5_169 : cm_as cm_call 5 169 = some (0, 13) := by decide +kernel
theorem fc5_172 : cm_as cm_call 5 172 = some (0, 38) := by decide +kernel
theorem fc5_178 : cm_as cm_call 5 178 = some (0, 23) := by decide +kernel
theorem fc5_181 : cm_as cm_call 5 181 = some (0, 39) := by decide +kernel
theorem fc5_184 : cm_as cm_call 5 184 = some (0, 24) := by decide +kernel
theorem fc5_190 : cm_as cm_call 5 190 = some (0, 27) := by decide +kernel
theorem fc5_193 : cm_as cm_call 5 193 = some (0, 22) := by decide +kernel
theorem fc5_196 : cm_as cm_call 5 196 = some (0, 40) := by decide +kernel
theorem fc5_199 : cm_as cm_call 5 199 = some (0, 25) := by decide +kernel
theorem fc5_224 : cm_as cm_call 5 224 = some (0, 29) := by decide +kernel
theorem fc5_104 : cm_as cm_call 5 104 = some (0, 36) := by decide +kernel
theorem fc7_10 : cm_as cm_call 7 10 = some (0, 55) := by decide +kernel
theorem fc7_16 : cm_as cm_call 7 16 = some (0, 65) := by decide +kernel
theorem fc7_22 : cm_as cm_call 7 22 = some (0, 47) := by decide +kernel
theorem fc7_25 : cm_as cm_call 7 25 = some (0, 48) := by decide +kernel
theorem fc7_28 : cm_as cm_call 7 28 = some (0, 52) := by decide +kernel
theorem fc7_31 : cm_as cm_call 7 31 = some (0, 49) := by decide +kernel
theorem fc7_34 : cm_as cm_call 7 34 = some (0, 46) := by decide +kernel
theorem fc7_37 : cm_as cm_call 7 37 = some (0, 69) := by decide +kernel
theorem fc7_41 : cm_as cm_call 7 41 = some (0, 68) := by decide +kernel
theorem fc7_45 : cm_as cm_call 7 45 = some (0, 71) := by decide +kernel
theorem fc7_49 : cm_as cm_call 7 49 = some (0, 72) := by decide +kernel
theorem fc7_53 : cm_as cm_call 7 53 = some (0, 73) := by decide +kernel
theorem fc7_57 : cm_as cm_call 7 57 = some (0, 53) := by decide +kernel
theorem fc7_60 : cm_as cm_call 7 60 = some (0, 54) := by decide +kernel
theorem fc7_63 : cm_as cm_call 7 63 = some (0, 56) := by decide +kernel
theorem fc7_66 : cm_as cm_call 7 66 = some (0, 57) := by decide +kernel
theorem fc7_69 : cm_as cm_call 7 69 = some (0, 58) := by decide +kernel
theorem fc7_72 : cm_as cm_call 7 72 = some (0, 45) := by decide +kernel
theorem fc7_73 : cm_as cm_call 7 73 = some (0, 64) := by decide +kernel
theorem fc7_77 : cm_as cm_call 7 77 = some (0, 70) := by decide +kernel
theorem fc7_81 : cm_as cm_call 7 81 = some (0, 67) := by decide +kernel
theorem fc7_84 : cm_as cm_call 7 84 = some (0, 66) := by decide +kernel
theorem fc7_87 : cm_as cm_call 7 87 = some (0, 51) := by decide +kernel
theorem fc7_90 : cm_as cm_call 7 90 = some (0, 50) := by decide +kernel
theorem hq0 : cm_P[0]? = some (mi_0, ins_0) := rfl
theorem hq1 : cm_P[1]? = some (mi_1, ins_1) := rfl
theorem hq2 : cm_P[2]? = some (mi_2, ins_2) := rfl
theorem hq3 : cm_P[3]? = some (mi_3, ins_3) := rfl
theorem hq4 : cm_P[4]? = some (mi_4, ins_4) := rfl
theorem hq5 : cm_P[5]? = some (mi_5, ins_5) := rfl
theorem hq6 : cm_P[6]? = some (mi_6, ins_6) := rfl
theorem hq7 : cm_P[7]? = some (mi_7, ins_7) := rfl
theorem hq8 : cm_P[8]? = some (mi_8, ins_8) := rfl
theorem hq9 : cm_P[9]? = some (mi_9, ins_9) := rfl
theorem hq10 : cm_P[10]? = some (mi_10, ins_10) := rfl
theorem hq11 : cm_P[11]? = some (mi_11, ins_11) := rfl
theorem hq12 : cm_P[12]? = some (mi_12, ins_12) := rfl
theorem hq13 : cm_P[13]? = some (mi_13, ins_13) := rfl
theorem hq14 : cm_P[14]? = some (mi_14, ins_14) := rfl
theorem hq15 : cm_P[15]? = some (mi_15, ins_15) := rfl
theorem hq16 : cm_P[16]? = some (mi_16, ins_16) := rfl
theorem hq17 : cm_P[17]? = some (mi_17, ins_17) := rfl
theorem hq18 : cm_P[18]? = some (mi_18, ins_18) := rfl
theorem hq19 : cm_P[19]? = some (mi_19, ins_19) := rfl
theorem hq20 : cm_P[20]? = some (mi_20, ins_20) := rfl
theorem hq21 : cm_P[21]? = some (mi_21, ins_21) := rfl
theorem hq22 : cm_P[22]? = some (mi_22, ins_22) := rfl
theorem hq23 : cm_P[23]? = some (mi_23, ins_23) := rfl
theorem hq24 : cm_P[24]? = some (mi_24, ins_24) := rfl
theorem hq25 : cm_P[25]? = some (mi_25, ins_25) := rfl
theorem hq26 : cm_P[26]? = some (mi_26, ins_26) := rfl
theorem hq27 : cm_P[27]? = some (mi_27, ins_27) := rfl
theorem hq28 : cm_P[28]? = some (mi_28, ins_28) := rfl
theorem hq29 : cm_P[29]? = some (mi_29, ins_29) := rfl
theorem hq30 : cm_P[30]? = some (mi_30, ins_30) := rfl
theorem hq31 : cm_P[31]? = some (mi_31, ins_31) := rfl
theorem hq32 : cm_P[32]? = some (mi_32, ins_32) := rfl
theorem hq33 : cm_P[33]? = some (mi_33, ins_33) := rfl
theorem hq34 : cm_P[34]? = some (mi_34, ins_34) := rfl
theorem hq35 : cm_P[35]? = some (mi_35, ins_35) := rfl
theorem hq36 : cm_P[36]? = some (mi_36, ins_36) := rfl
theorem hq37 : cm_P[37]? = some (mi_37, ins_37) := rfl
theorem hq38 : cm_P[38]? = some (mi_38, ins_38) := rfl
theorem hq39 : cm_P[39]? = some (mi_39, ins_39) := rfl
theorem hq40 : cm_P[40]? = some (mi_40, ins_40) := rfl
theorem hq41 : cm_P[41]? = some (mi_41, ins_41) := rfl
theorem hq42 : cm_P[42]? = some (mi_42, ins_42) := rfl
theorem hq43 : cm_P[43]? = some (mi_43, ins_43) := rfl
theorem hq44 : cm_P[44]? = some (mi_44, ins_44) := rfl
theorem hq45 : cm_P[45]? = some (mi_45, ins_45) := rfl
theorem hq46 : cm_P[46]? = some (mi_46, ins_46) := rfl
theorem hq47 : cm_P[47]? = some (mi_47, ins_47) := rfl
theorem hq48 : cm_P[48]? = some (mi_48, ins_48) := rfl
theorem hq49 : cm_P[49]? = some (mi_49, ins_49) := rfl
theorem hq50 : cm_P[50]? = some (mi_50, ins_50) := rfl
theorem hq51 : cm_P[51]? = some (mi_51, ins_51) := rfl
theorem hq52 : cm_P[52]? = some (mi_52, ins_52) := rfl
theorem hq53 : cm_P[53]? = some (mi_53, ins_53) := rfl
theorem hq54 : cm_P[54]? = some (mi_54, ins_54) := rfl
theorem hq55 : cm_P[55]? = some (mi_55, ins_55) := rfl
theorem hq56 : cm_P[56]? = some (mi_56, ins_56) := rfl
theorem hq57 : cm_P[57]? = some (mi_57, ins_57) := rfl
theorem hq58 : cm_P[58]? = some (mi_58, ins_58) := rfl
theorem hq59 : cm_P[59]? = some (mi_59, ins_59) := rfl
theorem hq60 : cm_P[60]? = some (mi_60, ins_60) := rfl
theorem hq61 : cm_P[61]? = some (mi_61, ins_61) := rfl
theorem hq62 : cm_P[62]? = some (mi_62, ins_62) := rfl
theorem hq63 : cm_P[63]? = some (mi_63, ins_63) := rfl
theorem hq64 : cm_P[64]? = some (mi_64, ins_64) := rfl
theorem hq65 : cm_P[65]? = some (mi_65, ins_65) := rfl
theorem hq66 : cm_P[66]? = some (mi_66, ins_66) := rfl
theorem hq67 : cm_P[67]? = some (mi_67, ins_67) := rfl
theorem hq68 : cm_P[68]? = some (mi_68, ins_68) := rfl
theorem hq69 : cm_P[69]? = some (mi_69, ins_69) := rfl
theorem hq70 : cm_P[70]? = some (mi_70, ins_70) := rfl
theorem hq71 : cm_P[71]? = some (mi_71, ins_71) := rfl
theorem hq72 : cm_P[72]? = some (mi_72, ins_72) := rfl
theorem hq73 : cm_P[73]? = some (mi_73, ins_73) := rfl
theorem hq74 : cm_P[74]? = some (mi_74, ins_74) := rfl
section RULES
variable {l0 l1 l2 l3 l4 l5 l6 l7 l8 l9 l10 l11 l12 l13 l14 l15 l16 l17 l18 : Option cm_V} {x y z u w v k i a b : Int} {st : List cm_V} {ls : List (Option cm_V)} {G : cm_G} {M : cm_M} {Q : Option cm_V → cm_G → cm_M → Prop}
theorem k0_0 : cm_at ins_0 0 = some (.aload_n 0, 1) := by decide +kernel
theorem g0_0 : Go 0 0 [some (2, x)] st G M Q ↔ Go 0 1 [some (2, x)] ((2, x) :: st) G M Q := go_aload_n hq0 k0_0 rfl
theorem k0_1 : cm_at ins_0 1 = some (.invokespecial 3, 3) := by decide +kernel
theorem g0_1 : Go 0 1 ls [(2, k)] G M Q ↔ 0 ≤ k ∧ Go 0 4 ls [] G M Q := go_obj hq0 k0_1 fc0_3
theorem k0_4 : cm_at ins_0 4 = some (.aload_n 0, 1) := by decide +kernel
theorem g0_4 : Go 0 4 [some (2, x)] st G M Q ↔ Go 0 5 [some (2, x)] ((2, x) :: st) G M Q := go_aload_n hq0 k0_4 rfl
theorem k0_5 : cm_at ins_0 5 = some (.new 9, 3) := by decide +kernel
theorem g0_5 : Go 0 5 ls st G M Q ↔ Go 0 8 ls ((2, (G.1.length : Int)) :: st) (G.1 ++ [(0, 1)], cm_row G.2 (G.1.length : Int) (-1)) (cm_row M (G.1.length : Int) 0) Q := go_new hq0 k0_5 (by decide +kernel)
theorem k0_8 : cm_at ins_0 8 = some (.dup, 1) := by decide +kernel
theorem g0_8b : Go 0 8 ls ((0, x) :: st) G M Q ↔ Go 0 9 ls ((0, x) :: (0, x) :: st) G M Q := go_dup0 hq0 k0_8
theorem g0_8 : Go 0 8 ls ((2, x) :: st) G M Q ↔ Go 0 9 ls ((2, x) :: (2, x) :: st) G M Q := go_dup2 hq0 k0_8
theorem k0_9 : cm_at ins_0 9 = some (.invokespecial 11, 3) := by decide +kernel
theorem c0_9 (h8 : cm_sum st ≤ 8) (hk : cm_sh G k = some (0, 1)) (K : Go 26 0 [some (2, k)] [] G M (fun r G' M' => Go 0 12 ls (r.toList ++ st) G' M' Q)) : Go 0 9 ls ((2, k) :: st) G M Q := go_callI hq0 k0_9 fc0_11 (by decide) hq26 rfl (as := [(2, k)]) rfl rfl (Nat.le_of_ble_eq_true rfl) rfl h8 hk K
theorem k0_12 : cm_at ins_0 12 = some (.putfield 12, 3) := by decide +kernel
theorem g0_12 : Go 0 12 ls ((2, v) :: (2, k) :: st) G M Q ↔ (cm_sh G k = some (0, 0) ∧ 0 ≤ v) ∧ Go 0 15 ls st (G.1, cm_up G.2 k 0 v) M Q := go_put2 hq0 k0_12 ff0_12 rfl ⟨rfl, rfl⟩
theorem k0_15 : cm_at ins_0 15 = some (.aload_n 0, 1) := by decide +kernel
theorem g0_15 : Go 0 15 [some (2, x)] st G M Q ↔ Go 0 16 [some (2, x)] ((2, x) :: st) G M Q := go_aload_n hq0 k0_15 rfl
theorem k0_16 : cm_at ins_0 16 = some (.bipush 40, 2) := by decide +kernel
theorem g0_16 : Go 0 16 ls st G M Q ↔ Go 0 18 ls ((0, 40) :: st) G M Q := go_bipush hq0 k0_16 (by decide)
theorem k0_18 : cm_at ins_0 18 = some (.newarray .int, 2) := by decide +kernel
theorem g0_18 : Go 0 18 ls ((0, x) :: st) G M Q ↔ (0 ≤ x ∧ x ≤ 1000) ∧ Go 0 20 ls ((2, (G.1.length : Int)) :: st) (G.1 ++ [(1, x.toNat)], G.2) (cm_row M (G.1.length : Int) 0) Q := go_newarr hq0 k0_18 rfl
theorem k0_20 : cm_at ins_0 20 = some (.putfield 18, 3) := by decide +kernel
theorem g0_20 : Go 0 20 ls ((2, v) :: (2, k) :: st) G M Q ↔ (cm_sh G k = some (0, 0) ∧ 0 ≤ v) ∧ Go 0 23 ls st (G.1, cm_up G.2 k 1 v) M Q := go_put2 hq0 k0_20 ff0_18 rfl ⟨rfl, rfl⟩
theorem k0_23 : cm_at ins_0 23 = some (.aload_n 0, 1) := by decide +kernel
theorem g0_23 : Go 0 23 [some (2, x)] st G M Q ↔ Go 0 24 [some (2, x)] ((2, x) :: st) G M Q := go_aload_n hq0 k0_23 rfl
theorem k0_24 : cm_at ins_0 24 = some (.bipush 40, 2) := by decide +kernel
theorem g0_24 : Go 0 24 ls st G M Q ↔ Go 0 26 ls ((0, 40) :: st) G M Q := go_bipush hq0 k0_24 (by decide)
theorem k0_26 : cm_at ins_0 26 = some (.newarray .int, 2) := by decide +kernel
theorem g0_26 : Go 0 26 ls ((0, x) :: st) G M Q ↔ (0 ≤ x ∧ x ≤ 1000) ∧ Go 0 28 ls ((2, (G.1.length : Int)) :: st) (G.1 ++ [(1, x.toNat)], G.2) (cm_row M (G.1.length : Int) 0) Q := go_newarr hq0 k0_26 rfl
theorem k0_28 : cm_at ins_0 28 = some (.putfield 22, 3) := by decide +kernel
theorem g0_28 : Go 0 28 ls ((2, v) :: (2, k) :: st) G M Q ↔ (cm_sh G k = some (0, 0) ∧ 0 ≤ v) ∧ Go 0 31 ls st (G.1, cm_up G.2 k 2 v) M Q := go_put2 hq0 k0_28 ff0_22 rfl ⟨rfl, rfl⟩
theorem k0_31 : cm_at ins_0 31 = some (.aload_n 0, 1) := by decide +kernel
theorem g0_31 : Go 0 31 [some (2, x)] st G M Q ↔ Go 0 32 [some (2, x)] ((2, x) :: st) G M Q := go_aload_n hq0 k0_31 rfl
theorem k0_32 : cm_at ins_0 32 = some (.bipush 40, 2) := by decide +kernel
theorem g0_32 : Go 0 32 ls st G M Q ↔ Go 0 34 ls ((0, 40) :: st) G M Q := go_bipush hq0 k0_32 (by decide)
theorem k0_34 : cm_at ins_0 34 = some (.newarray .int, 2) := by decide +kernel
theorem g0_34 : Go 0 34 ls ((0, x) :: st) G M Q ↔ (0 ≤ x ∧ x ≤ 1000) ∧ Go 0 36 ls ((2, (G.1.length : Int)) :: st) (G.1 ++ [(1, x.toNat)], G.2) (cm_row M (G.1.length : Int) 0) Q := go_newarr hq0 k0_34 rfl
theorem k0_36 : cm_at ins_0 36 = some (.putfield 25, 3) := by decide +kernel
theorem g0_36 : Go 0 36 ls ((2, v) :: (2, k) :: st) G M Q ↔ (cm_sh G k = some (0, 0) ∧ 0 ≤ v) ∧ Go 0 39 ls st (G.1, cm_up G.2 k 3 v) M Q := go_put2 hq0 k0_36 ff0_25 rfl ⟨rfl, rfl⟩
theorem k0_39 : cm_at ins_0 39 = some (.aload_n 0, 1) := by decide +kernel
theorem g0_39 : Go 0 39 [some (2, x)] st G M Q ↔ Go 0 40 [some (2, x)] ((2, x) :: st) G M Q := go_aload_n hq0 k0_39 rfl
theorem k0_40 : cm_at ins_0 40 = some (.bipush 41, 2) := by decide +kernel
theorem g0_40 : Go 0 40 ls st G M Q ↔ Go 0 42 ls ((0, 41) :: st) G M Q := go_bipush hq0 k0_40 (by decide)
theorem k0_42 : cm_at ins_0 42 = some (.newarray .int, 2) := by decide +kernel
theorem g0_42 : Go 0 42 ls ((0, x) :: st) G M Q ↔ (0 ≤ x ∧ x ≤ 1000) ∧ Go 0 44 ls ((2, (G.1.length : Int)) :: st) (G.1 ++ [(1, x.toNat)], G.2) (cm_row M (G.1.length : Int) 0) Q := go_newarr hq0 k0_42 rfl
theorem k0_44 : cm_at ins_0 44 = some (.putfield 28, 3) := by decide +kernel
theorem g0_44 : Go 0 44 ls ((2, v) :: (2, k) :: st) G M Q ↔ (cm_sh G k = some (0, 0) ∧ 0 ≤ v) ∧ Go 0 47 ls st (G.1, cm_up G.2 k 5 v) M Q := go_put2 hq0 k0_44 ff0_28 rfl ⟨rfl, rfl⟩
theorem k0_47 : cm_at ins_0 47 = some (.aload_n 0, 1) := by decide +kernel
theorem g0_47 : Go 0 47 [some (2, x)] st G M Q ↔ Go 0 48 [some (2, x)] ((2, x) :: st) G M Q := go_aload_n hq0 k0_47 rfl
theorem k0_48 : cm_at ins_0 48 = some (.bipush 41, 2) := by decide +kernel
theorem g0_48 : Go 0 48 ls st G M Q ↔ Go 0 50 ls ((0, 41) :: st) G M Q := go_bipush hq0 k0_48 (by decide)
theorem k0_50 : cm_at ins_0 50 = some (.newarray .int, 2) := by decide +kernel
theorem g0_50 : Go 0 50 ls ((0, x) :: st) G M Q ↔ (0 ≤ x ∧ x ≤ 1000) ∧ Go 0 52 ls ((2, (G.1.length : Int)) :: st) (G.1 ++ [(1, x.toNat)], G.2) (cm_row M (G.1.length : Int) 0) Q := go_newarr hq0 k0_50 rfl
theorem k0_52 : cm_at ins_0 52 = some (.putfield 31, 3) := by decide +kernel
theorem g0_52 : Go 0 52 ls ((2, v) :: (2, k) :: st) G M Q ↔ (cm_sh G k = some (0, 0) ∧ 0 ≤ v) ∧ Go 0 55 ls st (G.1, cm_up G.2 k 6 v) M Q := go_put2 hq0 k0_52 ff0_31 rfl ⟨rfl, rfl⟩
theorem k0_55 : cm_at ins_0 55 = some (.aload_n 0, 1) := by decide +kernel
theorem g0_55 : Go 0 55 [some (2, x)] st G M Q ↔ Go 0 56 [some (2, x)] ((2, x) :: st) G M Q := go_aload_n hq0 k0_55 rfl
theorem k0_56 : cm_at ins_0 56 = some (.bipush 41, 2) := by decide +kernel
theorem g0_56 : Go 0 56 ls st G M Q ↔ Go 0 58 ls ((0, 41) :: st) G M Q := go_bipush hq0 k0_56 (by decide)
theorem k0_58 : cm_at ins_0 58 = some (.newarray .int, 2) := by decide +kernel
theorem g0_58 : Go 0 58 ls ((0, x) :: st) G M Q ↔ (0 ≤ x ∧ x ≤ 1000) ∧ Go 0 60 ls ((2, (G.1.length : Int)) :: st) (G.1 ++ [(1, x.toNat)], G.2) (cm_row M (G.1.length : Int) 0) Q := go_newarr hq0 k0_58 rfl
theorem k0_60 : cm_at ins_0 60 = some (.putfield 34, 3) := by decide +kernel
theorem g0_60 : Go 0 60 ls ((2, v) :: (2, k) :: st) G M Q ↔ (cm_sh G k = some (0, 0) ∧ 0 ≤ v) ∧ Go 0 63 ls st (G.1, cm_up G.2 k 7 v) M Q := go_put2 hq0 k0_60 ff0_34 rfl ⟨rfl, rfl⟩
theorem k0_63 : cm_at ins_0 63 = some (.return_, 1) := by decide +kernel
theorem g0_63 : Go 0 63 ls [] G M Q ↔ Q none G M := go_return hq0 k0_63 rfl
theorem k1_0 : cm_at ins_1 0 = some (.aload_n 0, 1) := by decide +kernel
theorem g1_0 : Go 1 0 [some (2, x)] st G M Q ↔ Go 1 1 [some (2, x)] ((2, x) :: st) G M Q := go_aload_n hq1 k1_0 rfl
theorem k1_1 : cm_at ins_1 1 = some (.invokevirtual 37, 3) := by decide +kernel
theorem c1_1 (h8 : cm_sum st ≤ 8) (hk : cm_sh G k = some (0, 0)) (K : Go 2 0 [some (2, k), none] [] G M (fun r G' M' => Go 1 4 ls (r.toList ++ st) G' M' Q)) : Go 1 1 ls ((2, k) :: st) G M Q := go_callV hq1 k1_1 fc0_37 hq2 rfl (as := [(2, k)]) rfl rfl (Nat.le_of_ble_eq_true rfl) rfl h8 hk K
theorem k1_4 : cm_at ins_1 4 = some (.aload_n 0, 1) := by decide +kernel
theorem g1_4 : Go 1 4 [some (2, x)] st G M Q ↔ Go 1 5 [some (2, x)] ((2, x) :: st) G M Q := go_aload_n hq1 k1_4 rfl
theorem k1_5 : cm_at ins_1 5 = some (.invokevirtual 40, 3) := by decide +kernel
theorem c1_5 (h8 : cm_sum st ≤ 8) (hk : cm_sh G k = some (0, 0)) (K : Go 3 0 [some (2, k), none] [] G M (fun r G' M' => Go 1 8 ls (r.toList ++ st) G' M' Q)) : Go 1 5 ls ((2, k) :: st) G M Q := go_callV hq1 k1_5 fc0_40 hq3 rfl (as := [(2, k)]) rfl rfl (Nat.le_of_ble_eq_true rfl) rfl h8 hk K
theorem k1_8 : cm_at ins_1 8 = some (.aload_n 0, 1) := by decide +kernel
theorem g1_8 : Go 1 8 [some (2, x)] st G M Q ↔ Go 1 9 [some (2, x)] ((2, x) :: st) G M Q := go_aload_n hq1 k1_8 rfl
theorem k1_9 : cm_at ins_1 9 = some (.invokevirtual 43, 3) := by decide +kernel
theorem c1_9 (h8 : cm_sum st ≤ 8) (hk : cm_sh G k = some (0, 0)) (K : Go 6 0 [some (2, k), none, none, none, none, none] [] G M (fun r G' M' => Go 1 12 ls (r.toList ++ st) G' M' Q)) : Go 1 9 ls ((2, k) :: st) G M Q := go_callV hq1 k1_9 fc0_43 hq6 rfl (as := [(2, k)]) rfl rfl (Nat.le_of_ble_eq_true rfl) rfl h8 hk K
theorem k1_12 : cm_at ins_1 12 = some (.return_, 1) := by decide +kernel
theorem g1_12 : Go 1 12 ls [] G M Q ↔ Q none G M := go_return hq1 k1_12 rfl
theorem k2_0 : cm_at ins_2 0 = some (.aload_n 0, 1) := by decide +kernel
theorem g2_0 : Go 2 0 [some (2, x), l1] st G M Q ↔ Go 2 1 [some (2, x), l1] ((2, x) :: st) G M Q := go_aload_n hq2 k2_0 rfl
theorem k2_1 : cm_at ins_2 1 = some (.iconst 0, 1) := by decide +kernel
theorem g2_1 : Go 2 1 ls st G M Q ↔ Go 2 2 ls ((0, 0) :: st) G M Q := go_iconst hq2 k2_1
theorem k2_2 : cm_at ins_2 2 = some (.putfield 46, 3) := by decide +kernel
theorem g2_2 : Go 2 2 ls ((0, v) :: (2, k) :: st) G M Q ↔ cm_sh G k = some (0, 0) ∧ Go 2 5 ls st G (cm_up M k 4 v) Q := go_put0 hq2 k2_2 ff0_46 rfl rfl
theorem k2_5 : cm_at ins_2 5 = some (.iconst 0, 1) := by decide +kernel
theorem g2_5 : Go 2 5 ls st G M Q ↔ Go 2 6 ls ((0, 0) :: st) G M Q := go_iconst hq2 k2_5
theorem k2_6 : cm_at ins_2 6 = some (.istore_n 1, 1) := by decide +kernel
theorem g2_6 : Go 2 6 [l0, l1] ((0, x) :: st) G M Q ↔ Go 2 7 [l0, some (0, x)] st G M Q := go_istore_n hq2 k2_6 ⟨Nat.le_of_ble_eq_true rfl, rfl, by decide⟩
theorem k2_7 : cm_at ins_2 7 = some (.iload_n 1, 1) := by decide +kernel
theorem g2_7 : Go 2 7 [l0, some (0, x)] st G M Q ↔ Go 2 8 [l0, some (0, x)] ((0, x) :: st) G M Q := go_iload_n hq2 k2_7 rfl
theorem k2_8 : cm_at ins_2 8 = some (.aload_n 0, 1) := by decide +kernel
theorem g2_8 : Go 2 8 [some (2, x), l1] st G M Q ↔ Go 2 9 [some (2, x), l1] ((2, x) :: st) G M Q := go_aload_n hq2 k2_8 rfl
theorem k2_9 : cm_at ins_2 9 = some (.getfield 12, 3) := by decide +kernel
theorem g2_9 : Go 2 9 ls ((2, k) :: st) G M Q ↔ cm_sh G k = some (0, 0) ∧ Go 2 12 ls ((2, G.2 k 0) :: st) G M Q := go_get2 hq2 k2_9 ff0_12 rfl
theorem k2_12 : cm_at ins_2 12 = some (.getfield 50, 3) := by decide +kernel
theorem g2_12 : Go 2 12 ls ((2, k) :: st) G M Q ↔ cm_sh G k = some (0, 1) ∧ Go 2 15 ls ((0, M k 5) :: st) G M Q := go_get0 hq2 k2_12 ff0_50 rfl
theorem k2_15 : cm_at ins_2 15 = some (.if_icmp .ge 36, 3) := by decide +kernel
theorem g2_15 : Go 2 15 ls ((0, b) :: (0, a) :: st) G M Q ↔ (cm_in a ∧ cm_in b) ∧ (¬ a < b → Go 2 51 ls st G M Q) ∧ (a < b → Go 2 18 ls st G M Q) := go_icmp_ge hq2 k2_15 (by decide)
theorem k2_18 : cm_at ins_2 18 = some (.aload_n 0, 1) := by decide +kernel
theorem g2_18 : Go 2 18 [some (2, x), l1] st G M Q ↔ Go 2 19 [some (2, x), l1] ((2, x) :: st) G M Q := go_aload_n hq2 k2_18 rfl
theorem k2_19 : cm_at ins_2 19 = some (.getfield 18, 3) := by decide +kernel
theorem g2_19 : Go 2 19 ls ((2, k) :: st) G M Q ↔ cm_sh G k = some (0, 0) ∧ Go 2 22 ls ((2, G.2 k 1) :: st) G M Q := go_get2 hq2 k2_19 ff0_18 rfl
theorem k2_22 : cm_at ins_2 22 = some (.iload_n 1, 1) := by decide +kernel
theorem g2_22 : Go 2 22 [l0, some (0, x)] st G M Q ↔ Go 2 23 [l0, some (0, x)] ((0, x) :: st) G M Q := go_iload_n hq2 k2_22 rfl
theorem k2_23 : cm_at ins_2 23 = some (.aload_n 0, 1) := by decide +kernel
theorem g2_23 : Go 2 23 [some (2, x), l1] st G M Q ↔ Go 2 24 [some (2, x), l1] ((2, x) :: st) G M Q := go_aload_n hq2 k2_23 rfl
theorem k2_24 : cm_at ins_2 24 = some (.getfield 46, 3) := by decide +kernel
theorem g2_24 : Go 2 24 ls ((2, k) :: st) G M Q ↔ cm_sh G k = some (0, 0) ∧ Go 2 27 ls ((0, M k 4) :: st) G M Q := go_get0 hq2 k2_24 ff0_46 rfl
theorem k2_27 : cm_at ins_2 27 = some (.iastore, 1) := by decide +kernel
theorem g2_27 : Go 2 27 ls ((0, v) :: (0, i) :: (2, k) :: st) G M Q ↔ (0 ≤ k ∧ 0 ≤ i ∧ i < cm_al 1 G M k) ∧ Go 2 28 ls st G (cm_up M k i v) Q := go_iast hq2 k2_27
theorem k2_28 : cm_at ins_2 28 = some (.aload_n 0, 1) := by decide +kernel
theorem g2_28 : Go 2 28 [some (2, x), l1] st G M Q ↔ Go 2 29 [some (2, x), l1] ((2, x) :: st) G M Q := go_aload_n hq2 k2_28 rfl
theorem k2_29 : cm_at ins_2 29 = some (.dup, 1) := by decide +kernel
theorem g2_29b : Go 2 29 ls ((0, x) :: st) G M Q ↔ Go 2 30 ls ((0, x) :: (0, x) :: st) G M Q := go_dup0 hq2 k2_29
theorem g2_29 : Go 2 29 ls ((2, x) :: st) G M Q ↔ Go 2 30 ls ((2, x) :: (2, x) :: st) G M Q := go_dup2 hq2 k2_29
theorem k2_30 : cm_at ins_2 30 = some (.getfield 46, 3) := by decide +kernel
theorem g2_30 : Go 2 30 ls ((2, k) :: st) G M Q ↔ cm_sh G k = some (0, 0) ∧ Go 2 33 ls ((0, M k 4) :: st) G M Q := go_get0 hq2 k2_30 ff0_46 rfl
theorem k2_33 : cm_at ins_2 33 = some (.aload_n 0, 1) := by decide +kernel
theorem g2_33 : Go 2 33 [some (2, x), l1] st G M Q ↔ Go 2 34 [some (2, x), l1] ((2, x) :: st) G M Q := go_aload_n hq2 k2_33 rfl
theorem k2_34 : cm_at ins_2 34 = some (.getfield 12, 3) := by decide +kernel
theorem g2_34 : Go 2 34 ls ((2, k) :: st) G M Q ↔ cm_sh G k = some (0, 0) ∧ Go 2 37 ls ((2, G.2 k 0) :: st) G M Q := go_get2 hq2 k2_34 ff0_12 rfl
theorem k2_37 : cm_at ins_2 37 = some (.iload_n 1, 1) := by decide +kernel
theorem g2_37 : Go 2 37 [l0, some (0, x)] st G M Q ↔ Go 2 38 [l0, some (0, x)] ((0, x) :: st) G M Q := go_iload_n hq2 k2_37 rfl
theorem k2_38 : cm_at ins_2 38 = some (.invokevirtual 53, 3) := by decide +kernel
theorem c2_38 (h8 : cm_sum st ≤ 8) (hk : cm_sh G k = some (0, 1)) (K : Go 31 0 [some (2, k), some (0, y)] [] G M (fun r G' M' => Go 2 41 ls (r.toList ++ st) G' M' Q)) : Go 2 38 ls ((0, y) :: (2, k) :: st) G M Q := go_callV hq2 k2_38 fc0_53 hq31 rfl (as := [(0, y), (2, k)]) rfl rfl (Nat.le_of_ble_eq_true rfl) rfl h8 hk K
theorem k2_41 : cm_at ins_2 41 = some (.iadd, 1) := by decide +kernel
theorem g2_41 : Go 2 41 ls ((0, b) :: (0, a) :: st) G M Q ↔ Go 2 42 ls ((0, a + b) :: st) G M Q := go_iadd hq2 k2_41
theorem k2_42 : cm_at ins_2 42 = some (.putfield 46, 3) := by decide +kernel
theorem g2_42 : Go 2 42 ls ((0, v) :: (2, k) :: st) G M Q ↔ cm_sh G k = some (0, 0) ∧ Go 2 45 ls st G (cm_up M k 4 v) Q := go_put0 hq2 k2_42 ff0_46 rfl rfl
theorem k2_45 : cm_at ins_2 45 = some (.iinc 1 1, 3) := by decide +kernel
theorem g2_45 : Go 2 45 [l0, some (0, x)] st G M Q ↔ Go 2 48 [l0, some (0, x + 1)] st G M Q := go_iinc hq2 k2_45 rfl ⟨rfl, by decide⟩
theorem k2_48 : cm_at ins_2 48 = some (.goto (-41), 3) := by decide +kernel
theorem g2_48 : Go 2 48 ls st G M Q ↔ Go 2 7 ls st G M Q := go_goto hq2 k2_48 (by decide)
theorem k2_51 : cm_at ins_2 51 = some (.return_, 1) := by decide +kernel
theorem g2_51 : Go 2 51 ls [] G M Q ↔ Q none G M := go_return hq2 k2_51 rfl
theorem k3_0 : cm_at ins_3 0 = some (.aload_n 0, 1) := by decide +kernel
theorem g3_0 : Go 3 0 [some (2, x), l1] st G M Q ↔ Go 3 1 [some (2, x), l1] ((2, x) :: st) G M Q := go_aload_n hq3 k3_0 rfl
theorem k3_1 : cm_at ins_3 1 = some (.iconst 0, 1) := by decide +kernel
theorem g3_1 : Go 3 1 ls st G M Q ↔ Go 3 2 ls ((0, 0) :: st) G M Q := go_iconst hq3 k3_1
theorem k3_2 : cm_at ins_3 2 = some (.putfield 57, 3) := by decide +kernel
theorem g3_2 : Go 3 2 ls ((0, v) :: (2, k) :: st) G M Q ↔ cm_sh G k = some (0, 0) ∧ Go 3 5 ls st G (cm_up M k 8 v) Q := go_put0 hq3 k3_2 ff0_57 rfl rfl
theorem k3_5 : cm_at ins_3 5 = some (.aload_n 0, 1) := by decide +kernel
theorem g3_5 : Go 3 5 [some (2, x), l1] st G M Q ↔ Go 3 6 [some (2, x), l1] ((2, x) :: st) G M Q := go_aload_n hq3 k3_5 rfl
theorem k3_6 : cm_at ins_3 6 = some (.iconst 0, 1) := by decide +kernel
theorem g3_6 : Go 3 6 ls st G M Q ↔ Go 3 7 ls ((0, 0) :: st) G M Q := go_iconst hq3 k3_6
theorem k3_7 : cm_at ins_3 7 = some (.iconst 0, 1) := by decide +kernel
theorem g3_7 : Go 3 7 ls st G M Q ↔ Go 3 8 ls ((0, 0) :: st) G M Q := go_iconst hq3 k3_7
theorem k3_8 : cm_at ins_3 8 = some (.aload_n 0, 1) := by decide +kernel
theorem g3_8 : Go 3 8 [some (2, x), l1] st G M Q ↔ Go 3 9 [some (2, x), l1] ((2, x) :: st) G M Q := go_aload_n hq3 k3_8 rfl
theorem k3_9 : cm_at ins_3 9 = some (.getfield 12, 3) := by decide +kernel
theorem g3_9 : Go 3 9 ls ((2, k) :: st) G M Q ↔ cm_sh G k = some (0, 0) ∧ Go 3 12 ls ((2, G.2 k 0) :: st) G M Q := go_get2 hq3 k3_9 ff0_12 rfl
theorem k3_12 : cm_at ins_3 12 = some (.getfield 60, 3) := by decide +kernel
theorem g3_12 : Go 3 12 ls ((2, k) :: st) G M Q ↔ cm_sh G k = some (0, 1) ∧ Go 3 15 ls ((2, G.2 k 0) :: st) G M Q := go_get2 hq3 k3_12 ff0_60 rfl
theorem k3_15 : cm_at ins_3 15 = some (.iconst 1, 1) := by decide +kernel
theorem g3_15 : Go 3 15 ls st G M Q ↔ Go 3 16 ls ((0, 1) :: st) G M Q := go_iconst hq3 k3_15
theorem k3_16 : cm_at ins_3 16 = some (.iaload, 1) := by decide +kernel
theorem g3_16 : Go 3 16 ls ((0, i) :: (2, k) :: st) G M Q ↔ (0 ≤ i ∧ i < cm_al 1 G M k) ∧ Go 3 17 ls ((0, M k i) :: st) G M Q := go_iald hq3 k3_16
theorem k3_17 : cm_at ins_3 17 = some (.invokevirtual 63, 3) := by decide +kernel
theorem c3_17 (h8 : cm_sum st ≤ 8) (hk : cm_sh G k = some (0, 0)) (K : Go 5 0 [some (2, k), some (0, y), some (0, z), some (0, u)] [] G M (fun r G' M' => Go 3 20 ls (r.toList ++ st) G' M' Q)) : Go 3 17 ls ((0, u) :: (0, z) :: (0, y) :: (2, k) :: st) G M Q := go_callV hq3 k3_17 fc0_63 hq5 rfl (as := [(0, u), (0, z), (0, y), (2, k)]) rfl rfl (Nat.le_of_ble_eq_true rfl) rfl h8 hk K
theorem k3_20 : cm_at ins_3 20 = some (.iconst 0, 1) := by decide +kernel
theorem g3_20 : Go 3 20 ls st G M Q ↔ Go 3 21 ls ((0, 0) :: st) G M Q := go_iconst hq3 k3_20
theorem k3_21 : cm_at ins_3 21 = some (.istore_n 1, 1) := by decide +kernel
theorem g3_21 : Go 3 21 [l0, l1] ((0, x) :: st) G M Q ↔ Go 3 22 [l0, some (0, x)] st G M Q := go_istore_n hq3 k3_21 ⟨Nat.le_of_ble_eq_true rfl, rfl, by decide⟩
theorem k3_22 : cm_at ins_3 22 = some (.iload_n 1, 1) := by decide +kernel
theorem g3_22 : Go 3 22 [l0, some (0, x)] st G M Q ↔ Go 3 23 [l0, some (0, x)] ((0, x) :: st) G M Q := go_iload_n hq3 k3_22 rfl
theorem k3_23 : cm_at ins_3 23 = some (.aload_n 0, 1) := by decide +kernel
theorem g3_23 : Go 3 23 [some (2, x), l1] st G M Q ↔ Go 3 24 [some (2, x), l1] ((2, x) :: st) G M Q := go_aload_n hq3 k3_23 rfl
theorem k3_24 : cm_at ins_3 24 = some (.getfield 12, 3) := by decide +kernel
theorem g3_24 : Go 3 24 ls ((2, k) :: st) G M Q ↔ cm_sh G k = some (0, 0) ∧ Go 3 27 ls ((2, G.2 k 0) :: st) G M Q := go_get2 hq3 k3_24 ff0_12 rfl
theorem k3_27 : cm_at ins_3 27 = some (.getfield 50, 3) := by decide +kernel
theorem g3_27 : Go 3 27 ls ((2, k) :: st) G M Q ↔ cm_sh G k = some (0, 1) ∧ Go 3 30 ls ((0, M k 5) :: st) G M Q := go_get0 hq3 k3_27 ff0_50 rfl
theorem k3_30 : cm_at ins_3 30 = some (.if_icmp .ge 43, 3) := by decide +kernel
theorem g3_30 : Go 3 30 ls ((0, b) :: (0, a) :: st) G M Q ↔ (cm_in a ∧ cm_in b) ∧ (¬ a < b → Go 3 73 ls st G M Q) ∧ (a < b → Go 3 33 ls st G M Q) := go_icmp_ge hq3 k3_30 (by decide)
theorem k3_33 : cm_at ins_3 33 = some (.aload_n 0, 1) := by decide +kernel
theorem g3_33 : Go 3 33 [some (2, x), l1] st G M Q ↔ Go 3 34 [some (2, x), l1] ((2, x) :: st) G M Q := go_aload_n hq3 k3_33 rfl
theorem k3_34 : cm_at ins_3 34 = some (.getfield 12, 3) := by decide +kernel
theorem g3_34 : Go 3 34 ls ((2, k) :: st) G M Q ↔ cm_sh G k = some (0, 0) ∧ Go 3 37 ls ((2, G.2 k 0) :: st) G M Q := go_get2 hq3 k3_34 ff0_12 rfl
theorem k3_37 : cm_at ins_3 37 = some (.getfield 67, 3) := by decide +kernel
theorem g3_37 : Go 3 37 ls ((2, k) :: st) G M Q ↔ cm_sh G k = some (0, 1) ∧ Go 3 40 ls ((2, G.2 k 4) :: st) G M Q := go_get2 hq3 k3_37 ff0_67 rfl
theorem k3_40 : cm_at ins_3 40 = some (.iload_n 1, 1) := by decide +kernel
theorem g3_40 : Go 3 40 [l0, some (0, x)] st G M Q ↔ Go 3 41 [l0, some (0, x)] ((0, x) :: st) G M Q := go_iload_n hq3 k3_40 rfl
theorem k3_41 : cm_at ins_3 41 = some (.iaload, 1) := by decide +kernel
theorem g3_41 : Go 3 41 ls ((0, i) :: (2, k) :: st) G M Q ↔ (0 ≤ i ∧ i < cm_al 1 G M k) ∧ Go 3 42 ls ((0, M k i) :: st) G M Q := go_iald hq3 k3_41
theorem k3_42 : cm_at ins_3 42 = some (.ifCond .eq 25, 3) := by decide +kernel
theorem g3_42 : Go 3 42 ls ((0, a) :: st) G M Q ↔ cm_in a ∧ (a = 0 → Go 3 67 ls st G M Q) ∧ (¬ a = 0 → Go 3 45 ls st G M Q) := go_if_eq hq3 k3_42 (by decide)
theorem k3_45 : cm_at ins_3 45 = some (.aload_n 0, 1) := by decide +kernel
theorem g3_45 : Go 3 45 [some (2, x), l1] st G M Q ↔ Go 3 46 [some (2, x), l1] ((2, x) :: st) G M Q := go_aload_n hq3 k3_45 rfl
theorem k3_46 : cm_at ins_3 46 = some (.bipush 10, 2) := by decide +kernel
theorem g3_46 : Go 3 46 ls st G M Q ↔ Go 3 48 ls ((0, 10) :: st) G M Q := go_bipush hq3 k3_46 (by decide)
theorem k3_48 : cm_at ins_3 48 = some (.aload_n 0, 1) := by decide +kernel
theorem g3_48 : Go 3 48 [some (2, x), l1] st G M Q ↔ Go 3 49 [some (2, x), l1] ((2, x) :: st) G M Q := go_aload_n hq3 k3_48 rfl
theorem k3_49 : cm_at ins_3 49 = some (.getfield 18, 3) := by decide +kernel
theorem g3_49 : Go 3 49 ls ((2, k) :: st) G M Q ↔ cm_sh G k = some (0, 0) ∧ Go 3 52 ls ((2, G.2 k 1) :: st) G M Q := go_get2 hq3 k3_49 ff0_18 rfl
theorem k3_52 : cm_at ins_3 52 = some (.iload_n 1, 1) := by decide +kernel
theorem g3_52 : Go 3 52 [l0, some (0, x)] st G M Q ↔ Go 3 53 [l0, some (0, x)] ((0, x) :: st) G M Q := go_iload_n hq3 k3_52 rfl
theorem k3_53 : cm_at ins_3 53 = some (.iaload, 1) := by decide +kernel
theorem g3_53 : Go 3 53 ls ((0, i) :: (2, k) :: st) G M Q ↔ (0 ≤ i ∧ i < cm_al 1 G M k) ∧ Go 3 54 ls ((0, M k i) :: st) G M Q := go_iald hq3 k3_53
theorem k3_54 : cm_at ins_3 54 = some (.imul, 1) := by decide +kernel
theorem g3_54 : Go 3 54 ls ((0, b) :: (0, a) :: st) G M Q ↔ Go 3 55 ls ((0, a * b) :: st) G M Q := go_imul hq3 k3_54
theorem k3_55 : cm_at ins_3 55 = some (.aload_n 0, 1) := by decide +kernel
theorem g3_55 : Go 3 55 [some (2, x), l1] st G M Q ↔ Go 3 56 [some (2, x), l1] ((2, x) :: st) G M Q := go_aload_n hq3 k3_55 rfl
theorem k3_56 : cm_at ins_3 56 = some (.getfield 12, 3) := by decide +kernel
theorem g3_56 : Go 3 56 ls ((2, k) :: st) G M Q ↔ cm_sh G k = some (0, 0) ∧ Go 3 59 ls ((2, G.2 k 0) :: st) G M Q := go_get2 hq3 k3_56 ff0_12 rfl
theorem k3_59 : cm_at ins_3 59 = some (.getfield 67, 3) := by decide +kernel
theorem g3_59 : Go 3 59 ls ((2, k) :: st) G M Q ↔ cm_sh G k = some (0, 1) ∧ Go 3 62 ls ((2, G.2 k 4) :: st) G M Q := go_get2 hq3 k3_59 ff0_67 rfl
theorem k3_62 : cm_at ins_3 62 = some (.iload_n 1, 1) := by decide +kernel
theorem g3_62 : Go 3 62 [l0, some (0, x)] st G M Q ↔ Go 3 63 [l0, some (0, x)] ((0, x) :: st) G M Q := go_iload_n hq3 k3_62 rfl
theorem k3_63 : cm_at ins_3 63 = some (.iaload, 1) := by decide +kernel
theorem g3_63 : Go 3 63 ls ((0, i) :: (2, k) :: st) G M Q ↔ (0 ≤ i ∧ i < cm_al 1 G M k) ∧ Go 3 64 ls ((0, M k i) :: st) G M Q := go_iald hq3 k3_63
theorem k3_64 : cm_at ins_3 64 = some (.invokevirtual 70, 3) := by decide +kernel
theorem c3_64 (h8 : cm_sum st ≤ 8) (hk : cm_sh G k = some (0, 0)) (K : Go 4 0 [some (2, k), some (0, y), some (0, z), none, none] [] G M (fun r G' M' => Go 3 67 ls (r.toList ++ st) G' M' Q)) : Go 3 64 ls ((0, z) :: (0, y) :: (2, k) :: st) G M Q := go_callV hq3 k3_64 fc0_70 hq4 rfl (as := [(0, z), (0, y), (2, k)]) rfl rfl (Nat.le_of_ble_eq_true rfl) rfl h8 hk K
theorem k3_67 : cm_at ins_3 67 = some (.iinc 1 1, 3) := by decide +kernel
theorem g3_67 : Go 3 67 [l0, some (0, x)] st G M Q ↔ Go 3 70 [l0, some (0, x + 1)] st G M Q := go_iinc hq3 k3_67 rfl ⟨rfl, by decide⟩
theorem k3_70 : cm_at ins_3 70 = some (.goto (-48), 3) := by decide +kernel
theorem g3_70 : Go 3 70 ls st G M Q ↔ Go 3 22 ls st G M Q := go_goto hq3 k3_70 (by decide)
theorem k3_73 : cm_at ins_3 73 = some (.return_, 1) := by decide +kernel
theorem g3_73 : Go 3 73 ls [] G M Q ↔ Q none G M := go_return hq3 k3_73 rfl
theorem k4_0 : cm_at ins_4 0 = some (.aload_n 0, 1) := by decide +kernel
theorem g4_0 : Go 4 0 [some (2, x), l1, l2, l3, l4] st G M Q ↔ Go 4 1 [some (2, x), l1, l2, l3, l4] ((2, x) :: st) G M Q := go_aload_n hq4 k4_0 rfl
theorem k4_1 : cm_at ins_4 1 = some (.getfield 57, 3) := by decide +kernel
theorem g4_1 : Go 4 1 ls ((2, k) :: st) G M Q ↔ cm_sh G k = some (0, 0) ∧ Go 4 4 ls ((0, M k 8) :: st) G M Q := go_get0 hq4 k4_1 ff0_57 rfl
theorem k4_4 : cm_at ins_4 4 = some (.iconst 1, 1) := by decide +kernel
theorem g4_4 : Go 4 4 ls st G M Q ↔ Go 4 5 ls ((0, 1) :: st) G M Q := go_iconst hq4 k4_4
theorem k4_5 : cm_at ins_4 5 = some (.isub, 1) := by decide +kernel
theorem g4_5 : Go 4 5 ls ((0, b) :: (0, a) :: st) G M Q ↔ Go 4 6 ls ((0, a - b) :: st) G M Q := go_isub hq4 k4_5
theorem k4_6 : cm_at ins_4 6 = some (.istore_n 3, 1) := by decide +kernel
theorem g4_6 : Go 4 6 [l0, l1, l2, l3, l4] ((0, x) :: st) G M Q ↔ Go 4 7 [l0, l1, l2, some (0, x), l4] st G M Q := go_istore_n hq4 k4_6 ⟨Nat.le_of_ble_eq_true rfl, rfl, by decide⟩
theorem k4_7 : cm_at ins_4 7 = some (.iload_n 3, 1) := by decide +kernel
theorem g4_7 : Go 4 7 [l0, l1, l2, some (0, x), l4] st G M Q ↔ Go 4 8 [l0, l1, l2, some (0, x), l4] ((0, x) :: st) G M Q := go_iload_n hq4 k4_7 rfl
theorem k4_8 : cm_at ins_4 8 = some (.ifCond .ge 4, 3) := by decide +kernel
theorem g4_8 : Go 4 8 ls ((0, a) :: st) G M Q ↔ cm_in a ∧ (¬ a < 0 → Go 4 12 ls st G M Q) ∧ (a < 0 → Go 4 11 ls st G M Q) := go_if_ge hq4 k4_8 (by decide)
theorem k4_11 : cm_at ins_4 11 = some (.return_, 1) := by decide +kernel
theorem g4_11 : Go 4 11 ls [] G M Q ↔ Q none G M := go_return hq4 k4_11 rfl
theorem k4_12 : cm_at ins_4 12 = some (.aload_n 0, 1) := by decide +kernel
theorem g4_12 : Go 4 12 [some (2, x), l1, l2, l3, l4] st G M Q ↔ Go 4 13 [some (2, x), l1, l2, l3, l4] ((2, x) :: st) G M Q := go_aload_n hq4 k4_12 rfl
theorem k4_13 : cm_at ins_4 13 = some (.iload_n 3, 1) := by decide +kernel
theorem g4_13 : Go 4 13 [l0, l1, l2, some (0, x), l4] st G M Q ↔ Go 4 14 [l0, l1, l2, some (0, x), l4] ((0, x) :: st) G M Q := go_iload_n hq4 k4_13 rfl
theorem k4_14 : cm_at ins_4 14 = some (.iload_n 1, 1) := by decide +kernel
theorem g4_14 : Go 4 14 [l0, some (0, x), l2, l3, l4] st G M Q ↔ Go 4 15 [l0, some (0, x), l2, l3, l4] ((0, x) :: st) G M Q := go_iload_n hq4 k4_14 rfl
theorem k4_15 : cm_at ins_4 15 = some (.invokevirtual 74, 3) := by decide +kernel
theorem c4_15 (h8 : cm_sum st ≤ 8) (hk : cm_sh G k = some (0, 0)) (K : Go 9 0 [some (2, k), some (0, y), some (0, z), none, none] [] G M (fun r G' M' => Go 4 18 ls (r.toList ++ st) G' M' Q)) : Go 4 15 ls ((0, z) :: (0, y) :: (2, k) :: st) G M Q := go_callV hq4 k4_15 fc0_74 hq9 rfl (as := [(0, z), (0, y), (2, k)]) rfl rfl (Nat.le_of_ble_eq_true rfl) rfl h8 hk K
theorem k4_18 : cm_at ins_4 18 = some (.istore 4, 2) := by decide +kernel
theorem g4_18 : Go 4 18 [l0, l1, l2, l3, l4] ((0, x) :: st) G M Q ↔ Go 4 20 [l0, l1, l2, l3, some (0, x)] st G M Q := go_istore hq4 k4_18 ⟨Nat.le_of_ble_eq_true rfl, rfl, by decide⟩
theorem k4_20 : cm_at ins_4 20 = some (.iload 4, 2) := by decide +kernel
theorem g4_20 : Go 4 20 [l0, l1, l2, l3, some (0, x)] st G M Q ↔ Go 4 22 [l0, l1, l2, l3, some (0, x)] ((0, x) :: st) G M Q := go_iload hq4 k4_20 rfl
theorem k4_22 : cm_at ins_4 22 = some (.ifCond .le 36, 3) := by decide +kernel
theorem g4_22 : Go 4 22 ls ((0, a) :: st) G M Q ↔ cm_in a ∧ (¬ 0 < a → Go 4 58 ls st G M Q) ∧ (0 < a → Go 4 25 ls st G M Q) := go_if_le hq4 k4_22 (by decide)
theorem k4_25 : cm_at ins_4 25 = some (.aload_n 0, 1) := by decide +kernel
theorem g4_25 : Go 4 25 [some (2, x), l1, l2, l3, l4] st G M Q ↔ Go 4 26 [some (2, x), l1, l2, l3, l4] ((2, x) :: st) G M Q := go_aload_n hq4 k4_25 rfl
theorem k4_26 : cm_at ins_4 26 = some (.aload_n 0, 1) := by decide +kernel
theorem g4_26 : Go 4 26 [some (2, x), l1, l2, l3, l4] st G M Q ↔ Go 4 27 [some (2, x), l1, l2, l3, l4] ((2, x) :: st) G M Q := go_aload_n hq4 k4_26 rfl
theorem k4_27 : cm_at ins_4 27 = some (.getfield 28, 3) := by decide +kernel
theorem g4_27 : Go 4 27 ls ((2, k) :: st) G M Q ↔ cm_sh G k = some (0, 0) ∧ Go 4 30 ls ((2, G.2 k 5) :: st) G M Q := go_get2 hq4 k4_27 ff0_28 rfl
theorem k4_30 : cm_at ins_4 30 = some (.iload_n 3, 1) := by decide +kernel
theorem g4_30 : Go 4 30 [l0, l1, l2, some (0, x), l4] st G M Q ↔ Go 4 31 [l0, l1, l2, some (0, x), l4] ((0, x) :: st) G M Q := go_iload_n hq4 k4_30 rfl
theorem k4_31 : cm_at ins_4 31 = some (.iaload, 1) := by decide +kernel
theorem g4_31 : Go 4 31 ls ((0, i) :: (2, k) :: st) G M Q ↔ (0 ≤ i ∧ i < cm_al 1 G M k) ∧ Go 4 32 ls ((0, M k i) :: st) G M Q := go_iald hq4 k4_31
theorem k4_32 : cm_at ins_4 32 = some (.iload 4, 2) := by decide +kernel
theorem g4_32 : Go 4 32 [l0, l1, l2, l3, some (0, x)] st G M Q ↔ Go 4 34 [l0, l1, l2, l3, some (0, x)] ((0, x) :: st) G M Q := go_iload hq4 k4_32 rfl
theorem k4_34 : cm_at ins_4 34 = some (.iadd, 1) := by decide +kernel
theorem g4_34 : Go 4 34 ls ((0, b) :: (0, a) :: st) G M Q ↔ Go 4 35 ls ((0, a + b) :: st) G M Q := go_iadd hq4 k4_34
theorem k4_35 : cm_at ins_4 35 = some (.aload_n 0, 1) := by decide +kernel
theorem g4_35 : Go 4 35 [some (2, x), l1, l2, l3, l4] st G M Q ↔ Go 4 36 [some (2, x), l1, l2, l3, l4] ((2, x) :: st) G M Q := go_aload_n hq4 k4_35 rfl
theorem k4_36 : cm_at ins_4 36 = some (.getfield 31, 3) := by decide +kernel
theorem g4_36 : Go 4 36 ls ((2, k) :: st) G M Q ↔ cm_sh G k = some (0, 0) ∧ Go 4 39 ls ((2, G.2 k 6) :: st) G M Q := go_get2 hq4 k4_36 ff0_31 rfl
theorem k4_39 : cm_at ins_4 39 = some (.iload_n 3, 1) := by decide +kernel
theorem g4_39 : Go 4 39 [l0, l1, l2, some (0, x), l4] st G M Q ↔ Go 4 40 [l0, l1, l2, some (0, x), l4] ((0, x) :: st) G M Q := go_iload_n hq4 k4_39 rfl
theorem k4_40 : cm_at ins_4 40 = some (.iaload, 1) := by decide +kernel
theorem g4_40 : Go 4 40 ls ((0, i) :: (2, k) :: st) G M Q ↔ (0 ≤ i ∧ i < cm_al 1 G M k) ∧ Go 4 41 ls ((0, M k i) :: st) G M Q := go_iald hq4 k4_40
theorem k4_41 : cm_at ins_4 41 = some (.iload 4, 2) := by decide +kernel
theorem g4_41 : Go 4 41 [l0, l1, l2, l3, some (0, x)] st G M Q ↔ Go 4 43 [l0, l1, l2, l3, some (0, x)] ((0, x) :: st) G M Q := go_iload hq4 k4_41 rfl
theorem k4_43 : cm_at ins_4 43 = some (.aload_n 0, 1) := by decide +kernel
theorem g4_43 : Go 4 43 [some (2, x), l1, l2, l3, l4] st G M Q ↔ Go 4 44 [some (2, x), l1, l2, l3, l4] ((2, x) :: st) G M Q := go_aload_n hq4 k4_43 rfl
theorem k4_44 : cm_at ins_4 44 = some (.getfield 34, 3) := by decide +kernel
theorem g4_44 : Go 4 44 ls ((2, k) :: st) G M Q ↔ cm_sh G k = some (0, 0) ∧ Go 4 47 ls ((2, G.2 k 7) :: st) G M Q := go_get2 hq4 k4_44 ff0_34 rfl
theorem k4_47 : cm_at ins_4 47 = some (.iload_n 3, 1) := by decide +kernel
theorem g4_47 : Go 4 47 [l0, l1, l2, some (0, x), l4] st G M Q ↔ Go 4 48 [l0, l1, l2, some (0, x), l4] ((0, x) :: st) G M Q := go_iload_n hq4 k4_47 rfl
theorem k4_48 : cm_at ins_4 48 = some (.iaload, 1) := by decide +kernel
theorem g4_48 : Go 4 48 ls ((0, i) :: (2, k) :: st) G M Q ↔ (0 ≤ i ∧ i < cm_al 1 G M k) ∧ Go 4 49 ls ((0, M k i) :: st) G M Q := go_iald hq4 k4_48
theorem k4_49 : cm_at ins_4 49 = some (.imul, 1) := by decide +kernel
theorem g4_49 : Go 4 49 ls ((0, b) :: (0, a) :: st) G M Q ↔ Go 4 50 ls ((0, a * b) :: st) G M Q := go_imul hq4 k4_49
theorem k4_50 : cm_at ins_4 50 = some (.iadd, 1) := by decide +kernel
theorem g4_50 : Go 4 50 ls ((0, b) :: (0, a) :: st) G M Q ↔ Go 4 51 ls ((0, a + b) :: st) G M Q := go_iadd hq4 k4_50
theorem k4_51 : cm_at ins_4 51 = some (.iload_n 2, 1) := by decide +kernel
theorem g4_51 : Go 4 51 [l0, l1, some (0, x), l3, l4] st G M Q ↔ Go 4 52 [l0, l1, some (0, x), l3, l4] ((0, x) :: st) G M Q := go_iload_n hq4 k4_51 rfl
theorem k4_52 : cm_at ins_4 52 = some (.invokevirtual 63, 3) := by decide +kernel
theorem c4_52 (h8 : cm_sum st ≤ 8) (hk : cm_sh G k = some (0, 0)) (K : Go 5 0 [some (2, k), some (0, y), some (0, z), some (0, u)] [] G M (fun r G' M' => Go 4 55 ls (r.toList ++ st) G' M' Q)) : Go 4 52 ls ((0, u) :: (0, z) :: (0, y) :: (2, k) :: st) G M Q := go_callV hq4 k4_52 fc0_63 hq5 rfl (as := [(0, u), (0, z), (0, y), (2, k)]) rfl rfl (Nat.le_of_ble_eq_true rfl) rfl h8 hk K
theorem k4_55 : cm_at ins_4 55 = some (.goto 10, 3) := by decide +kernel
theorem g4_55 : Go 4 55 ls st G M Q ↔ Go 4 65 ls st G M Q := go_goto hq4 k4_55 (by decide)
theorem k4_58 : cm_at ins_4 58 = some (.aload_n 0, 1) := by decide +kernel
theorem g4_58 : Go 4 58 [some (2, x), l1, l2, l3, l4] st G M Q ↔ Go 4 59 [some (2, x), l1, l2, l3, l4] ((2, x) :: st) G M Q := go_aload_n hq4 k4_58 rfl
theorem k4_59 : cm_at ins_4 59 = some (.getfield 34, 3) := by decide +kernel
theorem g4_59 : Go 4 59 ls ((2, k) :: st) G M Q ↔ cm_sh G k = some (0, 0) ∧ Go 4 62 ls ((2, G.2 k 7) :: st) G M Q := go_get2 hq4 k4_59 ff0_34 rfl
theorem k4_62 : cm_at ins_4 62 = some (.iload_n 3, 1) := by decide +kernel
theorem g4_62 : Go 4 62 [l0, l1, l2, some (0, x), l4] st G M Q ↔ Go 4 63 [l0, l1, l2, some (0, x), l4] ((0, x) :: st) G M Q := go_iload_n hq4 k4_62 rfl
theorem k4_63 : cm_at ins_4 63 = some (.iload_n 2, 1) := by decide +kernel
theorem g4_63 : Go 4 63 [l0, l1, some (0, x), l3, l4] st G M Q ↔ Go 4 64 [l0, l1, some (0, x), l3, l4] ((0, x) :: st) G M Q := go_iload_n hq4 k4_63 rfl
theorem k4_64 : cm_at ins_4 64 = some (.iastore, 1) := by decide +kernel
theorem g4_64 : Go 4 64 ls ((0, v) :: (0, i) :: (2, k) :: st) G M Q ↔ (0 ≤ k ∧ 0 ≤ i ∧ i < cm_al 1 G M k) ∧ Go 4 65 ls st G (cm_up M k i v) Q := go_iast hq4 k4_64
theorem k4_65 : cm_at ins_4 65 = some (.return_, 1) := by decide +kernel
theorem g4_65 : Go 4 65 ls [] G M Q ↔ Q none G M := go_return hq4 k4_65 rfl
theorem k5_0 : cm_at ins_5 0 = some (.aload_n 0, 1) := by decide +kernel
theorem g5_0 : Go 5 0 [some (2, x), l1, l2, l3] st G M Q ↔ Go 5 1 [some (2, x), l1, l2, l3] ((2, x) :: st) G M Q := go_aload_n hq5 k5_0 rfl
theorem k5_1 : cm_at ins_5 1 = some (.getfield 57, 3) := by decide +kernel
theorem g5_1 : Go 5 1 ls ((2, k) :: st) G M Q ↔ cm_sh G k = some (0, 0) ∧ Go 5 4 ls ((0, M k 8) :: st) G M Q := go_get0 hq5 k5_1 ff0_57 rfl
theorem k5_4 : cm_at ins_5 4 = some (.bipush 40, 2) := by decide +kernel
theorem g5_4 : Go 5 4 ls st G M Q ↔ Go 5 6 ls ((0, 40) :: st) G M Q := go_bipush hq5 k5_4 (by decide)
theorem k5_6 : cm_at ins_5 6 = some (.if_icmp .gt 43, 3) := by decide +kernel
theorem g5_6 : Go 5 6 ls ((0, b) :: (0, a) :: st) G M Q ↔ (cm_in a ∧ cm_in b) ∧ (b < a → Go 5 49 ls st G M Q) ∧ (¬ b < a → Go 5 9 ls st G M Q) := go_icmp_gt hq5 k5_6 (by decide)
theorem k5_9 : cm_at ins_5 9 = some (.aload_n 0, 1) := by decide +kernel
theorem g5_9 : Go 5 9 [some (2, x), l1, l2, l3] st G M Q ↔ Go 5 10 [some (2, x), l1, l2, l3] ((2, x) :: st) G M Q := go_aload_n hq5 k5_9 rfl
theorem k5_10 : cm_at ins_5 10 = some (.getfield 28, 3) := by decide +kernel
theorem g5_10 : Go 5 10 ls ((2, k) :: st) G M Q ↔ cm_sh G k = some (0, 0) ∧ Go 5 13 ls ((2, G.2 k 5) :: st) G M Q := go_get2 hq5 k5_10 ff0_28 rfl
theorem k5_13 : cm_at ins_5 13 = some (.aload_n 0, 1) := by decide +kernel
theorem g5_13 : Go 5 13 [some (2, x), l1, l2, l3] st G M Q ↔ Go 5 14 [some (2, x), l1, l2, l3] ((2, x) :: st) G M Q := go_aload_n hq5 k5_13 rfl
theorem k5_14 : cm_at ins_5 14 = some (.getfield 57, 3) := by decide +kernel
theorem g5_14 : Go 5 14 ls ((2, k) :: st) G M Q ↔ cm_sh G k = some (0, 0) ∧ Go 5 17 ls ((0, M k 8) :: st) G M Q := go_get0 hq5 k5_14 ff0_57 rfl
theorem k5_17 : cm_at ins_5 17 = some (.iload_n 1, 1) := by decide +kernel
theorem g5_17 : Go 5 17 [l0, some (0, x), l2, l3] st G M Q ↔ Go 5 18 [l0, some (0, x), l2, l3] ((0, x) :: st) G M Q := go_iload_n hq5 k5_17 rfl
theorem k5_18 : cm_at ins_5 18 = some (.iastore, 1) := by decide +kernel
theorem g5_18 : Go 5 18 ls ((0, v) :: (0, i) :: (2, k) :: st) G M Q ↔ (0 ≤ k ∧ 0 ≤ i ∧ i < cm_al 1 G M k) ∧ Go 5 19 ls st G (cm_up M k i v) Q := go_iast hq5 k5_18
theorem k5_19 : cm_at ins_5 19 = some (.aload_n 0, 1) := by decide +kernel
theorem g5_19 : Go 5 19 [some (2, x), l1, l2, l3] st G M Q ↔ Go 5 20 [some (2, x), l1, l2, l3] ((2, x) :: st) G M Q := go_aload_n hq5 k5_19 rfl
theorem k5_20 : cm_at ins_5 20 = some (.getfield 31, 3) := by decide +kernel
theorem g5_20 : Go 5 20 ls ((2, k) :: st) G M Q ↔ cm_sh G k = some (0, 0) ∧ Go 5 23 ls ((2, G.2 k 6) :: st) G M Q := go_get2 hq5 k5_20 ff0_31 rfl
theorem k5_23 : cm_at ins_5 23 = some (.aload_n 0, 1) := by decide +kernel
theorem g5_23 : Go 5 23 [some (2, x), l1, l2, l3] st G M Q ↔ Go 5 24 [some (2, x), l1, l2, l3] ((2, x) :: st) G M Q := go_aload_n hq5 k5_23 rfl
theorem k5_24 : cm_at ins_5 24 = some (.getfield 57, 3) := by decide +kernel
theorem g5_24 : Go 5 24 ls ((2, k) :: st) G M Q ↔ cm_sh G k = some (0, 0) ∧ Go 5 27 ls ((0, M k 8) :: st) G M Q := go_get0 hq5 k5_24 ff0_57 rfl
theorem k5_27 : cm_at ins_5 27 = some (.iload_n 2, 1) := by decide +kernel
theorem g5_27 : Go 5 27 [l0, l1, some (0, x), l3] st G M Q ↔ Go 5 28 [l0, l1, some (0, x), l3] ((0, x) :: st) G M Q := go_iload_n hq5 k5_27 rfl
theorem k5_28 : cm_at ins_5 28 = some (.iastore, 1) := by decide +kernel
theorem g5_28 : Go 5 28 ls ((0, v) :: (0, i) :: (2, k) :: st) G M Q ↔ (0 ≤ k ∧ 0 ≤ i ∧ i < cm_al 1 G M k) ∧ Go 5 29 ls st G (cm_up M k i v) Q := go_iast hq5 k5_28
theorem k5_29 : cm_at ins_5 29 = some (.aload_n 0, 1) := by decide +kernel
theorem g5_29 : Go 5 29 [some (2, x), l1, l2, l3] st G M Q ↔ Go 5 30 [some (2, x), l1, l2, l3] ((2, x) :: st) G M Q := go_aload_n hq5 k5_29 rfl
theorem k5_30 : cm_at ins_5 30 = some (.getfield 34, 3) := by decide +kernel
theorem g5_30 : Go 5 30 ls ((2, k) :: st) G M Q ↔ cm_sh G k = some (0, 0) ∧ Go 5 33 ls ((2, G.2 k 7) :: st) G M Q := go_get2 hq5 k5_30 ff0_34 rfl
theorem k5_33 : cm_at ins_5 33 = some (.aload_n 0, 1) := by decide +kernel
theorem g5_33 : Go 5 33 [some (2, x), l1, l2, l3] st G M Q ↔ Go 5 34 [some (2, x), l1, l2, l3] ((2, x) :: st) G M Q := go_aload_n hq5 k5_33 rfl
theorem k5_34 : cm_at ins_5 34 = some (.getfield 57, 3) := by decide +kernel
theorem g5_34 : Go 5 34 ls ((2, k) :: st) G M Q ↔ cm_sh G k = some (0, 0) ∧ Go 5 37 ls ((0, M k 8) :: st) G M Q := go_get0 hq5 k5_34 ff0_57 rfl
theorem k5_37 : cm_at ins_5 37 = some (.iload_n 3, 1) := by decide +kernel
theorem g5_37 : Go 5 37 [l0, l1, l2, some (0, x)] st G M Q ↔ Go 5 38 [l0, l1, l2, some (0, x)] ((0, x) :: st) G M Q := go_iload_n hq5 k5_37 rfl
theorem k5_38 : cm_at ins_5 38 = some (.iastore, 1) := by decide +kernel
theorem g5_38 : Go 5 38 ls ((0, v) :: (0, i) :: (2, k) :: st) G M Q ↔ (0 ≤ k ∧ 0 ≤ i ∧ i < cm_al 1 G M k) ∧ Go 5 39 ls st G (cm_up M k i v) Q := go_iast hq5 k5_38
theorem k5_39 : cm_at ins_5 39 = some (.aload_n 0, 1) := by decide +kernel
theorem g5_39 : Go 5 39 [some (2, x), l1, l2, l3] st G M Q ↔ Go 5 40 [some (2, x), l1, l2, l3] ((2, x) :: st) G M Q := go_aload_n hq5 k5_39 rfl
theorem k5_40 : cm_at ins_5 40 = some (.dup, 1) := by decide +kernel
theorem g5_40b : Go 5 40 ls ((0, x) :: st) G M Q ↔ Go 5 41 ls ((0, x) :: (0, x) :: st) G M Q := go_dup0 hq5 k5_40
theorem g5_40 : Go 5 40 ls ((2, x) :: st) G M Q ↔ Go 5 41 ls ((2, x) :: (2, x) :: st) G M Q := go_dup2 hq5 k5_40
theorem k5_41 : cm_at ins_5 41 = some (.getfield 57, 3) := by decide +kernel
theorem g5_41 : Go 5 41 ls ((2, k) :: st) G M Q ↔ cm_sh G k = some (0, 0) ∧ Go 5 44 ls ((0, M k 8) :: st) G M Q := go_get0 hq5 k5_41 ff0_57 rfl
theorem k5_44 : cm_at ins_5 44 = some (.iconst 1, 1) := by decide +kernel
theorem g5_44 : Go 5 44 ls st G M Q ↔ Go 5 45 ls ((0, 1) :: st) G M Q := go_iconst hq5 k5_44
theorem k5_45 : cm_at ins_5 45 = some (.iadd, 1) := by decide +kernel
theorem g5_45 : Go 5 45 ls ((0, b) :: (0, a) :: st) G M Q ↔ Go 5 46 ls ((0, a + b) :: st) G M Q := go_iadd hq5 k5_45
theorem k5_46 : cm_at ins_5 46 = some (.putfield 57, 3) := by decide +kernel
theorem g5_46 : Go 5 46 ls ((0, v) :: (2, k) :: st) G M Q ↔ cm_sh G k = some (0, 0) ∧ Go 5 49 ls st G (cm_up M k 8 v) Q := go_put0 hq5 k5_46 ff0_57 rfl rfl
theorem k5_49 : cm_at ins_5 49 = some (.return_, 1) := by decide +kernel
theorem g5_49 : Go 5 49 ls [] G M Q ↔ Q none G M := go_return hq5 k5_49 rfl
theorem k6_0 : cm_at ins_6 0 = some (.iconst 0, 1) := by decide +kernel
theorem g6_0 : Go 6 0 ls st G M Q ↔ Go 6 1 ls ((0, 0) :: st) G M Q := go_iconst hq6 k6_0
theorem k6_1 : cm_at ins_6 1 = some (.istore_n 1, 1) := by decide +kernel
theorem g6_1 : Go 6 1 [l0, l1, l2, l3, l4, l5] ((0, x) :: st) G M Q ↔ Go 6 2 [l0, some (0, x), l2, l3, l4, l5] st G M Q := go_istore_n hq6 k6_1 ⟨Nat.le_of_ble_eq_true rfl, rfl, by decide⟩
theorem k6_2 : cm_at ins_6 2 = some (.iconst 0, 1) := by decide +kernel
theorem g6_2 : Go 6 2 ls st G M Q ↔ Go 6 3 ls ((0, 0) :: st) G M Q := go_iconst hq6 k6_2
theorem k6_3 : cm_at ins_6 3 = some (.istore_n 2, 1) := by decide +kernel
theorem g6_3 : Go 6 3 [l0, l1, l2, l3, l4, l5] ((0, x) :: st) G M Q ↔ Go 6 4 [l0, l1, some (0, x), l3, l4, l5] st G M Q := go_istore_n hq6 k6_3 ⟨Nat.le_of_ble_eq_true rfl, rfl, by decide⟩
theorem k6_4 : cm_at ins_6 4 = some (.iconst 0, 1) := by decide +kernel
theorem g6_4 : Go 6 4 ls st G M Q ↔ Go 6 5 ls ((0, 0) :: st) G M Q := go_iconst hq6 k6_4
theorem k6_5 : cm_at ins_6 5 = some (.istore_n 3, 1) := by decide +kernel
theorem g6_5 : Go 6 5 [l0, l1, l2, l3, l4, l5] ((0, x) :: st) G M Q ↔ Go 6 6 [l0, l1, l2, some (0, x), l4, l5] st G M Q := go_istore_n hq6 k6_5 ⟨Nat.le_of_ble_eq_true rfl, rfl, by decide⟩
theorem k6_6 : cm_at ins_6 6 = some (.iload_n 3, 1) := by decide +kernel
theorem g6_6 : Go 6 6 [l0, l1, l2, some (0, x), l4, l5] st G M Q ↔ Go 6 7 [l0, l1, l2, some (0, x), l4, l5] ((0, x) :: st) G M Q := go_iload_n hq6 k6_6 rfl
theorem k6_7 : cm_at ins_6 7 = some (.aload_n 0, 1) := by decide +kernel
theorem g6_7 : Go 6 7 [some (2, x), l1, l2, l3, l4, l5] st G M Q ↔ Go 6 8 [some (2, x), l1, l2, l3, l4, l5] ((2, x) :: st) G M Q := go_aload_n hq6 k6_7 rfl
theorem k6_8 : cm_at ins_6 8 = some (.getfield 12, 3) := by decide +kernel
theorem g6_8 : Go 6 8 ls ((2, k) :: st) G M Q ↔ cm_sh G k = some (0, 0) ∧ Go 6 11 ls ((2, G.2 k 0) :: st) G M Q := go_get2 hq6 k6_8 ff0_12 rfl
theorem k6_11 : cm_at ins_6 11 = some (.getfield 50, 3) := by decide +kernel
theorem g6_11 : Go 6 11 ls ((2, k) :: st) G M Q ↔ cm_sh G k = some (0, 1) ∧ Go 6 14 ls ((0, M k 5) :: st) G M Q := go_get0 hq6 k6_11 ff0_50 rfl
theorem k6_14 : cm_at ins_6 14 = some (.if_icmp .ge 101, 3) := by decide +kernel
theorem g6_14 : Go 6 14 ls ((0, b) :: (0, a) :: st) G M Q ↔ (cm_in a ∧ cm_in b) ∧ (¬ a < b → Go 6 115 ls st G M Q) ∧ (a < b → Go 6 17 ls st G M Q) := go_icmp_ge hq6 k6_14 (by decide)
theorem k6_17 : cm_at ins_6 17 = some (.bipush 10, 2) := by decide +kernel
theorem g6_17 : Go 6 17 ls st G M Q ↔ Go 6 19 ls ((0, 10) :: st) G M Q := go_bipush hq6 k6_17 (by decide)
theorem k6_19 : cm_at ins_6 19 = some (.aload_n 0, 1) := by decide +kernel
theorem g6_19 : Go 6 19 [some (2, x), l1, l2, l3, l4, l5] st G M Q ↔ Go 6 20 [some (2, x), l1, l2, l3, l4, l5] ((2, x) :: st) G M Q := go_aload_n hq6 k6_19 rfl
theorem k6_20 : cm_at ins_6 20 = some (.getfield 18, 3) := by decide +kernel
theorem g6_20 : Go 6 20 ls ((2, k) :: st) G M Q ↔ cm_sh G k = some (0, 0) ∧ Go 6 23 ls ((2, G.2 k 1) :: st) G M Q := go_get2 hq6 k6_20 ff0_18 rfl
theorem k6_23 : cm_at ins_6 23 = some (.iload_n 3, 1) := by decide +kernel
theorem g6_23 : Go 6 23 [l0, l1, l2, some (0, x), l4, l5] st G M Q ↔ Go 6 24 [l0, l1, l2, some (0, x), l4, l5] ((0, x) :: st) G M Q := go_iload_n hq6 k6_23 rfl
theorem k6_24 : cm_at ins_6 24 = some (.iaload, 1) := by decide +kernel
theorem g6_24 : Go 6 24 ls ((0, i) :: (2, k) :: st) G M Q ↔ (0 ≤ i ∧ i < cm_al 1 G M k) ∧ Go 6 25 ls ((0, M k i) :: st) G M Q := go_iald hq6 k6_24
theorem k6_25 : cm_at ins_6 25 = some (.aload_n 0, 1) := by decide +kernel
theorem g6_25 : Go 6 25 [some (2, x), l1, l2, l3, l4, l5] st G M Q ↔ Go 6 26 [some (2, x), l1, l2, l3, l4, l5] ((2, x) :: st) G M Q := go_aload_n hq6 k6_25 rfl
theorem k6_26 : cm_at ins_6 26 = some (.getfield 12, 3) := by decide +kernel
theorem g6_26 : Go 6 26 ls ((2, k) :: st) G M Q ↔ cm_sh G k = some (0, 0) ∧ Go 6 29 ls ((2, G.2 k 0) :: st) G M Q := go_get2 hq6 k6_26 ff0_12 rfl
theorem k6_29 : cm_at ins_6 29 = some (.iload_n 3, 1) := by decide +kernel
theorem g6_29 : Go 6 29 [l0, l1, l2, some (0, x), l4, l5] st G M Q ↔ Go 6 30 [l0, l1, l2, some (0, x), l4, l5] ((0, x) :: st) G M Q := go_iload_n hq6 k6_29 rfl
theorem k6_30 : cm_at ins_6 30 = some (.invokevirtual 53, 3) := by decide +kernel
theorem c6_30 (h8 : cm_sum st ≤ 8) (hk : cm_sh G k = some (0, 1)) (K : Go 31 0 [some (2, k), some (0, y)] [] G M (fun r G' M' => Go 6 33 ls (r.toList ++ st) G' M' Q)) : Go 6 30 ls ((0, y) :: (2, k) :: st) G M Q := go_callV hq6 k6_30 fc0_53 hq31 rfl (as := [(0, y), (2, k)]) rfl rfl (Nat.le_of_ble_eq_true rfl) rfl h8 hk K
theorem k6_33 : cm_at ins_6 33 = some (.iadd, 1) := by decide +kernel
theorem g6_33 : Go 6 33 ls ((0, b) :: (0, a) :: st) G M Q ↔ Go 6 34 ls ((0, a + b) :: st) G M Q := go_iadd hq6 k6_33
theorem k6_34 : cm_at ins_6 34 = some (.imul, 1) := by decide +kernel
theorem g6_34 : Go 6 34 ls ((0, b) :: (0, a) :: st) G M Q ↔ Go 6 35 ls ((0, a * b) :: st) G M Q := go_imul hq6 k6_34
theorem k6_35 : cm_at ins_6 35 = some (.istore 4, 2) := by decide +kernel
theorem g6_35 : Go 6 35 [l0, l1, l2, l3, l4, l5] ((0, x) :: st) G M Q ↔ Go 6 37 [l0, l1, l2, l3, some (0, x), l5] st G M Q := go_istore hq6 k6_35 ⟨Nat.le_of_ble_eq_true rfl, rfl, by decide⟩
theorem k6_37 : cm_at ins_6 37 = some (.bipush 10, 2) := by decide +kernel
theorem g6_37 : Go 6 37 ls st G M Q ↔ Go 6 39 ls ((0, 10) :: st) G M Q := go_bipush hq6 k6_37 (by decide)
theorem k6_39 : cm_at ins_6 39 = some (.aload_n 0, 1) := by decide +kernel
theorem g6_39 : Go 6 39 [some (2, x), l1, l2, l3, l4, l5] st G M Q ↔ Go 6 40 [some (2, x), l1, l2, l3, l4, l5] ((2, x) :: st) G M Q := go_aload_n hq6 k6_39 rfl
theorem k6_40 : cm_at ins_6 40 = some (.getfield 18, 3) := by decide +kernel
theorem g6_40 : Go 6 40 ls ((2, k) :: st) G M Q ↔ cm_sh G k = some (0, 0) ∧ Go 6 43 ls ((2, G.2 k 1) :: st) G M Q := go_get2 hq6 k6_40 ff0_18 rfl
theorem k6_43 : cm_at ins_6 43 = some (.iload_n 3, 1) := by decide +kernel
theorem g6_43 : Go 6 43 [l0, l1, l2, some (0, x), l4, l5] st G M Q ↔ Go 6 44 [l0, l1, l2, some (0, x), l4, l5] ((0, x) :: st) G M Q := go_iload_n hq6 k6_43 rfl
theorem k6_44 : cm_at ins_6 44 = some (.iaload, 1) := by decide +kernel
theorem g6_44 : Go 6 44 ls ((0, i) :: (2, k) :: st) G M Q ↔ (0 ≤ i ∧ i < cm_al 1 G M k) ∧ Go 6 45 ls ((0, M k i) :: st) G M Q := go_iald hq6 k6_44
theorem k6_45 : cm_at ins_6 45 = some (.aload_n 0, 1) := by decide +kernel
theorem g6_45 : Go 6 45 [some (2, x), l1, l2, l3, l4, l5] st G M Q ↔ Go 6 46 [some (2, x), l1, l2, l3, l4, l5] ((2, x) :: st) G M Q := go_aload_n hq6 k6_45 rfl
theorem k6_46 : cm_at ins_6 46 = some (.getfield 12, 3) := by decide +kernel
theorem g6_46 : Go 6 46 ls ((2, k) :: st) G M Q ↔ cm_sh G k = some (0, 0) ∧ Go 6 49 ls ((2, G.2 k 0) :: st) G M Q := go_get2 hq6 k6_46 ff0_12 rfl
theorem k6_49 : cm_at ins_6 49 = some (.getfield 60, 3) := by decide +kernel
theorem g6_49 : Go 6 49 ls ((2, k) :: st) G M Q ↔ cm_sh G k = some (0, 1) ∧ Go 6 52 ls ((2, G.2 k 0) :: st) G M Q := go_get2 hq6 k6_49 ff0_60 rfl
theorem k6_52 : cm_at ins_6 52 = some (.iconst 0, 1) := by decide +kernel
theorem g6_52 : Go 6 52 ls st G M Q ↔ Go 6 53 ls ((0, 0) :: st) G M Q := go_iconst hq6 k6_52
theorem k6_53 : cm_at ins_6 53 = some (.iaload, 1) := by decide +kernel
theorem g6_53 : Go 6 53 ls ((0, i) :: (2, k) :: st) G M Q ↔ (0 ≤ i ∧ i < cm_al 1 G M k) ∧ Go 6 54 ls ((0, M k i) :: st) G M Q := go_iald hq6 k6_53
theorem k6_54 : cm_at ins_6 54 = some (.iadd, 1) := by decide +kernel
theorem g6_54 : Go 6 54 ls ((0, b) :: (0, a) :: st) G M Q ↔ Go 6 55 ls ((0, a + b) :: st) G M Q := go_iadd hq6 k6_54
theorem k6_55 : cm_at ins_6 55 = some (.imul, 1) := by decide +kernel
theorem g6_55 : Go 6 55 ls ((0, b) :: (0, a) :: st) G M Q ↔ Go 6 56 ls ((0, a * b) :: st) G M Q := go_imul hq6 k6_55
theorem k6_56 : cm_at ins_6 56 = some (.iconst 1, 1) := by decide +kernel
theorem g6_56 : Go 6 56 ls st G M Q ↔ Go 6 57 ls ((0, 1) :: st) G M Q := go_iconst hq6 k6_56
theorem k6_57 : cm_at ins_6 57 = some (.iadd, 1) := by decide +kernel
theorem g6_57 : Go 6 57 ls ((0, b) :: (0, a) :: st) G M Q ↔ Go 6 58 ls ((0, a + b) :: st) G M Q := go_iadd hq6 k6_57
theorem k6_58 : cm_at ins_6 58 = some (.istore 5, 2) := by decide +kernel
theorem g6_58 : Go 6 58 [l0, l1, l2, l3, l4, l5] ((0, x) :: st) G M Q ↔ Go 6 60 [l0, l1, l2, l3, l4, some (0, x)] st G M Q := go_istore hq6 k6_58 ⟨Nat.le_of_ble_eq_true rfl, rfl, by decide⟩
theorem k6_60 : cm_at ins_6 60 = some (.aload_n 0, 1) := by decide +kernel
theorem g6_60 : Go 6 60 [some (2, x), l1, l2, l3, l4, l5] st G M Q ↔ Go 6 61 [some (2, x), l1, l2, l3, l4, l5] ((2, x) :: st) G M Q := go_aload_n hq6 k6_60 rfl
theorem k6_61 : cm_at ins_6 61 = some (.iload 4, 2) := by decide +kernel
theorem g6_61 : Go 6 61 [l0, l1, l2, l3, some (0, x), l5] st G M Q ↔ Go 6 63 [l0, l1, l2, l3, some (0, x), l5] ((0, x) :: st) G M Q := go_iload hq6 k6_61 rfl
theorem k6_63 : cm_at ins_6 63 = some (.iload_n 1, 1) := by decide +kernel
theorem g6_63 : Go 6 63 [l0, some (0, x), l2, l3, l4, l5] st G M Q ↔ Go 6 64 [l0, some (0, x), l2, l3, l4, l5] ((0, x) :: st) G M Q := go_iload_n hq6 k6_63 rfl
theorem k6_64 : cm_at ins_6 64 = some (.invokevirtual 78, 3) := by decide +kernel
theorem c6_64 (h8 : cm_sum st ≤ 8) (hk : cm_sh G k = some (0, 0)) (K : Go 7 0 [some (2, k), some (0, y), some (0, z), none, none] [] G M (fun r G' M' => Go 6 67 ls (r.toList ++ st) G' M' Q)) : Go 6 64 ls ((0, z) :: (0, y) :: (2, k) :: st) G M Q := go_callV hq6 k6_64 fc0_78 hq7 rfl (as := [(0, z), (0, y), (2, k)]) rfl rfl (Nat.le_of_ble_eq_true rfl) rfl h8 hk K
theorem k6_67 : cm_at ins_6 67 = some (.istore_n 1, 1) := by decide +kernel
theorem g6_67 : Go 6 67 [l0, l1, l2, l3, l4, l5] ((0, x) :: st) G M Q ↔ Go 6 68 [l0, some (0, x), l2, l3, l4, l5] st G M Q := go_istore_n hq6 k6_67 ⟨Nat.le_of_ble_eq_true rfl, rfl, by decide⟩
theorem k6_68 : cm_at ins_6 68 = some (.aload_n 0, 1) := by decide +kernel
theorem g6_68 : Go 6 68 [some (2, x), l1, l2, l3, l4, l5] st G M Q ↔ Go 6 69 [some (2, x), l1, l2, l3, l4, l5] ((2, x) :: st) G M Q := go_aload_n hq6 k6_68 rfl
theorem k6_69 : cm_at ins_6 69 = some (.iload 5, 2) := by decide +kernel
theorem g6_69 : Go 6 69 [l0, l1, l2, l3, l4, some (0, x)] st G M Q ↔ Go 6 71 [l0, l1, l2, l3, l4, some (0, x)] ((0, x) :: st) G M Q := go_iload hq6 k6_69 rfl
theorem k6_71 : cm_at ins_6 71 = some (.iload_n 2, 1) := by decide +kernel
theorem g6_71 : Go 6 71 [l0, l1, some (0, x), l3, l4, l5] st G M Q ↔ Go 6 72 [l0, l1, some (0, x), l3, l4, l5] ((0, x) :: st) G M Q := go_iload_n hq6 k6_71 rfl
theorem k6_72 : cm_at ins_6 72 = some (.invokevirtual 78, 3) := by decide +kernel
theorem c6_72 (h8 : cm_sum st ≤ 8) (hk : cm_sh G k = some (0, 0)) (K : Go 7 0 [some (2, k), some (0, y), some (0, z), none, none] [] G M (fun r G' M' => Go 6 75 ls (r.toList ++ st) G' M' Q)) : Go 6 72 ls ((0, z) :: (0, y) :: (2, k) :: st) G M Q := go_callV hq6 k6_72 fc0_78 hq7 rfl (as := [(0, z), (0, y), (2, k)]) rfl rfl (Nat.le_of_ble_eq_true rfl) rfl h8 hk K
theorem k6_75 : cm_at ins_6 75 = some (.istore_n 2, 1) := by decide +kernel
theorem g6_75 : Go 6 75 [l0, l1, l2, l3, l4, l5] ((0, x) :: st) G M Q ↔ Go 6 76 [l0, l1, some (0, x), l3, l4, l5] st G M Q := go_istore_n hq6 k6_75 ⟨Nat.le_of_ble_eq_true rfl, rfl, by decide⟩
theorem k6_76 : cm_at ins_6 76 = some (.aload_n 0, 1) := by decide +kernel
theorem g6_76 : Go 6 76 [some (2, x), l1, l2, l3, l4, l5] st G M Q ↔ Go 6 77 [some (2, x), l1, l2, l3, l4, l5] ((2, x) :: st) G M Q := go_aload_n hq6 k6_76 rfl
theorem k6_77 : cm_at ins_6 77 = some (.getfield 22, 3) := by decide +kernel
theorem g6_77 : Go 6 77 ls ((2, k) :: st) G M Q ↔ cm_sh G k = some (0, 0) ∧ Go 6 80 ls ((2, G.2 k 2) :: st) G M Q := go_get2 hq6 k6_77 ff0_22 rfl
theorem k6_80 : cm_at ins_6 80 = some (.iload_n 3, 1) := by decide +kernel
theorem g6_80 : Go 6 80 [l0, l1, l2, some (0, x), l4, l5] st G M Q ↔ Go 6 81 [l0, l1, l2, some (0, x), l4, l5] ((0, x) :: st) G M Q := go_iload_n hq6 k6_80 rfl
theorem k6_81 : cm_at ins_6 81 = some (.aload_n 0, 1) := by decide +kernel
theorem g6_81 : Go 6 81 [some (2, x), l1, l2, l3, l4, l5] st G M Q ↔ Go 6 82 [some (2, x), l1, l2, l3, l4, l5] ((2, x) :: st) G M Q := go_aload_n hq6 k6_81 rfl
theorem k6_82 : cm_at ins_6 82 = some (.iload_n 1, 1) := by decide +kernel
theorem g6_82 : Go 6 82 [l0, some (0, x), l2, l3, l4, l5] st G M Q ↔ Go 6 83 [l0, some (0, x), l2, l3, l4, l5] ((0, x) :: st) G M Q := go_iload_n hq6 k6_82 rfl
theorem k6_83 : cm_at ins_6 83 = some (.iload 4, 2) := by decide +kernel
theorem g6_83 : Go 6 83 [l0, l1, l2, l3, some (0, x), l5] st G M Q ↔ Go 6 85 [l0, l1, l2, l3, some (0, x), l5] ((0, x) :: st) G M Q := go_iload hq6 k6_83 rfl
theorem k6_85 : cm_at ins_6 85 = some (.invokevirtual 81, 3) := by decide +kernel
theorem c6_85 (h8 : cm_sum st ≤ 8) (hk : cm_sh G k = some (0, 0)) (K : Go 8 0 [some (2, k), some (0, y), some (0, z)] [] G M (fun r G' M' => Go 6 88 ls (r.toList ++ st) G' M' Q)) : Go 6 85 ls ((0, z) :: (0, y) :: (2, k) :: st) G M Q := go_callV hq6 k6_85 fc0_81 hq8 rfl (as := [(0, z), (0, y), (2, k)]) rfl rfl (Nat.le_of_ble_eq_true rfl) rfl h8 hk K
theorem k6_88 : cm_at ins_6 88 = some (.iastore, 1) := by decide +kernel
theorem g6_88 : Go 6 88 ls ((0, v) :: (0, i) :: (2, k) :: st) G M Q ↔ (0 ≤ k ∧ 0 ≤ i ∧ i < cm_al 1 G M k) ∧ Go 6 89 ls st G (cm_up M k i v) Q := go_iast hq6 k6_88
theorem k6_89 : cm_at ins_6 89 = some (.aload_n 0, 1) := by decide +kernel
theorem g6_89 : Go 6 89 [some (2, x), l1, l2, l3, l4, l5] st G M Q ↔ Go 6 90 [some (2, x), l1, l2, l3, l4, l5] ((2, x) :: st) G M Q := go_aload_n hq6 k6_89 rfl
theorem k6_90 : cm_at ins_6 90 = some (.getfield 25, 3) := by decide +kernel
theorem g6_90 : Go 6 90 ls ((2, k) :: st) G M Q ↔ cm_sh G k = some (0, 0) ∧ Go 6 93 ls ((2, G.2 k 3) :: st) G M Q := go_get2 hq6 k6_90 ff0_25 rfl
theorem k6_93 : cm_at ins_6 93 = some (.iload_n 3, 1) := by decide +kernel
theorem g6_93 : Go 6 93 [l0, l1, l2, some (0, x), l4, l5] st G M Q ↔ Go 6 94 [l0, l1, l2, some (0, x), l4, l5] ((0, x) :: st) G M Q := go_iload_n hq6 k6_93 rfl
theorem k6_94 : cm_at ins_6 94 = some (.aload_n 0, 1) := by decide +kernel
theorem g6_94 : Go 6 94 [some (2, x), l1, l2, l3, l4, l5] st G M Q ↔ Go 6 95 [some (2, x), l1, l2, l3, l4, l5] ((2, x) :: st) G M Q := go_aload_n hq6 k6_94 rfl
theorem k6_95 : cm_at ins_6 95 = some (.iload_n 2, 1) := by decide +kernel
theorem g6_95 : Go 6 95 [l0, l1, some (0, x), l3, l4, l5] st G M Q ↔ Go 6 96 [l0, l1, some (0, x), l3, l4, l5] ((0, x) :: st) G M Q := go_iload_n hq6 k6_95 rfl
theorem k6_96 : cm_at ins_6 96 = some (.iload 5, 2) := by decide +kernel
theorem g6_96 : Go 6 96 [l0, l1, l2, l3, l4, some (0, x)] st G M Q ↔ Go 6 98 [l0, l1, l2, l3, l4, some (0, x)] ((0, x) :: st) G M Q := go_iload hq6 k6_96 rfl
theorem k6_98 : cm_at ins_6 98 = some (.invokevirtual 81, 3) := by decide +kernel
theorem c6_98 (h8 : cm_sum st ≤ 8) (hk : cm_sh G k = some (0, 0)) (K : Go 8 0 [some (2, k), some (0, y), some (0, z)] [] G M (fun r G' M' => Go 6 101 ls (r.toList ++ st) G' M' Q)) : Go 6 98 ls ((0, z) :: (0, y) :: (2, k) :: st) G M Q := go_callV hq6 k6_98 fc0_81 hq8 rfl (as := [(0, z), (0, y), (2, k)]) rfl rfl (Nat.le_of_ble_eq_true rfl) rfl h8 hk K
theorem k6_101 : cm_at ins_6 101 = some (.aload_n 0, 1) := by decide +kernel
theorem g6_101 : Go 6 101 [some (2, x), l1, l2, l3, l4, l5] st G M Q ↔ Go 6 102 [some (2, x), l1, l2, l3, l4, l5] ((2, x) :: st) G M Q := go_aload_n hq6 k6_101 rfl
theorem k6_102 : cm_at ins_6 102 = some (.getfield 22, 3) := by decide +kernel
theorem g6_102 : Go 6 102 ls ((2, k) :: st) G M Q ↔ cm_sh G k = some (0, 0) ∧ Go 6 105 ls ((2, G.2 k 2) :: st) G M Q := go_get2 hq6 k6_102 ff0_22 rfl
theorem k6_105 : cm_at ins_6 105 = some (.iload_n 3, 1) := by decide +kernel
theorem g6_105 : Go 6 105 [l0, l1, l2, some (0, x), l4, l5] st G M Q ↔ Go 6 106 [l0, l1, l2, some (0, x), l4, l5] ((0, x) :: st) G M Q := go_iload_n hq6 k6_105 rfl
theorem k6_106 : cm_at ins_6 106 = some (.iaload, 1) := by decide +kernel
theorem g6_106 : Go 6 106 ls ((0, i) :: (2, k) :: st) G M Q ↔ (0 ≤ i ∧ i < cm_al 1 G M k) ∧ Go 6 107 ls ((0, M k i) :: st) G M Q := go_iald hq6 k6_106
theorem k6_107 : cm_at ins_6 107 = some (.isub, 1) := by decide +kernel
theorem g6_107 : Go 6 107 ls ((0, b) :: (0, a) :: st) G M Q ↔ Go 6 108 ls ((0, a - b) :: st) G M Q := go_isub hq6 k6_107
theorem k6_108 : cm_at ins_6 108 = some (.iastore, 1) := by decide +kernel
theorem g6_108 : Go 6 108 ls ((0, v) :: (0, i) :: (2, k) :: st) G M Q ↔ (0 ≤ k ∧ 0 ≤ i ∧ i < cm_al 1 G M k) ∧ Go 6 109 ls st G (cm_up M k i v) Q := go_iast hq6 k6_108
theorem k6_109 : cm_at ins_6 109 = some (.iinc 3 1, 3) := by decide +kernel
theorem g6_109 : Go 6 109 [l0, l1, l2, some (0, x), l4, l5] st G M Q ↔ Go 6 112 [l0, l1, l2, some (0, x + 1), l4, l5] st G M Q := go_iinc hq6 k6_109 rfl ⟨rfl, by decide⟩
theorem k6_112 : cm_at ins_6 112 = some (.goto (-106), 3) := by decide +kernel
theorem g6_112 : Go 6 112 ls st G M Q ↔ Go 6 6 ls st G M Q := go_goto hq6 k6_112 (by decide)
theorem k6_115 : cm_at ins_6 115 = some (.return_, 1) := by decide +kernel
theorem g6_115 : Go 6 115 ls [] G M Q ↔ Q none G M := go_return hq6 k6_115 rfl
theorem k7_0 : cm_at ins_7 0 = some (.iload_n 2, 1) := by decide +kernel
theorem g7_0 : Go 7 0 [l0, l1, some (0, x), l3, l4] st G M Q ↔ Go 7 1 [l0, l1, some (0, x), l3, l4] ((0, x) :: st) G M Q := go_iload_n hq7 k7_0 rfl
theorem k7_1 : cm_at ins_7 1 = some (.istore_n 3, 1) := by decide +kernel
theorem g7_1 : Go 7 1 [l0, l1, l2, l3, l4] ((0, x) :: st) G M Q ↔ Go 7 2 [l0, l1, l2, some (0, x), l4] st G M Q := go_istore_n hq7 k7_1 ⟨Nat.le_of_ble_eq_true rfl, rfl, by decide⟩
theorem k7_2 : cm_at ins_7 2 = some (.iload_n 2, 1) := by decide +kernel
theorem g7_2 : Go 7 2 [l0, l1, some (0, x), l3, l4] st G M Q ↔ Go 7 3 [l0, l1, some (0, x), l3, l4] ((0, x) :: st) G M Q := go_iload_n hq7 k7_2 rfl
theorem k7_3 : cm_at ins_7 3 = some (.iconst 1, 1) := by decide +kernel
theorem g7_3 : Go 7 3 ls st G M Q ↔ Go 7 4 ls ((0, 1) :: st) G M Q := go_iconst hq7 k7_3
theorem k7_4 : cm_at ins_7 4 = some (.iadd, 1) := by decide +kernel
theorem g7_4 : Go 7 4 ls ((0, b) :: (0, a) :: st) G M Q ↔ Go 7 5 ls ((0, a + b) :: st) G M Q := go_iadd hq7 k7_4
theorem k7_5 : cm_at ins_7 5 = some (.istore 4, 2) := by decide +kernel
theorem g7_5 : Go 7 5 [l0, l1, l2, l3, l4] ((0, x) :: st) G M Q ↔ Go 7 7 [l0, l1, l2, l3, some (0, x)] st G M Q := go_istore hq7 k7_5 ⟨Nat.le_of_ble_eq_true rfl, rfl, by decide⟩
theorem k7_7 : cm_at ins_7 7 = some (.iload 4, 2) := by decide +kernel
theorem g7_7 : Go 7 7 [l0, l1, l2, l3, some (0, x)] st G M Q ↔ Go 7 9 [l0, l1, l2, l3, some (0, x)] ((0, x) :: st) G M Q := go_iload hq7 k7_7 rfl
theorem k7_9 : cm_at ins_7 9 = some (.aload_n 0, 1) := by decide +kernel
theorem g7_9 : Go 7 9 [some (2, x), l1, l2, l3, l4] st G M Q ↔ Go 7 10 [some (2, x), l1, l2, l3, l4] ((2, x) :: st) G M Q := go_aload_n hq7 k7_9 rfl
theorem k7_10 : cm_at ins_7 10 = some (.getfield 57, 3) := by decide +kernel
theorem g7_10 : Go 7 10 ls ((2, k) :: st) G M Q ↔ cm_sh G k = some (0, 0) ∧ Go 7 13 ls ((0, M k 8) :: st) G M Q := go_get0 hq7 k7_10 ff0_57 rfl
theorem k7_13 : cm_at ins_7 13 = some (.if_icmp .ge 23, 3) := by decide +kernel
theorem g7_13 : Go 7 13 ls ((0, b) :: (0, a) :: st) G M Q ↔ (cm_in a ∧ cm_in b) ∧ (¬ a < b → Go 7 36 ls st G M Q) ∧ (a < b → Go 7 16 ls st G M Q) := go_icmp_ge hq7 k7_13 (by decide)
theorem k7_16 : cm_at ins_7 16 = some (.aload_n 0, 1) := by decide +kernel
theorem g7_16 : Go 7 16 [some (2, x), l1, l2, l3, l4] st G M Q ↔ Go 7 17 [some (2, x), l1, l2, l3, l4] ((2, x) :: st) G M Q := go_aload_n hq7 k7_16 rfl
theorem k7_17 : cm_at ins_7 17 = some (.getfield 31, 3) := by decide +kernel
theorem g7_17 : Go 7 17 ls ((2, k) :: st) G M Q ↔ cm_sh G k = some (0, 0) ∧ Go 7 20 ls ((2, G.2 k 6) :: st) G M Q := go_get2 hq7 k7_17 ff0_31 rfl
theorem k7_20 : cm_at ins_7 20 = some (.iload 4, 2) := by decide +kernel
theorem g7_20 : Go 7 20 [l0, l1, l2, l3, some (0, x)] st G M Q ↔ Go 7 22 [l0, l1, l2, l3, some (0, x)] ((0, x) :: st) G M Q := go_iload hq7 k7_20 rfl
theorem k7_22 : cm_at ins_7 22 = some (.iaload, 1) := by decide +kernel
theorem g7_22 : Go 7 22 ls ((0, i) :: (2, k) :: st) G M Q ↔ (0 ≤ i ∧ i < cm_al 1 G M k) ∧ Go 7 23 ls ((0, M k i) :: st) G M Q := go_iald hq7 k7_22
theorem k7_23 : cm_at ins_7 23 = some (.iload_n 1, 1) := by decide +kernel
theorem g7_23 : Go 7 23 [l0, some (0, x), l2, l3, l4] st G M Q ↔ Go 7 24 [l0, some (0, x), l2, l3, l4] ((0, x) :: st) G M Q := go_iload_n hq7 k7_23 rfl
theorem k7_24 : cm_at ins_7 24 = some (.if_icmp .ge 12, 3) := by decide +kernel
theorem g7_24 : Go 7 24 ls ((0, b) :: (0, a) :: st) G M Q ↔ (cm_in a ∧ cm_in b) ∧ (¬ a < b → Go 7 36 ls st G M Q) ∧ (a < b → Go 7 27 ls st G M Q) := go_icmp_ge hq7 k7_24 (by decide)
theorem k7_27 : cm_at ins_7 27 = some (.iload 4, 2) := by decide +kernel
theorem g7_27 : Go 7 27 [l0, l1, l2, l3, some (0, x)] st G M Q ↔ Go 7 29 [l0, l1, l2, l3, some (0, x)] ((0, x) :: st) G M Q := go_iload hq7 k7_27 rfl
theorem k7_29 : cm_at ins_7 29 = some (.istore_n 3, 1) := by decide +kernel
theorem g7_29 : Go 7 29 [l0, l1, l2, l3, l4] ((0, x) :: st) G M Q ↔ Go 7 30 [l0, l1, l2, some (0, x), l4] st G M Q := go_istore_n hq7 k7_29 ⟨Nat.le_of_ble_eq_true rfl, rfl, by decide⟩
theorem k7_30 : cm_at ins_7 30 = some (.iinc 4 1, 3) := by decide +kernel
theorem g7_30 : Go 7 30 [l0, l1, l2, l3, some (0, x)] st G M Q ↔ Go 7 33 [l0, l1, l2, l3, some (0, x + 1)] st G M Q := go_iinc hq7 k7_30 rfl ⟨rfl, by decide⟩
theorem k7_33 : cm_at ins_7 33 = some (.goto (-26), 3) := by decide +kernel
theorem g7_33 : Go 7 33 ls st G M Q ↔ Go 7 7 ls st G M Q := go_goto hq7 k7_33 (by decide)
theorem k7_36 : cm_at ins_7 36 = some (.iload_n 3, 1) := by decide +kernel
theorem g7_36 : Go 7 36 [l0, l1, l2, some (0, x), l4] st G M Q ↔ Go 7 37 [l0, l1, l2, some (0, x), l4] ((0, x) :: st) G M Q := go_iload_n hq7 k7_36 rfl
theorem k7_37 : cm_at ins_7 37 = some (.ireturn, 1) := by decide +kernel
theorem g7_37 : Go 7 37 ls [(0, v)] G M Q ↔ Q (some (0, v)) G M := go_ireturn hq7 k7_37 rfl
theorem k8_0 : cm_at ins_8 0 = some (.aload_n 0, 1) := by decide +kernel
theorem g8_0 : Go 8 0 [some (2, x), l1, l2] st G M Q ↔ Go 8 1 [some (2, x), l1, l2] ((2, x) :: st) G M Q := go_aload_n hq8 k8_0 rfl
theorem k8_1 : cm_at ins_8 1 = some (.getfield 28, 3) := by decide +kernel
theorem g8_1 : Go 8 1 ls ((2, k) :: st) G M Q ↔ cm_sh G k = some (0, 0) ∧ Go 8 4 ls ((2, G.2 k 5) :: st) G M Q := go_get2 hq8 k8_1 ff0_28 rfl
theorem k8_4 : cm_at ins_8 4 = some (.iload_n 1, 1) := by decide +kernel
theorem g8_4 : Go 8 4 [l0, some (0, x), l2] st G M Q ↔ Go 8 5 [l0, some (0, x), l2] ((0, x) :: st) G M Q := go_iload_n hq8 k8_4 rfl
theorem k8_5 : cm_at ins_8 5 = some (.iaload, 1) := by decide +kernel
theorem g8_5 : Go 8 5 ls ((0, i) :: (2, k) :: st) G M Q ↔ (0 ≤ i ∧ i < cm_al 1 G M k) ∧ Go 8 6 ls ((0, M k i) :: st) G M Q := go_iald hq8 k8_5
theorem k8_6 : cm_at ins_8 6 = some (.aload_n 0, 1) := by decide +kernel
theorem g8_6 : Go 8 6 [some (2, x), l1, l2] st G M Q ↔ Go 8 7 [some (2, x), l1, l2] ((2, x) :: st) G M Q := go_aload_n hq8 k8_6 rfl
theorem k8_7 : cm_at ins_8 7 = some (.iload_n 1, 1) := by decide +kernel
theorem g8_7 : Go 8 7 [l0, some (0, x), l2] st G M Q ↔ Go 8 8 [l0, some (0, x), l2] ((0, x) :: st) G M Q := go_iload_n hq8 k8_7 rfl
theorem k8_8 : cm_at ins_8 8 = some (.iload_n 2, 1) := by decide +kernel
theorem g8_8 : Go 8 8 [l0, l1, some (0, x)] st G M Q ↔ Go 8 9 [l0, l1, some (0, x)] ((0, x) :: st) G M Q := go_iload_n hq8 k8_8 rfl
theorem k8_9 : cm_at ins_8 9 = some (.invokevirtual 74, 3) := by decide +kernel
theorem c8_9 (h8 : cm_sum st ≤ 8) (hk : cm_sh G k = some (0, 0)) (K : Go 9 0 [some (2, k), some (0, y), some (0, z), none, none] [] G M (fun r G' M' => Go 8 12 ls (r.toList ++ st) G' M' Q)) : Go 8 9 ls ((0, z) :: (0, y) :: (2, k) :: st) G M Q := go_callV hq8 k8_9 fc0_74 hq9 rfl (as := [(0, z), (0, y), (2, k)]) rfl rfl (Nat.le_of_ble_eq_true rfl) rfl h8 hk K
theorem k8_12 : cm_at ins_8 12 = some (.iadd, 1) := by decide +kernel
theorem g8_12 : Go 8 12 ls ((0, b) :: (0, a) :: st) G M Q ↔ Go 8 13 ls ((0, a + b) :: st) G M Q := go_iadd hq8 k8_12
theorem k8_13 : cm_at ins_8 13 = some (.ireturn, 1) := by decide +kernel
theorem g8_13 : Go 8 13 ls [(0, v)] G M Q ↔ Q (some (0, v)) G M := go_ireturn hq8 k8_13 rfl
theorem k9_0 : cm_at ins_9 0 = some (.iload_n 2, 1) := by decide +kernel
theorem g9_0 : Go 9 0 [l0, l1, some (0, x), l3, l4] st G M Q ↔ Go 9 1 [l0, l1, some (0, x), l3, l4] ((0, x) :: st) G M Q := go_iload_n hq9 k9_0 rfl
theorem k9_1 : cm_at ins_9 1 = some (.aload_n 0, 1) := by decide +kernel
theorem g9_1 : Go 9 1 [some (2, x), l1, l2, l3, l4] st G M Q ↔ Go 9 2 [some (2, x), l1, l2, l3, l4] ((2, x) :: st) G M Q := go_aload_n hq9 k9_1 rfl
theorem k9_2 : cm_at ins_9 2 = some (.getfield 31, 3) := by decide +kernel
theorem g9_2 : Go 9 2 ls ((2, k) :: st) G M Q ↔ cm_sh G k = some (0, 0) ∧ Go 9 5 ls ((2, G.2 k 6) :: st) G M Q := go_get2 hq9 k9_2 ff0_31 rfl
theorem k9_5 : cm_at ins_9 5 = some (.iload_n 1, 1) := by decide +kernel
theorem g9_5 : Go 9 5 [l0, some (0, x), l2, l3, l4] st G M Q ↔ Go 9 6 [l0, some (0, x), l2, l3, l4] ((0, x) :: st) G M Q := go_iload_n hq9 k9_5 rfl
theorem k9_6 : cm_at ins_9 6 = some (.iaload, 1) := by decide +kernel
theorem g9_6 : Go 9 6 ls ((0, i) :: (2, k) :: st) G M Q ↔ (0 ≤ i ∧ i < cm_al 1 G M k) ∧ Go 9 7 ls ((0, M k i) :: st) G M Q := go_iald hq9 k9_6
theorem k9_7 : cm_at ins_9 7 = some (.isub, 1) := by decide +kernel
theorem g9_7 : Go 9 7 ls ((0, b) :: (0, a) :: st) G M Q ↔ Go 9 8 ls ((0, a - b) :: st) G M Q := go_isub hq9 k9_7
theorem k9_8 : cm_at ins_9 8 = some (.istore_n 3, 1) := by decide +kernel
theorem g9_8 : Go 9 8 [l0, l1, l2, l3, l4] ((0, x) :: st) G M Q ↔ Go 9 9 [l0, l1, l2, some (0, x), l4] st G M Q := go_istore_n hq9 k9_8 ⟨Nat.le_of_ble_eq_true rfl, rfl, by decide⟩
theorem k9_9 : cm_at ins_9 9 = some (.aload_n 0, 1) := by decide +kernel
theorem g9_9 : Go 9 9 [some (2, x), l1, l2, l3, l4] st G M Q ↔ Go 9 10 [some (2, x), l1, l2, l3, l4] ((2, x) :: st) G M Q := go_aload_n hq9 k9_9 rfl
theorem k9_10 : cm_at ins_9 10 = some (.getfield 34, 3) := by decide +kernel
theorem g9_10 : Go 9 10 ls ((2, k) :: st) G M Q ↔ cm_sh G k = some (0, 0) ∧ Go 9 13 ls ((2, G.2 k 7) :: st) G M Q := go_get2 hq9 k9_10 ff0_34 rfl
theorem k9_13 : cm_at ins_9 13 = some (.iload_n 1, 1) := by decide +kernel
theorem g9_13 : Go 9 13 [l0, some (0, x), l2, l3, l4] st G M Q ↔ Go 9 14 [l0, some (0, x), l2, l3, l4] ((0, x) :: st) G M Q := go_iload_n hq9 k9_13 rfl
theorem k9_14 : cm_at ins_9 14 = some (.iaload, 1) := by decide +kernel
theorem g9_14 : Go 9 14 ls ((0, i) :: (2, k) :: st) G M Q ↔ (0 ≤ i ∧ i < cm_al 1 G M k) ∧ Go 9 15 ls ((0, M k i) :: st) G M Q := go_iald hq9 k9_14
theorem k9_15 : cm_at ins_9 15 = some (.istore 4, 2) := by decide +kernel
theorem g9_15 : Go 9 15 [l0, l1, l2, l3, l4] ((0, x) :: st) G M Q ↔ Go 9 17 [l0, l1, l2, l3, some (0, x)] st G M Q := go_istore hq9 k9_15 ⟨Nat.le_of_ble_eq_true rfl, rfl, by decide⟩
theorem k9_17 : cm_at ins_9 17 = some (.iload_n 3, 1) := by decide +kernel
theorem g9_17 : Go 9 17 [l0, l1, l2, some (0, x), l4] st G M Q ↔ Go 9 18 [l0, l1, l2, some (0, x), l4] ((0, x) :: st) G M Q := go_iload_n hq9 k9_17 rfl
theorem k9_18 : cm_at ins_9 18 = some (.ifCond .le 8, 3) := by decide +kernel
theorem g9_18 : Go 9 18 ls ((0, a) :: st) G M Q ↔ cm_in a ∧ (¬ 0 < a → Go 9 26 ls st G M Q) ∧ (0 < a → Go 9 21 ls st G M Q) := go_if_le hq9 k9_18 (by decide)
theorem k9_21 : cm_at ins_9 21 = some (.iload 4, 2) := by decide +kernel
theorem g9_21 : Go 9 21 [l0, l1, l2, l3, some (0, x)] st G M Q ↔ Go 9 23 [l0, l1, l2, l3, some (0, x)] ((0, x) :: st) G M Q := go_iload hq9 k9_21 rfl
theorem k9_23 : cm_at ins_9 23 = some (.ifCond .gt 7, 3) := by decide +kernel
theorem g9_23 : Go 9 23 ls ((0, a) :: st) G M Q ↔ cm_in a ∧ (0 < a → Go 9 30 ls st G M Q) ∧ (¬ 0 < a → Go 9 26 ls st G M Q) := go_if_gt hq9 k9_23 (by decide)
theorem k9_26 : cm_at ins_9 26 = some (.iconst 0, 1) := by decide +kernel
theorem g9_26 : Go 9 26 ls st G M Q ↔ Go 9 27 ls ((0, 0) :: st) G M Q := go_iconst hq9 k9_26
theorem k9_27 : cm_at ins_9 27 = some (.goto 12, 3) := by decide +kernel
theorem g9_27 : Go 9 27 ls st G M Q ↔ Go 9 39 ls st G M Q := go_goto hq9 k9_27 (by decide)
theorem k9_30 : cm_at ins_9 30 = some (.iload_n 3, 1) := by decide +kernel
theorem g9_30 : Go 9 30 [l0, l1, l2, some (0, x), l4] st G M Q ↔ Go 9 31 [l0, l1, l2, some (0, x), l4] ((0, x) :: st) G M Q := go_iload_n hq9 k9_30 rfl
theorem k9_31 : cm_at ins_9 31 = some (.iload 4, 2) := by decide +kernel
theorem g9_31 : Go 9 31 [l0, l1, l2, l3, some (0, x)] st G M Q ↔ Go 9 33 [l0, l1, l2, l3, some (0, x)] ((0, x) :: st) G M Q := go_iload hq9 k9_31 rfl
theorem k9_33 : cm_at ins_9 33 = some (.iadd, 1) := by decide +kernel
theorem g9_33 : Go 9 33 ls ((0, b) :: (0, a) :: st) G M Q ↔ Go 9 34 ls ((0, a + b) :: st) G M Q := go_iadd hq9 k9_33
theorem k9_34 : cm_at ins_9 34 = some (.iconst 1, 1) := by decide +kernel
theorem g9_34 : Go 9 34 ls st G M Q ↔ Go 9 35 ls ((0, 1) :: st) G M Q := go_iconst hq9 k9_34
theorem k9_35 : cm_at ins_9 35 = some (.isub, 1) := by decide +kernel
theorem g9_35 : Go 9 35 ls ((0, b) :: (0, a) :: st) G M Q ↔ Go 9 36 ls ((0, a - b) :: st) G M Q := go_isub hq9 k9_35
theorem k9_36 : cm_at ins_9 36 = some (.iload 4, 2) := by decide +kernel
theorem g9_36 : Go 9 36 [l0, l1, l2, l3, some (0, x)] st G M Q ↔ Go 9 38 [l0, l1, l2, l3, some (0, x)] ((0, x) :: st) G M Q := go_iload hq9 k9_36 rfl
theorem k9_38 : cm_at ins_9 38 = some (.idiv, 1) := by decide +kernel
theorem g9_38 : Go 9 38 ls ((0, b) :: (0, a) :: st) G M Q ↔ (cm_in a ∧ cm_in b ∧ 0 < b) ∧ Go 9 39 ls ((0, a.tdiv b) :: st) G M Q := go_idiv hq9 k9_38
theorem k9_39 : cm_at ins_9 39 = some (.ireturn, 1) := by decide +kernel
theorem g9_39 : Go 9 39 ls [(0, v)] G M Q ↔ Q (some (0, v)) G M := go_ireturn hq9 k9_39 rfl
theorem k10_0 : cm_at ins_10 0 = some (.aload_n 0, 1) := by decide +kernel
theorem g10_0 : Go 10 0 [some (2, x), l1] st G M Q ↔ Go 10 1 [some (2, x), l1] ((2, x) :: st) G M Q := go_aload_n hq10 k10_0 rfl
theorem k10_1 : cm_at ins_10 1 = some (.getfield 12, 3) := by decide +kernel
theorem g10_1 : Go 10 1 ls ((2, k) :: st) G M Q ↔ cm_sh G k = some (0, 0) ∧ Go 10 4 ls ((2, G.2 k 0) :: st) G M Q := go_get2 hq10 k10_1 ff0_12 rfl
theorem k10_4 : cm_at ins_10 4 = some (.getfield 50, 3) := by decide +kernel
theorem g10_4 : Go 10 4 ls ((2, k) :: st) G M Q ↔ cm_sh G k = some (0, 1) ∧ Go 10 7 ls ((0, M k 5) :: st) G M Q := go_get0 hq10 k10_4 ff0_50 rfl
theorem k10_7 : cm_at ins_10 7 = some (.ifCond .ne 5, 3) := by decide +kernel
theorem g10_7 : Go 10 7 ls ((0, a) :: st) G M Q ↔ cm_in a ∧ (¬ a = 0 → Go 10 12 ls st G M Q) ∧ (a = 0 → Go 10 10 ls st G M Q) := go_if_ne hq10 k10_7 (by decide)
theorem k10_10 : cm_at ins_10 10 = some (.iconst 0, 1) := by decide +kernel
theorem g10_10 : Go 10 10 ls st G M Q ↔ Go 10 11 ls ((0, 0) :: st) G M Q := go_iconst hq10 k10_10
theorem k10_11 : cm_at ins_10 11 = some (.ireturn, 1) := by decide +kernel
theorem g10_11 : Go 10 11 ls [(0, v)] G M Q ↔ Q (some (0, v)) G M := go_ireturn hq10 k10_11 rfl
theorem k10_12 : cm_at ins_10 12 = some (.bipush 10, 2) := by decide +kernel
theorem g10_12 : Go 10 12 ls st G M Q ↔ Go 10 14 ls ((0, 10) :: st) G M Q := go_bipush hq10 k10_12 (by decide)
theorem k10_14 : cm_at ins_10 14 = some (.aload_n 0, 1) := by decide +kernel
theorem g10_14 : Go 10 14 [some (2, x), l1] st G M Q ↔ Go 10 15 [some (2, x), l1] ((2, x) :: st) G M Q := go_aload_n hq10 k10_14 rfl
theorem k10_15 : cm_at ins_10 15 = some (.getfield 46, 3) := by decide +kernel
theorem g10_15 : Go 10 15 ls ((2, k) :: st) G M Q ↔ cm_sh G k = some (0, 0) ∧ Go 10 18 ls ((0, M k 4) :: st) G M Q := go_get0 hq10 k10_15 ff0_46 rfl
theorem k10_18 : cm_at ins_10 18 = some (.aload_n 0, 1) := by decide +kernel
theorem g10_18 : Go 10 18 [some (2, x), l1] st G M Q ↔ Go 10 19 [some (2, x), l1] ((2, x) :: st) G M Q := go_aload_n hq10 k10_18 rfl
theorem k10_19 : cm_at ins_10 19 = some (.getfield 12, 3) := by decide +kernel
theorem g10_19 : Go 10 19 ls ((2, k) :: st) G M Q ↔ cm_sh G k = some (0, 0) ∧ Go 10 22 ls ((2, G.2 k 0) :: st) G M Q := go_get2 hq10 k10_19 ff0_12 rfl
theorem k10_22 : cm_at ins_10 22 = some (.getfield 60, 3) := by decide +kernel
theorem g10_22 : Go 10 22 ls ((2, k) :: st) G M Q ↔ cm_sh G k = some (0, 1) ∧ Go 10 25 ls ((2, G.2 k 0) :: st) G M Q := go_get2 hq10 k10_22 ff0_60 rfl
theorem k10_25 : cm_at ins_10 25 = some (.iconst 0, 1) := by decide +kernel
theorem g10_25 : Go 10 25 ls st G M Q ↔ Go 10 26 ls ((0, 0) :: st) G M Q := go_iconst hq10 k10_25
theorem k10_26 : cm_at ins_10 26 = some (.iaload, 1) := by decide +kernel
theorem g10_26 : Go 10 26 ls ((0, i) :: (2, k) :: st) G M Q ↔ (0 ≤ i ∧ i < cm_al 1 G M k) ∧ Go 10 27 ls ((0, M k i) :: st) G M Q := go_iald hq10 k10_26
theorem k10_27 : cm_at ins_10 27 = some (.iadd, 1) := by decide +kernel
theorem g10_27 : Go 10 27 ls ((0, b) :: (0, a) :: st) G M Q ↔ Go 10 28 ls ((0, a + b) :: st) G M Q := go_iadd hq10 k10_27
theorem k10_28 : cm_at ins_10 28 = some (.imul, 1) := by decide +kernel
theorem g10_28 : Go 10 28 ls ((0, b) :: (0, a) :: st) G M Q ↔ Go 10 29 ls ((0, a * b) :: st) G M Q := go_imul hq10 k10_28
theorem k10_29 : cm_at ins_10 29 = some (.istore_n 1, 1) := by decide +kernel
theorem g10_29 : Go 10 29 [l0, l1] ((0, x) :: st) G M Q ↔ Go 10 30 [l0, some (0, x)] st G M Q := go_istore_n hq10 k10_29 ⟨Nat.le_of_ble_eq_true rfl, rfl, by decide⟩
theorem k10_30 : cm_at ins_10 30 = some (.aload_n 0, 1) := by decide +kernel
theorem g10_30 : Go 10 30 [some (2, x), l1] st G M Q ↔ Go 10 31 [some (2, x), l1] ((2, x) :: st) G M Q := go_aload_n hq10 k10_30 rfl
theorem k10_31 : cm_at ins_10 31 = some (.aload_n 0, 1) := by decide +kernel
theorem g10_31 : Go 10 31 [some (2, x), l1] st G M Q ↔ Go 10 32 [some (2, x), l1] ((2, x) :: st) G M Q := go_aload_n hq10 k10_31 rfl
theorem k10_32 : cm_at ins_10 32 = some (.iload_n 1, 1) := by decide +kernel
theorem g10_32 : Go 10 32 [l0, some (0, x)] st G M Q ↔ Go 10 33 [l0, some (0, x)] ((0, x) :: st) G M Q := go_iload_n hq10 k10_32 rfl
theorem k10_33 : cm_at ins_10 33 = some (.iconst 0, 1) := by decide +kernel
theorem g10_33 : Go 10 33 ls st G M Q ↔ Go 10 34 ls ((0, 0) :: st) G M Q := go_iconst hq10 k10_33
theorem k10_34 : cm_at ins_10 34 = some (.invokevirtual 78, 3) := by decide +kernel
theorem c10_34 (h8 : cm_sum st ≤ 8) (hk : cm_sh G k = some (0, 0)) (K : Go 7 0 [some (2, k), some (0, y), some (0, z), none, none] [] G M (fun r G' M' => Go 10 37 ls (r.toList ++ st) G' M' Q)) : Go 10 34 ls ((0, z) :: (0, y) :: (2, k) :: st) G M Q := go_callV hq10 k10_34 fc0_78 hq7 rfl (as := [(0, z), (0, y), (2, k)]) rfl rfl (Nat.le_of_ble_eq_true rfl) rfl h8 hk K
theorem k10_37 : cm_at ins_10 37 = some (.iload_n 1, 1) := by decide +kernel
theorem g10_37 : Go 10 37 [l0, some (0, x)] st G M Q ↔ Go 10 38 [l0, some (0, x)] ((0, x) :: st) G M Q := go_iload_n hq10 k10_37 rfl
theorem k10_38 : cm_at ins_10 38 = some (.invokevirtual 81, 3) := by decide +kernel
theorem c10_38 (h8 : cm_sum st ≤ 8) (hk : cm_sh G k = some (0, 0)) (K : Go 8 0 [some (2, k), some (0, y), some (0, z)] [] G M (fun r G' M' => Go 10 41 ls (r.toList ++ st) G' M' Q)) : Go 10 38 ls ((0, z) :: (0, y) :: (2, k) :: st) G M Q := go_callV hq10 k10_38 fc0_81 hq8 rfl (as := [(0, z), (0, y), (2, k)]) rfl rfl (Nat.le_of_ble_eq_true rfl) rfl h8 hk K
theorem k10_41 : cm_at ins_10 41 = some (.ireturn, 1) := by decide +kernel
theorem g10_41 : Go 10 41 ls [(0, v)] G M Q ↔ Q (some (0, v)) G M := go_ireturn hq10 k10_41 rfl
theorem k11_0 : cm_at ins_11 0 = some (.iconst 0, 1) := by decide +kernel
theorem g11_0 : Go 11 0 ls st G M Q ↔ Go 11 1 ls ((0, 0) :: st) G M Q := go_iconst hq11 k11_0
theorem k11_1 : cm_at ins_11 1 = some (.istore_n 2, 1) := by decide +kernel
theorem g11_1 : Go 11 1 [l0, l1, l2, l3] ((0, x) :: st) G M Q ↔ Go 11 2 [l0, l1, some (0, x), l3] st G M Q := go_istore_n hq11 k11_1 ⟨Nat.le_of_ble_eq_true rfl, rfl, by decide⟩
theorem k11_2 : cm_at ins_11 2 = some (.iconst 1, 1) := by decide +kernel
theorem g11_2 : Go 11 2 ls st G M Q ↔ Go 11 3 ls ((0, 1) :: st) G M Q := go_iconst hq11 k11_2
theorem k11_3 : cm_at ins_11 3 = some (.istore_n 3, 1) := by decide +kernel
theorem g11_3 : Go 11 3 [l0, l1, l2, l3] ((0, x) :: st) G M Q ↔ Go 11 4 [l0, l1, l2, some (0, x)] st G M Q := go_istore_n hq11 k11_3 ⟨Nat.le_of_ble_eq_true rfl, rfl, by decide⟩
theorem k11_4 : cm_at ins_11 4 = some (.iload_n 3, 1) := by decide +kernel
theorem g11_4 : Go 11 4 [l0, l1, l2, some (0, x)] st G M Q ↔ Go 11 5 [l0, l1, l2, some (0, x)] ((0, x) :: st) G M Q := go_iload_n hq11 k11_4 rfl
theorem k11_5 : cm_at ins_11 5 = some (.aload_n 0, 1) := by decide +kernel
theorem g11_5 : Go 11 5 [some (2, x), l1, l2, l3] st G M Q ↔ Go 11 6 [some (2, x), l1, l2, l3] ((2, x) :: st) G M Q := go_aload_n hq11 k11_5 rfl
theorem k11_6 : cm_at ins_11 6 = some (.getfield 57, 3) := by decide +kernel
theorem g11_6 : Go 11 6 ls ((2, k) :: st) G M Q ↔ cm_sh G k = some (0, 0) ∧ Go 11 9 ls ((0, M k 8) :: st) G M Q := go_get0 hq11 k11_6 ff0_57 rfl
theorem k11_9 : cm_at ins_11 9 = some (.if_icmp .ge 21, 3) := by decide +kernel
theorem g11_9 : Go 11 9 ls ((0, b) :: (0, a) :: st) G M Q ↔ (cm_in a ∧ cm_in b) ∧ (¬ a < b → Go 11 30 ls st G M Q) ∧ (a < b → Go 11 12 ls st G M Q) := go_icmp_ge hq11 k11_9 (by decide)
theorem k11_12 : cm_at ins_11 12 = some (.aload_n 0, 1) := by decide +kernel
theorem g11_12 : Go 11 12 [some (2, x), l1, l2, l3] st G M Q ↔ Go 11 13 [some (2, x), l1, l2, l3] ((2, x) :: st) G M Q := go_aload_n hq11 k11_12 rfl
theorem k11_13 : cm_at ins_11 13 = some (.getfield 28, 3) := by decide +kernel
theorem g11_13 : Go 11 13 ls ((2, k) :: st) G M Q ↔ cm_sh G k = some (0, 0) ∧ Go 11 16 ls ((2, G.2 k 5) :: st) G M Q := go_get2 hq11 k11_13 ff0_28 rfl
theorem k11_16 : cm_at ins_11 16 = some (.iload_n 3, 1) := by decide +kernel
theorem g11_16 : Go 11 16 [l0, l1, l2, some (0, x)] st G M Q ↔ Go 11 17 [l0, l1, l2, some (0, x)] ((0, x) :: st) G M Q := go_iload_n hq11 k11_16 rfl
theorem k11_17 : cm_at ins_11 17 = some (.iaload, 1) := by decide +kernel
theorem g11_17 : Go 11 17 ls ((0, i) :: (2, k) :: st) G M Q ↔ (0 ≤ i ∧ i < cm_al 1 G M k) ∧ Go 11 18 ls ((0, M k i) :: st) G M Q := go_iald hq11 k11_17
theorem k11_18 : cm_at ins_11 18 = some (.iload_n 1, 1) := by decide +kernel
theorem g11_18 : Go 11 18 [l0, some (0, x), l2, l3] st G M Q ↔ Go 11 19 [l0, some (0, x), l2, l3] ((0, x) :: st) G M Q := go_iload_n hq11 k11_18 rfl
theorem k11_19 : cm_at ins_11 19 = some (.if_icmp .gt 11, 3) := by decide +kernel
theorem g11_19 : Go 11 19 ls ((0, b) :: (0, a) :: st) G M Q ↔ (cm_in a ∧ cm_in b) ∧ (b < a → Go 11 30 ls st G M Q) ∧ (¬ b < a → Go 11 22 ls st G M Q) := go_icmp_gt hq11 k11_19 (by decide)
theorem k11_22 : cm_at ins_11 22 = some (.iload_n 3, 1) := by decide +kernel
theorem g11_22 : Go 11 22 [l0, l1, l2, some (0, x)] st G M Q ↔ Go 11 23 [l0, l1, l2, some (0, x)] ((0, x) :: st) G M Q := go_iload_n hq11 k11_22 rfl
theorem k11_23 : cm_at ins_11 23 = some (.istore_n 2, 1) := by decide +kernel
theorem g11_23 : Go 11 23 [l0, l1, l2, l3] ((0, x) :: st) G M Q ↔ Go 11 24 [l0, l1, some (0, x), l3] st G M Q := go_istore_n hq11 k11_23 ⟨Nat.le_of_ble_eq_true rfl, rfl, by decide⟩
theorem k11_24 : cm_at ins_11 24 = some (.iinc 3 1, 3) := by decide +kernel
theorem g11_24 : Go 11 24 [l0, l1, l2, some (0, x)] st G M Q ↔ Go 11 27 [l0, l1, l2, some (0, x + 1)] st G M Q := go_iinc hq11 k11_24 rfl ⟨rfl, by decide⟩
theorem k11_27 : cm_at ins_11 27 = some (.goto (-23), 3) := by decide +kernel
theorem g11_27 : Go 11 27 ls st G M Q ↔ Go 11 4 ls st G M Q := go_goto hq11 k11_27 (by decide)
theorem k11_30 : cm_at ins_11 30 = some (.iload_n 2, 1) := by decide +kernel
theorem g11_30 : Go 11 30 [l0, l1, some (0, x), l3] st G M Q ↔ Go 11 31 [l0, l1, some (0, x), l3] ((0, x) :: st) G M Q := go_iload_n hq11 k11_30 rfl
theorem k11_31 : cm_at ins_11 31 = some (.ireturn, 1) := by decide +kernel
theorem g11_31 : Go 11 31 ls [(0, v)] G M Q ↔ Q (some (0, v)) G M := go_ireturn hq11 k11_31 rfl
theorem k12_0 : cm_at ins_12 0 = some (.aload_n 0, 1) := by decide +kernel
theorem g12_0 : Go 12 0 [some (2, x), l1] st G M Q ↔ Go 12 1 [some (2, x), l1] ((2, x) :: st) G M Q := go_aload_n hq12 k12_0 rfl
theorem k12_1 : cm_at ins_12 1 = some (.getfield 34, 3) := by decide +kernel
theorem g12_1 : Go 12 1 ls ((2, k) :: st) G M Q ↔ cm_sh G k = some (0, 0) ∧ Go 12 4 ls ((2, G.2 k 7) :: st) G M Q := go_get2 hq12 k12_1 ff0_34 rfl
theorem k12_4 : cm_at ins_12 4 = some (.aload_n 0, 1) := by decide +kernel
theorem g12_4 : Go 12 4 [some (2, x), l1] st G M Q ↔ Go 12 5 [some (2, x), l1] ((2, x) :: st) G M Q := go_aload_n hq12 k12_4 rfl
theorem k12_5 : cm_at ins_12 5 = some (.iload_n 1, 1) := by decide +kernel
theorem g12_5 : Go 12 5 [l0, some (0, x)] st G M Q ↔ Go 12 6 [l0, some (0, x)] ((0, x) :: st) G M Q := go_iload_n hq12 k12_5 rfl
theorem k12_6 : cm_at ins_12 6 = some (.invokevirtual 84, 3) := by decide +kernel
theorem c12_6 (h8 : cm_sum st ≤ 8) (hk : cm_sh G k = some (0, 0)) (K : Go 11 0 [some (2, k), some (0, y), none, none] [] G M (fun r G' M' => Go 12 9 ls (r.toList ++ st) G' M' Q)) : Go 12 6 ls ((0, y) :: (2, k) :: st) G M Q := go_callV hq12 k12_6 fc0_84 hq11 rfl (as := [(0, y), (2, k)]) rfl rfl (Nat.le_of_ble_eq_true rfl) rfl h8 hk K
theorem k12_9 : cm_at ins_12 9 = some (.iaload, 1) := by decide +kernel
theorem g12_9 : Go 12 9 ls ((0, i) :: (2, k) :: st) G M Q ↔ (0 ≤ i ∧ i < cm_al 1 G M k) ∧ Go 12 10 ls ((0, M k i) :: st) G M Q := go_iald hq12 k12_9
theorem k12_10 : cm_at ins_12 10 = some (.ireturn, 1) := by decide +kernel
theorem g12_10 : Go 12 10 ls [(0, v)] G M Q ↔ Q (some (0, v)) G M := go_ireturn hq12 k12_10 rfl
theorem k13_0 : cm_at ins_13 0 = some (.aload_n 0, 1) := by decide +kernel
theorem g13_0 : Go 13 0 [some (2, x), l1, l2] st G M Q ↔ Go 13 1 [some (2, x), l1, l2] ((2, x) :: st) G M Q := go_aload_n hq13 k13_0 rfl
theorem k13_1 : cm_at ins_13 1 = some (.iload_n 1, 1) := by decide +kernel
theorem g13_1 : Go 13 1 [l0, some (0, x), l2] st G M Q ↔ Go 13 2 [l0, some (0, x), l2] ((0, x) :: st) G M Q := go_iload_n hq13 k13_1 rfl
theorem k13_2 : cm_at ins_13 2 = some (.invokevirtual 84, 3) := by decide +kernel
theorem c13_2 (h8 : cm_sum st ≤ 8) (hk : cm_sh G k = some (0, 0)) (K : Go 11 0 [some (2, k), some (0, y), none, none] [] G M (fun r G' M' => Go 13 5 ls (r.toList ++ st) G' M' Q)) : Go 13 2 ls ((0, y) :: (2, k) :: st) G M Q := go_callV hq13 k13_2 fc0_84 hq11 rfl (as := [(0, y), (2, k)]) rfl rfl (Nat.le_of_ble_eq_true rfl) rfl h8 hk K
theorem k13_5 : cm_at ins_13 5 = some (.istore_n 2, 1) := by decide +kernel
theorem g13_5 : Go 13 5 [l0, l1, l2] ((0, x) :: st) G M Q ↔ Go 13 6 [l0, l1, some (0, x)] st G M Q := go_istore_n hq13 k13_5 ⟨Nat.le_of_ble_eq_true rfl, rfl, by decide⟩
theorem k13_6 : cm_at ins_13 6 = some (.aload_n 0, 1) := by decide +kernel
theorem g13_6 : Go 13 6 [some (2, x), l1, l2] st G M Q ↔ Go 13 7 [some (2, x), l1, l2] ((2, x) :: st) G M Q := go_aload_n hq13 k13_6 rfl
theorem k13_7 : cm_at ins_13 7 = some (.getfield 31, 3) := by decide +kernel
theorem g13_7 : Go 13 7 ls ((2, k) :: st) G M Q ↔ cm_sh G k = some (0, 0) ∧ Go 13 10 ls ((2, G.2 k 6) :: st) G M Q := go_get2 hq13 k13_7 ff0_31 rfl
theorem k13_10 : cm_at ins_13 10 = some (.iload_n 2, 1) := by decide +kernel
theorem g13_10 : Go 13 10 [l0, l1, some (0, x)] st G M Q ↔ Go 13 11 [l0, l1, some (0, x)] ((0, x) :: st) G M Q := go_iload_n hq13 k13_10 rfl
theorem k13_11 : cm_at ins_13 11 = some (.iaload, 1) := by decide +kernel
theorem g13_11 : Go 13 11 ls ((0, i) :: (2, k) :: st) G M Q ↔ (0 ≤ i ∧ i < cm_al 1 G M k) ∧ Go 13 12 ls ((0, M k i) :: st) G M Q := go_iald hq13 k13_11
theorem k13_12 : cm_at ins_13 12 = some (.iload_n 1, 1) := by decide +kernel
theorem g13_12 : Go 13 12 [l0, some (0, x), l2] st G M Q ↔ Go 13 13 [l0, some (0, x), l2] ((0, x) :: st) G M Q := go_iload_n hq13 k13_12 rfl
theorem k13_13 : cm_at ins_13 13 = some (.aload_n 0, 1) := by decide +kernel
theorem g13_13 : Go 13 13 [some (2, x), l1, l2] st G M Q ↔ Go 13 14 [some (2, x), l1, l2] ((2, x) :: st) G M Q := go_aload_n hq13 k13_13 rfl
theorem k13_14 : cm_at ins_13 14 = some (.getfield 28, 3) := by decide +kernel
theorem g13_14 : Go 13 14 ls ((2, k) :: st) G M Q ↔ cm_sh G k = some (0, 0) ∧ Go 13 17 ls ((2, G.2 k 5) :: st) G M Q := go_get2 hq13 k13_14 ff0_28 rfl
theorem k13_17 : cm_at ins_13 17 = some (.iload_n 2, 1) := by decide +kernel
theorem g13_17 : Go 13 17 [l0, l1, some (0, x)] st G M Q ↔ Go 13 18 [l0, l1, some (0, x)] ((0, x) :: st) G M Q := go_iload_n hq13 k13_17 rfl
theorem k13_18 : cm_at ins_13 18 = some (.iaload, 1) := by decide +kernel
theorem g13_18 : Go 13 18 ls ((0, i) :: (2, k) :: st) G M Q ↔ (0 ≤ i ∧ i < cm_al 1 G M k) ∧ Go 13 19 ls ((0, M k i) :: st) G M Q := go_iald hq13 k13_18
theorem k13_19 : cm_at ins_13 19 = some (.isub, 1) := by decide +kernel
theorem g13_19 : Go 13 19 ls ((0, b) :: (0, a) :: st) G M Q ↔ Go 13 20 ls ((0, a - b) :: st) G M Q := go_isub hq13 k13_19
theorem k13_20 : cm_at ins_13 20 = some (.aload_n 0, 1) := by decide +kernel
theorem g13_20 : Go 13 20 [some (2, x), l1, l2] st G M Q ↔ Go 13 21 [some (2, x), l1, l2] ((2, x) :: st) G M Q := go_aload_n hq13 k13_20 rfl
theorem k13_21 : cm_at ins_13 21 = some (.getfield 34, 3) := by decide +kernel
theorem g13_21 : Go 13 21 ls ((2, k) :: st) G M Q ↔ cm_sh G k = some (0, 0) ∧ Go 13 24 ls ((2, G.2 k 7) :: st) G M Q := go_get2 hq13 k13_21 ff0_34 rfl
theorem k13_24 : cm_at ins_13 24 = some (.iload_n 2, 1) := by decide +kernel
theorem g13_24 : Go 13 24 [l0, l1, some (0, x)] st G M Q ↔ Go 13 25 [l0, l1, some (0, x)] ((0, x) :: st) G M Q := go_iload_n hq13 k13_24 rfl
theorem k13_25 : cm_at ins_13 25 = some (.iaload, 1) := by decide +kernel
theorem g13_25 : Go 13 25 ls ((0, i) :: (2, k) :: st) G M Q ↔ (0 ≤ i ∧ i < cm_al 1 G M k) ∧ Go 13 26 ls ((0, M k i) :: st) G M Q := go_iald hq13 k13_25
theorem k13_26 : cm_at ins_13 26 = some (.imul, 1) := by decide +kernel
theorem g13_26 : Go 13 26 ls ((0, b) :: (0, a) :: st) G M Q ↔ Go 13 27 ls ((0, a * b) :: st) G M Q := go_imul hq13 k13_26
theorem k13_27 : cm_at ins_13 27 = some (.iadd, 1) := by decide +kernel
theorem g13_27 : Go 13 27 ls ((0, b) :: (0, a) :: st) G M Q ↔ Go 13 28 ls ((0, a + b) :: st) G M Q := go_iadd hq13 k13_27
theorem k13_28 : cm_at ins_13 28 = some (.ireturn, 1) := by decide +kernel
theorem g13_28 : Go 13 28 ls [(0, v)] G M Q ↔ Q (some (0, v)) G M := go_ireturn hq13 k13_28 rfl
theorem k14_0 : cm_at ins_14 0 = some (.iload_n 2, 1) := by decide +kernel
theorem g14_0 : Go 14 0 [l0, l1, some (0, x)] st G M Q ↔ Go 14 1 [l0, l1, some (0, x)] ((0, x) :: st) G M Q := go_iload_n hq14 k14_0 rfl
theorem k14_1 : cm_at ins_14 1 = some (.aload_n 0, 1) := by decide +kernel
theorem g14_1 : Go 14 1 [some (2, x), l1, l2] st G M Q ↔ Go 14 2 [some (2, x), l1, l2] ((2, x) :: st) G M Q := go_aload_n hq14 k14_1 rfl
theorem k14_2 : cm_at ins_14 2 = some (.getfield 22, 3) := by decide +kernel
theorem g14_2 : Go 14 2 ls ((2, k) :: st) G M Q ↔ cm_sh G k = some (0, 0) ∧ Go 14 5 ls ((2, G.2 k 2) :: st) G M Q := go_get2 hq14 k14_2 ff0_22 rfl
theorem k14_5 : cm_at ins_14 5 = some (.iload_n 1, 1) := by decide +kernel
theorem g14_5 : Go 14 5 [l0, some (0, x), l2] st G M Q ↔ Go 14 6 [l0, some (0, x), l2] ((0, x) :: st) G M Q := go_iload_n hq14 k14_5 rfl
theorem k14_6 : cm_at ins_14 6 = some (.iaload, 1) := by decide +kernel
theorem g14_6 : Go 14 6 ls ((0, i) :: (2, k) :: st) G M Q ↔ (0 ≤ i ∧ i < cm_al 1 G M k) ∧ Go 14 7 ls ((0, M k i) :: st) G M Q := go_iald hq14 k14_6
theorem k14_7 : cm_at ins_14 7 = some (.if_icmp .lt 24, 3) := by decide +kernel
theorem g14_7 : Go 14 7 ls ((0, b) :: (0, a) :: st) G M Q ↔ (cm_in a ∧ cm_in b) ∧ (a < b → Go 14 31 ls st G M Q) ∧ (¬ a < b → Go 14 10 ls st G M Q) := go_icmp_lt hq14 k14_7 (by decide)
theorem k14_10 : cm_at ins_14 10 = some (.iload_n 2, 1) := by decide +kernel
theorem g14_10 : Go 14 10 [l0, l1, some (0, x)] st G M Q ↔ Go 14 11 [l0, l1, some (0, x)] ((0, x) :: st) G M Q := go_iload_n hq14 k14_10 rfl
theorem k14_11 : cm_at ins_14 11 = some (.aload_n 0, 1) := by decide +kernel
theorem g14_11 : Go 14 11 [some (2, x), l1, l2] st G M Q ↔ Go 14 12 [some (2, x), l1, l2] ((2, x) :: st) G M Q := go_aload_n hq14 k14_11 rfl
theorem k14_12 : cm_at ins_14 12 = some (.getfield 22, 3) := by decide +kernel
theorem g14_12 : Go 14 12 ls ((2, k) :: st) G M Q ↔ cm_sh G k = some (0, 0) ∧ Go 14 15 ls ((2, G.2 k 2) :: st) G M Q := go_get2 hq14 k14_12 ff0_22 rfl
theorem k14_15 : cm_at ins_14 15 = some (.iload_n 1, 1) := by decide +kernel
theorem g14_15 : Go 14 15 [l0, some (0, x), l2] st G M Q ↔ Go 14 16 [l0, some (0, x), l2] ((0, x) :: st) G M Q := go_iload_n hq14 k14_15 rfl
theorem k14_16 : cm_at ins_14 16 = some (.iaload, 1) := by decide +kernel
theorem g14_16 : Go 14 16 ls ((0, i) :: (2, k) :: st) G M Q ↔ (0 ≤ i ∧ i < cm_al 1 G M k) ∧ Go 14 17 ls ((0, M k i) :: st) G M Q := go_iald hq14 k14_16
theorem k14_17 : cm_at ins_14 17 = some (.aload_n 0, 1) := by decide +kernel
theorem g14_17 : Go 14 17 [some (2, x), l1, l2] st G M Q ↔ Go 14 18 [some (2, x), l1, l2] ((2, x) :: st) G M Q := go_aload_n hq14 k14_17 rfl
theorem k14_18 : cm_at ins_14 18 = some (.getfield 25, 3) := by decide +kernel
theorem g14_18 : Go 14 18 ls ((2, k) :: st) G M Q ↔ cm_sh G k = some (0, 0) ∧ Go 14 21 ls ((2, G.2 k 3) :: st) G M Q := go_get2 hq14 k14_18 ff0_25 rfl
theorem k14_21 : cm_at ins_14 21 = some (.iload_n 1, 1) := by decide +kernel
theorem g14_21 : Go 14 21 [l0, some (0, x), l2] st G M Q ↔ Go 14 22 [l0, some (0, x), l2] ((0, x) :: st) G M Q := go_iload_n hq14 k14_21 rfl
theorem k14_22 : cm_at ins_14 22 = some (.iaload, 1) := by decide +kernel
theorem g14_22 : Go 14 22 ls ((0, i) :: (2, k) :: st) G M Q ↔ (0 ≤ i ∧ i < cm_al 1 G M k) ∧ Go 14 23 ls ((0, M k i) :: st) G M Q := go_iald hq14 k14_22
theorem k14_23 : cm_at ins_14 23 = some (.iadd, 1) := by decide +kernel
theorem g14_23 : Go 14 23 ls ((0, b) :: (0, a) :: st) G M Q ↔ Go 14 24 ls ((0, a + b) :: st) G M Q := go_iadd hq14 k14_23
theorem k14_24 : cm_at ins_14 24 = some (.if_icmp .ge 7, 3) := by decide +kernel
theorem g14_24 : Go 14 24 ls ((0, b) :: (0, a) :: st) G M Q ↔ (cm_in a ∧ cm_in b) ∧ (¬ a < b → Go 14 31 ls st G M Q) ∧ (a < b → Go 14 27 ls st G M Q) := go_icmp_ge hq14 k14_24 (by decide)
theorem k14_27 : cm_at ins_14 27 = some (.iconst 1, 1) := by decide +kernel
theorem g14_27 : Go 14 27 ls st G M Q ↔ Go 14 28 ls ((0, 1) :: st) G M Q := go_iconst hq14 k14_27
theorem k14_28 : cm_at ins_14 28 = some (.goto 4, 3) := by decide +kernel
theorem g14_28 : Go 14 28 ls st G M Q ↔ Go 14 32 ls st G M Q := go_goto hq14 k14_28 (by decide)
theorem k14_31 : cm_at ins_14 31 = some (.iconst 0, 1) := by decide +kernel
theorem g14_31 : Go 14 31 ls st G M Q ↔ Go 14 32 ls ((0, 0) :: st) G M Q := go_iconst hq14 k14_31
theorem k14_32 : cm_at ins_14 32 = some (.ireturn, 1) := by decide +kernel
theorem g14_32 : Go 14 32 ls [(0, v)] G M Q ↔ (v = 0 ∨ v = 1) ∧ Q (some (0, v)) G M := go_zreturn hq14 k14_32 rfl
theorem k15_0 : cm_at ins_15 0 = some (.iconst 0, 1) := by decide +kernel
theorem g15_0 : Go 15 0 ls st G M Q ↔ Go 15 1 ls ((0, 0) :: st) G M Q := go_iconst hq15 k15_0
theorem k15_1 : cm_at ins_15 1 = some (.istore_n 2, 1) := by decide +kernel
theorem g15_1 : Go 15 1 [l0, l1, l2] ((0, x) :: st) G M Q ↔ Go 15 2 [l0, l1, some (0, x)] st G M Q := go_istore_n hq15 k15_1 ⟨Nat.le_of_ble_eq_true rfl, rfl, by decide⟩
theorem k15_2 : cm_at ins_15 2 = some (.iload_n 2, 1) := by decide +kernel
theorem g15_2 : Go 15 2 [l0, l1, some (0, x)] st G M Q ↔ Go 15 3 [l0, l1, some (0, x)] ((0, x) :: st) G M Q := go_iload_n hq15 k15_2 rfl
theorem k15_3 : cm_at ins_15 3 = some (.aload_n 0, 1) := by decide +kernel
theorem g15_3 : Go 15 3 [some (2, x), l1, l2] st G M Q ↔ Go 15 4 [some (2, x), l1, l2] ((2, x) :: st) G M Q := go_aload_n hq15 k15_3 rfl
theorem k15_4 : cm_at ins_15 4 = some (.getfield 12, 3) := by decide +kernel
theorem g15_4 : Go 15 4 ls ((2, k) :: st) G M Q ↔ cm_sh G k = some (0, 0) ∧ Go 15 7 ls ((2, G.2 k 0) :: st) G M Q := go_get2 hq15 k15_4 ff0_12 rfl
theorem k15_7 : cm_at ins_15 7 = some (.getfield 50, 3) := by decide +kernel
theorem g15_7 : Go 15 7 ls ((2, k) :: st) G M Q ↔ cm_sh G k = some (0, 1) ∧ Go 15 10 ls ((0, M k 5) :: st) G M Q := go_get0 hq15 k15_7 ff0_50 rfl
theorem k15_10 : cm_at ins_15 10 = some (.if_icmp .ge 20, 3) := by decide +kernel
theorem g15_10 : Go 15 10 ls ((0, b) :: (0, a) :: st) G M Q ↔ (cm_in a ∧ cm_in b) ∧ (¬ a < b → Go 15 30 ls st G M Q) ∧ (a < b → Go 15 13 ls st G M Q) := go_icmp_ge hq15 k15_10 (by decide)
theorem k15_13 : cm_at ins_15 13 = some (.aload_n 0, 1) := by decide +kernel
theorem g15_13 : Go 15 13 [some (2, x), l1, l2] st G M Q ↔ Go 15 14 [some (2, x), l1, l2] ((2, x) :: st) G M Q := go_aload_n hq15 k15_13 rfl
theorem k15_14 : cm_at ins_15 14 = some (.iload_n 2, 1) := by decide +kernel
theorem g15_14 : Go 15 14 [l0, l1, some (0, x)] st G M Q ↔ Go 15 15 [l0, l1, some (0, x)] ((0, x) :: st) G M Q := go_iload_n hq15 k15_14 rfl
theorem k15_15 : cm_at ins_15 15 = some (.iload_n 1, 1) := by decide +kernel
theorem g15_15 : Go 15 15 [l0, some (0, x), l2] st G M Q ↔ Go 15 16 [l0, some (0, x), l2] ((0, x) :: st) G M Q := go_iload_n hq15 k15_15 rfl
theorem k15_16 : cm_at ins_15 16 = some (.invokevirtual 87, 3) := by decide +kernel
theorem c15_16 (h8 : cm_sum st ≤ 8) (hk : cm_sh G k = some (0, 0)) (K : Go 14 0 [some (2, k), some (0, y), some (0, z)] [] G M (fun r G' M' => Go 15 19 ls (r.toList ++ st) G' M' Q)) : Go 15 16 ls ((0, z) :: (0, y) :: (2, k) :: st) G M Q := go_callV hq15 k15_16 fc0_87 hq14 rfl (as := [(0, z), (0, y), (2, k)]) rfl rfl (Nat.le_of_ble_eq_true rfl) rfl h8 hk K
theorem k15_19 : cm_at ins_15 19 = some (.ifCond .eq 5, 3) := by decide +kernel
theorem g15_19 : Go 15 19 ls ((0, a) :: st) G M Q ↔ cm_in a ∧ (a = 0 → Go 15 24 ls st G M Q) ∧ (¬ a = 0 → Go 15 22 ls st G M Q) := go_if_eq hq15 k15_19 (by decide)
theorem k15_22 : cm_at ins_15 22 = some (.iload_n 2, 1) := by decide +kernel
theorem g15_22 : Go 15 22 [l0, l1, some (0, x)] st G M Q ↔ Go 15 23 [l0, l1, some (0, x)] ((0, x) :: st) G M Q := go_iload_n hq15 k15_22 rfl
theorem k15_23 : cm_at ins_15 23 = some (.ireturn, 1) := by decide +kernel
theorem g15_23 : Go 15 23 ls [(0, v)] G M Q ↔ Q (some (0, v)) G M := go_ireturn hq15 k15_23 rfl
theorem k15_24 : cm_at ins_15 24 = some (.iinc 2 1, 3) := by decide +kernel
theorem g15_24 : Go 15 24 [l0, l1, some (0, x)] st G M Q ↔ Go 15 27 [l0, l1, some (0, x + 1)] st G M Q := go_iinc hq15 k15_24 rfl ⟨rfl, by decide⟩
theorem k15_27 : cm_at ins_15 27 = some (.goto (-25), 3) := by decide +kernel
theorem g15_27 : Go 15 27 ls st G M Q ↔ Go 15 2 ls st G M Q := go_goto hq15 k15_27 (by decide)
theorem k15_30 : cm_at ins_15 30 = some (.bipush (-6), 2) := by decide +kernel
theorem g15_30 : Go 15 30 ls st G M Q ↔ Go 15 32 ls ((0, (-6)) :: st) G M Q := go_bipush hq15 k15_30 (by decide)
theorem k15_32 : cm_at ins_15 32 = some (.ireturn, 1) := by decide +kernel
theorem g15_32 : Go 15 32 ls [(0, v)] G M Q ↔ Q (some (0, v)) G M := go_ireturn hq15 k15_32 rfl
theorem k16_0 : cm_at ins_16 0 = some (.aload_n 0, 1) := by decide +kernel
theorem g16_0 : Go 16 0 [some (2, x), l1, l2] st G M Q ↔ Go 16 1 [some (2, x), l1, l2] ((2, x) :: st) G M Q := go_aload_n hq16 k16_0 rfl
theorem k16_1 : cm_at ins_16 1 = some (.getfield 12, 3) := by decide +kernel
theorem g16_1 : Go 16 1 ls ((2, k) :: st) G M Q ↔ cm_sh G k = some (0, 0) ∧ Go 16 4 ls ((2, G.2 k 0) :: st) G M Q := go_get2 hq16 k16_1 ff0_12 rfl
theorem k16_4 : cm_at ins_16 4 = some (.getfield 50, 3) := by decide +kernel
theorem g16_4 : Go 16 4 ls ((2, k) :: st) G M Q ↔ cm_sh G k = some (0, 1) ∧ Go 16 7 ls ((0, M k 5) :: st) G M Q := go_get0 hq16 k16_4 ff0_50 rfl
theorem k16_7 : cm_at ins_16 7 = some (.iconst 1, 1) := by decide +kernel
theorem g16_7 : Go 16 7 ls st G M Q ↔ Go 16 8 ls ((0, 1) :: st) G M Q := go_iconst hq16 k16_7
theorem k16_8 : cm_at ins_16 8 = some (.isub, 1) := by decide +kernel
theorem g16_8 : Go 16 8 ls ((0, b) :: (0, a) :: st) G M Q ↔ Go 16 9 ls ((0, a - b) :: st) G M Q := go_isub hq16 k16_8
theorem k16_9 : cm_at ins_16 9 = some (.istore_n 2, 1) := by decide +kernel
theorem g16_9 : Go 16 9 [l0, l1, l2] ((0, x) :: st) G M Q ↔ Go 16 10 [l0, l1, some (0, x)] st G M Q := go_istore_n hq16 k16_9 ⟨Nat.le_of_ble_eq_true rfl, rfl, by decide⟩
theorem k16_10 : cm_at ins_16 10 = some (.iload_n 2, 1) := by decide +kernel
theorem g16_10 : Go 16 10 [l0, l1, some (0, x)] st G M Q ↔ Go 16 11 [l0, l1, some (0, x)] ((0, x) :: st) G M Q := go_iload_n hq16 k16_10 rfl
theorem k16_11 : cm_at ins_16 11 = some (.ifCond .lt 20, 3) := by decide +kernel
theorem g16_11 : Go 16 11 ls ((0, a) :: st) G M Q ↔ cm_in a ∧ (a < 0 → Go 16 31 ls st G M Q) ∧ (¬ a < 0 → Go 16 14 ls st G M Q) := go_if_lt hq16 k16_11 (by decide)
theorem k16_14 : cm_at ins_16 14 = some (.aload_n 0, 1) := by decide +kernel
theorem g16_14 : Go 16 14 [some (2, x), l1, l2] st G M Q ↔ Go 16 15 [some (2, x), l1, l2] ((2, x) :: st) G M Q := go_aload_n hq16 k16_14 rfl
theorem k16_15 : cm_at ins_16 15 = some (.iload_n 2, 1) := by decide +kernel
theorem g16_15 : Go 16 15 [l0, l1, some (0, x)] st G M Q ↔ Go 16 16 [l0, l1, some (0, x)] ((0, x) :: st) G M Q := go_iload_n hq16 k16_15 rfl
theorem k16_16 : cm_at ins_16 16 = some (.iload_n 1, 1) := by decide +kernel
theorem g16_16 : Go 16 16 [l0, some (0, x), l2] st G M Q ↔ Go 16 17 [l0, some (0, x), l2] ((0, x) :: st) G M Q := go_iload_n hq16 k16_16 rfl
theorem k16_17 : cm_at ins_16 17 = some (.invokevirtual 87, 3) := by decide +kernel
theorem c16_17 (h8 : cm_sum st ≤ 8) (hk : cm_sh G k = some (0, 0)) (K : Go 14 0 [some (2, k), some (0, y), some (0, z)] [] G M (fun r G' M' => Go 16 20 ls (r.toList ++ st) G' M' Q)) : Go 16 17 ls ((0, z) :: (0, y) :: (2, k) :: st) G M Q := go_callV hq16 k16_17 fc0_87 hq14 rfl (as := [(0, z), (0, y), (2, k)]) rfl rfl (Nat.le_of_ble_eq_true rfl) rfl h8 hk K
theorem k16_20 : cm_at ins_16 20 = some (.ifCond .eq 5, 3) := by decide +kernel
theorem g16_20 : Go 16 20 ls ((0, a) :: st) G M Q ↔ cm_in a ∧ (a = 0 → Go 16 25 ls st G M Q) ∧ (¬ a = 0 → Go 16 23 ls st G M Q) := go_if_eq hq16 k16_20 (by decide)
theorem k16_23 : cm_at ins_16 23 = some (.iload_n 2, 1) := by decide +kernel
theorem g16_23 : Go 16 23 [l0, l1, some (0, x)] st G M Q ↔ Go 16 24 [l0, l1, some (0, x)] ((0, x) :: st) G M Q := go_iload_n hq16 k16_23 rfl
theorem k16_24 : cm_at ins_16 24 = some (.ireturn, 1) := by decide +kernel
theorem g16_24 : Go 16 24 ls [(0, v)] G M Q ↔ Q (some (0, v)) G M := go_ireturn hq16 k16_24 rfl
theorem k16_25 : cm_at ins_16 25 = some (.iinc 2 (-1), 3) := by decide +kernel
theorem g16_25 : Go 16 25 [l0, l1, some (0, x)] st G M Q ↔ Go 16 28 [l0, l1, some (0, x + (-1))] st G M Q := go_iinc hq16 k16_25 rfl ⟨rfl, by decide⟩
theorem k16_28 : cm_at ins_16 28 = some (.goto (-18), 3) := by decide +kernel
theorem g16_28 : Go 16 28 ls st G M Q ↔ Go 16 10 ls st G M Q := go_goto hq16 k16_28 (by decide)
theorem k16_31 : cm_at ins_16 31 = some (.bipush (-6), 2) := by decide +kernel
theorem g16_31 : Go 16 31 ls st G M Q ↔ Go 16 33 ls ((0, (-6)) :: st) G M Q := go_bipush hq16 k16_31 (by decide)
theorem k16_33 : cm_at ins_16 33 = some (.ireturn, 1) := by decide +kernel
theorem g16_33 : Go 16 33 ls [(0, v)] G M Q ↔ Q (some (0, v)) G M := go_ireturn hq16 k16_33 rfl
theorem k17_0 : cm_at ins_17 0 = some (.iconst 0, 1) := by decide +kernel
theorem g17_0 : Go 17 0 ls st G M Q ↔ Go 17 1 ls ((0, 0) :: st) G M Q := go_iconst hq17 k17_0
theorem k17_1 : cm_at ins_17 1 = some (.istore_n 2, 1) := by decide +kernel
theorem g17_1 : Go 17 1 [l0, l1, l2, l3] ((0, x) :: st) G M Q ↔ Go 17 2 [l0, l1, some (0, x), l3] st G M Q := go_istore_n hq17 k17_1 ⟨Nat.le_of_ble_eq_true rfl, rfl, by decide⟩
theorem k17_2 : cm_at ins_17 2 = some (.iconst 0, 1) := by decide +kernel
theorem g17_2 : Go 17 2 ls st G M Q ↔ Go 17 3 ls ((0, 0) :: st) G M Q := go_iconst hq17 k17_2
theorem k17_3 : cm_at ins_17 3 = some (.istore_n 3, 1) := by decide +kernel
theorem g17_3 : Go 17 3 [l0, l1, l2, l3] ((0, x) :: st) G M Q ↔ Go 17 4 [l0, l1, l2, some (0, x)] st G M Q := go_istore_n hq17 k17_3 ⟨Nat.le_of_ble_eq_true rfl, rfl, by decide⟩
theorem k17_4 : cm_at ins_17 4 = some (.iload_n 3, 1) := by decide +kernel
theorem g17_4 : Go 17 4 [l0, l1, l2, some (0, x)] st G M Q ↔ Go 17 5 [l0, l1, l2, some (0, x)] ((0, x) :: st) G M Q := go_iload_n hq17 k17_4 rfl
theorem k17_5 : cm_at ins_17 5 = some (.aload_n 0, 1) := by decide +kernel
theorem g17_5 : Go 17 5 [some (2, x), l1, l2, l3] st G M Q ↔ Go 17 6 [some (2, x), l1, l2, l3] ((2, x) :: st) G M Q := go_aload_n hq17 k17_5 rfl
theorem k17_6 : cm_at ins_17 6 = some (.getfield 12, 3) := by decide +kernel
theorem g17_6 : Go 17 6 ls ((2, k) :: st) G M Q ↔ cm_sh G k = some (0, 0) ∧ Go 17 9 ls ((2, G.2 k 0) :: st) G M Q := go_get2 hq17 k17_6 ff0_12 rfl
theorem k17_9 : cm_at ins_17 9 = some (.getfield 50, 3) := by decide +kernel
theorem g17_9 : Go 17 9 ls ((2, k) :: st) G M Q ↔ cm_sh G k = some (0, 1) ∧ Go 17 12 ls ((0, M k 5) :: st) G M Q := go_get0 hq17 k17_9 ff0_50 rfl
theorem k17_12 : cm_at ins_17 12 = some (.if_icmp .ge 21, 3) := by decide +kernel
theorem g17_12 : Go 17 12 ls ((0, b) :: (0, a) :: st) G M Q ↔ (cm_in a ∧ cm_in b) ∧ (¬ a < b → Go 17 33 ls st G M Q) ∧ (a < b → Go 17 15 ls st G M Q) := go_icmp_ge hq17 k17_12 (by decide)
theorem k17_15 : cm_at ins_17 15 = some (.aload_n 0, 1) := by decide +kernel
theorem g17_15 : Go 17 15 [some (2, x), l1, l2, l3] st G M Q ↔ Go 17 16 [some (2, x), l1, l2, l3] ((2, x) :: st) G M Q := go_aload_n hq17 k17_15 rfl
theorem k17_16 : cm_at ins_17 16 = some (.iload_n 3, 1) := by decide +kernel
theorem g17_16 : Go 17 16 [l0, l1, l2, some (0, x)] st G M Q ↔ Go 17 17 [l0, l1, l2, some (0, x)] ((0, x) :: st) G M Q := go_iload_n hq17 k17_16 rfl
theorem k17_17 : cm_at ins_17 17 = some (.iload_n 1, 1) := by decide +kernel
theorem g17_17 : Go 17 17 [l0, some (0, x), l2, l3] st G M Q ↔ Go 17 18 [l0, some (0, x), l2, l3] ((0, x) :: st) G M Q := go_iload_n hq17 k17_17 rfl
theorem k17_18 : cm_at ins_17 18 = some (.invokevirtual 87, 3) := by decide +kernel
theorem c17_18 (h8 : cm_sum st ≤ 8) (hk : cm_sh G k = some (0, 0)) (K : Go 14 0 [some (2, k), some (0, y), some (0, z)] [] G M (fun r G' M' => Go 17 21 ls (r.toList ++ st) G' M' Q)) : Go 17 18 ls ((0, z) :: (0, y) :: (2, k) :: st) G M Q := go_callV hq17 k17_18 fc0_87 hq14 rfl (as := [(0, z), (0, y), (2, k)]) rfl rfl (Nat.le_of_ble_eq_true rfl) rfl h8 hk K
theorem k17_21 : cm_at ins_17 21 = some (.ifCond .eq 6, 3) := by decide +kernel
theorem g17_21 : Go 17 21 ls ((0, a) :: st) G M Q ↔ cm_in a ∧ (a = 0 → Go 17 27 ls st G M Q) ∧ (¬ a = 0 → Go 17 24 ls st G M Q) := go_if_eq hq17 k17_21 (by decide)
theorem k17_24 : cm_at ins_17 24 = some (.iinc 2 1, 3) := by decide +kernel
theorem g17_24 : Go 17 24 [l0, l1, some (0, x), l3] st G M Q ↔ Go 17 27 [l0, l1, some (0, x + 1), l3] st G M Q := go_iinc hq17 k17_24 rfl ⟨rfl, by decide⟩
theorem k17_27 : cm_at ins_17 27 = some (.iinc 3 1, 3) := by decide +kernel
theorem g17_27 : Go 17 27 [l0, l1, l2, some (0, x)] st G M Q ↔ Go 17 30 [l0, l1, l2, some (0, x + 1)] st G M Q := go_iinc hq17 k17_27 rfl ⟨rfl, by decide⟩
theorem k17_30 : cm_at ins_17 30 = some (.goto (-26), 3) := by decide +kernel
theorem g17_30 : Go 17 30 ls st G M Q ↔ Go 17 4 ls st G M Q := go_goto hq17 k17_30 (by decide)
theorem k17_33 : cm_at ins_17 33 = some (.iload_n 2, 1) := by decide +kernel
theorem g17_33 : Go 17 33 [l0, l1, some (0, x), l3] st G M Q ↔ Go 17 34 [l0, l1, some (0, x), l3] ((0, x) :: st) G M Q := go_iload_n hq17 k17_33 rfl
theorem k17_34 : cm_at ins_17 34 = some (.ireturn, 1) := by decide +kernel
theorem g17_34 : Go 17 34 ls [(0, v)] G M Q ↔ Q (some (0, v)) G M := go_ireturn hq17 k17_34 rfl
theorem k18_0 : cm_at ins_18 0 = some (.bipush (-6), 2) := by decide +kernel
theorem g18_0 : Go 18 0 ls st G M Q ↔ Go 18 2 ls ((0, (-6)) :: st) G M Q := go_bipush hq18 k18_0 (by decide)
theorem k18_2 : cm_at ins_18 2 = some (.istore_n 2, 1) := by decide +kernel
theorem g18_2 : Go 18 2 [l0, l1, l2, l3] ((0, x) :: st) G M Q ↔ Go 18 3 [l0, l1, some (0, x), l3] st G M Q := go_istore_n hq18 k18_2 ⟨Nat.le_of_ble_eq_true rfl, rfl, by decide⟩
theorem k18_3 : cm_at ins_18 3 = some (.iconst 0, 1) := by decide +kernel
theorem g18_3 : Go 18 3 ls st G M Q ↔ Go 18 4 ls ((0, 0) :: st) G M Q := go_iconst hq18 k18_3
theorem k18_4 : cm_at ins_18 4 = some (.istore_n 3, 1) := by decide +kernel
theorem g18_4 : Go 18 4 [l0, l1, l2, l3] ((0, x) :: st) G M Q ↔ Go 18 5 [l0, l1, l2, some (0, x)] st G M Q := go_istore_n hq18 k18_4 ⟨Nat.le_of_ble_eq_true rfl, rfl, by decide⟩
theorem k18_5 : cm_at ins_18 5 = some (.iload_n 3, 1) := by decide +kernel
theorem g18_5 : Go 18 5 [l0, l1, l2, some (0, x)] st G M Q ↔ Go 18 6 [l0, l1, l2, some (0, x)] ((0, x) :: st) G M Q := go_iload_n hq18 k18_5 rfl
theorem k18_6 : cm_at ins_18 6 = some (.aload_n 0, 1) := by decide +kernel
theorem g18_6 : Go 18 6 [some (2, x), l1, l2, l3] st G M Q ↔ Go 18 7 [some (2, x), l1, l2, l3] ((2, x) :: st) G M Q := go_aload_n hq18 k18_6 rfl
theorem k18_7 : cm_at ins_18 7 = some (.getfield 12, 3) := by decide +kernel
theorem g18_7 : Go 18 7 ls ((2, k) :: st) G M Q ↔ cm_sh G k = some (0, 0) ∧ Go 18 10 ls ((2, G.2 k 0) :: st) G M Q := go_get2 hq18 k18_7 ff0_12 rfl
theorem k18_10 : cm_at ins_18 10 = some (.getfield 50, 3) := by decide +kernel
theorem g18_10 : Go 18 10 ls ((2, k) :: st) G M Q ↔ cm_sh G k = some (0, 1) ∧ Go 18 13 ls ((0, M k 5) :: st) G M Q := go_get0 hq18 k18_10 ff0_50 rfl
theorem k18_13 : cm_at ins_18 13 = some (.if_icmp .ge 45, 3) := by decide +kernel
theorem g18_13 : Go 18 13 ls ((0, b) :: (0, a) :: st) G M Q ↔ (cm_in a ∧ cm_in b) ∧ (¬ a < b → Go 18 58 ls st G M Q) ∧ (a < b → Go 18 16 ls st G M Q) := go_icmp_ge hq18 k18_13 (by decide)
theorem k18_16 : cm_at ins_18 16 = some (.aload_n 0, 1) := by decide +kernel
theorem g18_16 : Go 18 16 [some (2, x), l1, l2, l3] st G M Q ↔ Go 18 17 [some (2, x), l1, l2, l3] ((2, x) :: st) G M Q := go_aload_n hq18 k18_16 rfl
theorem k18_17 : cm_at ins_18 17 = some (.getfield 12, 3) := by decide +kernel
theorem g18_17 : Go 18 17 ls ((2, k) :: st) G M Q ↔ cm_sh G k = some (0, 0) ∧ Go 18 20 ls ((2, G.2 k 0) :: st) G M Q := go_get2 hq18 k18_17 ff0_12 rfl
theorem k18_20 : cm_at ins_18 20 = some (.getfield 91, 3) := by decide +kernel
theorem g18_20 : Go 18 20 ls ((2, k) :: st) G M Q ↔ cm_sh G k = some (0, 1) ∧ Go 18 23 ls ((2, G.2 k 2) :: st) G M Q := go_get2 hq18 k18_20 ff0_91 rfl
theorem k18_23 : cm_at ins_18 23 = some (.iload_n 3, 1) := by decide +kernel
theorem g18_23 : Go 18 23 [l0, l1, l2, some (0, x)] st G M Q ↔ Go 18 24 [l0, l1, l2, some (0, x)] ((0, x) :: st) G M Q := go_iload_n hq18 k18_23 rfl
theorem k18_24 : cm_at ins_18 24 = some (.iaload, 1) := by decide +kernel
theorem g18_24 : Go 18 24 ls ((0, i) :: (2, k) :: st) G M Q ↔ (0 ≤ i ∧ i < cm_al 1 G M k) ∧ Go 18 25 ls ((0, M k i) :: st) G M Q := go_iald hq18 k18_24
theorem k18_25 : cm_at ins_18 25 = some (.iload_n 1, 1) := by decide +kernel
theorem g18_25 : Go 18 25 [l0, some (0, x), l2, l3] st G M Q ↔ Go 18 26 [l0, some (0, x), l2, l3] ((0, x) :: st) G M Q := go_iload_n hq18 k18_25 rfl
theorem k18_26 : cm_at ins_18 26 = some (.if_icmp .ne 26, 3) := by decide +kernel
theorem g18_26 : Go 18 26 ls ((0, b) :: (0, a) :: st) G M Q ↔ (cm_in a ∧ cm_in b) ∧ (¬ a = b → Go 18 52 ls st G M Q) ∧ (a = b → Go 18 29 ls st G M Q) := go_icmp_ne hq18 k18_26 (by decide)
theorem k18_29 : cm_at ins_18 29 = some (.iload_n 2, 1) := by decide +kernel
theorem g18_29 : Go 18 29 [l0, l1, some (0, x), l3] st G M Q ↔ Go 18 30 [l0, l1, some (0, x), l3] ((0, x) :: st) G M Q := go_iload_n hq18 k18_29 rfl
theorem k18_30 : cm_at ins_18 30 = some (.bipush (-6), 2) := by decide +kernel
theorem g18_30 : Go 18 30 ls st G M Q ↔ Go 18 32 ls ((0, (-6)) :: st) G M Q := go_bipush hq18 k18_30 (by decide)
theorem k18_32 : cm_at ins_18 32 = some (.if_icmp .eq 18, 3) := by decide +kernel
theorem g18_32 : Go 18 32 ls ((0, b) :: (0, a) :: st) G M Q ↔ (cm_in a ∧ cm_in b) ∧ (a = b → Go 18 50 ls st G M Q) ∧ (¬ a = b → Go 18 35 ls st G M Q) := go_icmp_eq hq18 k18_32 (by decide)
theorem k18_35 : cm_at ins_18 35 = some (.aload_n 0, 1) := by decide +kernel
theorem g18_35 : Go 18 35 [some (2, x), l1, l2, l3] st G M Q ↔ Go 18 36 [some (2, x), l1, l2, l3] ((2, x) :: st) G M Q := go_aload_n hq18 k18_35 rfl
theorem k18_36 : cm_at ins_18 36 = some (.getfield 25, 3) := by decide +kernel
theorem g18_36 : Go 18 36 ls ((2, k) :: st) G M Q ↔ cm_sh G k = some (0, 0) ∧ Go 18 39 ls ((2, G.2 k 3) :: st) G M Q := go_get2 hq18 k18_36 ff0_25 rfl
theorem k18_39 : cm_at ins_18 39 = some (.iload_n 3, 1) := by decide +kernel
theorem g18_39 : Go 18 39 [l0, l1, l2, some (0, x)] st G M Q ↔ Go 18 40 [l0, l1, l2, some (0, x)] ((0, x) :: st) G M Q := go_iload_n hq18 k18_39 rfl
theorem k18_40 : cm_at ins_18 40 = some (.iaload, 1) := by decide +kernel
theorem g18_40 : Go 18 40 ls ((0, i) :: (2, k) :: st) G M Q ↔ (0 ≤ i ∧ i < cm_al 1 G M k) ∧ Go 18 41 ls ((0, M k i) :: st) G M Q := go_iald hq18 k18_40
theorem k18_41 : cm_at ins_18 41 = some (.aload_n 0, 1) := by decide +kernel
theorem g18_41 : Go 18 41 [some (2, x), l1, l2, l3] st G M Q ↔ Go 18 42 [some (2, x), l1, l2, l3] ((2, x) :: st) G M Q := go_aload_n hq18 k18_41 rfl
theorem k18_42 : cm_at ins_18 42 = some (.getfield 25, 3) := by decide +kernel
theorem g18_42 : Go 18 42 ls ((2, k) :: st) G M Q ↔ cm_sh G k = some (0, 0) ∧ Go 18 45 ls ((2, G.2 k 3) :: st) G M Q := go_get2 hq18 k18_42 ff0_25 rfl
theorem k18_45 : cm_at ins_18 45 = some (.iload_n 2, 1) := by decide +kernel
theorem g18_45 : Go 18 45 [l0, l1, some (0, x), l3] st G M Q ↔ Go 18 46 [l0, l1, some (0, x), l3] ((0, x) :: st) G M Q := go_iload_n hq18 k18_45 rfl
theorem k18_46 : cm_at ins_18 46 = some (.iaload, 1) := by decide +kernel
theorem g18_46 : Go 18 46 ls ((0, i) :: (2, k) :: st) G M Q ↔ (0 ≤ i ∧ i < cm_al 1 G M k) ∧ Go 18 47 ls ((0, M k i) :: st) G M Q := go_iald hq18 k18_46
theorem k18_47 : cm_at ins_18 47 = some (.if_icmp .ge 5, 3) := by decide +kernel
theorem g18_47 : Go 18 47 ls ((0, b) :: (0, a) :: st) G M Q ↔ (cm_in a ∧ cm_in b) ∧ (¬ a < b → Go 18 52 ls st G M Q) ∧ (a < b → Go 18 50 ls st G M Q) := go_icmp_ge hq18 k18_47 (by decide)
theorem k18_50 : cm_at ins_18 50 = some (.iload_n 3, 1) := by decide +kernel
theorem g18_50 : Go 18 50 [l0, l1, l2, some (0, x)] st G M Q ↔ Go 18 51 [l0, l1, l2, some (0, x)] ((0, x) :: st) G M Q := go_iload_n hq18 k18_50 rfl
theorem k18_51 : cm_at ins_18 51 = some (.istore_n 2, 1) := by decide +kernel
theorem g18_51 : Go 18 51 [l0, l1, l2, l3] ((0, x) :: st) G M Q ↔ Go 18 52 [l0, l1, some (0, x), l3] st G M Q := go_istore_n hq18 k18_51 ⟨Nat.le_of_ble_eq_true rfl, rfl, by decide⟩
theorem k18_52 : cm_at ins_18 52 = some (.iinc 3 1, 3) := by decide +kernel
theorem g18_52 : Go 18 52 [l0, l1, l2, some (0, x)] st G M Q ↔ Go 18 55 [l0, l1, l2, some (0, x + 1)] st G M Q := go_iinc hq18 k18_52 rfl ⟨rfl, by decide⟩
theorem k18_55 : cm_at ins_18 55 = some (.goto (-50), 3) := by decide +kernel
theorem g18_55 : Go 18 55 ls st G M Q ↔ Go 18 5 ls st G M Q := go_goto hq18 k18_55 (by decide)
theorem k18_58 : cm_at ins_18 58 = some (.iload_n 2, 1) := by decide +kernel
theorem g18_58 : Go 18 58 [l0, l1, some (0, x), l3] st G M Q ↔ Go 18 59 [l0, l1, some (0, x), l3] ((0, x) :: st) G M Q := go_iload_n hq18 k18_58 rfl
theorem k18_59 : cm_at ins_18 59 = some (.ireturn, 1) := by decide +kernel
theorem g18_59 : Go 18 59 ls [(0, v)] G M Q ↔ Q (some (0, v)) G M := go_ireturn hq18 k18_59 rfl
theorem k19_0 : cm_at ins_19 0 = some (.aload_n 0, 1) := by decide +kernel
theorem g19_0 : Go 19 0 [some (2, x), l1, l2] st G M Q ↔ Go 19 1 [some (2, x), l1, l2] ((2, x) :: st) G M Q := go_aload_n hq19 k19_0 rfl
theorem k19_1 : cm_at ins_19 1 = some (.iload_n 1, 1) := by decide +kernel
theorem g19_1 : Go 19 1 [l0, some (0, x), l2] st G M Q ↔ Go 19 2 [l0, some (0, x), l2] ((0, x) :: st) G M Q := go_iload_n hq19 k19_1 rfl
theorem k19_2 : cm_at ins_19 2 = some (.invokevirtual 94, 3) := by decide +kernel
theorem c19_2 (h8 : cm_sum st ≤ 8) (hk : cm_sh G k = some (0, 0)) (K : Go 18 0 [some (2, k), some (0, y), none, none] [] G M (fun r G' M' => Go 19 5 ls (r.toList ++ st) G' M' Q)) : Go 19 2 ls ((0, y) :: (2, k) :: st) G M Q := go_callV hq19 k19_2 fc0_94 hq18 rfl (as := [(0, y), (2, k)]) rfl rfl (Nat.le_of_ble_eq_true rfl) rfl h8 hk K
theorem k19_5 : cm_at ins_19 5 = some (.istore_n 2, 1) := by decide +kernel
theorem g19_5 : Go 19 5 [l0, l1, l2] ((0, x) :: st) G M Q ↔ Go 19 6 [l0, l1, some (0, x)] st G M Q := go_istore_n hq19 k19_5 ⟨Nat.le_of_ble_eq_true rfl, rfl, by decide⟩
theorem k19_6 : cm_at ins_19 6 = some (.iload_n 2, 1) := by decide +kernel
theorem g19_6 : Go 19 6 [l0, l1, some (0, x)] st G M Q ↔ Go 19 7 [l0, l1, some (0, x)] ((0, x) :: st) G M Q := go_iload_n hq19 k19_6 rfl
theorem k19_7 : cm_at ins_19 7 = some (.bipush (-6), 2) := by decide +kernel
theorem g19_7 : Go 19 7 ls st G M Q ↔ Go 19 9 ls ((0, (-6)) :: st) G M Q := go_bipush hq19 k19_7 (by decide)
theorem k19_9 : cm_at ins_19 9 = some (.if_icmp .ne 7, 3) := by decide +kernel
theorem g19_9 : Go 19 9 ls ((0, b) :: (0, a) :: st) G M Q ↔ (cm_in a ∧ cm_in b) ∧ (¬ a = b → Go 19 16 ls st G M Q) ∧ (a = b → Go 19 12 ls st G M Q) := go_icmp_ne hq19 k19_9 (by decide)
theorem k19_12 : cm_at ins_19 12 = some (.iconst 0, 1) := by decide +kernel
theorem g19_12 : Go 19 12 ls st G M Q ↔ Go 19 13 ls ((0, 0) :: st) G M Q := go_iconst hq19 k19_12
theorem k19_13 : cm_at ins_19 13 = some (.goto 9, 3) := by decide +kernel
theorem g19_13 : Go 19 13 ls st G M Q ↔ Go 19 22 ls st G M Q := go_goto hq19 k19_13 (by decide)
theorem k19_16 : cm_at ins_19 16 = some (.aload_n 0, 1) := by decide +kernel
theorem g19_16 : Go 19 16 [some (2, x), l1, l2] st G M Q ↔ Go 19 17 [some (2, x), l1, l2] ((2, x) :: st) G M Q := go_aload_n hq19 k19_16 rfl
theorem k19_17 : cm_at ins_19 17 = some (.getfield 25, 3) := by decide +kernel
theorem g19_17 : Go 19 17 ls ((2, k) :: st) G M Q ↔ cm_sh G k = some (0, 0) ∧ Go 19 20 ls ((2, G.2 k 3) :: st) G M Q := go_get2 hq19 k19_17 ff0_25 rfl
theorem k19_20 : cm_at ins_19 20 = some (.iload_n 2, 1) := by decide +kernel
theorem g19_20 : Go 19 20 [l0, l1, some (0, x)] st G M Q ↔ Go 19 21 [l0, l1, some (0, x)] ((0, x) :: st) G M Q := go_iload_n hq19 k19_20 rfl
theorem k19_21 : cm_at ins_19 21 = some (.iaload, 1) := by decide +kernel
theorem g19_21 : Go 19 21 ls ((0, i) :: (2, k) :: st) G M Q ↔ (0 ≤ i ∧ i < cm_al 1 G M k) ∧ Go 19 22 ls ((0, M k i) :: st) G M Q := go_iald hq19 k19_21
theorem k19_22 : cm_at ins_19 22 = some (.ireturn, 1) := by decide +kernel
theorem g19_22 : Go 19 22 ls [(0, v)] G M Q ↔ Q (some (0, v)) G M := go_ireturn hq19 k19_22 rfl
theorem k20_0 : cm_at ins_20 0 = some (.iconst 0, 1) := by decide +kernel
theorem g20_0 : Go 20 0 ls st G M Q ↔ Go 20 1 ls ((0, 0) :: st) G M Q := go_iconst hq20 k20_0
theorem k20_1 : cm_at ins_20 1 = some (.istore_n 2, 1) := by decide +kernel
theorem g20_1 : Go 20 1 [l0, l1, l2, l3] ((0, x) :: st) G M Q ↔ Go 20 2 [l0, l1, some (0, x), l3] st G M Q := go_istore_n hq20 k20_1 ⟨Nat.le_of_ble_eq_true rfl, rfl, by decide⟩
theorem k20_2 : cm_at ins_20 2 = some (.iconst 0, 1) := by decide +kernel
theorem g20_2 : Go 20 2 ls st G M Q ↔ Go 20 3 ls ((0, 0) :: st) G M Q := go_iconst hq20 k20_2
theorem k20_3 : cm_at ins_20 3 = some (.istore_n 3, 1) := by decide +kernel
theorem g20_3 : Go 20 3 [l0, l1, l2, l3] ((0, x) :: st) G M Q ↔ Go 20 4 [l0, l1, l2, some (0, x)] st G M Q := go_istore_n hq20 k20_3 ⟨Nat.le_of_ble_eq_true rfl, rfl, by decide⟩
theorem k20_4 : cm_at ins_20 4 = some (.iload_n 3, 1) := by decide +kernel
theorem g20_4 : Go 20 4 [l0, l1, l2, some (0, x)] st G M Q ↔ Go 20 5 [l0, l1, l2, some (0, x)] ((0, x) :: st) G M Q := go_iload_n hq20 k20_4 rfl
theorem k20_5 : cm_at ins_20 5 = some (.aload_n 0, 1) := by decide +kernel
theorem g20_5 : Go 20 5 [some (2, x), l1, l2, l3] st G M Q ↔ Go 20 6 [some (2, x), l1, l2, l3] ((2, x) :: st) G M Q := go_aload_n hq20 k20_5 rfl
theorem k20_6 : cm_at ins_20 6 = some (.getfield 12, 3) := by decide +kernel
theorem g20_6 : Go 20 6 ls ((2, k) :: st) G M Q ↔ cm_sh G k = some (0, 0) ∧ Go 20 9 ls ((2, G.2 k 0) :: st) G M Q := go_get2 hq20 k20_6 ff0_12 rfl
theorem k20_9 : cm_at ins_20 9 = some (.getfield 50, 3) := by decide +kernel
theorem g20_9 : Go 20 9 ls ((2, k) :: st) G M Q ↔ cm_sh G k = some (0, 1) ∧ Go 20 12 ls ((0, M k 5) :: st) G M Q := go_get0 hq20 k20_9 ff0_50 rfl
theorem k20_12 : cm_at ins_20 12 = some (.if_icmp .ge 33, 3) := by decide +kernel
theorem g20_12 : Go 20 12 ls ((0, b) :: (0, a) :: st) G M Q ↔ (cm_in a ∧ cm_in b) ∧ (¬ a < b → Go 20 45 ls st G M Q) ∧ (a < b → Go 20 15 ls st G M Q) := go_icmp_ge hq20 k20_12 (by decide)
theorem k20_15 : cm_at ins_20 15 = some (.aload_n 0, 1) := by decide +kernel
theorem g20_15 : Go 20 15 [some (2, x), l1, l2, l3] st G M Q ↔ Go 20 16 [some (2, x), l1, l2, l3] ((2, x) :: st) G M Q := go_aload_n hq20 k20_15 rfl
theorem k20_16 : cm_at ins_20 16 = some (.getfield 12, 3) := by decide +kernel
theorem g20_16 : Go 20 16 ls ((2, k) :: st) G M Q ↔ cm_sh G k = some (0, 0) ∧ Go 20 19 ls ((2, G.2 k 0) :: st) G M Q := go_get2 hq20 k20_16 ff0_12 rfl
theorem k20_19 : cm_at ins_20 19 = some (.getfield 91, 3) := by decide +kernel
theorem g20_19 : Go 20 19 ls ((2, k) :: st) G M Q ↔ cm_sh G k = some (0, 1) ∧ Go 20 22 ls ((2, G.2 k 2) :: st) G M Q := go_get2 hq20 k20_19 ff0_91 rfl
theorem k20_22 : cm_at ins_20 22 = some (.iload_n 3, 1) := by decide +kernel
theorem g20_22 : Go 20 22 [l0, l1, l2, some (0, x)] st G M Q ↔ Go 20 23 [l0, l1, l2, some (0, x)] ((0, x) :: st) G M Q := go_iload_n hq20 k20_22 rfl
theorem k20_23 : cm_at ins_20 23 = some (.iaload, 1) := by decide +kernel
theorem g20_23 : Go 20 23 ls ((0, i) :: (2, k) :: st) G M Q ↔ (0 ≤ i ∧ i < cm_al 1 G M k) ∧ Go 20 24 ls ((0, M k i) :: st) G M Q := go_iald hq20 k20_23
theorem k20_24 : cm_at ins_20 24 = some (.iload_n 1, 1) := by decide +kernel
theorem g20_24 : Go 20 24 [l0, some (0, x), l2, l3] st G M Q ↔ Go 20 25 [l0, some (0, x), l2, l3] ((0, x) :: st) G M Q := go_iload_n hq20 k20_24 rfl
theorem k20_25 : cm_at ins_20 25 = some (.if_icmp .ne 14, 3) := by decide +kernel
theorem g20_25 : Go 20 25 ls ((0, b) :: (0, a) :: st) G M Q ↔ (cm_in a ∧ cm_in b) ∧ (¬ a = b → Go 20 39 ls st G M Q) ∧ (a = b → Go 20 28 ls st G M Q) := go_icmp_ne hq20 k20_25 (by decide)
theorem k20_28 : cm_at ins_20 28 = some (.iload_n 2, 1) := by decide +kernel
theorem g20_28 : Go 20 28 [l0, l1, some (0, x), l3] st G M Q ↔ Go 20 29 [l0, l1, some (0, x), l3] ((0, x) :: st) G M Q := go_iload_n hq20 k20_28 rfl
theorem k20_29 : cm_at ins_20 29 = some (.aload_n 0, 1) := by decide +kernel
theorem g20_29 : Go 20 29 [some (2, x), l1, l2, l3] st G M Q ↔ Go 20 30 [some (2, x), l1, l2, l3] ((2, x) :: st) G M Q := go_aload_n hq20 k20_29 rfl
theorem k20_30 : cm_at ins_20 30 = some (.getfield 25, 3) := by decide +kernel
theorem g20_30 : Go 20 30 ls ((2, k) :: st) G M Q ↔ cm_sh G k = some (0, 0) ∧ Go 20 33 ls ((2, G.2 k 3) :: st) G M Q := go_get2 hq20 k20_30 ff0_25 rfl
theorem k20_33 : cm_at ins_20 33 = some (.iload_n 3, 1) := by decide +kernel
theorem g20_33 : Go 20 33 [l0, l1, l2, some (0, x)] st G M Q ↔ Go 20 34 [l0, l1, l2, some (0, x)] ((0, x) :: st) G M Q := go_iload_n hq20 k20_33 rfl
theorem k20_34 : cm_at ins_20 34 = some (.iaload, 1) := by decide +kernel
theorem g20_34 : Go 20 34 ls ((0, i) :: (2, k) :: st) G M Q ↔ (0 ≤ i ∧ i < cm_al 1 G M k) ∧ Go 20 35 ls ((0, M k i) :: st) G M Q := go_iald hq20 k20_34
theorem k20_35 : cm_at ins_20 35 = some (.invokestatic 97, 3) := by decide +kernel
theorem g20_35 : Go 20 35 ls ((0, b) :: (0, a) :: st) G M Q ↔ (cm_in a ∧ cm_in b ∧ cm_sum st ≤ 8) ∧ Go 20 38 ls ((0, if a < b then b else a) :: st) G M Q := go_max hq20 k20_35 fc0_97
theorem k20_38 : cm_at ins_20 38 = some (.istore_n 2, 1) := by decide +kernel
theorem g20_38 : Go 20 38 [l0, l1, l2, l3] ((0, x) :: st) G M Q ↔ Go 20 39 [l0, l1, some (0, x), l3] st G M Q := go_istore_n hq20 k20_38 ⟨Nat.le_of_ble_eq_true rfl, rfl, by decide⟩
theorem k20_39 : cm_at ins_20 39 = some (.iinc 3 1, 3) := by decide +kernel
theorem g20_39 : Go 20 39 [l0, l1, l2, some (0, x)] st G M Q ↔ Go 20 42 [l0, l1, l2, some (0, x + 1)] st G M Q := go_iinc hq20 k20_39 rfl ⟨rfl, by decide⟩
theorem k20_42 : cm_at ins_20 42 = some (.goto (-38), 3) := by decide +kernel
theorem g20_42 : Go 20 42 ls st G M Q ↔ Go 20 4 ls st G M Q := go_goto hq20 k20_42 (by decide)
theorem k20_45 : cm_at ins_20 45 = some (.iload_n 2, 1) := by decide +kernel
theorem g20_45 : Go 20 45 [l0, l1, some (0, x), l3] st G M Q ↔ Go 20 46 [l0, l1, some (0, x), l3] ((0, x) :: st) G M Q := go_iload_n hq20 k20_45 rfl
theorem k20_46 : cm_at ins_20 46 = some (.ireturn, 1) := by decide +kernel
theorem g20_46 : Go 20 46 ls [(0, v)] G M Q ↔ Q (some (0, v)) G M := go_ireturn hq20 k20_46 rfl
theorem k21_0 : cm_at ins_21 0 = some (.aload_n 0, 1) := by decide +kernel
theorem g21_0 : Go 21 0 [some (2, x), l1] st G M Q ↔ Go 21 1 [some (2, x), l1] ((2, x) :: st) G M Q := go_aload_n hq21 k21_0 rfl
theorem k21_1 : cm_at ins_21 1 = some (.iload_n 1, 1) := by decide +kernel
theorem g21_1 : Go 21 1 [l0, some (0, x)] st G M Q ↔ Go 21 2 [l0, some (0, x)] ((0, x) :: st) G M Q := go_iload_n hq21 k21_1 rfl
theorem k21_2 : cm_at ins_21 2 = some (.invokevirtual 102, 3) := by decide +kernel
theorem c21_2 (h8 : cm_sum st ≤ 8) (hk : cm_sh G k = some (0, 0)) (K : Go 20 0 [some (2, k), some (0, y), none, none] [] G M (fun r G' M' => Go 21 5 ls (r.toList ++ st) G' M' Q)) : Go 21 2 ls ((0, y) :: (2, k) :: st) G M Q := go_callV hq21 k21_2 fc0_102 hq20 rfl (as := [(0, y), (2, k)]) rfl rfl (Nat.le_of_ble_eq_true rfl) rfl h8 hk K
theorem k21_5 : cm_at ins_21 5 = some (.aload_n 0, 1) := by decide +kernel
theorem g21_5 : Go 21 5 [some (2, x), l1] st G M Q ↔ Go 21 6 [some (2, x), l1] ((2, x) :: st) G M Q := go_aload_n hq21 k21_5 rfl
theorem k21_6 : cm_at ins_21 6 = some (.iload_n 1, 1) := by decide +kernel
theorem g21_6 : Go 21 6 [l0, some (0, x)] st G M Q ↔ Go 21 7 [l0, some (0, x)] ((0, x) :: st) G M Q := go_iload_n hq21 k21_6 rfl
theorem k21_7 : cm_at ins_21 7 = some (.invokevirtual 105, 3) := by decide +kernel
theorem c21_7 (h8 : cm_sum st ≤ 8) (hk : cm_sh G k = some (0, 0)) (K : Go 19 0 [some (2, k), some (0, y), none] [] G M (fun r G' M' => Go 21 10 ls (r.toList ++ st) G' M' Q)) : Go 21 7 ls ((0, y) :: (2, k) :: st) G M Q := go_callV hq21 k21_7 fc0_105 hq19 rfl (as := [(0, y), (2, k)]) rfl rfl (Nat.le_of_ble_eq_true rfl) rfl h8 hk K
theorem k21_10 : cm_at ins_21 10 = some (.isub, 1) := by decide +kernel
theorem g21_10 : Go 21 10 ls ((0, b) :: (0, a) :: st) G M Q ↔ Go 21 11 ls ((0, a - b) :: st) G M Q := go_isub hq21 k21_10
theorem k21_11 : cm_at ins_21 11 = some (.ireturn, 1) := by decide +kernel
theorem g21_11 : Go 21 11 ls [(0, v)] G M Q ↔ Q (some (0, v)) G M := go_ireturn hq21 k21_11 rfl
theorem k22_0 : cm_at ins_22 0 = some (.iconst 0, 1) := by decide +kernel
theorem g22_0 : Go 22 0 ls st G M Q ↔ Go 22 1 ls ((0, 0) :: st) G M Q := go_iconst hq22 k22_0
theorem k22_1 : cm_at ins_22 1 = some (.istore_n 1, 1) := by decide +kernel
theorem g22_1 : Go 22 1 [l0, l1, l2] ((0, x) :: st) G M Q ↔ Go 22 2 [l0, some (0, x), l2] st G M Q := go_istore_n hq22 k22_1 ⟨Nat.le_of_ble_eq_true rfl, rfl, by decide⟩
theorem k22_2 : cm_at ins_22 2 = some (.iconst 0, 1) := by decide +kernel
theorem g22_2 : Go 22 2 ls st G M Q ↔ Go 22 3 ls ((0, 0) :: st) G M Q := go_iconst hq22 k22_2
theorem k22_3 : cm_at ins_22 3 = some (.istore_n 2, 1) := by decide +kernel
theorem g22_3 : Go 22 3 [l0, l1, l2] ((0, x) :: st) G M Q ↔ Go 22 4 [l0, l1, some (0, x)] st G M Q := go_istore_n hq22 k22_3 ⟨Nat.le_of_ble_eq_true rfl, rfl, by decide⟩
theorem k22_4 : cm_at ins_22 4 = some (.iload_n 2, 1) := by decide +kernel
theorem g22_4 : Go 22 4 [l0, l1, some (0, x)] st G M Q ↔ Go 22 5 [l0, l1, some (0, x)] ((0, x) :: st) G M Q := go_iload_n hq22 k22_4 rfl
theorem k22_5 : cm_at ins_22 5 = some (.bipush 8, 2) := by decide +kernel
theorem g22_5 : Go 22 5 ls st G M Q ↔ Go 22 7 ls ((0, 8) :: st) G M Q := go_bipush hq22 k22_5 (by decide)
theorem k22_7 : cm_at ins_22 7 = some (.if_icmp .ge 17, 3) := by decide +kernel
theorem g22_7 : Go 22 7 ls ((0, b) :: (0, a) :: st) G M Q ↔ (cm_in a ∧ cm_in b) ∧ (¬ a < b → Go 22 24 ls st G M Q) ∧ (a < b → Go 22 10 ls st G M Q) := go_icmp_ge hq22 k22_7 (by decide)
theorem k22_10 : cm_at ins_22 10 = some (.iload_n 1, 1) := by decide +kernel
theorem g22_10 : Go 22 10 [l0, some (0, x), l2] st G M Q ↔ Go 22 11 [l0, some (0, x), l2] ((0, x) :: st) G M Q := go_iload_n hq22 k22_10 rfl
theorem k22_11 : cm_at ins_22 11 = some (.aload_n 0, 1) := by decide +kernel
theorem g22_11 : Go 22 11 [some (2, x), l1, l2] st G M Q ↔ Go 22 12 [some (2, x), l1, l2] ((2, x) :: st) G M Q := go_aload_n hq22 k22_11 rfl
theorem k22_12 : cm_at ins_22 12 = some (.iload_n 2, 1) := by decide +kernel
theorem g22_12 : Go 22 12 [l0, l1, some (0, x)] st G M Q ↔ Go 22 13 [l0, l1, some (0, x)] ((0, x) :: st) G M Q := go_iload_n hq22 k22_12 rfl
theorem k22_13 : cm_at ins_22 13 = some (.invokevirtual 108, 3) := by decide +kernel
theorem c22_13 (h8 : cm_sum st ≤ 8) (hk : cm_sh G k = some (0, 0)) (K : Go 21 0 [some (2, k), some (0, y)] [] G M (fun r G' M' => Go 22 16 ls (r.toList ++ st) G' M' Q)) : Go 22 13 ls ((0, y) :: (2, k) :: st) G M Q := go_callV hq22 k22_13 fc0_108 hq21 rfl (as := [(0, y), (2, k)]) rfl rfl (Nat.le_of_ble_eq_true rfl) rfl h8 hk K
theorem k22_16 : cm_at ins_22 16 = some (.iadd, 1) := by decide +kernel
theorem g22_16 : Go 22 16 ls ((0, b) :: (0, a) :: st) G M Q ↔ Go 22 17 ls ((0, a + b) :: st) G M Q := go_iadd hq22 k22_16
theorem k22_17 : cm_at ins_22 17 = some (.istore_n 1, 1) := by decide +kernel
theorem g22_17 : Go 22 17 [l0, l1, l2] ((0, x) :: st) G M Q ↔ Go 22 18 [l0, some (0, x), l2] st G M Q := go_istore_n hq22 k22_17 ⟨Nat.le_of_ble_eq_true rfl, rfl, by decide⟩
theorem k22_18 : cm_at ins_22 18 = some (.iinc 2 1, 3) := by decide +kernel
theorem g22_18 : Go 22 18 [l0, l1, some (0, x)] st G M Q ↔ Go 22 21 [l0, l1, some (0, x + 1)] st G M Q := go_iinc hq22 k22_18 rfl ⟨rfl, by decide⟩
theorem k22_21 : cm_at ins_22 21 = some (.goto (-17), 3) := by decide +kernel
theorem g22_21 : Go 22 21 ls st G M Q ↔ Go 22 4 ls st G M Q := go_goto hq22 k22_21 (by decide)
theorem k22_24 : cm_at ins_22 24 = some (.iload_n 1, 1) := by decide +kernel
theorem g22_24 : Go 22 24 [l0, some (0, x), l2] st G M Q ↔ Go 22 25 [l0, some (0, x), l2] ((0, x) :: st) G M Q := go_iload_n hq22 k22_24 rfl
theorem k22_25 : cm_at ins_22 25 = some (.ireturn, 1) := by decide +kernel
theorem g22_25 : Go 22 25 ls [(0, v)] G M Q ↔ Q (some (0, v)) G M := go_ireturn hq22 k22_25 rfl
theorem k23_0 : cm_at ins_23 0 = some (.iconst 0, 1) := by decide +kernel
theorem g23_0 : Go 23 0 ls st G M Q ↔ Go 23 1 ls ((0, 0) :: st) G M Q := go_iconst hq23 k23_0
theorem k23_1 : cm_at ins_23 1 = some (.istore_n 1, 1) := by decide +kernel
theorem g23_1 : Go 23 1 [l0, l1, l2] ((0, x) :: st) G M Q ↔ Go 23 2 [l0, some (0, x), l2] st G M Q := go_istore_n hq23 k23_1 ⟨Nat.le_of_ble_eq_true rfl, rfl, by decide⟩
theorem k23_2 : cm_at ins_23 2 = some (.iconst 0, 1) := by decide +kernel
theorem g23_2 : Go 23 2 ls st G M Q ↔ Go 23 3 ls ((0, 0) :: st) G M Q := go_iconst hq23 k23_2
theorem k23_3 : cm_at ins_23 3 = some (.istore_n 2, 1) := by decide +kernel
theorem g23_3 : Go 23 3 [l0, l1, l2] ((0, x) :: st) G M Q ↔ Go 23 4 [l0, l1, some (0, x)] st G M Q := go_istore_n hq23 k23_3 ⟨Nat.le_of_ble_eq_true rfl, rfl, by decide⟩
theorem k23_4 : cm_at ins_23 4 = some (.iload_n 2, 1) := by decide +kernel
theorem g23_4 : Go 23 4 [l0, l1, some (0, x)] st G M Q ↔ Go 23 5 [l0, l1, some (0, x)] ((0, x) :: st) G M Q := go_iload_n hq23 k23_4 rfl
theorem k23_5 : cm_at ins_23 5 = some (.bipush 8, 2) := by decide +kernel
theorem g23_5 : Go 23 5 ls st G M Q ↔ Go 23 7 ls ((0, 8) :: st) G M Q := go_bipush hq23 k23_5 (by decide)
theorem k23_7 : cm_at ins_23 7 = some (.if_icmp .ge 20, 3) := by decide +kernel
theorem g23_7 : Go 23 7 ls ((0, b) :: (0, a) :: st) G M Q ↔ (cm_in a ∧ cm_in b) ∧ (¬ a < b → Go 23 27 ls st G M Q) ∧ (a < b → Go 23 10 ls st G M Q) := go_icmp_ge hq23 k23_7 (by decide)
theorem k23_10 : cm_at ins_23 10 = some (.aload_n 0, 1) := by decide +kernel
theorem g23_10 : Go 23 10 [some (2, x), l1, l2] st G M Q ↔ Go 23 11 [some (2, x), l1, l2] ((2, x) :: st) G M Q := go_aload_n hq23 k23_10 rfl
theorem k23_11 : cm_at ins_23 11 = some (.iload_n 2, 1) := by decide +kernel
theorem g23_11 : Go 23 11 [l0, l1, some (0, x)] st G M Q ↔ Go 23 12 [l0, l1, some (0, x)] ((0, x) :: st) G M Q := go_iload_n hq23 k23_11 rfl
theorem k23_12 : cm_at ins_23 12 = some (.invokevirtual 108, 3) := by decide +kernel
theorem c23_12 (h8 : cm_sum st ≤ 8) (hk : cm_sh G k = some (0, 0)) (K : Go 21 0 [some (2, k), some (0, y)] [] G M (fun r G' M' => Go 23 15 ls (r.toList ++ st) G' M' Q)) : Go 23 12 ls ((0, y) :: (2, k) :: st) G M Q := go_callV hq23 k23_12 fc0_108 hq21 rfl (as := [(0, y), (2, k)]) rfl rfl (Nat.le_of_ble_eq_true rfl) rfl h8 hk K
theorem k23_15 : cm_at ins_23 15 = some (.ifCond .eq 6, 3) := by decide +kernel
theorem g23_15 : Go 23 15 ls ((0, a) :: st) G M Q ↔ cm_in a ∧ (a = 0 → Go 23 21 ls st G M Q) ∧ (¬ a = 0 → Go 23 18 ls st G M Q) := go_if_eq hq23 k23_15 (by decide)
theorem k23_18 : cm_at ins_23 18 = some (.iinc 1 1, 3) := by decide +kernel
theorem g23_18 : Go 23 18 [l0, some (0, x), l2] st G M Q ↔ Go 23 21 [l0, some (0, x + 1), l2] st G M Q := go_iinc hq23 k23_18 rfl ⟨rfl, by decide⟩
theorem k23_21 : cm_at ins_23 21 = some (.iinc 2 1, 3) := by decide +kernel
theorem g23_21 : Go 23 21 [l0, l1, some (0, x)] st G M Q ↔ Go 23 24 [l0, l1, some (0, x + 1)] st G M Q := go_iinc hq23 k23_21 rfl ⟨rfl, by decide⟩
theorem k23_24 : cm_at ins_23 24 = some (.goto (-20), 3) := by decide +kernel
theorem g23_24 : Go 23 24 ls st G M Q ↔ Go 23 4 ls st G M Q := go_goto hq23 k23_24 (by decide)
theorem k23_27 : cm_at ins_23 27 = some (.iload_n 1, 1) := by decide +kernel
theorem g23_27 : Go 23 27 [l0, some (0, x), l2] st G M Q ↔ Go 23 28 [l0, some (0, x), l2] ((0, x) :: st) G M Q := go_iload_n hq23 k23_27 rfl
theorem k23_28 : cm_at ins_23 28 = some (.ireturn, 1) := by decide +kernel
theorem g23_28 : Go 23 28 ls [(0, v)] G M Q ↔ Q (some (0, v)) G M := go_ireturn hq23 k23_28 rfl
theorem k24_0 : cm_at ins_24 0 = some (.iconst 0, 1) := by decide +kernel
theorem g24_0 : Go 24 0 ls st G M Q ↔ Go 24 1 ls ((0, 0) :: st) G M Q := go_iconst hq24 k24_0
theorem k24_1 : cm_at ins_24 1 = some (.istore_n 1, 1) := by decide +kernel
theorem g24_1 : Go 24 1 [l0, l1, l2] ((0, x) :: st) G M Q ↔ Go 24 2 [l0, some (0, x), l2] st G M Q := go_istore_n hq24 k24_1 ⟨Nat.le_of_ble_eq_true rfl, rfl, by decide⟩
theorem k24_2 : cm_at ins_24 2 = some (.iconst 0, 1) := by decide +kernel
theorem g24_2 : Go 24 2 ls st G M Q ↔ Go 24 3 ls ((0, 0) :: st) G M Q := go_iconst hq24 k24_2
theorem k24_3 : cm_at ins_24 3 = some (.istore_n 2, 1) := by decide +kernel
theorem g24_3 : Go 24 3 [l0, l1, l2] ((0, x) :: st) G M Q ↔ Go 24 4 [l0, l1, some (0, x)] st G M Q := go_istore_n hq24 k24_3 ⟨Nat.le_of_ble_eq_true rfl, rfl, by decide⟩
theorem k24_4 : cm_at ins_24 4 = some (.iload_n 2, 1) := by decide +kernel
theorem g24_4 : Go 24 4 [l0, l1, some (0, x)] st G M Q ↔ Go 24 5 [l0, l1, some (0, x)] ((0, x) :: st) G M Q := go_iload_n hq24 k24_4 rfl
theorem k24_5 : cm_at ins_24 5 = some (.aload_n 0, 1) := by decide +kernel
theorem g24_5 : Go 24 5 [some (2, x), l1, l2] st G M Q ↔ Go 24 6 [some (2, x), l1, l2] ((2, x) :: st) G M Q := go_aload_n hq24 k24_5 rfl
theorem k24_6 : cm_at ins_24 6 = some (.getfield 12, 3) := by decide +kernel
theorem g24_6 : Go 24 6 ls ((2, k) :: st) G M Q ↔ cm_sh G k = some (0, 0) ∧ Go 24 9 ls ((2, G.2 k 0) :: st) G M Q := go_get2 hq24 k24_6 ff0_12 rfl
theorem k24_9 : cm_at ins_24 9 = some (.getfield 50, 3) := by decide +kernel
theorem g24_9 : Go 24 9 ls ((2, k) :: st) G M Q ↔ cm_sh G k = some (0, 1) ∧ Go 24 12 ls ((0, M k 5) :: st) G M Q := go_get0 hq24 k24_9 ff0_50 rfl
theorem k24_12 : cm_at ins_24 12 = some (.if_icmp .ge 33, 3) := by decide +kernel
theorem g24_12 : Go 24 12 ls ((0, b) :: (0, a) :: st) G M Q ↔ (cm_in a ∧ cm_in b) ∧ (¬ a < b → Go 24 45 ls st G M Q) ∧ (a < b → Go 24 15 ls st G M Q) := go_icmp_ge hq24 k24_12 (by decide)
theorem k24_15 : cm_at ins_24 15 = some (.aload_n 0, 1) := by decide +kernel
theorem g24_15 : Go 24 15 [some (2, x), l1, l2] st G M Q ↔ Go 24 16 [some (2, x), l1, l2] ((2, x) :: st) G M Q := go_aload_n hq24 k24_15 rfl
theorem k24_16 : cm_at ins_24 16 = some (.getfield 12, 3) := by decide +kernel
theorem g24_16 : Go 24 16 ls ((2, k) :: st) G M Q ↔ cm_sh G k = some (0, 0) ∧ Go 24 19 ls ((2, G.2 k 0) :: st) G M Q := go_get2 hq24 k24_16 ff0_12 rfl
theorem k24_19 : cm_at ins_24 19 = some (.getfield 111, 3) := by decide +kernel
theorem g24_19 : Go 24 19 ls ((2, k) :: st) G M Q ↔ cm_sh G k = some (0, 1) ∧ Go 24 22 ls ((2, G.2 k 1) :: st) G M Q := go_get2 hq24 k24_19 ff0_111 rfl
theorem k24_22 : cm_at ins_24 22 = some (.iload_n 2, 1) := by decide +kernel
theorem g24_22 : Go 24 22 [l0, l1, some (0, x)] st G M Q ↔ Go 24 23 [l0, l1, some (0, x)] ((0, x) :: st) G M Q := go_iload_n hq24 k24_22 rfl
theorem k24_23 : cm_at ins_24 23 = some (.iaload, 1) := by decide +kernel
theorem g24_23 : Go 24 23 ls ((0, i) :: (2, k) :: st) G M Q ↔ (0 ≤ i ∧ i < cm_al 1 G M k) ∧ Go 24 24 ls ((0, M k i) :: st) G M Q := go_iald hq24 k24_23
theorem k24_24 : cm_at ins_24 24 = some (.ifCond .ne 15, 3) := by decide +kernel
theorem g24_24 : Go 24 24 ls ((0, a) :: st) G M Q ↔ cm_in a ∧ (¬ a = 0 → Go 24 39 ls st G M Q) ∧ (a = 0 → Go 24 27 ls st G M Q) := go_if_ne hq24 k24_24 (by decide)
theorem k24_27 : cm_at ins_24 27 = some (.aload_n 0, 1) := by decide +kernel
theorem g24_27 : Go 24 27 [some (2, x), l1, l2] st G M Q ↔ Go 24 28 [some (2, x), l1, l2] ((2, x) :: st) G M Q := go_aload_n hq24 k24_27 rfl
theorem k24_28 : cm_at ins_24 28 = some (.getfield 25, 3) := by decide +kernel
theorem g24_28 : Go 24 28 ls ((2, k) :: st) G M Q ↔ cm_sh G k = some (0, 0) ∧ Go 24 31 ls ((2, G.2 k 3) :: st) G M Q := go_get2 hq24 k24_28 ff0_25 rfl
theorem k24_31 : cm_at ins_24 31 = some (.iload_n 2, 1) := by decide +kernel
theorem g24_31 : Go 24 31 [l0, l1, some (0, x)] st G M Q ↔ Go 24 32 [l0, l1, some (0, x)] ((0, x) :: st) G M Q := go_iload_n hq24 k24_31 rfl
theorem k24_32 : cm_at ins_24 32 = some (.iaload, 1) := by decide +kernel
theorem g24_32 : Go 24 32 ls ((0, i) :: (2, k) :: st) G M Q ↔ (0 ≤ i ∧ i < cm_al 1 G M k) ∧ Go 24 33 ls ((0, M k i) :: st) G M Q := go_iald hq24 k24_32
theorem k24_33 : cm_at ins_24 33 = some (.ifCond .ne 6, 3) := by decide +kernel
theorem g24_33 : Go 24 33 ls ((0, a) :: st) G M Q ↔ cm_in a ∧ (¬ a = 0 → Go 24 39 ls st G M Q) ∧ (a = 0 → Go 24 36 ls st G M Q) := go_if_ne hq24 k24_33 (by decide)
theorem k24_36 : cm_at ins_24 36 = some (.iinc 1 1, 3) := by decide +kernel
theorem g24_36 : Go 24 36 [l0, some (0, x), l2] st G M Q ↔ Go 24 39 [l0, some (0, x + 1), l2] st G M Q := go_iinc hq24 k24_36 rfl ⟨rfl, by decide⟩
theorem k24_39 : cm_at ins_24 39 = some (.iinc 2 1, 3) := by decide +kernel
theorem g24_39 : Go 24 39 [l0, l1, some (0, x)] st G M Q ↔ Go 24 42 [l0, l1, some (0, x + 1)] st G M Q := go_iinc hq24 k24_39 rfl ⟨rfl, by decide⟩
theorem k24_42 : cm_at ins_24 42 = some (.goto (-38), 3) := by decide +kernel
theorem g24_42 : Go 24 42 ls st G M Q ↔ Go 24 4 ls st G M Q := go_goto hq24 k24_42 (by decide)
theorem k24_45 : cm_at ins_24 45 = some (.iload_n 1, 1) := by decide +kernel
theorem g24_45 : Go 24 45 [l0, some (0, x), l2] st G M Q ↔ Go 24 46 [l0, some (0, x), l2] ((0, x) :: st) G M Q := go_iload_n hq24 k24_45 rfl
theorem k24_46 : cm_at ins_24 46 = some (.ireturn, 1) := by decide +kernel
theorem g24_46 : Go 24 46 ls [(0, v)] G M Q ↔ Q (some (0, v)) G M := go_ireturn hq24 k24_46 rfl
theorem k25_0 : cm_at ins_25 0 = some (.iconst 0, 1) := by decide +kernel
theorem g25_0 : Go 25 0 ls st G M Q ↔ Go 25 1 ls ((0, 0) :: st) G M Q := go_iconst hq25 k25_0
theorem k25_1 : cm_at ins_25 1 = some (.istore_n 2, 1) := by decide +kernel
theorem g25_1 : Go 25 1 [l0, l1, l2] ((0, x) :: st) G M Q ↔ Go 25 2 [l0, l1, some (0, x)] st G M Q := go_istore_n hq25 k25_1 ⟨Nat.le_of_ble_eq_true rfl, rfl, by decide⟩
theorem k25_2 : cm_at ins_25 2 = some (.iload_n 2, 1) := by decide +kernel
theorem g25_2 : Go 25 2 [l0, l1, some (0, x)] st G M Q ↔ Go 25 3 [l0, l1, some (0, x)] ((0, x) :: st) G M Q := go_iload_n hq25 k25_2 rfl
theorem k25_3 : cm_at ins_25 3 = some (.aload_n 0, 1) := by decide +kernel
theorem g25_3 : Go 25 3 [some (2, x), l1, l2] st G M Q ↔ Go 25 4 [some (2, x), l1, l2] ((2, x) :: st) G M Q := go_aload_n hq25 k25_3 rfl
theorem k25_4 : cm_at ins_25 4 = some (.getfield 12, 3) := by decide +kernel
theorem g25_4 : Go 25 4 ls ((2, k) :: st) G M Q ↔ cm_sh G k = some (0, 0) ∧ Go 25 7 ls ((2, G.2 k 0) :: st) G M Q := go_get2 hq25 k25_4 ff0_12 rfl
theorem k25_7 : cm_at ins_25 7 = some (.getfield 50, 3) := by decide +kernel
theorem g25_7 : Go 25 7 ls ((2, k) :: st) G M Q ↔ cm_sh G k = some (0, 1) ∧ Go 25 10 ls ((0, M k 5) :: st) G M Q := go_get0 hq25 k25_7 ff0_50 rfl
theorem k25_10 : cm_at ins_25 10 = some (.if_icmp .ge 33, 3) := by decide +kernel
theorem g25_10 : Go 25 10 ls ((0, b) :: (0, a) :: st) G M Q ↔ (cm_in a ∧ cm_in b) ∧ (¬ a < b → Go 25 43 ls st G M Q) ∧ (a < b → Go 25 13 ls st G M Q) := go_icmp_ge hq25 k25_10 (by decide)
theorem k25_13 : cm_at ins_25 13 = some (.aload_n 0, 1) := by decide +kernel
theorem g25_13 : Go 25 13 [some (2, x), l1, l2] st G M Q ↔ Go 25 14 [some (2, x), l1, l2] ((2, x) :: st) G M Q := go_aload_n hq25 k25_13 rfl
theorem k25_14 : cm_at ins_25 14 = some (.getfield 12, 3) := by decide +kernel
theorem g25_14 : Go 25 14 ls ((2, k) :: st) G M Q ↔ cm_sh G k = some (0, 0) ∧ Go 25 17 ls ((2, G.2 k 0) :: st) G M Q := go_get2 hq25 k25_14 ff0_12 rfl
theorem k25_17 : cm_at ins_25 17 = some (.getfield 111, 3) := by decide +kernel
theorem g25_17 : Go 25 17 ls ((2, k) :: st) G M Q ↔ cm_sh G k = some (0, 1) ∧ Go 25 20 ls ((2, G.2 k 1) :: st) G M Q := go_get2 hq25 k25_17 ff0_111 rfl
theorem k25_20 : cm_at ins_25 20 = some (.iload_n 2, 1) := by decide +kernel
theorem g25_20 : Go 25 20 [l0, l1, some (0, x)] st G M Q ↔ Go 25 21 [l0, l1, some (0, x)] ((0, x) :: st) G M Q := go_iload_n hq25 k25_20 rfl
theorem k25_21 : cm_at ins_25 21 = some (.iaload, 1) := by decide +kernel
theorem g25_21 : Go 25 21 ls ((0, i) :: (2, k) :: st) G M Q ↔ (0 ≤ i ∧ i < cm_al 1 G M k) ∧ Go 25 22 ls ((0, M k i) :: st) G M Q := go_iald hq25 k25_21
theorem k25_22 : cm_at ins_25 22 = some (.ifCond .ne 15, 3) := by decide +kernel
theorem g25_22 : Go 25 22 ls ((0, a) :: st) G M Q ↔ cm_in a ∧ (¬ a = 0 → Go 25 37 ls st G M Q) ∧ (a = 0 → Go 25 25 ls st G M Q) := go_if_ne hq25 k25_22 (by decide)
theorem k25_25 : cm_at ins_25 25 = some (.aload_n 0, 1) := by decide +kernel
theorem g25_25 : Go 25 25 [some (2, x), l1, l2] st G M Q ↔ Go 25 26 [some (2, x), l1, l2] ((2, x) :: st) G M Q := go_aload_n hq25 k25_25 rfl
theorem k25_26 : cm_at ins_25 26 = some (.getfield 25, 3) := by decide +kernel
theorem g25_26 : Go 25 26 ls ((2, k) :: st) G M Q ↔ cm_sh G k = some (0, 0) ∧ Go 25 29 ls ((2, G.2 k 3) :: st) G M Q := go_get2 hq25 k25_26 ff0_25 rfl
theorem k25_29 : cm_at ins_25 29 = some (.iload_n 2, 1) := by decide +kernel
theorem g25_29 : Go 25 29 [l0, l1, some (0, x)] st G M Q ↔ Go 25 30 [l0, l1, some (0, x)] ((0, x) :: st) G M Q := go_iload_n hq25 k25_29 rfl
theorem k25_30 : cm_at ins_25 30 = some (.iaload, 1) := by decide +kernel
theorem g25_30 : Go 25 30 ls ((0, i) :: (2, k) :: st) G M Q ↔ (0 ≤ i ∧ i < cm_al 1 G M k) ∧ Go 25 31 ls ((0, M k i) :: st) G M Q := go_iald hq25 k25_30
theorem k25_31 : cm_at ins_25 31 = some (.iload_n 1, 1) := by decide +kernel
theorem g25_31 : Go 25 31 [l0, some (0, x), l2] st G M Q ↔ Go 25 32 [l0, some (0, x), l2] ((0, x) :: st) G M Q := go_iload_n hq25 k25_31 rfl
theorem k25_32 : cm_at ins_25 32 = some (.if_icmp .ge 5, 3) := by decide +kernel
theorem g25_32 : Go 25 32 ls ((0, b) :: (0, a) :: st) G M Q ↔ (cm_in a ∧ cm_in b) ∧ (¬ a < b → Go 25 37 ls st G M Q) ∧ (a < b → Go 25 35 ls st G M Q) := go_icmp_ge hq25 k25_32 (by decide)
theorem k25_35 : cm_at ins_25 35 = some (.iconst 0, 1) := by decide +kernel
theorem g25_35 : Go 25 35 ls st G M Q ↔ Go 25 36 ls ((0, 0) :: st) G M Q := go_iconst hq25 k25_35
theorem k25_36 : cm_at ins_25 36 = some (.ireturn, 1) := by decide +kernel
theorem g25_36 : Go 25 36 ls [(0, v)] G M Q ↔ (v = 0 ∨ v = 1) ∧ Q (some (0, v)) G M := go_zreturn hq25 k25_36 rfl
theorem k25_37 : cm_at ins_25 37 = some (.iinc 2 1, 3) := by decide +kernel
theorem g25_37 : Go 25 37 [l0, l1, some (0, x)] st G M Q ↔ Go 25 40 [l0, l1, some (0, x + 1)] st G M Q := go_iinc hq25 k25_37 rfl ⟨rfl, by decide⟩
theorem k25_40 : cm_at ins_25 40 = some (.goto (-38), 3) := by decide +kernel
theorem g25_40 : Go 25 40 ls st G M Q ↔ Go 25 2 ls st G M Q := go_goto hq25 k25_40 (by decide)
theorem k25_43 : cm_at ins_25 43 = some (.iconst 1, 1) := by decide +kernel
theorem g25_43 : Go 25 43 ls st G M Q ↔ Go 25 44 ls ((0, 1) :: st) G M Q := go_iconst hq25 k25_43
theorem k25_44 : cm_at ins_25 44 = some (.ireturn, 1) := by decide +kernel
theorem g25_44 : Go 25 44 ls [(0, v)] G M Q ↔ (v = 0 ∨ v = 1) ∧ Q (some (0, v)) G M := go_zreturn hq25 k25_44 rfl
theorem k26_0 : cm_at ins_26 0 = some (.aload_n 0, 1) := by decide +kernel
theorem g26_0 : Go 26 0 [some (2, x)] st G M Q ↔ Go 26 1 [some (2, x)] ((2, x) :: st) G M Q := go_aload_n hq26 k26_0 rfl
theorem k26_1 : cm_at ins_26 1 = some (.invokespecial 3, 3) := by decide +kernel
theorem g26_1 : Go 26 1 ls [(2, k)] G M Q ↔ 0 ≤ k ∧ Go 26 4 ls [] G M Q := go_obj hq26 k26_1 fc1_3
theorem k26_4 : cm_at ins_26 4 = some (.aload_n 0, 1) := by decide +kernel
theorem g26_4 : Go 26 4 [some (2, x)] st G M Q ↔ Go 26 5 [some (2, x)] ((2, x) :: st) G M Q := go_aload_n hq26 k26_4 rfl
theorem k26_5 : cm_at ins_26 5 = some (.iconst 3, 1) := by decide +kernel
theorem g26_5 : Go 26 5 ls st G M Q ↔ Go 26 6 ls ((0, 3) :: st) G M Q := go_iconst hq26 k26_5
theorem k26_6 : cm_at ins_26 6 = some (.newarray .int, 2) := by decide +kernel
theorem g26_6 : Go 26 6 ls ((0, x) :: st) G M Q ↔ (0 ≤ x ∧ x ≤ 1000) ∧ Go 26 8 ls ((2, (G.1.length : Int)) :: st) (G.1 ++ [(1, x.toNat)], G.2) (cm_row M (G.1.length : Int) 0) Q := go_newarr hq26 k26_6 rfl
theorem k26_8 : cm_at ins_26 8 = some (.putfield 9, 3) := by decide +kernel
theorem g26_8 : Go 26 8 ls ((2, v) :: (2, k) :: st) G M Q ↔ (cm_sh G k = some (0, 1) ∧ 0 ≤ v) ∧ Go 26 11 ls st (G.1, cm_up G.2 k 0 v) M Q := go_put2 hq26 k26_8 ff1_9 rfl ⟨rfl, rfl⟩
theorem k26_11 : cm_at ins_26 11 = some (.aload_n 0, 1) := by decide +kernel
theorem g26_11 : Go 26 11 [some (2, x)] st G M Q ↔ Go 26 12 [some (2, x)] ((2, x) :: st) G M Q := go_aload_n hq26 k26_11 rfl
theorem k26_12 : cm_at ins_26 12 = some (.bipush 40, 2) := by decide +kernel
theorem g26_12 : Go 26 12 ls st G M Q ↔ Go 26 14 ls ((0, 40) :: st) G M Q := go_bipush hq26 k26_12 (by decide)
theorem k26_14 : cm_at ins_26 14 = some (.newarray .int, 2) := by decide +kernel
theorem g26_14 : Go 26 14 ls ((0, x) :: st) G M Q ↔ (0 ≤ x ∧ x ≤ 1000) ∧ Go 26 16 ls ((2, (G.1.length : Int)) :: st) (G.1 ++ [(1, x.toNat)], G.2) (cm_row M (G.1.length : Int) 0) Q := go_newarr hq26 k26_14 rfl
theorem k26_16 : cm_at ins_26 16 = some (.putfield 15, 3) := by decide +kernel
theorem g26_16 : Go 26 16 ls ((2, v) :: (2, k) :: st) G M Q ↔ (cm_sh G k = some (0, 1) ∧ 0 ≤ v) ∧ Go 26 19 ls st (G.1, cm_up G.2 k 1 v) M Q := go_put2 hq26 k26_16 ff1_15 rfl ⟨rfl, rfl⟩
theorem k26_19 : cm_at ins_26 19 = some (.aload_n 0, 1) := by decide +kernel
theorem g26_19 : Go 26 19 [some (2, x)] st G M Q ↔ Go 26 20 [some (2, x)] ((2, x) :: st) G M Q := go_aload_n hq26 k26_19 rfl
theorem k26_20 : cm_at ins_26 20 = some (.bipush 40, 2) := by decide +kernel
theorem g26_20 : Go 26 20 ls st G M Q ↔ Go 26 22 ls ((0, 40) :: st) G M Q := go_bipush hq26 k26_20 (by decide)
theorem k26_22 : cm_at ins_26 22 = some (.newarray .int, 2) := by decide +kernel
theorem g26_22 : Go 26 22 ls ((0, x) :: st) G M Q ↔ (0 ≤ x ∧ x ≤ 1000) ∧ Go 26 24 ls ((2, (G.1.length : Int)) :: st) (G.1 ++ [(1, x.toNat)], G.2) (cm_row M (G.1.length : Int) 0) Q := go_newarr hq26 k26_22 rfl
theorem k26_24 : cm_at ins_26 24 = some (.putfield 18, 3) := by decide +kernel
theorem g26_24 : Go 26 24 ls ((2, v) :: (2, k) :: st) G M Q ↔ (cm_sh G k = some (0, 1) ∧ 0 ≤ v) ∧ Go 26 27 ls st (G.1, cm_up G.2 k 2 v) M Q := go_put2 hq26 k26_24 ff1_18 rfl ⟨rfl, rfl⟩
theorem k26_27 : cm_at ins_26 27 = some (.aload_n 0, 1) := by decide +kernel
theorem g26_27 : Go 26 27 [some (2, x)] st G M Q ↔ Go 26 28 [some (2, x)] ((2, x) :: st) G M Q := go_aload_n hq26 k26_27 rfl
theorem k26_28 : cm_at ins_26 28 = some (.bipush 40, 2) := by decide +kernel
theorem g26_28 : Go 26 28 ls st G M Q ↔ Go 26 30 ls ((0, 40) :: st) G M Q := go_bipush hq26 k26_28 (by decide)
theorem k26_30 : cm_at ins_26 30 = some (.newarray .int, 2) := by decide +kernel
theorem g26_30 : Go 26 30 ls ((0, x) :: st) G M Q ↔ (0 ≤ x ∧ x ≤ 1000) ∧ Go 26 32 ls ((2, (G.1.length : Int)) :: st) (G.1 ++ [(1, x.toNat)], G.2) (cm_row M (G.1.length : Int) 0) Q := go_newarr hq26 k26_30 rfl
theorem k26_32 : cm_at ins_26 32 = some (.putfield 21, 3) := by decide +kernel
theorem g26_32 : Go 26 32 ls ((2, v) :: (2, k) :: st) G M Q ↔ (cm_sh G k = some (0, 1) ∧ 0 ≤ v) ∧ Go 26 35 ls st (G.1, cm_up G.2 k 3 v) M Q := go_put2 hq26 k26_32 ff1_21 rfl ⟨rfl, rfl⟩
theorem k26_35 : cm_at ins_26 35 = some (.aload_n 0, 1) := by decide +kernel
theorem g26_35 : Go 26 35 [some (2, x)] st G M Q ↔ Go 26 36 [some (2, x)] ((2, x) :: st) G M Q := go_aload_n hq26 k26_35 rfl
theorem k26_36 : cm_at ins_26 36 = some (.bipush 40, 2) := by decide +kernel
theorem g26_36 : Go 26 36 ls st G M Q ↔ Go 26 38 ls ((0, 40) :: st) G M Q := go_bipush hq26 k26_36 (by decide)
theorem k26_38 : cm_at ins_26 38 = some (.newarray .int, 2) := by decide +kernel
theorem g26_38 : Go 26 38 ls ((0, x) :: st) G M Q ↔ (0 ≤ x ∧ x ≤ 1000) ∧ Go 26 40 ls ((2, (G.1.length : Int)) :: st) (G.1 ++ [(1, x.toNat)], G.2) (cm_row M (G.1.length : Int) 0) Q := go_newarr hq26 k26_38 rfl
theorem k26_40 : cm_at ins_26 40 = some (.putfield 24, 3) := by decide +kernel
theorem g26_40 : Go 26 40 ls ((2, v) :: (2, k) :: st) G M Q ↔ (cm_sh G k = some (0, 1) ∧ 0 ≤ v) ∧ Go 26 43 ls st (G.1, cm_up G.2 k 4 v) M Q := go_put2 hq26 k26_40 ff1_24 rfl ⟨rfl, rfl⟩
theorem k26_43 : cm_at ins_26 43 = some (.getstatic 27, 3) := by decide +kernel
theorem g26_43 : Go 26 43 ls st G M Q ↔ Go 26 46 ls ((2, -3) :: st) G M Q := go_gets (nst := 1) hq26 k26_43 (by decide +kernel)
theorem k26_46 : cm_at ins_26 46 = some (.iconst 0, 1) := by decide +kernel
theorem g26_46 : Go 26 46 ls st G M Q ↔ Go 26 47 ls ((0, 0) :: st) G M Q := go_iconst hq26 k26_46
theorem k26_47 : cm_at ins_26 47 = some (.aload_n 0, 1) := by decide +kernel
theorem g26_47 : Go 26 47 [some (2, x)] st G M Q ↔ Go 26 48 [some (2, x)] ((2, x) :: st) G M Q := go_aload_n hq26 k26_47 rfl
theorem k26_48 : cm_at ins_26 48 = some (.getfield 9, 3) := by decide +kernel
theorem g26_48 : Go 26 48 ls ((2, k) :: st) G M Q ↔ cm_sh G k = some (0, 1) ∧ Go 26 51 ls ((2, G.2 k 0) :: st) G M Q := go_get2 hq26 k26_48 ff1_9 rfl
theorem k26_51 : cm_at ins_26 51 = some (.iconst 0, 1) := by decide +kernel
theorem g26_51 : Go 26 51 ls st G M Q ↔ Go 26 52 ls ((0, 0) :: st) G M Q := go_iconst hq26 k26_51
theorem k26_52 : cm_at ins_26 52 = some (.iconst 3, 1) := by decide +kernel
theorem g26_52 : Go 26 52 ls st G M Q ↔ Go 26 53 ls ((0, 3) :: st) G M Q := go_iconst hq26 k26_52
theorem k26_53 : cm_at ins_26 53 = some (.invokestatic 30, 3) := by decide +kernel
theorem g26_53 : Go 26 53 ls ((0, v) :: (0, w) :: (2, z) :: (0, y) :: (2, x) :: st) G M Q ↔ (0 ≤ z ∧ 1 ≤ v ∧ 0 ≤ w ∧ 0 ≤ y ∧ (0 ≤ x ∨ x = -3) ∧ w + v ≤ cm_al 1 G M z ∧ y + v ≤ cm_al 1 G M x ∧ cm_sum st ≤ 8) ∧ Go 26 56 ls st G (cm_cpy M x y z w v) Q := go_copy hq26 k26_53 fc1_30
theorem k26_56 : cm_at ins_26 56 = some (.return_, 1) := by decide +kernel
theorem g26_56 : Go 26 56 ls [] G M Q ↔ Q none G M := go_return hq26 k26_56 rfl
theorem k27_0 : cm_at ins_27 0 = some (.aload_n 1, 1) := by decide +kernel
theorem g27_0 : Go 27 0 [l0, some (2, x)] st G M Q ↔ Go 27 1 [l0, some (2, x)] ((2, x) :: st) G M Q := go_aload_n hq27 k27_0 rfl
theorem k27_1 : cm_at ins_27 1 = some (.getfield 9, 3) := by decide +kernel
theorem g27_1 : Go 27 1 ls ((2, k) :: st) G M Q ↔ cm_sh G k = some (0, 1) ∧ Go 27 4 ls ((2, G.2 k 0) :: st) G M Q := go_get2 hq27 k27_1 ff1_9 rfl
theorem k27_4 : cm_at ins_27 4 = some (.iconst 0, 1) := by decide +kernel
theorem g27_4 : Go 27 4 ls st G M Q ↔ Go 27 5 ls ((0, 0) :: st) G M Q := go_iconst hq27 k27_4
theorem k27_5 : cm_at ins_27 5 = some (.aload_n 0, 1) := by decide +kernel
theorem g27_5 : Go 27 5 [some (2, x), l1] st G M Q ↔ Go 27 6 [some (2, x), l1] ((2, x) :: st) G M Q := go_aload_n hq27 k27_5 rfl
theorem k27_6 : cm_at ins_27 6 = some (.getfield 9, 3) := by decide +kernel
theorem g27_6 : Go 27 6 ls ((2, k) :: st) G M Q ↔ cm_sh G k = some (0, 1) ∧ Go 27 9 ls ((2, G.2 k 0) :: st) G M Q := go_get2 hq27 k27_6 ff1_9 rfl
theorem k27_9 : cm_at ins_27 9 = some (.iconst 0, 1) := by decide +kernel
theorem g27_9 : Go 27 9 ls st G M Q ↔ Go 27 10 ls ((0, 0) :: st) G M Q := go_iconst hq27 k27_9
theorem k27_10 : cm_at ins_27 10 = some (.iconst 3, 1) := by decide +kernel
theorem g27_10 : Go 27 10 ls st G M Q ↔ Go 27 11 ls ((0, 3) :: st) G M Q := go_iconst hq27 k27_10
theorem k27_11 : cm_at ins_27 11 = some (.invokestatic 30, 3) := by decide +kernel
theorem g27_11 : Go 27 11 ls ((0, v) :: (0, w) :: (2, z) :: (0, y) :: (2, x) :: st) G M Q ↔ (0 ≤ z ∧ 1 ≤ v ∧ 0 ≤ w ∧ 0 ≤ y ∧ (0 ≤ x ∨ x = -3) ∧ w + v ≤ cm_al 1 G M z ∧ y + v ≤ cm_al 1 G M x ∧ cm_sum st ≤ 8) ∧ Go 27 14 ls st G (cm_cpy M x y z w v) Q := go_copy hq27 k27_11 fc1_30
theorem k27_14 : cm_at ins_27 14 = some (.aload_n 0, 1) := by decide +kernel
theorem g27_14 : Go 27 14 [some (2, x), l1] st G M Q ↔ Go 27 15 [some (2, x), l1] ((2, x) :: st) G M Q := go_aload_n hq27 k27_14 rfl
theorem k27_15 : cm_at ins_27 15 = some (.iconst 0, 1) := by decide +kernel
theorem g27_15 : Go 27 15 ls st G M Q ↔ Go 27 16 ls ((0, 0) :: st) G M Q := go_iconst hq27 k27_15
theorem k27_16 : cm_at ins_27 16 = some (.putfield 36, 3) := by decide +kernel
theorem g27_16 : Go 27 16 ls ((0, v) :: (2, k) :: st) G M Q ↔ cm_sh G k = some (0, 1) ∧ Go 27 19 ls st G (cm_up M k 5 v) Q := go_put0 hq27 k27_16 ff1_36 rfl rfl
theorem k27_19 : cm_at ins_27 19 = some (.aload_n 0, 1) := by decide +kernel
theorem g27_19 : Go 27 19 [some (2, x), l1] st G M Q ↔ Go 27 20 [some (2, x), l1] ((2, x) :: st) G M Q := go_aload_n hq27 k27_19 rfl
theorem k27_20 : cm_at ins_27 20 = some (.aload_n 1, 1) := by decide +kernel
theorem g27_20 : Go 27 20 [l0, some (2, x)] st G M Q ↔ Go 27 21 [l0, some (2, x)] ((2, x) :: st) G M Q := go_aload_n hq27 k27_20 rfl
theorem k27_21 : cm_at ins_27 21 = some (.invokevirtual 40, 3) := by decide +kernel
theorem c27_21 (h8 : cm_sum st ≤ 8) (hk : cm_sh G k = some (0, 1)) (K : Go 28 0 [some (2, k), some (2, y), none] [] G M (fun r G' M' => Go 27 24 ls (r.toList ++ st) G' M' Q)) : Go 27 21 ls ((2, y) :: (2, k) :: st) G M Q := go_callV hq27 k27_21 fc1_40 hq28 rfl (as := [(2, y), (2, k)]) rfl rfl (Nat.le_of_ble_eq_true rfl) rfl h8 hk K
theorem k27_24 : cm_at ins_27 24 = some (.return_, 1) := by decide +kernel
theorem g27_24 : Go 27 24 ls [] G M Q ↔ Q none G M := go_return hq27 k27_24 rfl
theorem k28_0 : cm_at ins_28 0 = some (.iconst 0, 1) := by decide +kernel
theorem g28_0 : Go 28 0 ls st G M Q ↔ Go 28 1 ls ((0, 0) :: st) G M Q := go_iconst hq28 k28_0
theorem k28_1 : cm_at ins_28 1 = some (.istore_n 2, 1) := by decide +kernel
theorem g28_1 : Go 28 1 [l0, l1, l2] ((0, x) :: st) G M Q ↔ Go 28 2 [l0, l1, some (0, x)] st G M Q := go_istore_n hq28 k28_1 ⟨Nat.le_of_ble_eq_true rfl, rfl, by decide⟩
theorem k28_2 : cm_at ins_28 2 = some (.iload_n 2, 1) := by decide +kernel
theorem g28_2 : Go 28 2 [l0, l1, some (0, x)] st G M Q ↔ Go 28 3 [l0, l1, some (0, x)] ((0, x) :: st) G M Q := go_iload_n hq28 k28_2 rfl
theorem k28_3 : cm_at ins_28 3 = some (.aload_n 1, 1) := by decide +kernel
theorem g28_3 : Go 28 3 [l0, some (2, x), l2] st G M Q ↔ Go 28 4 [l0, some (2, x), l2] ((2, x) :: st) G M Q := go_aload_n hq28 k28_3 rfl
theorem k28_4 : cm_at ins_28 4 = some (.getfield 36, 3) := by decide +kernel
theorem g28_4 : Go 28 4 ls ((2, k) :: st) G M Q ↔ cm_sh G k = some (0, 1) ∧ Go 28 7 ls ((0, M k 5) :: st) G M Q := go_get0 hq28 k28_4 ff1_36 rfl
theorem k28_7 : cm_at ins_28 7 = some (.if_icmp .ge 37, 3) := by decide +kernel
theorem g28_7 : Go 28 7 ls ((0, b) :: (0, a) :: st) G M Q ↔ (cm_in a ∧ cm_in b) ∧ (¬ a < b → Go 28 44 ls st G M Q) ∧ (a < b → Go 28 10 ls st G M Q) := go_icmp_ge hq28 k28_7 (by decide)
theorem k28_10 : cm_at ins_28 10 = some (.aload_n 0, 1) := by decide +kernel
theorem g28_10 : Go 28 10 [some (2, x), l1, l2] st G M Q ↔ Go 28 11 [some (2, x), l1, l2] ((2, x) :: st) G M Q := go_aload_n hq28 k28_10 rfl
theorem k28_11 : cm_at ins_28 11 = some (.aload_n 1, 1) := by decide +kernel
theorem g28_11 : Go 28 11 [l0, some (2, x), l2] st G M Q ↔ Go 28 12 [l0, some (2, x), l2] ((2, x) :: st) G M Q := go_aload_n hq28 k28_11 rfl
theorem k28_12 : cm_at ins_28 12 = some (.getfield 15, 3) := by decide +kernel
theorem g28_12 : Go 28 12 ls ((2, k) :: st) G M Q ↔ cm_sh G k = some (0, 1) ∧ Go 28 15 ls ((2, G.2 k 1) :: st) G M Q := go_get2 hq28 k28_12 ff1_15 rfl
theorem k28_15 : cm_at ins_28 15 = some (.iload_n 2, 1) := by decide +kernel
theorem g28_15 : Go 28 15 [l0, l1, some (0, x)] st G M Q ↔ Go 28 16 [l0, l1, some (0, x)] ((0, x) :: st) G M Q := go_iload_n hq28 k28_15 rfl
theorem k28_16 : cm_at ins_28 16 = some (.iaload, 1) := by decide +kernel
theorem g28_16 : Go 28 16 ls ((0, i) :: (2, k) :: st) G M Q ↔ (0 ≤ i ∧ i < cm_al 1 G M k) ∧ Go 28 17 ls ((0, M k i) :: st) G M Q := go_iald hq28 k28_16
theorem k28_17 : cm_at ins_28 17 = some (.aload_n 1, 1) := by decide +kernel
theorem g28_17 : Go 28 17 [l0, some (2, x), l2] st G M Q ↔ Go 28 18 [l0, some (2, x), l2] ((2, x) :: st) G M Q := go_aload_n hq28 k28_17 rfl
theorem k28_18 : cm_at ins_28 18 = some (.getfield 18, 3) := by decide +kernel
theorem g28_18 : Go 28 18 ls ((2, k) :: st) G M Q ↔ cm_sh G k = some (0, 1) ∧ Go 28 21 ls ((2, G.2 k 2) :: st) G M Q := go_get2 hq28 k28_18 ff1_18 rfl
theorem k28_21 : cm_at ins_28 21 = some (.iload_n 2, 1) := by decide +kernel
theorem g28_21 : Go 28 21 [l0, l1, some (0, x)] st G M Q ↔ Go 28 22 [l0, l1, some (0, x)] ((0, x) :: st) G M Q := go_iload_n hq28 k28_21 rfl
theorem k28_22 : cm_at ins_28 22 = some (.iaload, 1) := by decide +kernel
theorem g28_22 : Go 28 22 ls ((0, i) :: (2, k) :: st) G M Q ↔ (0 ≤ i ∧ i < cm_al 1 G M k) ∧ Go 28 23 ls ((0, M k i) :: st) G M Q := go_iald hq28 k28_22
theorem k28_23 : cm_at ins_28 23 = some (.aload_n 1, 1) := by decide +kernel
theorem g28_23 : Go 28 23 [l0, some (2, x), l2] st G M Q ↔ Go 28 24 [l0, some (2, x), l2] ((2, x) :: st) G M Q := go_aload_n hq28 k28_23 rfl
theorem k28_24 : cm_at ins_28 24 = some (.getfield 21, 3) := by decide +kernel
theorem g28_24 : Go 28 24 ls ((2, k) :: st) G M Q ↔ cm_sh G k = some (0, 1) ∧ Go 28 27 ls ((2, G.2 k 3) :: st) G M Q := go_get2 hq28 k28_24 ff1_21 rfl
theorem k28_27 : cm_at ins_28 27 = some (.iload_n 2, 1) := by decide +kernel
theorem g28_27 : Go 28 27 [l0, l1, some (0, x)] st G M Q ↔ Go 28 28 [l0, l1, some (0, x)] ((0, x) :: st) G M Q := go_iload_n hq28 k28_27 rfl
theorem k28_28 : cm_at ins_28 28 = some (.iaload, 1) := by decide +kernel
theorem g28_28 : Go 28 28 ls ((0, i) :: (2, k) :: st) G M Q ↔ (0 ≤ i ∧ i < cm_al 1 G M k) ∧ Go 28 29 ls ((0, M k i) :: st) G M Q := go_iald hq28 k28_28
theorem k28_29 : cm_at ins_28 29 = some (.aload_n 1, 1) := by decide +kernel
theorem g28_29 : Go 28 29 [l0, some (2, x), l2] st G M Q ↔ Go 28 30 [l0, some (2, x), l2] ((2, x) :: st) G M Q := go_aload_n hq28 k28_29 rfl
theorem k28_30 : cm_at ins_28 30 = some (.getfield 24, 3) := by decide +kernel
theorem g28_30 : Go 28 30 ls ((2, k) :: st) G M Q ↔ cm_sh G k = some (0, 1) ∧ Go 28 33 ls ((2, G.2 k 4) :: st) G M Q := go_get2 hq28 k28_30 ff1_24 rfl
theorem k28_33 : cm_at ins_28 33 = some (.iload_n 2, 1) := by decide +kernel
theorem g28_33 : Go 28 33 [l0, l1, some (0, x)] st G M Q ↔ Go 28 34 [l0, l1, some (0, x)] ((0, x) :: st) G M Q := go_iload_n hq28 k28_33 rfl
theorem k28_34 : cm_at ins_28 34 = some (.iaload, 1) := by decide +kernel
theorem g28_34 : Go 28 34 ls ((0, i) :: (2, k) :: st) G M Q ↔ (0 ≤ i ∧ i < cm_al 1 G M k) ∧ Go 28 35 ls ((0, M k i) :: st) G M Q := go_iald hq28 k28_34
theorem k28_35 : cm_at ins_28 35 = some (.invokevirtual 44, 3) := by decide +kernel
theorem c28_35 (h8 : cm_sum st ≤ 8) (hk : cm_sh G k = some (0, 1)) (K : Go 29 0 [some (2, k), some (0, y), some (0, z), some (0, u), some (0, w)] [] G M (fun r G' M' => Go 28 38 ls (r.toList ++ st) G' M' Q)) : Go 28 35 ls ((0, w) :: (0, u) :: (0, z) :: (0, y) :: (2, k) :: st) G M Q := go_callV hq28 k28_35 fc1_44 hq29 rfl (as := [(0, w), (0, u), (0, z), (0, y), (2, k)]) rfl rfl (Nat.le_of_ble_eq_true rfl) rfl h8 hk K
theorem k28_38 : cm_at ins_28 38 = some (.iinc 2 1, 3) := by decide +kernel
theorem g28_38 : Go 28 38 [l0, l1, some (0, x)] st G M Q ↔ Go 28 41 [l0, l1, some (0, x + 1)] st G M Q := go_iinc hq28 k28_38 rfl ⟨rfl, by decide⟩
theorem k28_41 : cm_at ins_28 41 = some (.goto (-39), 3) := by decide +kernel
theorem g28_41 : Go 28 41 ls st G M Q ↔ Go 28 2 ls st G M Q := go_goto hq28 k28_41 (by decide)
theorem k28_44 : cm_at ins_28 44 = some (.return_, 1) := by decide +kernel
theorem g28_44 : Go 28 44 ls [] G M Q ↔ Q none G M := go_return hq28 k28_44 rfl
theorem k29_0 : cm_at ins_29 0 = some (.aload_n 0, 1) := by decide +kernel
theorem g29_0 : Go 29 0 [some (2, x), l1, l2, l3, l4] st G M Q ↔ Go 29 1 [some (2, x), l1, l2, l3, l4] ((2, x) :: st) G M Q := go_aload_n hq29 k29_0 rfl
theorem k29_1 : cm_at ins_29 1 = some (.getfield 36, 3) := by decide +kernel
theorem g29_1 : Go 29 1 ls ((2, k) :: st) G M Q ↔ cm_sh G k = some (0, 1) ∧ Go 29 4 ls ((0, M k 5) :: st) G M Q := go_get0 hq29 k29_1 ff1_36 rfl
theorem k29_4 : cm_at ins_29 4 = some (.bipush 40, 2) := by decide +kernel
theorem g29_4 : Go 29 4 ls st G M Q ↔ Go 29 6 ls ((0, 40) :: st) G M Q := go_bipush hq29 k29_4 (by decide)
theorem k29_6 : cm_at ins_29 6 = some (.if_icmp .ge 54, 3) := by decide +kernel
theorem g29_6 : Go 29 6 ls ((0, b) :: (0, a) :: st) G M Q ↔ (cm_in a ∧ cm_in b) ∧ (¬ a < b → Go 29 60 ls st G M Q) ∧ (a < b → Go 29 9 ls st G M Q) := go_icmp_ge hq29 k29_6 (by decide)
theorem k29_9 : cm_at ins_29 9 = some (.aload_n 0, 1) := by decide +kernel
theorem g29_9 : Go 29 9 [some (2, x), l1, l2, l3, l4] st G M Q ↔ Go 29 10 [some (2, x), l1, l2, l3, l4] ((2, x) :: st) G M Q := go_aload_n hq29 k29_9 rfl
theorem k29_10 : cm_at ins_29 10 = some (.getfield 15, 3) := by decide +kernel
theorem g29_10 : Go 29 10 ls ((2, k) :: st) G M Q ↔ cm_sh G k = some (0, 1) ∧ Go 29 13 ls ((2, G.2 k 1) :: st) G M Q := go_get2 hq29 k29_10 ff1_15 rfl
theorem k29_13 : cm_at ins_29 13 = some (.aload_n 0, 1) := by decide +kernel
theorem g29_13 : Go 29 13 [some (2, x), l1, l2, l3, l4] st G M Q ↔ Go 29 14 [some (2, x), l1, l2, l3, l4] ((2, x) :: st) G M Q := go_aload_n hq29 k29_13 rfl
theorem k29_14 : cm_at ins_29 14 = some (.getfield 36, 3) := by decide +kernel
theorem g29_14 : Go 29 14 ls ((2, k) :: st) G M Q ↔ cm_sh G k = some (0, 1) ∧ Go 29 17 ls ((0, M k 5) :: st) G M Q := go_get0 hq29 k29_14 ff1_36 rfl
theorem k29_17 : cm_at ins_29 17 = some (.iload_n 1, 1) := by decide +kernel
theorem g29_17 : Go 29 17 [l0, some (0, x), l2, l3, l4] st G M Q ↔ Go 29 18 [l0, some (0, x), l2, l3, l4] ((0, x) :: st) G M Q := go_iload_n hq29 k29_17 rfl
theorem k29_18 : cm_at ins_29 18 = some (.iastore, 1) := by decide +kernel
theorem g29_18 : Go 29 18 ls ((0, v) :: (0, i) :: (2, k) :: st) G M Q ↔ (0 ≤ k ∧ 0 ≤ i ∧ i < cm_al 1 G M k) ∧ Go 29 19 ls st G (cm_up M k i v) Q := go_iast hq29 k29_18
theorem k29_19 : cm_at ins_29 19 = some (.aload_n 0, 1) := by decide +kernel
theorem g29_19 : Go 29 19 [some (2, x), l1, l2, l3, l4] st G M Q ↔ Go 29 20 [some (2, x), l1, l2, l3, l4] ((2, x) :: st) G M Q := go_aload_n hq29 k29_19 rfl
theorem k29_20 : cm_at ins_29 20 = some (.getfield 18, 3) := by decide +kernel
theorem g29_20 : Go 29 20 ls ((2, k) :: st) G M Q ↔ cm_sh G k = some (0, 1) ∧ Go 29 23 ls ((2, G.2 k 2) :: st) G M Q := go_get2 hq29 k29_20 ff1_18 rfl
theorem k29_23 : cm_at ins_29 23 = some (.aload_n 0, 1) := by decide +kernel
theorem g29_23 : Go 29 23 [some (2, x), l1, l2, l3, l4] st G M Q ↔ Go 29 24 [some (2, x), l1, l2, l3, l4] ((2, x) :: st) G M Q := go_aload_n hq29 k29_23 rfl
theorem k29_24 : cm_at ins_29 24 = some (.getfield 36, 3) := by decide +kernel
theorem g29_24 : Go 29 24 ls ((2, k) :: st) G M Q ↔ cm_sh G k = some (0, 1) ∧ Go 29 27 ls ((0, M k 5) :: st) G M Q := go_get0 hq29 k29_24 ff1_36 rfl
theorem k29_27 : cm_at ins_29 27 = some (.iload_n 2, 1) := by decide +kernel
theorem g29_27 : Go 29 27 [l0, l1, some (0, x), l3, l4] st G M Q ↔ Go 29 28 [l0, l1, some (0, x), l3, l4] ((0, x) :: st) G M Q := go_iload_n hq29 k29_27 rfl
theorem k29_28 : cm_at ins_29 28 = some (.iastore, 1) := by decide +kernel
theorem g29_28 : Go 29 28 ls ((0, v) :: (0, i) :: (2, k) :: st) G M Q ↔ (0 ≤ k ∧ 0 ≤ i ∧ i < cm_al 1 G M k) ∧ Go 29 29 ls st G (cm_up M k i v) Q := go_iast hq29 k29_28
theorem k29_29 : cm_at ins_29 29 = some (.aload_n 0, 1) := by decide +kernel
theorem g29_29 : Go 29 29 [some (2, x), l1, l2, l3, l4] st G M Q ↔ Go 29 30 [some (2, x), l1, l2, l3, l4] ((2, x) :: st) G M Q := go_aload_n hq29 k29_29 rfl
theorem k29_30 : cm_at ins_29 30 = some (.getfield 21, 3) := by decide +kernel
theorem g29_30 : Go 29 30 ls ((2, k) :: st) G M Q ↔ cm_sh G k = some (0, 1) ∧ Go 29 33 ls ((2, G.2 k 3) :: st) G M Q := go_get2 hq29 k29_30 ff1_21 rfl
theorem k29_33 : cm_at ins_29 33 = some (.aload_n 0, 1) := by decide +kernel
theorem g29_33 : Go 29 33 [some (2, x), l1, l2, l3, l4] st G M Q ↔ Go 29 34 [some (2, x), l1, l2, l3, l4] ((2, x) :: st) G M Q := go_aload_n hq29 k29_33 rfl
theorem k29_34 : cm_at ins_29 34 = some (.getfield 36, 3) := by decide +kernel
theorem g29_34 : Go 29 34 ls ((2, k) :: st) G M Q ↔ cm_sh G k = some (0, 1) ∧ Go 29 37 ls ((0, M k 5) :: st) G M Q := go_get0 hq29 k29_34 ff1_36 rfl
theorem k29_37 : cm_at ins_29 37 = some (.iload_n 3, 1) := by decide +kernel
theorem g29_37 : Go 29 37 [l0, l1, l2, some (0, x), l4] st G M Q ↔ Go 29 38 [l0, l1, l2, some (0, x), l4] ((0, x) :: st) G M Q := go_iload_n hq29 k29_37 rfl
theorem k29_38 : cm_at ins_29 38 = some (.iastore, 1) := by decide +kernel
theorem g29_38 : Go 29 38 ls ((0, v) :: (0, i) :: (2, k) :: st) G M Q ↔ (0 ≤ k ∧ 0 ≤ i ∧ i < cm_al 1 G M k) ∧ Go 29 39 ls st G (cm_up M k i v) Q := go_iast hq29 k29_38
theorem k29_39 : cm_at ins_29 39 = some (.aload_n 0, 1) := by decide +kernel
theorem g29_39 : Go 29 39 [some (2, x), l1, l2, l3, l4] st G M Q ↔ Go 29 40 [some (2, x), l1, l2, l3, l4] ((2, x) :: st) G M Q := go_aload_n hq29 k29_39 rfl
theorem k29_40 : cm_at ins_29 40 = some (.getfield 24, 3) := by decide +kernel
theorem g29_40 : Go 29 40 ls ((2, k) :: st) G M Q ↔ cm_sh G k = some (0, 1) ∧ Go 29 43 ls ((2, G.2 k 4) :: st) G M Q := go_get2 hq29 k29_40 ff1_24 rfl
theorem k29_43 : cm_at ins_29 43 = some (.aload_n 0, 1) := by decide +kernel
theorem g29_43 : Go 29 43 [some (2, x), l1, l2, l3, l4] st G M Q ↔ Go 29 44 [some (2, x), l1, l2, l3, l4] ((2, x) :: st) G M Q := go_aload_n hq29 k29_43 rfl
theorem k29_44 : cm_at ins_29 44 = some (.getfield 36, 3) := by decide +kernel
theorem g29_44 : Go 29 44 ls ((2, k) :: st) G M Q ↔ cm_sh G k = some (0, 1) ∧ Go 29 47 ls ((0, M k 5) :: st) G M Q := go_get0 hq29 k29_44 ff1_36 rfl
theorem k29_47 : cm_at ins_29 47 = some (.iload 4, 2) := by decide +kernel
theorem g29_47 : Go 29 47 [l0, l1, l2, l3, some (0, x)] st G M Q ↔ Go 29 49 [l0, l1, l2, l3, some (0, x)] ((0, x) :: st) G M Q := go_iload hq29 k29_47 rfl
theorem k29_49 : cm_at ins_29 49 = some (.iastore, 1) := by decide +kernel
theorem g29_49 : Go 29 49 ls ((0, v) :: (0, i) :: (2, k) :: st) G M Q ↔ (0 ≤ k ∧ 0 ≤ i ∧ i < cm_al 1 G M k) ∧ Go 29 50 ls st G (cm_up M k i v) Q := go_iast hq29 k29_49
theorem k29_50 : cm_at ins_29 50 = some (.aload_n 0, 1) := by decide +kernel
theorem g29_50 : Go 29 50 [some (2, x), l1, l2, l3, l4] st G M Q ↔ Go 29 51 [some (2, x), l1, l2, l3, l4] ((2, x) :: st) G M Q := go_aload_n hq29 k29_50 rfl
theorem k29_51 : cm_at ins_29 51 = some (.dup, 1) := by decide +kernel
theorem g29_51b : Go 29 51 ls ((0, x) :: st) G M Q ↔ Go 29 52 ls ((0, x) :: (0, x) :: st) G M Q := go_dup0 hq29 k29_51
theorem g29_51 : Go 29 51 ls ((2, x) :: st) G M Q ↔ Go 29 52 ls ((2, x) :: (2, x) :: st) G M Q := go_dup2 hq29 k29_51
theorem k29_52 : cm_at ins_29 52 = some (.getfield 36, 3) := by decide +kernel
theorem g29_52 : Go 29 52 ls ((2, k) :: st) G M Q ↔ cm_sh G k = some (0, 1) ∧ Go 29 55 ls ((0, M k 5) :: st) G M Q := go_get0 hq29 k29_52 ff1_36 rfl
theorem k29_55 : cm_at ins_29 55 = some (.iconst 1, 1) := by decide +kernel
theorem g29_55 : Go 29 55 ls st G M Q ↔ Go 29 56 ls ((0, 1) :: st) G M Q := go_iconst hq29 k29_55
theorem k29_56 : cm_at ins_29 56 = some (.iadd, 1) := by decide +kernel
theorem g29_56 : Go 29 56 ls ((0, b) :: (0, a) :: st) G M Q ↔ Go 29 57 ls ((0, a + b) :: st) G M Q := go_iadd hq29 k29_56
theorem k29_57 : cm_at ins_29 57 = some (.putfield 36, 3) := by decide +kernel
theorem g29_57 : Go 29 57 ls ((0, v) :: (2, k) :: st) G M Q ↔ cm_sh G k = some (0, 1) ∧ Go 29 60 ls st G (cm_up M k 5 v) Q := go_put0 hq29 k29_57 ff1_36 rfl rfl
theorem k29_60 : cm_at ins_29 60 = some (.return_, 1) := by decide +kernel
theorem g29_60 : Go 29 60 ls [] G M Q ↔ Q none G M := go_return hq29 k29_60 rfl
theorem k30_0 : cm_at ins_30 0 = some (.iload_n 1, 1) := by decide +kernel
theorem g30_0 : Go 30 0 [l0, some (0, x)] st G M Q ↔ Go 30 1 [l0, some (0, x)] ((0, x) :: st) G M Q := go_iload_n hq30 k30_0 rfl
theorem k30_1 : cm_at ins_30 1 = some (.ifCond .lt 15, 3) := by decide +kernel
theorem g30_1 : Go 30 1 ls ((0, a) :: st) G M Q ↔ cm_in a ∧ (a < 0 → Go 30 16 ls st G M Q) ∧ (¬ a < 0 → Go 30 4 ls st G M Q) := go_if_lt hq30 k30_1 (by decide)
theorem k30_4 : cm_at ins_30 4 = some (.iload_n 1, 1) := by decide +kernel
theorem g30_4 : Go 30 4 [l0, some (0, x)] st G M Q ↔ Go 30 5 [l0, some (0, x)] ((0, x) :: st) G M Q := go_iload_n hq30 k30_4 rfl
theorem k30_5 : cm_at ins_30 5 = some (.aload_n 0, 1) := by decide +kernel
theorem g30_5 : Go 30 5 [some (2, x), l1] st G M Q ↔ Go 30 6 [some (2, x), l1] ((2, x) :: st) G M Q := go_aload_n hq30 k30_5 rfl
theorem k30_6 : cm_at ins_30 6 = some (.getfield 36, 3) := by decide +kernel
theorem g30_6 : Go 30 6 ls ((2, k) :: st) G M Q ↔ cm_sh G k = some (0, 1) ∧ Go 30 9 ls ((0, M k 5) :: st) G M Q := go_get0 hq30 k30_6 ff1_36 rfl
theorem k30_9 : cm_at ins_30 9 = some (.if_icmp .ge 7, 3) := by decide +kernel
theorem g30_9 : Go 30 9 ls ((0, b) :: (0, a) :: st) G M Q ↔ (cm_in a ∧ cm_in b) ∧ (¬ a < b → Go 30 16 ls st G M Q) ∧ (a < b → Go 30 12 ls st G M Q) := go_icmp_ge hq30 k30_9 (by decide)
theorem k30_12 : cm_at ins_30 12 = some (.iconst 1, 1) := by decide +kernel
theorem g30_12 : Go 30 12 ls st G M Q ↔ Go 30 13 ls ((0, 1) :: st) G M Q := go_iconst hq30 k30_12
theorem k30_13 : cm_at ins_30 13 = some (.goto 4, 3) := by decide +kernel
theorem g30_13 : Go 30 13 ls st G M Q ↔ Go 30 17 ls st G M Q := go_goto hq30 k30_13 (by decide)
theorem k30_16 : cm_at ins_30 16 = some (.iconst 0, 1) := by decide +kernel
theorem g30_16 : Go 30 16 ls st G M Q ↔ Go 30 17 ls ((0, 0) :: st) G M Q := go_iconst hq30 k30_16
theorem k30_17 : cm_at ins_30 17 = some (.ireturn, 1) := by decide +kernel
theorem g30_17 : Go 30 17 ls [(0, v)] G M Q ↔ (v = 0 ∨ v = 1) ∧ Q (some (0, v)) G M := go_zreturn hq30 k30_17 rfl
theorem k31_0 : cm_at ins_31 0 = some (.aload_n 0, 1) := by decide +kernel
theorem g31_0 : Go 31 0 [some (2, x), l1] st G M Q ↔ Go 31 1 [some (2, x), l1] ((2, x) :: st) G M Q := go_aload_n hq31 k31_0 rfl
theorem k31_1 : cm_at ins_31 1 = some (.getfield 15, 3) := by decide +kernel
theorem g31_1 : Go 31 1 ls ((2, k) :: st) G M Q ↔ cm_sh G k = some (0, 1) ∧ Go 31 4 ls ((2, G.2 k 1) :: st) G M Q := go_get2 hq31 k31_1 ff1_15 rfl
theorem k31_4 : cm_at ins_31 4 = some (.iload_n 1, 1) := by decide +kernel
theorem g31_4 : Go 31 4 [l0, some (0, x)] st G M Q ↔ Go 31 5 [l0, some (0, x)] ((0, x) :: st) G M Q := go_iload_n hq31 k31_4 rfl
theorem k31_5 : cm_at ins_31 5 = some (.iaload, 1) := by decide +kernel
theorem g31_5 : Go 31 5 ls ((0, i) :: (2, k) :: st) G M Q ↔ (0 ≤ i ∧ i < cm_al 1 G M k) ∧ Go 31 6 ls ((0, M k i) :: st) G M Q := go_iald hq31 k31_5
theorem k31_6 : cm_at ins_31 6 = some (.lookupswitch 35 #[(1, 26), (2, 28)], 26) := by decide +kernel
theorem k31_32 : cm_at ins_31 32 = some (.iconst 2, 1) := by decide +kernel
theorem g31_32 : Go 31 32 ls st G M Q ↔ Go 31 33 ls ((0, 2) :: st) G M Q := go_iconst hq31 k31_32
theorem k31_33 : cm_at ins_31 33 = some (.ireturn, 1) := by decide +kernel
theorem g31_33 : Go 31 33 ls [(0, v)] G M Q ↔ Q (some (0, v)) G M := go_ireturn hq31 k31_33 rfl
theorem k31_34 : cm_at ins_31 34 = some (.aload_n 0, 1) := by decide +kernel
theorem g31_34 : Go 31 34 [some (2, x), l1] st G M Q ↔ Go 31 35 [some (2, x), l1] ((2, x) :: st) G M Q := go_aload_n hq31 k31_34 rfl
theorem k31_35 : cm_at ins_31 35 = some (.getfield 9, 3) := by decide +kernel
theorem g31_35 : Go 31 35 ls ((2, k) :: st) G M Q ↔ cm_sh G k = some (0, 1) ∧ Go 31 38 ls ((2, G.2 k 0) :: st) G M Q := go_get2 hq31 k31_35 ff1_9 rfl
theorem k31_38 : cm_at ins_31 38 = some (.iconst 2, 1) := by decide +kernel
theorem g31_38 : Go 31 38 ls st G M Q ↔ Go 31 39 ls ((0, 2) :: st) G M Q := go_iconst hq31 k31_38
theorem k31_39 : cm_at ins_31 39 = some (.iaload, 1) := by decide +kernel
theorem g31_39 : Go 31 39 ls ((0, i) :: (2, k) :: st) G M Q ↔ (0 ≤ i ∧ i < cm_al 1 G M k) ∧ Go 31 40 ls ((0, M k i) :: st) G M Q := go_iald hq31 k31_39
theorem k31_40 : cm_at ins_31 40 = some (.ireturn, 1) := by decide +kernel
theorem g31_40 : Go 31 40 ls [(0, v)] G M Q ↔ Q (some (0, v)) G M := go_ireturn hq31 k31_40 rfl
theorem k31_41 : cm_at ins_31 41 = some (.iconst 1, 1) := by decide +kernel
theorem g31_41 : Go 31 41 ls st G M Q ↔ Go 31 42 ls ((0, 1) :: st) G M Q := go_iconst hq31 k31_41
theorem k31_42 : cm_at ins_31 42 = some (.ireturn, 1) := by decide +kernel
theorem g31_42 : Go 31 42 ls [(0, v)] G M Q ↔ Q (some (0, v)) G M := go_ireturn hq31 k31_42 rfl
theorem k32_0 : cm_at ins_32 0 = some (.iload_n 1, 1) := by decide +kernel
theorem g32_0 : Go 32 0 [l0, some (0, x), l2, l3] st G M Q ↔ Go 32 1 [l0, some (0, x), l2, l3] ((0, x) :: st) G M Q := go_iload_n hq32 k32_0 rfl
theorem k32_1 : cm_at ins_32 1 = some (.istore_n 3, 1) := by decide +kernel
theorem g32_1 : Go 32 1 [l0, l1, l2, l3] ((0, x) :: st) G M Q ↔ Go 32 2 [l0, l1, l2, some (0, x)] st G M Q := go_istore_n hq32 k32_1 ⟨Nat.le_of_ble_eq_true rfl, rfl, by decide⟩
theorem k32_2 : cm_at ins_32 2 = some (.iload_n 3, 1) := by decide +kernel
theorem g32_2 : Go 32 2 [l0, l1, l2, some (0, x)] st G M Q ↔ Go 32 3 [l0, l1, l2, some (0, x)] ((0, x) :: st) G M Q := go_iload_n hq32 k32_2 rfl
theorem k32_3 : cm_at ins_32 3 = some (.iload_n 2, 1) := by decide +kernel
theorem g32_3 : Go 32 3 [l0, l1, some (0, x), l3] st G M Q ↔ Go 32 4 [l0, l1, some (0, x), l3] ((0, x) :: st) G M Q := go_iload_n hq32 k32_3 rfl
theorem k32_4 : cm_at ins_32 4 = some (.if_icmp .ge 17, 3) := by decide +kernel
theorem g32_4 : Go 32 4 ls ((0, b) :: (0, a) :: st) G M Q ↔ (cm_in a ∧ cm_in b) ∧ (¬ a < b → Go 32 21 ls st G M Q) ∧ (a < b → Go 32 7 ls st G M Q) := go_icmp_ge hq32 k32_4 (by decide)
theorem k32_7 : cm_at ins_32 7 = some (.aload_n 0, 1) := by decide +kernel
theorem g32_7 : Go 32 7 [some (2, x), l1, l2, l3] st G M Q ↔ Go 32 8 [some (2, x), l1, l2, l3] ((2, x) :: st) G M Q := go_aload_n hq32 k32_7 rfl
theorem k32_8 : cm_at ins_32 8 = some (.iload_n 3, 1) := by decide +kernel
theorem g32_8 : Go 32 8 [l0, l1, l2, some (0, x)] st G M Q ↔ Go 32 9 [l0, l1, l2, some (0, x)] ((0, x) :: st) G M Q := go_iload_n hq32 k32_8 rfl
theorem k32_9 : cm_at ins_32 9 = some (.iload_n 3, 1) := by decide +kernel
theorem g32_9 : Go 32 9 [l0, l1, l2, some (0, x)] st G M Q ↔ Go 32 10 [l0, l1, l2, some (0, x)] ((0, x) :: st) G M Q := go_iload_n hq32 k32_9 rfl
theorem k32_10 : cm_at ins_32 10 = some (.iconst 1, 1) := by decide +kernel
theorem g32_10 : Go 32 10 ls st G M Q ↔ Go 32 11 ls ((0, 1) :: st) G M Q := go_iconst hq32 k32_10
theorem k32_11 : cm_at ins_32 11 = some (.iadd, 1) := by decide +kernel
theorem g32_11 : Go 32 11 ls ((0, b) :: (0, a) :: st) G M Q ↔ Go 32 12 ls ((0, a + b) :: st) G M Q := go_iadd hq32 k32_11
theorem k32_12 : cm_at ins_32 12 = some (.invokevirtual 48, 3) := by decide +kernel
theorem c32_12 (h8 : cm_sum st ≤ 8) (hk : cm_sh G k = some (0, 1)) (K : Go 34 0 [some (2, k), some (0, y), some (0, z)] [] G M (fun r G' M' => Go 32 15 ls (r.toList ++ st) G' M' Q)) : Go 32 12 ls ((0, z) :: (0, y) :: (2, k) :: st) G M Q := go_callV hq32 k32_12 fc1_48 hq34 rfl (as := [(0, z), (0, y), (2, k)]) rfl rfl (Nat.le_of_ble_eq_true rfl) rfl h8 hk K
theorem k32_15 : cm_at ins_32 15 = some (.iinc 3 1, 3) := by decide +kernel
theorem g32_15 : Go 32 15 [l0, l1, l2, some (0, x)] st G M Q ↔ Go 32 18 [l0, l1, l2, some (0, x + 1)] st G M Q := go_iinc hq32 k32_15 rfl ⟨rfl, by decide⟩
theorem k32_18 : cm_at ins_32 18 = some (.goto (-16), 3) := by decide +kernel
theorem g32_18 : Go 32 18 ls st G M Q ↔ Go 32 2 ls st G M Q := go_goto hq32 k32_18 (by decide)
theorem k32_21 : cm_at ins_32 21 = some (.iload_n 1, 1) := by decide +kernel
theorem g32_21 : Go 32 21 [l0, some (0, x), l2, l3] st G M Q ↔ Go 32 22 [l0, some (0, x), l2, l3] ((0, x) :: st) G M Q := go_iload_n hq32 k32_21 rfl
theorem k32_22 : cm_at ins_32 22 = some (.istore_n 3, 1) := by decide +kernel
theorem g32_22 : Go 32 22 [l0, l1, l2, l3] ((0, x) :: st) G M Q ↔ Go 32 23 [l0, l1, l2, some (0, x)] st G M Q := go_istore_n hq32 k32_22 ⟨Nat.le_of_ble_eq_true rfl, rfl, by decide⟩
theorem k32_23 : cm_at ins_32 23 = some (.iload_n 3, 1) := by decide +kernel
theorem g32_23 : Go 32 23 [l0, l1, l2, some (0, x)] st G M Q ↔ Go 32 24 [l0, l1, l2, some (0, x)] ((0, x) :: st) G M Q := go_iload_n hq32 k32_23 rfl
theorem k32_24 : cm_at ins_32 24 = some (.iload_n 2, 1) := by decide +kernel
theorem g32_24 : Go 32 24 [l0, l1, some (0, x), l3] st G M Q ↔ Go 32 25 [l0, l1, some (0, x), l3] ((0, x) :: st) G M Q := go_iload_n hq32 k32_24 rfl
theorem k32_25 : cm_at ins_32 25 = some (.if_icmp .le 17, 3) := by decide +kernel
theorem g32_25 : Go 32 25 ls ((0, b) :: (0, a) :: st) G M Q ↔ (cm_in a ∧ cm_in b) ∧ (¬ b < a → Go 32 42 ls st G M Q) ∧ (b < a → Go 32 28 ls st G M Q) := go_icmp_le hq32 k32_25 (by decide)
theorem k32_28 : cm_at ins_32 28 = some (.aload_n 0, 1) := by decide +kernel
theorem g32_28 : Go 32 28 [some (2, x), l1, l2, l3] st G M Q ↔ Go 32 29 [some (2, x), l1, l2, l3] ((2, x) :: st) G M Q := go_aload_n hq32 k32_28 rfl
theorem k32_29 : cm_at ins_32 29 = some (.iload_n 3, 1) := by decide +kernel
theorem g32_29 : Go 32 29 [l0, l1, l2, some (0, x)] st G M Q ↔ Go 32 30 [l0, l1, l2, some (0, x)] ((0, x) :: st) G M Q := go_iload_n hq32 k32_29 rfl
theorem k32_30 : cm_at ins_32 30 = some (.iload_n 3, 1) := by decide +kernel
theorem g32_30 : Go 32 30 [l0, l1, l2, some (0, x)] st G M Q ↔ Go 32 31 [l0, l1, l2, some (0, x)] ((0, x) :: st) G M Q := go_iload_n hq32 k32_30 rfl
theorem k32_31 : cm_at ins_32 31 = some (.iconst 1, 1) := by decide +kernel
theorem g32_31 : Go 32 31 ls st G M Q ↔ Go 32 32 ls ((0, 1) :: st) G M Q := go_iconst hq32 k32_31
theorem k32_32 : cm_at ins_32 32 = some (.isub, 1) := by decide +kernel
theorem g32_32 : Go 32 32 ls ((0, b) :: (0, a) :: st) G M Q ↔ Go 32 33 ls ((0, a - b) :: st) G M Q := go_isub hq32 k32_32
theorem k32_33 : cm_at ins_32 33 = some (.invokevirtual 48, 3) := by decide +kernel
theorem c32_33 (h8 : cm_sum st ≤ 8) (hk : cm_sh G k = some (0, 1)) (K : Go 34 0 [some (2, k), some (0, y), some (0, z)] [] G M (fun r G' M' => Go 32 36 ls (r.toList ++ st) G' M' Q)) : Go 32 33 ls ((0, z) :: (0, y) :: (2, k) :: st) G M Q := go_callV hq32 k32_33 fc1_48 hq34 rfl (as := [(0, z), (0, y), (2, k)]) rfl rfl (Nat.le_of_ble_eq_true rfl) rfl h8 hk K
theorem k32_36 : cm_at ins_32 36 = some (.iinc 3 (-1), 3) := by decide +kernel
theorem g32_36 : Go 32 36 [l0, l1, l2, some (0, x)] st G M Q ↔ Go 32 39 [l0, l1, l2, some (0, x + (-1))] st G M Q := go_iinc hq32 k32_36 rfl ⟨rfl, by decide⟩
theorem k32_39 : cm_at ins_32 39 = some (.goto (-16), 3) := by decide +kernel
theorem g32_39 : Go 32 39 ls st G M Q ↔ Go 32 23 ls st G M Q := go_goto hq32 k32_39 (by decide)
theorem k32_42 : cm_at ins_32 42 = some (.return_, 1) := by decide +kernel
theorem g32_42 : Go 32 42 ls [] G M Q ↔ Q none G M := go_return hq32 k32_42 rfl
theorem k33_0 : cm_at ins_33 0 = some (.aload_n 0, 1) := by decide +kernel
theorem g33_0 : Go 33 0 [some (2, x), l1] st G M Q ↔ Go 33 1 [some (2, x), l1] ((2, x) :: st) G M Q := go_aload_n hq33 k33_0 rfl
theorem k33_1 : cm_at ins_33 1 = some (.iload_n 1, 1) := by decide +kernel
theorem g33_1 : Go 33 1 [l0, some (0, x)] st G M Q ↔ Go 33 2 [l0, some (0, x)] ((0, x) :: st) G M Q := go_iload_n hq33 k33_1 rfl
theorem k33_2 : cm_at ins_33 2 = some (.aload_n 0, 1) := by decide +kernel
theorem g33_2 : Go 33 2 [some (2, x), l1] st G M Q ↔ Go 33 3 [some (2, x), l1] ((2, x) :: st) G M Q := go_aload_n hq33 k33_2 rfl
theorem k33_3 : cm_at ins_33 3 = some (.getfield 36, 3) := by decide +kernel
theorem g33_3 : Go 33 3 ls ((2, k) :: st) G M Q ↔ cm_sh G k = some (0, 1) ∧ Go 33 6 ls ((0, M k 5) :: st) G M Q := go_get0 hq33 k33_3 ff1_36 rfl
theorem k33_6 : cm_at ins_33 6 = some (.iconst 1, 1) := by decide +kernel
theorem g33_6 : Go 33 6 ls st G M Q ↔ Go 33 7 ls ((0, 1) :: st) G M Q := go_iconst hq33 k33_6
theorem k33_7 : cm_at ins_33 7 = some (.isub, 1) := by decide +kernel
theorem g33_7 : Go 33 7 ls ((0, b) :: (0, a) :: st) G M Q ↔ Go 33 8 ls ((0, a - b) :: st) G M Q := go_isub hq33 k33_7
theorem k33_8 : cm_at ins_33 8 = some (.invokevirtual 52, 3) := by decide +kernel
theorem c33_8 (h8 : cm_sum st ≤ 8) (hk : cm_sh G k = some (0, 1)) (K : Go 32 0 [some (2, k), some (0, y), some (0, z), none] [] G M (fun r G' M' => Go 33 11 ls (r.toList ++ st) G' M' Q)) : Go 33 8 ls ((0, z) :: (0, y) :: (2, k) :: st) G M Q := go_callV hq33 k33_8 fc1_52 hq32 rfl (as := [(0, z), (0, y), (2, k)]) rfl rfl (Nat.le_of_ble_eq_true rfl) rfl h8 hk K
theorem k33_11 : cm_at ins_33 11 = some (.aload_n 0, 1) := by decide +kernel
theorem g33_11 : Go 33 11 [some (2, x), l1] st G M Q ↔ Go 33 12 [some (2, x), l1] ((2, x) :: st) G M Q := go_aload_n hq33 k33_11 rfl
theorem k33_12 : cm_at ins_33 12 = some (.dup, 1) := by decide +kernel
theorem g33_12b : Go 33 12 ls ((0, x) :: st) G M Q ↔ Go 33 13 ls ((0, x) :: (0, x) :: st) G M Q := go_dup0 hq33 k33_12
theorem g33_12 : Go 33 12 ls ((2, x) :: st) G M Q ↔ Go 33 13 ls ((2, x) :: (2, x) :: st) G M Q := go_dup2 hq33 k33_12
theorem k33_13 : cm_at ins_33 13 = some (.getfield 36, 3) := by decide +kernel
theorem g33_13 : Go 33 13 ls ((2, k) :: st) G M Q ↔ cm_sh G k = some (0, 1) ∧ Go 33 16 ls ((0, M k 5) :: st) G M Q := go_get0 hq33 k33_13 ff1_36 rfl
theorem k33_16 : cm_at ins_33 16 = some (.iconst 1, 1) := by decide +kernel
theorem g33_16 : Go 33 16 ls st G M Q ↔ Go 33 17 ls ((0, 1) :: st) G M Q := go_iconst hq33 k33_16
theorem k33_17 : cm_at ins_33 17 = some (.isub, 1) := by decide +kernel
theorem g33_17 : Go 33 17 ls ((0, b) :: (0, a) :: st) G M Q ↔ Go 33 18 ls ((0, a - b) :: st) G M Q := go_isub hq33 k33_17
theorem k33_18 : cm_at ins_33 18 = some (.putfield 36, 3) := by decide +kernel
theorem g33_18 : Go 33 18 ls ((0, v) :: (2, k) :: st) G M Q ↔ cm_sh G k = some (0, 1) ∧ Go 33 21 ls st G (cm_up M k 5 v) Q := go_put0 hq33 k33_18 ff1_36 rfl rfl
theorem k33_21 : cm_at ins_33 21 = some (.return_, 1) := by decide +kernel
theorem g33_21 : Go 33 21 ls [] G M Q ↔ Q none G M := go_return hq33 k33_21 rfl
theorem k34_0 : cm_at ins_34 0 = some (.aload_n 0, 1) := by decide +kernel
theorem g34_0 : Go 34 0 [some (2, x), l1, l2] st G M Q ↔ Go 34 1 [some (2, x), l1, l2] ((2, x) :: st) G M Q := go_aload_n hq34 k34_0 rfl
theorem k34_1 : cm_at ins_34 1 = some (.getfield 15, 3) := by decide +kernel
theorem g34_1 : Go 34 1 ls ((2, k) :: st) G M Q ↔ cm_sh G k = some (0, 1) ∧ Go 34 4 ls ((2, G.2 k 1) :: st) G M Q := go_get2 hq34 k34_1 ff1_15 rfl
theorem k34_4 : cm_at ins_34 4 = some (.iload_n 1, 1) := by decide +kernel
theorem g34_4 : Go 34 4 [l0, some (0, x), l2] st G M Q ↔ Go 34 5 [l0, some (0, x), l2] ((0, x) :: st) G M Q := go_iload_n hq34 k34_4 rfl
theorem k34_5 : cm_at ins_34 5 = some (.iload_n 2, 1) := by decide +kernel
theorem g34_5 : Go 34 5 [l0, l1, some (0, x)] st G M Q ↔ Go 34 6 [l0, l1, some (0, x)] ((0, x) :: st) G M Q := go_iload_n hq34 k34_5 rfl
theorem k34_6 : cm_at ins_34 6 = some (.invokestatic 55, 3) := by decide +kernel
theorem c34_6 (h8 : cm_sum st ≤ 8) (K : Go 35 0 [some (2, x), some (0, y), some (0, z), none] [] G M (fun r G' M' => Go 34 9 ls (r.toList ++ st) G' M' Q)) : Go 34 6 ls ((0, z) :: (0, y) :: (2, x) :: st) G M Q := go_callS hq34 k34_6 fc1_55 ⟨by decide, by decide⟩ hq35 rfl (as := [(0, z), (0, y), (2, x)]) rfl rfl (Nat.le_of_ble_eq_true rfl) h8 K
theorem k34_9 : cm_at ins_34 9 = some (.aload_n 0, 1) := by decide +kernel
theorem g34_9 : Go 34 9 [some (2, x), l1, l2] st G M Q ↔ Go 34 10 [some (2, x), l1, l2] ((2, x) :: st) G M Q := go_aload_n hq34 k34_9 rfl
theorem k34_10 : cm_at ins_34 10 = some (.getfield 18, 3) := by decide +kernel
theorem g34_10 : Go 34 10 ls ((2, k) :: st) G M Q ↔ cm_sh G k = some (0, 1) ∧ Go 34 13 ls ((2, G.2 k 2) :: st) G M Q := go_get2 hq34 k34_10 ff1_18 rfl
theorem k34_13 : cm_at ins_34 13 = some (.iload_n 1, 1) := by decide +kernel
theorem g34_13 : Go 34 13 [l0, some (0, x), l2] st G M Q ↔ Go 34 14 [l0, some (0, x), l2] ((0, x) :: st) G M Q := go_iload_n hq34 k34_13 rfl
theorem k34_14 : cm_at ins_34 14 = some (.iload_n 2, 1) := by decide +kernel
theorem g34_14 : Go 34 14 [l0, l1, some (0, x)] st G M Q ↔ Go 34 15 [l0, l1, some (0, x)] ((0, x) :: st) G M Q := go_iload_n hq34 k34_14 rfl
theorem k34_15 : cm_at ins_34 15 = some (.invokestatic 55, 3) := by decide +kernel
theorem c34_15 (h8 : cm_sum st ≤ 8) (K : Go 35 0 [some (2, x), some (0, y), some (0, z), none] [] G M (fun r G' M' => Go 34 18 ls (r.toList ++ st) G' M' Q)) : Go 34 15 ls ((0, z) :: (0, y) :: (2, x) :: st) G M Q := go_callS hq34 k34_15 fc1_55 ⟨by decide, by decide⟩ hq35 rfl (as := [(0, z), (0, y), (2, x)]) rfl rfl (Nat.le_of_ble_eq_true rfl) h8 K
theorem k34_18 : cm_at ins_34 18 = some (.aload_n 0, 1) := by decide +kernel
theorem g34_18 : Go 34 18 [some (2, x), l1, l2] st G M Q ↔ Go 34 19 [some (2, x), l1, l2] ((2, x) :: st) G M Q := go_aload_n hq34 k34_18 rfl
theorem k34_19 : cm_at ins_34 19 = some (.getfield 21, 3) := by decide +kernel
theorem g34_19 : Go 34 19 ls ((2, k) :: st) G M Q ↔ cm_sh G k = some (0, 1) ∧ Go 34 22 ls ((2, G.2 k 3) :: st) G M Q := go_get2 hq34 k34_19 ff1_21 rfl
theorem k34_22 : cm_at ins_34 22 = some (.iload_n 1, 1) := by decide +kernel
theorem g34_22 : Go 34 22 [l0, some (0, x), l2] st G M Q ↔ Go 34 23 [l0, some (0, x), l2] ((0, x) :: st) G M Q := go_iload_n hq34 k34_22 rfl
theorem k34_23 : cm_at ins_34 23 = some (.iload_n 2, 1) := by decide +kernel
theorem g34_23 : Go 34 23 [l0, l1, some (0, x)] st G M Q ↔ Go 34 24 [l0, l1, some (0, x)] ((0, x) :: st) G M Q := go_iload_n hq34 k34_23 rfl
theorem k34_24 : cm_at ins_34 24 = some (.invokestatic 55, 3) := by decide +kernel
theorem c34_24 (h8 : cm_sum st ≤ 8) (K : Go 35 0 [some (2, x), some (0, y), some (0, z), none] [] G M (fun r G' M' => Go 34 27 ls (r.toList ++ st) G' M' Q)) : Go 34 24 ls ((0, z) :: (0, y) :: (2, x) :: st) G M Q := go_callS hq34 k34_24 fc1_55 ⟨by decide, by decide⟩ hq35 rfl (as := [(0, z), (0, y), (2, x)]) rfl rfl (Nat.le_of_ble_eq_true rfl) h8 K
theorem k34_27 : cm_at ins_34 27 = some (.aload_n 0, 1) := by decide +kernel
theorem g34_27 : Go 34 27 [some (2, x), l1, l2] st G M Q ↔ Go 34 28 [some (2, x), l1, l2] ((2, x) :: st) G M Q := go_aload_n hq34 k34_27 rfl
theorem k34_28 : cm_at ins_34 28 = some (.getfield 24, 3) := by decide +kernel
theorem g34_28 : Go 34 28 ls ((2, k) :: st) G M Q ↔ cm_sh G k = some (0, 1) ∧ Go 34 31 ls ((2, G.2 k 4) :: st) G M Q := go_get2 hq34 k34_28 ff1_24 rfl
theorem k34_31 : cm_at ins_34 31 = some (.iload_n 1, 1) := by decide +kernel
theorem g34_31 : Go 34 31 [l0, some (0, x), l2] st G M Q ↔ Go 34 32 [l0, some (0, x), l2] ((0, x) :: st) G M Q := go_iload_n hq34 k34_31 rfl
theorem k34_32 : cm_at ins_34 32 = some (.iload_n 2, 1) := by decide +kernel
theorem g34_32 : Go 34 32 [l0, l1, some (0, x)] st G M Q ↔ Go 34 33 [l0, l1, some (0, x)] ((0, x) :: st) G M Q := go_iload_n hq34 k34_32 rfl
theorem k34_33 : cm_at ins_34 33 = some (.invokestatic 55, 3) := by decide +kernel
theorem c34_33 (h8 : cm_sum st ≤ 8) (K : Go 35 0 [some (2, x), some (0, y), some (0, z), none] [] G M (fun r G' M' => Go 34 36 ls (r.toList ++ st) G' M' Q)) : Go 34 33 ls ((0, z) :: (0, y) :: (2, x) :: st) G M Q := go_callS hq34 k34_33 fc1_55 ⟨by decide, by decide⟩ hq35 rfl (as := [(0, z), (0, y), (2, x)]) rfl rfl (Nat.le_of_ble_eq_true rfl) h8 K
theorem k34_36 : cm_at ins_34 36 = some (.return_, 1) := by decide +kernel
theorem g34_36 : Go 34 36 ls [] G M Q ↔ Q none G M := go_return hq34 k34_36 rfl
theorem k35_0 : cm_at ins_35 0 = some (.aload_n 0, 1) := by decide +kernel
theorem g35_0 : Go 35 0 [some (2, x), l1, l2, l3] st G M Q ↔ Go 35 1 [some (2, x), l1, l2, l3] ((2, x) :: st) G M Q := go_aload_n hq35 k35_0 rfl
theorem k35_1 : cm_at ins_35 1 = some (.iload_n 1, 1) := by decide +kernel
theorem g35_1 : Go 35 1 [l0, some (0, x), l2, l3] st G M Q ↔ Go 35 2 [l0, some (0, x), l2, l3] ((0, x) :: st) G M Q := go_iload_n hq35 k35_1 rfl
theorem k35_2 : cm_at ins_35 2 = some (.iaload, 1) := by decide +kernel
theorem g35_2 : Go 35 2 ls ((0, i) :: (2, k) :: st) G M Q ↔ (0 ≤ i ∧ i < cm_al 1 G M k) ∧ Go 35 3 ls ((0, M k i) :: st) G M Q := go_iald hq35 k35_2
theorem k35_3 : cm_at ins_35 3 = some (.istore_n 3, 1) := by decide +kernel
theorem g35_3 : Go 35 3 [l0, l1, l2, l3] ((0, x) :: st) G M Q ↔ Go 35 4 [l0, l1, l2, some (0, x)] st G M Q := go_istore_n hq35 k35_3 ⟨Nat.le_of_ble_eq_true rfl, rfl, by decide⟩
theorem k35_4 : cm_at ins_35 4 = some (.aload_n 0, 1) := by decide +kernel
theorem g35_4 : Go 35 4 [some (2, x), l1, l2, l3] st G M Q ↔ Go 35 5 [some (2, x), l1, l2, l3] ((2, x) :: st) G M Q := go_aload_n hq35 k35_4 rfl
theorem k35_5 : cm_at ins_35 5 = some (.iload_n 1, 1) := by decide +kernel
theorem g35_5 : Go 35 5 [l0, some (0, x), l2, l3] st G M Q ↔ Go 35 6 [l0, some (0, x), l2, l3] ((0, x) :: st) G M Q := go_iload_n hq35 k35_5 rfl
theorem k35_6 : cm_at ins_35 6 = some (.aload_n 0, 1) := by decide +kernel
theorem g35_6 : Go 35 6 [some (2, x), l1, l2, l3] st G M Q ↔ Go 35 7 [some (2, x), l1, l2, l3] ((2, x) :: st) G M Q := go_aload_n hq35 k35_6 rfl
theorem k35_7 : cm_at ins_35 7 = some (.iload_n 2, 1) := by decide +kernel
theorem g35_7 : Go 35 7 [l0, l1, some (0, x), l3] st G M Q ↔ Go 35 8 [l0, l1, some (0, x), l3] ((0, x) :: st) G M Q := go_iload_n hq35 k35_7 rfl
theorem k35_8 : cm_at ins_35 8 = some (.iaload, 1) := by decide +kernel
theorem g35_8 : Go 35 8 ls ((0, i) :: (2, k) :: st) G M Q ↔ (0 ≤ i ∧ i < cm_al 1 G M k) ∧ Go 35 9 ls ((0, M k i) :: st) G M Q := go_iald hq35 k35_8
theorem k35_9 : cm_at ins_35 9 = some (.iastore, 1) := by decide +kernel
theorem g35_9 : Go 35 9 ls ((0, v) :: (0, i) :: (2, k) :: st) G M Q ↔ (0 ≤ k ∧ 0 ≤ i ∧ i < cm_al 1 G M k) ∧ Go 35 10 ls st G (cm_up M k i v) Q := go_iast hq35 k35_9
theorem k35_10 : cm_at ins_35 10 = some (.aload_n 0, 1) := by decide +kernel
theorem g35_10 : Go 35 10 [some (2, x), l1, l2, l3] st G M Q ↔ Go 35 11 [some (2, x), l1, l2, l3] ((2, x) :: st) G M Q := go_aload_n hq35 k35_10 rfl
theorem k35_11 : cm_at ins_35 11 = some (.iload_n 2, 1) := by decide +kernel
theorem g35_11 : Go 35 11 [l0, l1, some (0, x), l3] st G M Q ↔ Go 35 12 [l0, l1, some (0, x), l3] ((0, x) :: st) G M Q := go_iload_n hq35 k35_11 rfl
theorem k35_12 : cm_at ins_35 12 = some (.iload_n 3, 1) := by decide +kernel
theorem g35_12 : Go 35 12 [l0, l1, l2, some (0, x)] st G M Q ↔ Go 35 13 [l0, l1, l2, some (0, x)] ((0, x) :: st) G M Q := go_iload_n hq35 k35_12 rfl
theorem k35_13 : cm_at ins_35 13 = some (.iastore, 1) := by decide +kernel
theorem g35_13 : Go 35 13 ls ((0, v) :: (0, i) :: (2, k) :: st) G M Q ↔ (0 ≤ k ∧ 0 ≤ i ∧ i < cm_al 1 G M k) ∧ Go 35 14 ls st G (cm_up M k i v) Q := go_iast hq35 k35_13
theorem k35_14 : cm_at ins_35 14 = some (.return_, 1) := by decide +kernel
theorem g35_14 : Go 35 14 ls [] G M Q ↔ Q none G M := go_return hq35 k35_14 rfl
theorem k36_0 : cm_at ins_36 0 = some (.iconst 0, 1) := by decide +kernel
theorem g36_0 : Go 36 0 ls st G M Q ↔ Go 36 1 ls ((0, 0) :: st) G M Q := go_iconst hq36 k36_0
theorem k36_1 : cm_at ins_36 1 = some (.istore_n 2, 1) := by decide +kernel
theorem g36_1 : Go 36 1 [l0, l1, l2] ((0, x) :: st) G M Q ↔ Go 36 2 [l0, l1, some (0, x)] st G M Q := go_istore_n hq36 k36_1 ⟨Nat.le_of_ble_eq_true rfl, rfl, by decide⟩
theorem k36_2 : cm_at ins_36 2 = some (.iload_n 2, 1) := by decide +kernel
theorem g36_2 : Go 36 2 [l0, l1, some (0, x)] st G M Q ↔ Go 36 3 [l0, l1, some (0, x)] ((0, x) :: st) G M Q := go_iload_n hq36 k36_2 rfl
theorem k36_3 : cm_at ins_36 3 = some (.aload_n 0, 1) := by decide +kernel
theorem g36_3 : Go 36 3 [some (2, x), l1, l2] st G M Q ↔ Go 36 4 [some (2, x), l1, l2] ((2, x) :: st) G M Q := go_aload_n hq36 k36_3 rfl
theorem k36_4 : cm_at ins_36 4 = some (.getfield 36, 3) := by decide +kernel
theorem g36_4 : Go 36 4 ls ((2, k) :: st) G M Q ↔ cm_sh G k = some (0, 1) ∧ Go 36 7 ls ((0, M k 5) :: st) G M Q := go_get0 hq36 k36_4 ff1_36 rfl
theorem k36_7 : cm_at ins_36 7 = some (.if_icmp .ge 21, 3) := by decide +kernel
theorem g36_7 : Go 36 7 ls ((0, b) :: (0, a) :: st) G M Q ↔ (cm_in a ∧ cm_in b) ∧ (¬ a < b → Go 36 28 ls st G M Q) ∧ (a < b → Go 36 10 ls st G M Q) := go_icmp_ge hq36 k36_7 (by decide)
theorem k36_10 : cm_at ins_36 10 = some (.aload_n 0, 1) := by decide +kernel
theorem g36_10 : Go 36 10 [some (2, x), l1, l2] st G M Q ↔ Go 36 11 [some (2, x), l1, l2] ((2, x) :: st) G M Q := go_aload_n hq36 k36_10 rfl
theorem k36_11 : cm_at ins_36 11 = some (.getfield 18, 3) := by decide +kernel
theorem g36_11 : Go 36 11 ls ((2, k) :: st) G M Q ↔ cm_sh G k = some (0, 1) ∧ Go 36 14 ls ((2, G.2 k 2) :: st) G M Q := go_get2 hq36 k36_11 ff1_18 rfl
theorem k36_14 : cm_at ins_36 14 = some (.iload_n 2, 1) := by decide +kernel
theorem g36_14 : Go 36 14 [l0, l1, some (0, x)] st G M Q ↔ Go 36 15 [l0, l1, some (0, x)] ((0, x) :: st) G M Q := go_iload_n hq36 k36_14 rfl
theorem k36_15 : cm_at ins_36 15 = some (.iaload, 1) := by decide +kernel
theorem g36_15 : Go 36 15 ls ((0, i) :: (2, k) :: st) G M Q ↔ (0 ≤ i ∧ i < cm_al 1 G M k) ∧ Go 36 16 ls ((0, M k i) :: st) G M Q := go_iald hq36 k36_15
theorem k36_16 : cm_at ins_36 16 = some (.iload_n 1, 1) := by decide +kernel
theorem g36_16 : Go 36 16 [l0, some (0, x), l2] st G M Q ↔ Go 36 17 [l0, some (0, x), l2] ((0, x) :: st) G M Q := go_iload_n hq36 k36_16 rfl
theorem k36_17 : cm_at ins_36 17 = some (.if_icmp .ne 5, 3) := by decide +kernel
theorem g36_17 : Go 36 17 ls ((0, b) :: (0, a) :: st) G M Q ↔ (cm_in a ∧ cm_in b) ∧ (¬ a = b → Go 36 22 ls st G M Q) ∧ (a = b → Go 36 20 ls st G M Q) := go_icmp_ne hq36 k36_17 (by decide)
theorem k36_20 : cm_at ins_36 20 = some (.iload_n 2, 1) := by decide +kernel
theorem g36_20 : Go 36 20 [l0, l1, some (0, x)] st G M Q ↔ Go 36 21 [l0, l1, some (0, x)] ((0, x) :: st) G M Q := go_iload_n hq36 k36_20 rfl
theorem k36_21 : cm_at ins_36 21 = some (.ireturn, 1) := by decide +kernel
theorem g36_21 : Go 36 21 ls [(0, v)] G M Q ↔ Q (some (0, v)) G M := go_ireturn hq36 k36_21 rfl
theorem k36_22 : cm_at ins_36 22 = some (.iinc 2 1, 3) := by decide +kernel
theorem g36_22 : Go 36 22 [l0, l1, some (0, x)] st G M Q ↔ Go 36 25 [l0, l1, some (0, x + 1)] st G M Q := go_iinc hq36 k36_22 rfl ⟨rfl, by decide⟩
theorem k36_25 : cm_at ins_36 25 = some (.goto (-23), 3) := by decide +kernel
theorem g36_25 : Go 36 25 ls st G M Q ↔ Go 36 2 ls st G M Q := go_goto hq36 k36_25 (by decide)
theorem k36_28 : cm_at ins_36 28 = some (.bipush (-6), 2) := by decide +kernel
theorem g36_28 : Go 36 28 ls st G M Q ↔ Go 36 30 ls ((0, (-6)) :: st) G M Q := go_bipush hq36 k36_28 (by decide)
theorem k36_30 : cm_at ins_36 30 = some (.ireturn, 1) := by decide +kernel
theorem g36_30 : Go 36 30 ls [(0, v)] G M Q ↔ Q (some (0, v)) G M := go_ireturn hq36 k36_30 rfl
theorem k37_0 : cm_at ins_37 0 = some (.iconst 0, 1) := by decide +kernel
theorem g37_0 : Go 37 0 ls st G M Q ↔ Go 37 1 ls ((0, 0) :: st) G M Q := go_iconst hq37 k37_0
theorem k37_1 : cm_at ins_37 1 = some (.istore_n 2, 1) := by decide +kernel
theorem g37_1 : Go 37 1 [l0, l1, l2, l3] ((0, x) :: st) G M Q ↔ Go 37 2 [l0, l1, some (0, x), l3] st G M Q := go_istore_n hq37 k37_1 ⟨Nat.le_of_ble_eq_true rfl, rfl, by decide⟩
theorem k37_2 : cm_at ins_37 2 = some (.iconst 0, 1) := by decide +kernel
theorem g37_2 : Go 37 2 ls st G M Q ↔ Go 37 3 ls ((0, 0) :: st) G M Q := go_iconst hq37 k37_2
theorem k37_3 : cm_at ins_37 3 = some (.istore_n 3, 1) := by decide +kernel
theorem g37_3 : Go 37 3 [l0, l1, l2, l3] ((0, x) :: st) G M Q ↔ Go 37 4 [l0, l1, l2, some (0, x)] st G M Q := go_istore_n hq37 k37_3 ⟨Nat.le_of_ble_eq_true rfl, rfl, by decide⟩
theorem k37_4 : cm_at ins_37 4 = some (.iload_n 3, 1) := by decide +kernel
theorem g37_4 : Go 37 4 [l0, l1, l2, some (0, x)] st G M Q ↔ Go 37 5 [l0, l1, l2, some (0, x)] ((0, x) :: st) G M Q := go_iload_n hq37 k37_4 rfl
theorem k37_5 : cm_at ins_37 5 = some (.aload_n 0, 1) := by decide +kernel
theorem g37_5 : Go 37 5 [some (2, x), l1, l2, l3] st G M Q ↔ Go 37 6 [some (2, x), l1, l2, l3] ((2, x) :: st) G M Q := go_aload_n hq37 k37_5 rfl
theorem k37_6 : cm_at ins_37 6 = some (.getfield 36, 3) := by decide +kernel
theorem g37_6 : Go 37 6 ls ((2, k) :: st) G M Q ↔ cm_sh G k = some (0, 1) ∧ Go 37 9 ls ((0, M k 5) :: st) G M Q := go_get0 hq37 k37_6 ff1_36 rfl
theorem k37_9 : cm_at ins_37 9 = some (.if_icmp .ge 22, 3) := by decide +kernel
theorem g37_9 : Go 37 9 ls ((0, b) :: (0, a) :: st) G M Q ↔ (cm_in a ∧ cm_in b) ∧ (¬ a < b → Go 37 31 ls st G M Q) ∧ (a < b → Go 37 12 ls st G M Q) := go_icmp_ge hq37 k37_9 (by decide)
theorem k37_12 : cm_at ins_37 12 = some (.aload_n 0, 1) := by decide +kernel
theorem g37_12 : Go 37 12 [some (2, x), l1, l2, l3] st G M Q ↔ Go 37 13 [some (2, x), l1, l2, l3] ((2, x) :: st) G M Q := go_aload_n hq37 k37_12 rfl
theorem k37_13 : cm_at ins_37 13 = some (.getfield 18, 3) := by decide +kernel
theorem g37_13 : Go 37 13 ls ((2, k) :: st) G M Q ↔ cm_sh G k = some (0, 1) ∧ Go 37 16 ls ((2, G.2 k 2) :: st) G M Q := go_get2 hq37 k37_13 ff1_18 rfl
theorem k37_16 : cm_at ins_37 16 = some (.iload_n 3, 1) := by decide +kernel
theorem g37_16 : Go 37 16 [l0, l1, l2, some (0, x)] st G M Q ↔ Go 37 17 [l0, l1, l2, some (0, x)] ((0, x) :: st) G M Q := go_iload_n hq37 k37_16 rfl
theorem k37_17 : cm_at ins_37 17 = some (.iaload, 1) := by decide +kernel
theorem g37_17 : Go 37 17 ls ((0, i) :: (2, k) :: st) G M Q ↔ (0 ≤ i ∧ i < cm_al 1 G M k) ∧ Go 37 18 ls ((0, M k i) :: st) G M Q := go_iald hq37 k37_17
theorem k37_18 : cm_at ins_37 18 = some (.iload_n 1, 1) := by decide +kernel
theorem g37_18 : Go 37 18 [l0, some (0, x), l2, l3] st G M Q ↔ Go 37 19 [l0, some (0, x), l2, l3] ((0, x) :: st) G M Q := go_iload_n hq37 k37_18 rfl
theorem k37_19 : cm_at ins_37 19 = some (.if_icmp .ne 6, 3) := by decide +kernel
theorem g37_19 : Go 37 19 ls ((0, b) :: (0, a) :: st) G M Q ↔ (cm_in a ∧ cm_in b) ∧ (¬ a = b → Go 37 25 ls st G M Q) ∧ (a = b → Go 37 22 ls st G M Q) := go_icmp_ne hq37 k37_19 (by decide)
theorem k37_22 : cm_at ins_37 22 = some (.iinc 2 1, 3) := by decide +kernel
theorem g37_22 : Go 37 22 [l0, l1, some (0, x), l3] st G M Q ↔ Go 37 25 [l0, l1, some (0, x + 1), l3] st G M Q := go_iinc hq37 k37_22 rfl ⟨rfl, by decide⟩
theorem k37_25 : cm_at ins_37 25 = some (.iinc 3 1, 3) := by decide +kernel
theorem g37_25 : Go 37 25 [l0, l1, l2, some (0, x)] st G M Q ↔ Go 37 28 [l0, l1, l2, some (0, x + 1)] st G M Q := go_iinc hq37 k37_25 rfl ⟨rfl, by decide⟩
theorem k37_28 : cm_at ins_37 28 = some (.goto (-24), 3) := by decide +kernel
theorem g37_28 : Go 37 28 ls st G M Q ↔ Go 37 4 ls st G M Q := go_goto hq37 k37_28 (by decide)
theorem k37_31 : cm_at ins_37 31 = some (.iload_n 2, 1) := by decide +kernel
theorem g37_31 : Go 37 31 [l0, l1, some (0, x), l3] st G M Q ↔ Go 37 32 [l0, l1, some (0, x), l3] ((0, x) :: st) G M Q := go_iload_n hq37 k37_31 rfl
theorem k37_32 : cm_at ins_37 32 = some (.ireturn, 1) := by decide +kernel
theorem g37_32 : Go 37 32 ls [(0, v)] G M Q ↔ Q (some (0, v)) G M := go_ireturn hq37 k37_32 rfl
theorem k38_0 : cm_at ins_38 0 = some (.iconst 0, 1) := by decide +kernel
theorem g38_0 : Go 38 0 ls st G M Q ↔ Go 38 1 ls ((0, 0) :: st) G M Q := go_iconst hq38 k38_0
theorem k38_1 : cm_at ins_38 1 = some (.istore_n 1, 1) := by decide +kernel
theorem g38_1 : Go 38 1 [l0, l1, l2] ((0, x) :: st) G M Q ↔ Go 38 2 [l0, some (0, x), l2] st G M Q := go_istore_n hq38 k38_1 ⟨Nat.le_of_ble_eq_true rfl, rfl, by decide⟩
theorem k38_2 : cm_at ins_38 2 = some (.iconst 0, 1) := by decide +kernel
theorem g38_2 : Go 38 2 ls st G M Q ↔ Go 38 3 ls ((0, 0) :: st) G M Q := go_iconst hq38 k38_2
theorem k38_3 : cm_at ins_38 3 = some (.istore_n 2, 1) := by decide +kernel
theorem g38_3 : Go 38 3 [l0, l1, l2] ((0, x) :: st) G M Q ↔ Go 38 4 [l0, l1, some (0, x)] st G M Q := go_istore_n hq38 k38_3 ⟨Nat.le_of_ble_eq_true rfl, rfl, by decide⟩
theorem k38_4 : cm_at ins_38 4 = some (.iload_n 2, 1) := by decide +kernel
theorem g38_4 : Go 38 4 [l0, l1, some (0, x)] st G M Q ↔ Go 38 5 [l0, l1, some (0, x)] ((0, x) :: st) G M Q := go_iload_n hq38 k38_4 rfl
theorem k38_5 : cm_at ins_38 5 = some (.aload_n 0, 1) := by decide +kernel
theorem g38_5 : Go 38 5 [some (2, x), l1, l2] st G M Q ↔ Go 38 6 [some (2, x), l1, l2] ((2, x) :: st) G M Q := go_aload_n hq38 k38_5 rfl
theorem k38_6 : cm_at ins_38 6 = some (.getfield 36, 3) := by decide +kernel
theorem g38_6 : Go 38 6 ls ((2, k) :: st) G M Q ↔ cm_sh G k = some (0, 1) ∧ Go 38 9 ls ((0, M k 5) :: st) G M Q := go_get0 hq38 k38_6 ff1_36 rfl
theorem k38_9 : cm_at ins_38 9 = some (.if_icmp .ge 21, 3) := by decide +kernel
theorem g38_9 : Go 38 9 ls ((0, b) :: (0, a) :: st) G M Q ↔ (cm_in a ∧ cm_in b) ∧ (¬ a < b → Go 38 30 ls st G M Q) ∧ (a < b → Go 38 12 ls st G M Q) := go_icmp_ge hq38 k38_9 (by decide)
theorem k38_12 : cm_at ins_38 12 = some (.aload_n 0, 1) := by decide +kernel
theorem g38_12 : Go 38 12 [some (2, x), l1, l2] st G M Q ↔ Go 38 13 [some (2, x), l1, l2] ((2, x) :: st) G M Q := go_aload_n hq38 k38_12 rfl
theorem k38_13 : cm_at ins_38 13 = some (.getfield 15, 3) := by decide +kernel
theorem g38_13 : Go 38 13 ls ((2, k) :: st) G M Q ↔ cm_sh G k = some (0, 1) ∧ Go 38 16 ls ((2, G.2 k 1) :: st) G M Q := go_get2 hq38 k38_13 ff1_15 rfl
theorem k38_16 : cm_at ins_38 16 = some (.iload_n 2, 1) := by decide +kernel
theorem g38_16 : Go 38 16 [l0, l1, some (0, x)] st G M Q ↔ Go 38 17 [l0, l1, some (0, x)] ((0, x) :: st) G M Q := go_iload_n hq38 k38_16 rfl
theorem k38_17 : cm_at ins_38 17 = some (.iaload, 1) := by decide +kernel
theorem g38_17 : Go 38 17 ls ((0, i) :: (2, k) :: st) G M Q ↔ (0 ≤ i ∧ i < cm_al 1 G M k) ∧ Go 38 18 ls ((0, M k i) :: st) G M Q := go_iald hq38 k38_17
theorem k38_18 : cm_at ins_38 18 = some (.ifCond .ne 6, 3) := by decide +kernel
theorem g38_18 : Go 38 18 ls ((0, a) :: st) G M Q ↔ cm_in a ∧ (¬ a = 0 → Go 38 24 ls st G M Q) ∧ (a = 0 → Go 38 21 ls st G M Q) := go_if_ne hq38 k38_18 (by decide)
theorem k38_21 : cm_at ins_38 21 = some (.iinc 1 1, 3) := by decide +kernel
theorem g38_21 : Go 38 21 [l0, some (0, x), l2] st G M Q ↔ Go 38 24 [l0, some (0, x + 1), l2] st G M Q := go_iinc hq38 k38_21 rfl ⟨rfl, by decide⟩
theorem k38_24 : cm_at ins_38 24 = some (.iinc 2 1, 3) := by decide +kernel
theorem g38_24 : Go 38 24 [l0, l1, some (0, x)] st G M Q ↔ Go 38 27 [l0, l1, some (0, x + 1)] st G M Q := go_iinc hq38 k38_24 rfl ⟨rfl, by decide⟩
theorem k38_27 : cm_at ins_38 27 = some (.goto (-23), 3) := by decide +kernel
theorem g38_27 : Go 38 27 ls st G M Q ↔ Go 38 4 ls st G M Q := go_goto hq38 k38_27 (by decide)
theorem k38_30 : cm_at ins_38 30 = some (.iload_n 1, 1) := by decide +kernel
theorem g38_30 : Go 38 30 [l0, some (0, x), l2] st G M Q ↔ Go 38 31 [l0, some (0, x), l2] ((0, x) :: st) G M Q := go_iload_n hq38 k38_30 rfl
theorem k38_31 : cm_at ins_38 31 = some (.ireturn, 1) := by decide +kernel
theorem g38_31 : Go 38 31 ls [(0, v)] G M Q ↔ Q (some (0, v)) G M := go_ireturn hq38 k38_31 rfl
theorem k39_0 : cm_at ins_39 0 = some (.iconst 0, 1) := by decide +kernel
theorem g39_0 : Go 39 0 ls st G M Q ↔ Go 39 1 ls ((0, 0) :: st) G M Q := go_iconst hq39 k39_0
theorem k39_1 : cm_at ins_39 1 = some (.istore_n 1, 1) := by decide +kernel
theorem g39_1 : Go 39 1 [l0, l1, l2] ((0, x) :: st) G M Q ↔ Go 39 2 [l0, some (0, x), l2] st G M Q := go_istore_n hq39 k39_1 ⟨Nat.le_of_ble_eq_true rfl, rfl, by decide⟩
theorem k39_2 : cm_at ins_39 2 = some (.iconst 0, 1) := by decide +kernel
theorem g39_2 : Go 39 2 ls st G M Q ↔ Go 39 3 ls ((0, 0) :: st) G M Q := go_iconst hq39 k39_2
theorem k39_3 : cm_at ins_39 3 = some (.istore_n 2, 1) := by decide +kernel
theorem g39_3 : Go 39 3 [l0, l1, l2] ((0, x) :: st) G M Q ↔ Go 39 4 [l0, l1, some (0, x)] st G M Q := go_istore_n hq39 k39_3 ⟨Nat.le_of_ble_eq_true rfl, rfl, by decide⟩
theorem k39_4 : cm_at ins_39 4 = some (.iload_n 2, 1) := by decide +kernel
theorem g39_4 : Go 39 4 [l0, l1, some (0, x)] st G M Q ↔ Go 39 5 [l0, l1, some (0, x)] ((0, x) :: st) G M Q := go_iload_n hq39 k39_4 rfl
theorem k39_5 : cm_at ins_39 5 = some (.aload_n 0, 1) := by decide +kernel
theorem g39_5 : Go 39 5 [some (2, x), l1, l2] st G M Q ↔ Go 39 6 [some (2, x), l1, l2] ((2, x) :: st) G M Q := go_aload_n hq39 k39_5 rfl
theorem k39_6 : cm_at ins_39 6 = some (.getfield 36, 3) := by decide +kernel
theorem g39_6 : Go 39 6 ls ((2, k) :: st) G M Q ↔ cm_sh G k = some (0, 1) ∧ Go 39 9 ls ((0, M k 5) :: st) G M Q := go_get0 hq39 k39_6 ff1_36 rfl
theorem k39_9 : cm_at ins_39 9 = some (.if_icmp .ge 21, 3) := by decide +kernel
theorem g39_9 : Go 39 9 ls ((0, b) :: (0, a) :: st) G M Q ↔ (cm_in a ∧ cm_in b) ∧ (¬ a < b → Go 39 30 ls st G M Q) ∧ (a < b → Go 39 12 ls st G M Q) := go_icmp_ge hq39 k39_9 (by decide)
theorem k39_12 : cm_at ins_39 12 = some (.aload_n 0, 1) := by decide +kernel
theorem g39_12 : Go 39 12 [some (2, x), l1, l2] st G M Q ↔ Go 39 13 [some (2, x), l1, l2] ((2, x) :: st) G M Q := go_aload_n hq39 k39_12 rfl
theorem k39_13 : cm_at ins_39 13 = some (.getfield 24, 3) := by decide +kernel
theorem g39_13 : Go 39 13 ls ((2, k) :: st) G M Q ↔ cm_sh G k = some (0, 1) ∧ Go 39 16 ls ((2, G.2 k 4) :: st) G M Q := go_get2 hq39 k39_13 ff1_24 rfl
theorem k39_16 : cm_at ins_39 16 = some (.iload_n 2, 1) := by decide +kernel
theorem g39_16 : Go 39 16 [l0, l1, some (0, x)] st G M Q ↔ Go 39 17 [l0, l1, some (0, x)] ((0, x) :: st) G M Q := go_iload_n hq39 k39_16 rfl
theorem k39_17 : cm_at ins_39 17 = some (.iaload, 1) := by decide +kernel
theorem g39_17 : Go 39 17 ls ((0, i) :: (2, k) :: st) G M Q ↔ (0 ≤ i ∧ i < cm_al 1 G M k) ∧ Go 39 18 ls ((0, M k i) :: st) G M Q := go_iald hq39 k39_17
theorem k39_18 : cm_at ins_39 18 = some (.ifCond .eq 6, 3) := by decide +kernel
theorem g39_18 : Go 39 18 ls ((0, a) :: st) G M Q ↔ cm_in a ∧ (a = 0 → Go 39 24 ls st G M Q) ∧ (¬ a = 0 → Go 39 21 ls st G M Q) := go_if_eq hq39 k39_18 (by decide)
theorem k39_21 : cm_at ins_39 21 = some (.iinc 1 1, 3) := by decide +kernel
theorem g39_21 : Go 39 21 [l0, some (0, x), l2] st G M Q ↔ Go 39 24 [l0, some (0, x + 1), l2] st G M Q := go_iinc hq39 k39_21 rfl ⟨rfl, by decide⟩
theorem k39_24 : cm_at ins_39 24 = some (.iinc 2 1, 3) := by decide +kernel
theorem g39_24 : Go 39 24 [l0, l1, some (0, x)] st G M Q ↔ Go 39 27 [l0, l1, some (0, x + 1)] st G M Q := go_iinc hq39 k39_24 rfl ⟨rfl, by decide⟩
theorem k39_27 : cm_at ins_39 27 = some (.goto (-23), 3) := by decide +kernel
theorem g39_27 : Go 39 27 ls st G M Q ↔ Go 39 4 ls st G M Q := go_goto hq39 k39_27 (by decide)
theorem k39_30 : cm_at ins_39 30 = some (.iload_n 1, 1) := by decide +kernel
theorem g39_30 : Go 39 30 [l0, some (0, x), l2] st G M Q ↔ Go 39 31 [l0, some (0, x), l2] ((0, x) :: st) G M Q := go_iload_n hq39 k39_30 rfl
theorem k39_31 : cm_at ins_39 31 = some (.ireturn, 1) := by decide +kernel
theorem g39_31 : Go 39 31 ls [(0, v)] G M Q ↔ Q (some (0, v)) G M := go_ireturn hq39 k39_31 rfl
theorem k40_0 : cm_at ins_40 0 = some (.iconst 0, 1) := by decide +kernel
theorem g40_0 : Go 40 0 ls st G M Q ↔ Go 40 1 ls ((0, 0) :: st) G M Q := go_iconst hq40 k40_0
theorem k40_1 : cm_at ins_40 1 = some (.istore_n 1, 1) := by decide +kernel
theorem g40_1 : Go 40 1 [l0, l1] ((0, x) :: st) G M Q ↔ Go 40 2 [l0, some (0, x)] st G M Q := go_istore_n hq40 k40_1 ⟨Nat.le_of_ble_eq_true rfl, rfl, by decide⟩
theorem k40_2 : cm_at ins_40 2 = some (.iload_n 1, 1) := by decide +kernel
theorem g40_2 : Go 40 2 [l0, some (0, x)] st G M Q ↔ Go 40 3 [l0, some (0, x)] ((0, x) :: st) G M Q := go_iload_n hq40 k40_2 rfl
theorem k40_3 : cm_at ins_40 3 = some (.aload_n 0, 1) := by decide +kernel
theorem g40_3 : Go 40 3 [some (2, x), l1] st G M Q ↔ Go 40 4 [some (2, x), l1] ((2, x) :: st) G M Q := go_aload_n hq40 k40_3 rfl
theorem k40_4 : cm_at ins_40 4 = some (.getfield 36, 3) := by decide +kernel
theorem g40_4 : Go 40 4 ls ((2, k) :: st) G M Q ↔ cm_sh G k = some (0, 1) ∧ Go 40 7 ls ((0, M k 5) :: st) G M Q := go_get0 hq40 k40_4 ff1_36 rfl
theorem k40_7 : cm_at ins_40 7 = some (.if_icmp .ge 16, 3) := by decide +kernel
theorem g40_7 : Go 40 7 ls ((0, b) :: (0, a) :: st) G M Q ↔ (cm_in a ∧ cm_in b) ∧ (¬ a < b → Go 40 23 ls st G M Q) ∧ (a < b → Go 40 10 ls st G M Q) := go_icmp_ge hq40 k40_7 (by decide)
theorem k40_10 : cm_at ins_40 10 = some (.aload_n 0, 1) := by decide +kernel
theorem g40_10 : Go 40 10 [some (2, x), l1] st G M Q ↔ Go 40 11 [some (2, x), l1] ((2, x) :: st) G M Q := go_aload_n hq40 k40_10 rfl
theorem k40_11 : cm_at ins_40 11 = some (.getfield 24, 3) := by decide +kernel
theorem g40_11 : Go 40 11 ls ((2, k) :: st) G M Q ↔ cm_sh G k = some (0, 1) ∧ Go 40 14 ls ((2, G.2 k 4) :: st) G M Q := go_get2 hq40 k40_11 ff1_24 rfl
theorem k40_14 : cm_at ins_40 14 = some (.iload_n 1, 1) := by decide +kernel
theorem g40_14 : Go 40 14 [l0, some (0, x)] st G M Q ↔ Go 40 15 [l0, some (0, x)] ((0, x) :: st) G M Q := go_iload_n hq40 k40_14 rfl
theorem k40_15 : cm_at ins_40 15 = some (.iconst 0, 1) := by decide +kernel
theorem g40_15 : Go 40 15 ls st G M Q ↔ Go 40 16 ls ((0, 0) :: st) G M Q := go_iconst hq40 k40_15
theorem k40_16 : cm_at ins_40 16 = some (.iastore, 1) := by decide +kernel
theorem g40_16 : Go 40 16 ls ((0, v) :: (0, i) :: (2, k) :: st) G M Q ↔ (0 ≤ k ∧ 0 ≤ i ∧ i < cm_al 1 G M k) ∧ Go 40 17 ls st G (cm_up M k i v) Q := go_iast hq40 k40_16
theorem k40_17 : cm_at ins_40 17 = some (.iinc 1 1, 3) := by decide +kernel
theorem g40_17 : Go 40 17 [l0, some (0, x)] st G M Q ↔ Go 40 20 [l0, some (0, x + 1)] st G M Q := go_iinc hq40 k40_17 rfl ⟨rfl, by decide⟩
theorem k40_20 : cm_at ins_40 20 = some (.goto (-18), 3) := by decide +kernel
theorem g40_20 : Go 40 20 ls st G M Q ↔ Go 40 2 ls st G M Q := go_goto hq40 k40_20 (by decide)
theorem k40_23 : cm_at ins_40 23 = some (.return_, 1) := by decide +kernel
theorem g40_23 : Go 40 23 ls [] G M Q ↔ Q none G M := go_return hq40 k40_23 rfl
theorem k41_0 : cm_at ins_41 0 = some (.aload_n 0, 1) := by decide +kernel
theorem g41_0 : Go 41 0 [some (2, x), l1] st G M Q ↔ Go 41 1 [some (2, x), l1] ((2, x) :: st) G M Q := go_aload_n hq41 k41_0 rfl
theorem k41_1 : cm_at ins_41 1 = some (.invokespecial 3, 3) := by decide +kernel
theorem g41_1 : Go 41 1 ls [(2, k)] G M Q ↔ 0 ≤ k ∧ Go 41 4 ls [] G M Q := go_obj hq41 k41_1 fc2_3
theorem k41_4 : cm_at ins_41 4 = some (.aload_n 0, 1) := by decide +kernel
theorem g41_4 : Go 41 4 [some (2, x), l1] st G M Q ↔ Go 41 5 [some (2, x), l1] ((2, x) :: st) G M Q := go_aload_n hq41 k41_4 rfl
theorem k41_5 : cm_at ins_41 5 = some (.bipush 6, 2) := by decide +kernel
theorem g41_5 : Go 41 5 ls st G M Q ↔ Go 41 7 ls ((0, 6) :: st) G M Q := go_bipush hq41 k41_5 (by decide)
theorem k41_7 : cm_at ins_41 7 = some (.anewarray 9, 3) := by decide +kernel
theorem g41_7 : Go 41 7 ls ((0, x) :: st) G M Q ↔ (0 ≤ x ∧ x ≤ 1000) ∧ Go 41 10 ls ((2, (G.1.length : Int)) :: st) (G.1 ++ [(4, x.toNat)], cm_row G.2 (G.1.length : Int) (-1)) M Q := go_anew hq41 k41_7 (by decide +kernel)
theorem k41_10 : cm_at ins_41 10 = some (.putfield 11, 3) := by decide +kernel
theorem g41_10 : Go 41 10 ls ((2, v) :: (2, k) :: st) G M Q ↔ (cm_sh G k = some (0, 2) ∧ 0 ≤ v) ∧ Go 41 13 ls st (G.1, cm_up G.2 k 0 v) M Q := go_put2 hq41 k41_10 ff2_11 rfl ⟨rfl, rfl⟩
theorem k41_13 : cm_at ins_41 13 = some (.iconst 0, 1) := by decide +kernel
theorem g41_13 : Go 41 13 ls st G M Q ↔ Go 41 14 ls ((0, 0) :: st) G M Q := go_iconst hq41 k41_13
theorem k41_14 : cm_at ins_41 14 = some (.istore_n 1, 1) := by decide +kernel
theorem g41_14 : Go 41 14 [l0, l1] ((0, x) :: st) G M Q ↔ Go 41 15 [l0, some (0, x)] st G M Q := go_istore_n hq41 k41_14 ⟨Nat.le_of_ble_eq_true rfl, rfl, by decide⟩
theorem k41_15 : cm_at ins_41 15 = some (.iload_n 1, 1) := by decide +kernel
theorem g41_15 : Go 41 15 [l0, some (0, x)] st G M Q ↔ Go 41 16 [l0, some (0, x)] ((0, x) :: st) G M Q := go_iload_n hq41 k41_15 rfl
theorem k41_16 : cm_at ins_41 16 = some (.bipush 6, 2) := by decide +kernel
theorem g41_16 : Go 41 16 ls st G M Q ↔ Go 41 18 ls ((0, 6) :: st) G M Q := go_bipush hq41 k41_16 (by decide)
theorem k41_18 : cm_at ins_41 18 = some (.if_icmp .ge 22, 3) := by decide +kernel
theorem g41_18 : Go 41 18 ls ((0, b) :: (0, a) :: st) G M Q ↔ (cm_in a ∧ cm_in b) ∧ (¬ a < b → Go 41 40 ls st G M Q) ∧ (a < b → Go 41 21 ls st G M Q) := go_icmp_ge hq41 k41_18 (by decide)
theorem k41_21 : cm_at ins_41 21 = some (.aload_n 0, 1) := by decide +kernel
theorem g41_21 : Go 41 21 [some (2, x), l1] st G M Q ↔ Go 41 22 [some (2, x), l1] ((2, x) :: st) G M Q := go_aload_n hq41 k41_21 rfl
theorem k41_22 : cm_at ins_41 22 = some (.getfield 11, 3) := by decide +kernel
theorem g41_22 : Go 41 22 ls ((2, k) :: st) G M Q ↔ cm_sh G k = some (0, 2) ∧ Go 41 25 ls ((2, G.2 k 0) :: st) G M Q := go_get2 hq41 k41_22 ff2_11 rfl
theorem k41_25 : cm_at ins_41 25 = some (.iload_n 1, 1) := by decide +kernel
theorem g41_25 : Go 41 25 [l0, some (0, x)] st G M Q ↔ Go 41 26 [l0, some (0, x)] ((0, x) :: st) G M Q := go_iload_n hq41 k41_25 rfl
theorem k41_26 : cm_at ins_41 26 = some (.new 9, 3) := by decide +kernel
theorem g41_26 : Go 41 26 ls st G M Q ↔ Go 41 29 ls ((2, (G.1.length : Int)) :: st) (G.1 ++ [(0, 1)], cm_row G.2 (G.1.length : Int) (-1)) (cm_row M (G.1.length : Int) 0) Q := go_new hq41 k41_26 (by decide +kernel)
theorem k41_29 : cm_at ins_41 29 = some (.dup, 1) := by decide +kernel
theorem g41_29b : Go 41 29 ls ((0, x) :: st) G M Q ↔ Go 41 30 ls ((0, x) :: (0, x) :: st) G M Q := go_dup0 hq41 k41_29
theorem g41_29 : Go 41 29 ls ((2, x) :: st) G M Q ↔ Go 41 30 ls ((2, x) :: (2, x) :: st) G M Q := go_dup2 hq41 k41_29
theorem k41_30 : cm_at ins_41 30 = some (.invokespecial 17, 3) := by decide +kernel
theorem c41_30 (h8 : cm_sum st ≤ 8) (hk : cm_sh G k = some (0, 1)) (K : Go 26 0 [some (2, k)] [] G M (fun r G' M' => Go 41 33 ls (r.toList ++ st) G' M' Q)) : Go 41 30 ls ((2, k) :: st) G M Q := go_callI hq41 k41_30 fc2_17 (by decide) hq26 rfl (as := [(2, k)]) rfl rfl (Nat.le_of_ble_eq_true rfl) rfl h8 hk K
theorem k41_33 : cm_at ins_41 33 = some (.aastore, 1) := by decide +kernel
theorem g41_33 : Go 41 33 ls ((2, v) :: (0, i) :: (2, k) :: st) G M Q ↔ (0 ≤ k ∧ 0 ≤ i ∧ i < cm_al 4 G M k ∧ cm_sh G v = some (0, 1)) ∧ Go 41 34 ls st (G.1, cm_up G.2 k i v) M Q := go_aast hq41 k41_33
theorem k41_34 : cm_at ins_41 34 = some (.iinc 1 1, 3) := by decide +kernel
theorem g41_34 : Go 41 34 [l0, some (0, x)] st G M Q ↔ Go 41 37 [l0, some (0, x + 1)] st G M Q := go_iinc hq41 k41_34 rfl ⟨rfl, by decide⟩
theorem k41_37 : cm_at ins_41 37 = some (.goto (-22), 3) := by decide +kernel
theorem g41_37 : Go 41 37 ls st G M Q ↔ Go 41 15 ls st G M Q := go_goto hq41 k41_37 (by decide)
theorem k41_40 : cm_at ins_41 40 = some (.return_, 1) := by decide +kernel
theorem g41_40 : Go 41 40 ls [] G M Q ↔ Q none G M := go_return hq41 k41_40 rfl
theorem k42_0 : cm_at ins_42 0 = some (.aload_n 0, 1) := by decide +kernel
theorem g42_0 : Go 42 0 [some (2, x), l1] st G M Q ↔ Go 42 1 [some (2, x), l1] ((2, x) :: st) G M Q := go_aload_n hq42 k42_0 rfl
theorem k42_1 : cm_at ins_42 1 = some (.getfield 11, 3) := by decide +kernel
theorem g42_1 : Go 42 1 ls ((2, k) :: st) G M Q ↔ cm_sh G k = some (0, 2) ∧ Go 42 4 ls ((2, G.2 k 0) :: st) G M Q := go_get2 hq42 k42_1 ff2_11 rfl
theorem k42_4 : cm_at ins_42 4 = some (.aload_n 0, 1) := by decide +kernel
theorem g42_4 : Go 42 4 [some (2, x), l1] st G M Q ↔ Go 42 5 [some (2, x), l1] ((2, x) :: st) G M Q := go_aload_n hq42 k42_4 rfl
theorem k42_5 : cm_at ins_42 5 = some (.getfield 18, 3) := by decide +kernel
theorem g42_5 : Go 42 5 ls ((2, k) :: st) G M Q ↔ cm_sh G k = some (0, 2) ∧ Go 42 8 ls ((0, M k 2) :: st) G M Q := go_get0 hq42 k42_5 ff2_18 rfl
theorem k42_8 : cm_at ins_42 8 = some (.aload_n 0, 1) := by decide +kernel
theorem g42_8 : Go 42 8 [some (2, x), l1] st G M Q ↔ Go 42 9 [some (2, x), l1] ((2, x) :: st) G M Q := go_aload_n hq42 k42_8 rfl
theorem k42_9 : cm_at ins_42 9 = some (.getfield 22, 3) := by decide +kernel
theorem g42_9 : Go 42 9 ls ((2, k) :: st) G M Q ↔ cm_sh G k = some (0, 2) ∧ Go 42 12 ls ((0, M k 1) :: st) G M Q := go_get0 hq42 k42_9 ff2_22 rfl
theorem k42_12 : cm_at ins_42 12 = some (.iadd, 1) := by decide +kernel
theorem g42_12 : Go 42 12 ls ((0, b) :: (0, a) :: st) G M Q ↔ Go 42 13 ls ((0, a + b) :: st) G M Q := go_iadd hq42 k42_12
theorem k42_13 : cm_at ins_42 13 = some (.bipush 6, 2) := by decide +kernel
theorem g42_13 : Go 42 13 ls st G M Q ↔ Go 42 15 ls ((0, 6) :: st) G M Q := go_bipush hq42 k42_13 (by decide)
theorem k42_15 : cm_at ins_42 15 = some (.irem, 1) := by decide +kernel
theorem g42_15 : Go 42 15 ls ((0, b) :: (0, a) :: st) G M Q ↔ (cm_in a ∧ cm_in b ∧ 0 < b) ∧ Go 42 16 ls ((0, a.tmod b) :: st) G M Q := go_irem hq42 k42_15
theorem k42_16 : cm_at ins_42 16 = some (.aaload, 1) := by decide +kernel
theorem g42_16 : Go 42 16 ls ((0, i) :: (2, k) :: st) G M Q ↔ (0 ≤ k ∧ 0 ≤ i ∧ i < cm_al 4 G M k) ∧ Go 42 17 ls ((2, G.2 k i) :: st) G M Q := go_aald hq42 k42_16
theorem k42_17 : cm_at ins_42 17 = some (.aload_n 1, 1) := by decide +kernel
theorem g42_17 : Go 42 17 [l0, some (2, x)] st G M Q ↔ Go 42 18 [l0, some (2, x)] ((2, x) :: st) G M Q := go_aload_n hq42 k42_17 rfl
theorem k42_18 : cm_at ins_42 18 = some (.invokevirtual 25, 3) := by decide +kernel
theorem c42_18 (h8 : cm_sum st ≤ 8) (hk : cm_sh G k = some (0, 1)) (K : Go 27 0 [some (2, k), some (2, y)] [] G M (fun r G' M' => Go 42 21 ls (r.toList ++ st) G' M' Q)) : Go 42 18 ls ((2, y) :: (2, k) :: st) G M Q := go_callV hq42 k42_18 fc2_25 hq27 rfl (as := [(2, y), (2, k)]) rfl rfl (Nat.le_of_ble_eq_true rfl) rfl h8 hk K
theorem k42_21 : cm_at ins_42 21 = some (.aload_n 0, 1) := by decide +kernel
theorem g42_21 : Go 42 21 [some (2, x), l1] st G M Q ↔ Go 42 22 [some (2, x), l1] ((2, x) :: st) G M Q := go_aload_n hq42 k42_21 rfl
theorem k42_22 : cm_at ins_42 22 = some (.getfield 22, 3) := by decide +kernel
theorem g42_22 : Go 42 22 ls ((2, k) :: st) G M Q ↔ cm_sh G k = some (0, 2) ∧ Go 42 25 ls ((0, M k 1) :: st) G M Q := go_get0 hq42 k42_22 ff2_22 rfl
theorem k42_25 : cm_at ins_42 25 = some (.bipush 6, 2) := by decide +kernel
theorem g42_25 : Go 42 25 ls st G M Q ↔ Go 42 27 ls ((0, 6) :: st) G M Q := go_bipush hq42 k42_25 (by decide)
theorem k42_27 : cm_at ins_42 27 = some (.if_icmp .ge 16, 3) := by decide +kernel
theorem g42_27 : Go 42 27 ls ((0, b) :: (0, a) :: st) G M Q ↔ (cm_in a ∧ cm_in b) ∧ (¬ a < b → Go 42 43 ls st G M Q) ∧ (a < b → Go 42 30 ls st G M Q) := go_icmp_ge hq42 k42_27 (by decide)
theorem k42_30 : cm_at ins_42 30 = some (.aload_n 0, 1) := by decide +kernel
theorem g42_30 : Go 42 30 [some (2, x), l1] st G M Q ↔ Go 42 31 [some (2, x), l1] ((2, x) :: st) G M Q := go_aload_n hq42 k42_30 rfl
theorem k42_31 : cm_at ins_42 31 = some (.dup, 1) := by decide +kernel
theorem g42_31b : Go 42 31 ls ((0, x) :: st) G M Q ↔ Go 42 32 ls ((0, x) :: (0, x) :: st) G M Q := go_dup0 hq42 k42_31
theorem g42_31 : Go 42 31 ls ((2, x) :: st) G M Q ↔ Go 42 32 ls ((2, x) :: (2, x) :: st) G M Q := go_dup2 hq42 k42_31
theorem k42_32 : cm_at ins_42 32 = some (.getfield 22, 3) := by decide +kernel
theorem g42_32 : Go 42 32 ls ((2, k) :: st) G M Q ↔ cm_sh G k = some (0, 2) ∧ Go 42 35 ls ((0, M k 1) :: st) G M Q := go_get0 hq42 k42_32 ff2_22 rfl
theorem k42_35 : cm_at ins_42 35 = some (.iconst 1, 1) := by decide +kernel
theorem g42_35 : Go 42 35 ls st G M Q ↔ Go 42 36 ls ((0, 1) :: st) G M Q := go_iconst hq42 k42_35
theorem k42_36 : cm_at ins_42 36 = some (.iadd, 1) := by decide +kernel
theorem g42_36 : Go 42 36 ls ((0, b) :: (0, a) :: st) G M Q ↔ Go 42 37 ls ((0, a + b) :: st) G M Q := go_iadd hq42 k42_36
theorem k42_37 : cm_at ins_42 37 = some (.putfield 22, 3) := by decide +kernel
theorem g42_37 : Go 42 37 ls ((0, v) :: (2, k) :: st) G M Q ↔ cm_sh G k = some (0, 2) ∧ Go 42 40 ls st G (cm_up M k 1 v) Q := go_put0 hq42 k42_37 ff2_22 rfl rfl
theorem k42_40 : cm_at ins_42 40 = some (.goto 16, 3) := by decide +kernel
theorem g42_40 : Go 42 40 ls st G M Q ↔ Go 42 56 ls st G M Q := go_goto hq42 k42_40 (by decide)
theorem k42_43 : cm_at ins_42 43 = some (.aload_n 0, 1) := by decide +kernel
theorem g42_43 : Go 42 43 [some (2, x), l1] st G M Q ↔ Go 42 44 [some (2, x), l1] ((2, x) :: st) G M Q := go_aload_n hq42 k42_43 rfl
theorem k42_44 : cm_at ins_42 44 = some (.aload_n 0, 1) := by decide +kernel
theorem g42_44 : Go 42 44 [some (2, x), l1] st G M Q ↔ Go 42 45 [some (2, x), l1] ((2, x) :: st) G M Q := go_aload_n hq42 k42_44 rfl
theorem k42_45 : cm_at ins_42 45 = some (.getfield 18, 3) := by decide +kernel
theorem g42_45 : Go 42 45 ls ((2, k) :: st) G M Q ↔ cm_sh G k = some (0, 2) ∧ Go 42 48 ls ((0, M k 2) :: st) G M Q := go_get0 hq42 k42_45 ff2_18 rfl
theorem k42_48 : cm_at ins_42 48 = some (.iconst 1, 1) := by decide +kernel
theorem g42_48 : Go 42 48 ls st G M Q ↔ Go 42 49 ls ((0, 1) :: st) G M Q := go_iconst hq42 k42_48
theorem k42_49 : cm_at ins_42 49 = some (.iadd, 1) := by decide +kernel
theorem g42_49 : Go 42 49 ls ((0, b) :: (0, a) :: st) G M Q ↔ Go 42 50 ls ((0, a + b) :: st) G M Q := go_iadd hq42 k42_49
theorem k42_50 : cm_at ins_42 50 = some (.bipush 6, 2) := by decide +kernel
theorem g42_50 : Go 42 50 ls st G M Q ↔ Go 42 52 ls ((0, 6) :: st) G M Q := go_bipush hq42 k42_50 (by decide)
theorem k42_52 : cm_at ins_42 52 = some (.irem, 1) := by decide +kernel
theorem g42_52 : Go 42 52 ls ((0, b) :: (0, a) :: st) G M Q ↔ (cm_in a ∧ cm_in b ∧ 0 < b) ∧ Go 42 53 ls ((0, a.tmod b) :: st) G M Q := go_irem hq42 k42_52
theorem k42_53 : cm_at ins_42 53 = some (.putfield 18, 3) := by decide +kernel
theorem g42_53 : Go 42 53 ls ((0, v) :: (2, k) :: st) G M Q ↔ cm_sh G k = some (0, 2) ∧ Go 42 56 ls st G (cm_up M k 2 v) Q := go_put0 hq42 k42_53 ff2_18 rfl rfl
theorem k42_56 : cm_at ins_42 56 = some (.return_, 1) := by decide +kernel
theorem g42_56 : Go 42 56 ls [] G M Q ↔ Q none G M := go_return hq42 k42_56 rfl
theorem k43_0 : cm_at ins_43 0 = some (.aload_n 0, 1) := by decide +kernel
theorem g43_0 : Go 43 0 [some (2, x)] st G M Q ↔ Go 43 1 [some (2, x)] ((2, x) :: st) G M Q := go_aload_n hq43 k43_0 rfl
theorem k43_1 : cm_at ins_43 1 = some (.invokespecial 3, 3) := by decide +kernel
theorem g43_1 : Go 43 1 ls [(2, k)] G M Q ↔ 0 ≤ k ∧ Go 43 4 ls [] G M Q := go_obj hq43 k43_1 fc3_3
theorem k43_4 : cm_at ins_43 4 = some (.aload_n 0, 1) := by decide +kernel
theorem g43_4 : Go 43 4 [some (2, x)] st G M Q ↔ Go 43 5 [some (2, x)] ((2, x) :: st) G M Q := go_aload_n hq43 k43_4 rfl
theorem k43_5 : cm_at ins_43 5 = some (.bipush 60, 2) := by decide +kernel
theorem g43_5 : Go 43 5 ls st G M Q ↔ Go 43 7 ls ((0, 60) :: st) G M Q := go_bipush hq43 k43_5 (by decide)
theorem k43_7 : cm_at ins_43 7 = some (.newarray .char, 2) := by decide +kernel
theorem g43_7 : Go 43 7 ls ((0, x) :: st) G M Q ↔ (0 ≤ x ∧ x ≤ 1000) ∧ Go 43 9 ls ((2, (G.1.length : Int)) :: st) (G.1 ++ [(2, x.toNat)], G.2) (cm_row M (G.1.length : Int) 0) Q := go_newarr hq43 k43_7 rfl
theorem k43_9 : cm_at ins_43 9 = some (.putfield 9, 3) := by decide +kernel
theorem g43_9 : Go 43 9 ls ((2, v) :: (2, k) :: st) G M Q ↔ (cm_sh G k = some (0, 3) ∧ 0 ≤ v) ∧ Go 43 12 ls st (G.1, cm_up G.2 k 0 v) M Q := go_put2 hq43 k43_9 ff3_9 rfl ⟨rfl, rfl⟩
theorem k43_12 : cm_at ins_43 12 = some (.return_, 1) := by decide +kernel
theorem g43_12 : Go 43 12 ls [] G M Q ↔ Q none G M := go_return hq43 k43_12 rfl
theorem k44_0 : cm_at ins_44 0 = some (.aload_n 0, 1) := by decide +kernel
theorem g44_0 : Go 44 0 [some (2, x), l1] st G M Q ↔ Go 44 1 [some (2, x), l1] ((2, x) :: st) G M Q := go_aload_n hq44 k44_0 rfl
theorem k44_1 : cm_at ins_44 1 = some (.invokespecial 3, 3) := by decide +kernel
theorem g44_1 : Go 44 1 ls [(2, k)] G M Q ↔ 0 ≤ k ∧ Go 44 4 ls [] G M Q := go_obj hq44 k44_1 fc4_3
theorem k44_4 : cm_at ins_44 4 = some (.aload_n 0, 1) := by decide +kernel
theorem g44_4 : Go 44 4 [some (2, x), l1] st G M Q ↔ Go 44 5 [some (2, x), l1] ((2, x) :: st) G M Q := go_aload_n hq44 k44_4 rfl
theorem k44_5 : cm_at ins_44 5 = some (.iconst 2, 1) := by decide +kernel
theorem g44_5 : Go 44 5 ls st G M Q ↔ Go 44 6 ls ((0, 2) :: st) G M Q := go_iconst hq44 k44_5
theorem k44_6 : cm_at ins_44 6 = some (.anewarray 9, 3) := by decide +kernel
theorem g44_6 : Go 44 6 ls ((0, x) :: st) G M Q ↔ (0 ≤ x ∧ x ≤ 1000) ∧ Go 44 9 ls ((2, (G.1.length : Int)) :: st) (G.1 ++ [(4, x.toNat)], cm_row G.2 (G.1.length : Int) (-1)) M Q := go_anew hq44 k44_6 (by decide +kernel)
theorem k44_9 : cm_at ins_44 9 = some (.putfield 11, 3) := by decide +kernel
theorem g44_9 : Go 44 9 ls ((2, v) :: (2, k) :: st) G M Q ↔ (cm_sh G k = some (0, 4) ∧ 0 ≤ v) ∧ Go 44 12 ls st (G.1, cm_up G.2 k 0 v) M Q := go_put2 hq44 k44_9 ff4_11 rfl ⟨rfl, rfl⟩
theorem k44_12 : cm_at ins_44 12 = some (.aload_n 0, 1) := by decide +kernel
theorem g44_12 : Go 44 12 [some (2, x), l1] st G M Q ↔ Go 44 13 [some (2, x), l1] ((2, x) :: st) G M Q := go_aload_n hq44 k44_12 rfl
theorem k44_13 : cm_at ins_44 13 = some (.iconst 2, 1) := by decide +kernel
theorem g44_13 : Go 44 13 ls st G M Q ↔ Go 44 14 ls ((0, 2) :: st) G M Q := go_iconst hq44 k44_13
theorem k44_14 : cm_at ins_44 14 = some (.newarray .boolean, 2) := by decide +kernel
theorem g44_14 : Go 44 14 ls ((0, x) :: st) G M Q ↔ (0 ≤ x ∧ x ≤ 1000) ∧ Go 44 16 ls ((2, (G.1.length : Int)) :: st) (G.1 ++ [(3, x.toNat)], G.2) (cm_row M (G.1.length : Int) 0) Q := go_newarr hq44 k44_14 rfl
theorem k44_16 : cm_at ins_44 16 = some (.putfield 17, 3) := by decide +kernel
theorem g44_16 : Go 44 16 ls ((2, v) :: (2, k) :: st) G M Q ↔ (cm_sh G k = some (0, 4) ∧ 0 ≤ v) ∧ Go 44 19 ls st (G.1, cm_up G.2 k 1 v) M Q := go_put2 hq44 k44_16 ff4_17 rfl ⟨rfl, rfl⟩
theorem k44_19 : cm_at ins_44 19 = some (.iconst 0, 1) := by decide +kernel
theorem g44_19 : Go 44 19 ls st G M Q ↔ Go 44 20 ls ((0, 0) :: st) G M Q := go_iconst hq44 k44_19
theorem k44_20 : cm_at ins_44 20 = some (.istore_n 1, 1) := by decide +kernel
theorem g44_20 : Go 44 20 [l0, l1] ((0, x) :: st) G M Q ↔ Go 44 21 [l0, some (0, x)] st G M Q := go_istore_n hq44 k44_20 ⟨Nat.le_of_ble_eq_true rfl, rfl, by decide⟩
theorem k44_21 : cm_at ins_44 21 = some (.iload_n 1, 1) := by decide +kernel
theorem g44_21 : Go 44 21 [l0, some (0, x)] st G M Q ↔ Go 44 22 [l0, some (0, x)] ((0, x) :: st) G M Q := go_iload_n hq44 k44_21 rfl
theorem k44_22 : cm_at ins_44 22 = some (.iconst 2, 1) := by decide +kernel
theorem g44_22 : Go 44 22 ls st G M Q ↔ Go 44 23 ls ((0, 2) :: st) G M Q := go_iconst hq44 k44_22
theorem k44_23 : cm_at ins_44 23 = some (.if_icmp .ge 22, 3) := by decide +kernel
theorem g44_23 : Go 44 23 ls ((0, b) :: (0, a) :: st) G M Q ↔ (cm_in a ∧ cm_in b) ∧ (¬ a < b → Go 44 45 ls st G M Q) ∧ (a < b → Go 44 26 ls st G M Q) := go_icmp_ge hq44 k44_23 (by decide)
theorem k44_26 : cm_at ins_44 26 = some (.aload_n 0, 1) := by decide +kernel
theorem g44_26 : Go 44 26 [some (2, x), l1] st G M Q ↔ Go 44 27 [some (2, x), l1] ((2, x) :: st) G M Q := go_aload_n hq44 k44_26 rfl
theorem k44_27 : cm_at ins_44 27 = some (.getfield 11, 3) := by decide +kernel
theorem g44_27 : Go 44 27 ls ((2, k) :: st) G M Q ↔ cm_sh G k = some (0, 4) ∧ Go 44 30 ls ((2, G.2 k 0) :: st) G M Q := go_get2 hq44 k44_27 ff4_11 rfl
theorem k44_30 : cm_at ins_44 30 = some (.iload_n 1, 1) := by decide +kernel
theorem g44_30 : Go 44 30 [l0, some (0, x)] st G M Q ↔ Go 44 31 [l0, some (0, x)] ((0, x) :: st) G M Q := go_iload_n hq44 k44_30 rfl
theorem k44_31 : cm_at ins_44 31 = some (.new 9, 3) := by decide +kernel
theorem g44_31 : Go 44 31 ls st G M Q ↔ Go 44 34 ls ((2, (G.1.length : Int)) :: st) (G.1 ++ [(0, 1)], cm_row G.2 (G.1.length : Int) (-1)) (cm_row M (G.1.length : Int) 0) Q := go_new hq44 k44_31 (by decide +kernel)
theorem k44_34 : cm_at ins_44 34 = some (.dup, 1) := by decide +kernel
theorem g44_34b : Go 44 34 ls ((0, x) :: st) G M Q ↔ Go 44 35 ls ((0, x) :: (0, x) :: st) G M Q := go_dup0 hq44 k44_34
theorem g44_34 : Go 44 34 ls ((2, x) :: st) G M Q ↔ Go 44 35 ls ((2, x) :: (2, x) :: st) G M Q := go_dup2 hq44 k44_34
theorem k44_35 : cm_at ins_44 35 = some (.invokespecial 21, 3) := by decide +kernel
theorem c44_35 (h8 : cm_sum st ≤ 8) (hk : cm_sh G k = some (0, 1)) (K : Go 26 0 [some (2, k)] [] G M (fun r G' M' => Go 44 38 ls (r.toList ++ st) G' M' Q)) : Go 44 35 ls ((2, k) :: st) G M Q := go_callI hq44 k44_35 fc4_21 (by decide) hq26 rfl (as := [(2, k)]) rfl rfl (Nat.le_of_ble_eq_true rfl) rfl h8 hk K
theorem k44_38 : cm_at ins_44 38 = some (.aastore, 1) := by decide +kernel
theorem g44_38 : Go 44 38 ls ((2, v) :: (0, i) :: (2, k) :: st) G M Q ↔ (0 ≤ k ∧ 0 ≤ i ∧ i < cm_al 4 G M k ∧ cm_sh G v = some (0, 1)) ∧ Go 44 39 ls st (G.1, cm_up G.2 k i v) M Q := go_aast hq44 k44_38
theorem k44_39 : cm_at ins_44 39 = some (.iinc 1 1, 3) := by decide +kernel
theorem g44_39 : Go 44 39 [l0, some (0, x)] st G M Q ↔ Go 44 42 [l0, some (0, x + 1)] st G M Q := go_iinc hq44 k44_39 rfl ⟨rfl, by decide⟩
theorem k44_42 : cm_at ins_44 42 = some (.goto (-21), 3) := by decide +kernel
theorem g44_42 : Go 44 42 ls st G M Q ↔ Go 44 21 ls st G M Q := go_goto hq44 k44_42 (by decide)
theorem k44_45 : cm_at ins_44 45 = some (.return_, 1) := by decide +kernel
theorem g44_45 : Go 44 45 ls [] G M Q ↔ Q none G M := go_return hq44 k44_45 rfl
theorem k45_0 : cm_at ins_45 0 = some (.aload_n 0, 1) := by decide +kernel
theorem g45_0 : Go 45 0 [some (2, x)] st G M Q ↔ Go 45 1 [some (2, x)] ((2, x) :: st) G M Q := go_aload_n hq45 k45_0 rfl
theorem k45_1 : cm_at ins_45 1 = some (.invokespecial 1, 3) := by decide +kernel
theorem g45_1 : Go 45 1 ls [(2, k)] G M Q ↔ 0 ≤ k ∧ Go 45 4 ls [] G M Q := go_obj hq45 k45_1 fc5_1
theorem k45_4 : cm_at ins_45 4 = some (.aload_n 0, 1) := by decide +kernel
theorem g45_4 : Go 45 4 [some (2, x)] st G M Q ↔ Go 45 5 [some (2, x)] ((2, x) :: st) G M Q := go_aload_n hq45 k45_4 rfl
theorem k45_5 : cm_at ins_45 5 = some (.new 7, 3) := by decide +kernel
theorem g45_5 : Go 45 5 ls st G M Q ↔ Go 45 8 ls ((2, (G.1.length : Int)) :: st) (G.1 ++ [(0, 0)], cm_row G.2 (G.1.length : Int) (-1)) (cm_row M (G.1.length : Int) 0) Q := go_new hq45 k45_5 (by decide +kernel)
theorem k45_8 : cm_at ins_45 8 = some (.dup, 1) := by decide +kernel
theorem g45_8b : Go 45 8 ls ((0, x) :: st) G M Q ↔ Go 45 9 ls ((0, x) :: (0, x) :: st) G M Q := go_dup0 hq45 k45_8
theorem g45_8 : Go 45 8 ls ((2, x) :: st) G M Q ↔ Go 45 9 ls ((2, x) :: (2, x) :: st) G M Q := go_dup2 hq45 k45_8
theorem k45_9 : cm_at ins_45 9 = some (.invokespecial 9, 3) := by decide +kernel
theorem c45_9 (h8 : cm_sum st ≤ 8) (hk : cm_sh G k = some (0, 0)) (K : Go 0 0 [some (2, k)] [] G M (fun r G' M' => Go 45 12 ls (r.toList ++ st) G' M' Q)) : Go 45 9 ls ((2, k) :: st) G M Q := go_callI hq45 k45_9 fc5_9 (by decide) hq0 rfl (as := [(2, k)]) rfl rfl (Nat.le_of_ble_eq_true rfl) rfl h8 hk K
theorem k45_12 : cm_at ins_45 12 = some (.putfield 10, 3) := by decide +kernel
theorem g45_12 : Go 45 12 ls ((2, v) :: (2, k) :: st) G M Q ↔ (cm_sh G k = some (0, 5) ∧ 0 ≤ v) ∧ Go 45 15 ls st (G.1, cm_up G.2 k 0 v) M Q := go_put2 hq45 k45_12 ff5_10 rfl ⟨rfl, rfl⟩
theorem k45_15 : cm_at ins_45 15 = some (.aload_n 0, 1) := by decide +kernel
theorem g45_15 : Go 45 15 [some (2, x)] st G M Q ↔ Go 45 16 [some (2, x)] ((2, x) :: st) G M Q := go_aload_n hq45 k45_15 rfl
theorem k45_16 : cm_at ins_45 16 = some (.aload_n 0, 1) := by decide +kernel
theorem g45_16 : Go 45 16 [some (2, x)] st G M Q ↔ Go 45 17 [some (2, x)] ((2, x) :: st) G M Q := go_aload_n hq45 k45_16 rfl
theorem k45_17 : cm_at ins_45 17 = some (.getfield 10, 3) := by decide +kernel
theorem g45_17 : Go 45 17 ls ((2, k) :: st) G M Q ↔ cm_sh G k = some (0, 5) ∧ Go 45 20 ls ((2, G.2 k 0) :: st) G M Q := go_get2 hq45 k45_17 ff5_10 rfl
theorem k45_20 : cm_at ins_45 20 = some (.getfield 16, 3) := by decide +kernel
theorem g45_20 : Go 45 20 ls ((2, k) :: st) G M Q ↔ cm_sh G k = some (0, 0) ∧ Go 45 23 ls ((2, G.2 k 0) :: st) G M Q := go_get2 hq45 k45_20 ff5_16 rfl
theorem k45_23 : cm_at ins_45 23 = some (.putfield 20, 3) := by decide +kernel
theorem g45_23 : Go 45 23 ls ((2, v) :: (2, k) :: st) G M Q ↔ (cm_sh G k = some (0, 5) ∧ 0 ≤ v) ∧ Go 45 26 ls st (G.1, cm_up G.2 k 1 v) M Q := go_put2 hq45 k45_23 ff5_20 rfl ⟨rfl, rfl⟩
theorem k45_26 : cm_at ins_45 26 = some (.aload_n 0, 1) := by decide +kernel
theorem g45_26 : Go 45 26 [some (2, x)] st G M Q ↔ Go 45 27 [some (2, x)] ((2, x) :: st) G M Q := go_aload_n hq45 k45_26 rfl
theorem k45_27 : cm_at ins_45 27 = some (.new 7, 3) := by decide +kernel
theorem g45_27 : Go 45 27 ls st G M Q ↔ Go 45 30 ls ((2, (G.1.length : Int)) :: st) (G.1 ++ [(0, 0)], cm_row G.2 (G.1.length : Int) (-1)) (cm_row M (G.1.length : Int) 0) Q := go_new hq45 k45_27 (by decide +kernel)
theorem k45_30 : cm_at ins_45 30 = some (.dup, 1) := by decide +kernel
theorem g45_30b : Go 45 30 ls ((0, x) :: st) G M Q ↔ Go 45 31 ls ((0, x) :: (0, x) :: st) G M Q := go_dup0 hq45 k45_30
theorem g45_30 : Go 45 30 ls ((2, x) :: st) G M Q ↔ Go 45 31 ls ((2, x) :: (2, x) :: st) G M Q := go_dup2 hq45 k45_30
theorem k45_31 : cm_at ins_45 31 = some (.invokespecial 9, 3) := by decide +kernel
theorem c45_31 (h8 : cm_sum st ≤ 8) (hk : cm_sh G k = some (0, 0)) (K : Go 0 0 [some (2, k)] [] G M (fun r G' M' => Go 45 34 ls (r.toList ++ st) G' M' Q)) : Go 45 31 ls ((2, k) :: st) G M Q := go_callI hq45 k45_31 fc5_9 (by decide) hq0 rfl (as := [(2, k)]) rfl rfl (Nat.le_of_ble_eq_true rfl) rfl h8 hk K
theorem k45_34 : cm_at ins_45 34 = some (.putfield 21, 3) := by decide +kernel
theorem g45_34 : Go 45 34 ls ((2, v) :: (2, k) :: st) G M Q ↔ (cm_sh G k = some (0, 5) ∧ 0 ≤ v) ∧ Go 45 37 ls st (G.1, cm_up G.2 k 2 v) M Q := go_put2 hq45 k45_34 ff5_21 rfl ⟨rfl, rfl⟩
theorem k45_37 : cm_at ins_45 37 = some (.aload_n 0, 1) := by decide +kernel
theorem g45_37 : Go 45 37 [some (2, x)] st G M Q ↔ Go 45 38 [some (2, x)] ((2, x) :: st) G M Q := go_aload_n hq45 k45_37 rfl
theorem k45_38 : cm_at ins_45 38 = some (.aload_n 0, 1) := by decide +kernel
theorem g45_38 : Go 45 38 [some (2, x)] st G M Q ↔ Go 45 39 [some (2, x)] ((2, x) :: st) G M Q := go_aload_n hq45 k45_38 rfl
theorem k45_39 : cm_at ins_45 39 = some (.getfield 21, 3) := by decide +kernel
theorem g45_39 : Go 45 39 ls ((2, k) :: st) G M Q ↔ cm_sh G k = some (0, 5) ∧ Go 45 42 ls ((2, G.2 k 2) :: st) G M Q := go_get2 hq45 k45_39 ff5_21 rfl
theorem k45_42 : cm_at ins_45 42 = some (.getfield 16, 3) := by decide +kernel
theorem g45_42 : Go 45 42 ls ((2, k) :: st) G M Q ↔ cm_sh G k = some (0, 0) ∧ Go 45 45 ls ((2, G.2 k 0) :: st) G M Q := go_get2 hq45 k45_42 ff5_16 rfl
theorem k45_45 : cm_at ins_45 45 = some (.putfield 24, 3) := by decide +kernel
theorem g45_45 : Go 45 45 ls ((2, v) :: (2, k) :: st) G M Q ↔ (cm_sh G k = some (0, 5) ∧ 0 ≤ v) ∧ Go 45 48 ls st (G.1, cm_up G.2 k 3 v) M Q := go_put2 hq45 k45_45 ff5_24 rfl ⟨rfl, rfl⟩
theorem k45_48 : cm_at ins_45 48 = some (.aload_n 0, 1) := by decide +kernel
theorem g45_48 : Go 45 48 [some (2, x)] st G M Q ↔ Go 45 49 [some (2, x)] ((2, x) :: st) G M Q := go_aload_n hq45 k45_48 rfl
theorem k45_49 : cm_at ins_45 49 = some (.new 27, 3) := by decide +kernel
theorem g45_49 : Go 45 49 ls st G M Q ↔ Go 45 52 ls ((2, (G.1.length : Int)) :: st) (G.1 ++ [(0, 3)], cm_row G.2 (G.1.length : Int) (-1)) (cm_row M (G.1.length : Int) 0) Q := go_new hq45 k45_49 (by decide +kernel)
theorem k45_52 : cm_at ins_45 52 = some (.dup, 1) := by decide +kernel
theorem g45_52b : Go 45 52 ls ((0, x) :: st) G M Q ↔ Go 45 53 ls ((0, x) :: (0, x) :: st) G M Q := go_dup0 hq45 k45_52
theorem g45_52 : Go 45 52 ls ((2, x) :: st) G M Q ↔ Go 45 53 ls ((2, x) :: (2, x) :: st) G M Q := go_dup2 hq45 k45_52
theorem k45_53 : cm_at ins_45 53 = some (.invokespecial 29, 3) := by decide +kernel
theorem c45_53 (h8 : cm_sum st ≤ 8) (hk : cm_sh G k = some (0, 3)) (K : Go 43 0 [some (2, k)] [] G M (fun r G' M' => Go 45 56 ls (r.toList ++ st) G' M' Q)) : Go 45 53 ls ((2, k) :: st) G M Q := go_callI hq45 k45_53 fc5_29 (by decide) hq43 rfl (as := [(2, k)]) rfl rfl (Nat.le_of_ble_eq_true rfl) rfl h8 hk K
theorem k45_56 : cm_at ins_45 56 = some (.putfield 30, 3) := by decide +kernel
theorem g45_56 : Go 45 56 ls ((2, v) :: (2, k) :: st) G M Q ↔ (cm_sh G k = some (0, 5) ∧ 0 ≤ v) ∧ Go 45 59 ls st (G.1, cm_up G.2 k 4 v) M Q := go_put2 hq45 k45_56 ff5_30 rfl ⟨rfl, rfl⟩
theorem k45_59 : cm_at ins_45 59 = some (.aload_n 0, 1) := by decide +kernel
theorem g45_59 : Go 45 59 [some (2, x)] st G M Q ↔ Go 45 60 [some (2, x)] ((2, x) :: st) G M Q := go_aload_n hq45 k45_59 rfl
theorem k45_60 : cm_at ins_45 60 = some (.new 34, 3) := by decide +kernel
theorem g45_60 : Go 45 60 ls st G M Q ↔ Go 45 63 ls ((2, (G.1.length : Int)) :: st) (G.1 ++ [(0, 2)], cm_row G.2 (G.1.length : Int) (-1)) (cm_row M (G.1.length : Int) 0) Q := go_new hq45 k45_60 (by decide +kernel)
theorem k45_63 : cm_at ins_45 63 = some (.dup, 1) := by decide +kernel
theorem g45_63b : Go 45 63 ls ((0, x) :: st) G M Q ↔ Go 45 64 ls ((0, x) :: (0, x) :: st) G M Q := go_dup0 hq45 k45_63
theorem g45_63 : Go 45 63 ls ((2, x) :: st) G M Q ↔ Go 45 64 ls ((2, x) :: (2, x) :: st) G M Q := go_dup2 hq45 k45_63
theorem k45_64 : cm_at ins_45 64 = some (.invokespecial 36, 3) := by decide +kernel
theorem c45_64 (h8 : cm_sum st ≤ 8) (hk : cm_sh G k = some (0, 2)) (K : Go 41 0 [some (2, k), none] [] G M (fun r G' M' => Go 45 67 ls (r.toList ++ st) G' M' Q)) : Go 45 64 ls ((2, k) :: st) G M Q := go_callI hq45 k45_64 fc5_36 (by decide) hq41 rfl (as := [(2, k)]) rfl rfl (Nat.le_of_ble_eq_true rfl) rfl h8 hk K
theorem k45_67 : cm_at ins_45 67 = some (.putfield 37, 3) := by decide +kernel
theorem g45_67 : Go 45 67 ls ((2, v) :: (2, k) :: st) G M Q ↔ (cm_sh G k = some (0, 5) ∧ 0 ≤ v) ∧ Go 45 70 ls st (G.1, cm_up G.2 k 5 v) M Q := go_put2 hq45 k45_67 ff5_37 rfl ⟨rfl, rfl⟩
theorem k45_70 : cm_at ins_45 70 = some (.aload_n 0, 1) := by decide +kernel
theorem g45_70 : Go 45 70 [some (2, x)] st G M Q ↔ Go 45 71 [some (2, x)] ((2, x) :: st) G M Q := go_aload_n hq45 k45_70 rfl
theorem k45_71 : cm_at ins_45 71 = some (.new 41, 3) := by decide +kernel
theorem g45_71 : Go 45 71 ls st G M Q ↔ Go 45 74 ls ((2, (G.1.length : Int)) :: st) (G.1 ++ [(0, 4)], cm_row G.2 (G.1.length : Int) (-1)) (cm_row M (G.1.length : Int) 0) Q := go_new hq45 k45_71 (by decide +kernel)
theorem k45_74 : cm_at ins_45 74 = some (.dup, 1) := by decide +kernel
theorem g45_74b : Go 45 74 ls ((0, x) :: st) G M Q ↔ Go 45 75 ls ((0, x) :: (0, x) :: st) G M Q := go_dup0 hq45 k45_74
theorem g45_74 : Go 45 74 ls ((2, x) :: st) G M Q ↔ Go 45 75 ls ((2, x) :: (2, x) :: st) G M Q := go_dup2 hq45 k45_74
theorem k45_75 : cm_at ins_45 75 = some (.invokespecial 43, 3) := by decide +kernel
theorem c45_75 (h8 : cm_sum st ≤ 8) (hk : cm_sh G k = some (0, 4)) (K : Go 44 0 [some (2, k), none] [] G M (fun r G' M' => Go 45 78 ls (r.toList ++ st) G' M' Q)) : Go 45 75 ls ((2, k) :: st) G M Q := go_callI hq45 k45_75 fc5_43 (by decide) hq44 rfl (as := [(2, k)]) rfl rfl (Nat.le_of_ble_eq_true rfl) rfl h8 hk K
theorem k45_78 : cm_at ins_45 78 = some (.putfield 44, 3) := by decide +kernel
theorem g45_78 : Go 45 78 ls ((2, v) :: (2, k) :: st) G M Q ↔ (cm_sh G k = some (0, 5) ∧ 0 ≤ v) ∧ Go 45 81 ls st (G.1, cm_up G.2 k 6 v) M Q := go_put2 hq45 k45_78 ff5_44 rfl ⟨rfl, rfl⟩
theorem k45_81 : cm_at ins_45 81 = some (.return_, 1) := by decide +kernel
theorem g45_81 : Go 45 81 ls [] G M Q ↔ Q none G M := go_return hq45 k45_81 rfl
theorem k46_0 : cm_at ins_46 0 = some (.iload_n 1, 1) := by decide +kernel
theorem g46_0 : Go 46 0 [l0, some (0, x), l2, l3] st G M Q ↔ Go 46 1 [l0, some (0, x), l2, l3] ((0, x) :: st) G M Q := go_iload_n hq46 k46_0 rfl
theorem k46_1 : cm_at ins_46 1 = some (.ifCond .lt 8, 3) := by decide +kernel
theorem g46_1 : Go 46 1 ls ((0, a) :: st) G M Q ↔ cm_in a ∧ (a < 0 → Go 46 9 ls st G M Q) ∧ (¬ a < 0 → Go 46 4 ls st G M Q) := go_if_lt hq46 k46_1 (by decide)
theorem k46_4 : cm_at ins_46 4 = some (.iload_n 1, 1) := by decide +kernel
theorem g46_4 : Go 46 4 [l0, some (0, x), l2, l3] st G M Q ↔ Go 46 5 [l0, some (0, x), l2, l3] ((0, x) :: st) G M Q := go_iload_n hq46 k46_4 rfl
theorem k46_5 : cm_at ins_46 5 = some (.iconst 3, 1) := by decide +kernel
theorem g46_5 : Go 46 5 ls st G M Q ↔ Go 46 6 ls ((0, 3) :: st) G M Q := go_iconst hq46 k46_5
theorem k46_6 : cm_at ins_46 6 = some (.if_icmp .lt 6, 3) := by decide +kernel
theorem g46_6 : Go 46 6 ls ((0, b) :: (0, a) :: st) G M Q ↔ (cm_in a ∧ cm_in b) ∧ (a < b → Go 46 12 ls st G M Q) ∧ (¬ a < b → Go 46 9 ls st G M Q) := go_icmp_lt hq46 k46_6 (by decide)
theorem k46_9 : cm_at ins_46 9 = some (.bipush (-2), 2) := by decide +kernel
theorem g46_9 : Go 46 9 ls st G M Q ↔ Go 46 11 ls ((0, (-2)) :: st) G M Q := go_bipush hq46 k46_9 (by decide)
theorem k46_11 : cm_at ins_46 11 = some (.ireturn, 1) := by decide +kernel
theorem g46_11 : Go 46 11 ls [(0, v)] G M Q ↔ Q (some (0, v)) G M := go_ireturn hq46 k46_11 rfl
theorem k46_12 : cm_at ins_46 12 = some (.iload_n 2, 1) := by decide +kernel
theorem g46_12 : Go 46 12 [l0, l1, some (0, x), l3] st G M Q ↔ Go 46 13 [l0, l1, some (0, x), l3] ((0, x) :: st) G M Q := go_iload_n hq46 k46_12 rfl
theorem k46_13 : cm_at ins_46 13 = some (.getstatic 48, 3) := by decide +kernel
theorem g46_13 : Go 46 13 ls st G M Q ↔ Go 46 16 ls ((2, -4) :: st) G M Q := go_gets (nst := 0) hq46 k46_13 (by decide +kernel)
theorem k46_16 : cm_at ins_46 16 = some (.iload_n 1, 1) := by decide +kernel
theorem g46_16 : Go 46 16 [l0, some (0, x), l2, l3] st G M Q ↔ Go 46 17 [l0, some (0, x), l2, l3] ((0, x) :: st) G M Q := go_iload_n hq46 k46_16 rfl
theorem k46_17 : cm_at ins_46 17 = some (.iaload, 1) := by decide +kernel
theorem g46_17 : Go 46 17 ls ((0, i) :: (2, k) :: st) G M Q ↔ (0 ≤ i ∧ i < cm_al 1 G M k) ∧ Go 46 18 ls ((0, M k i) :: st) G M Q := go_iald hq46 k46_17
theorem k46_18 : cm_at ins_46 18 = some (.getstatic 52, 3) := by decide +kernel
theorem g46_18 : Go 46 18 ls st G M Q ↔ Go 46 21 ls ((2, -5) :: st) G M Q := go_gets (nst := 0) hq46 k46_18 (by decide +kernel)
theorem k46_21 : cm_at ins_46 21 = some (.iload_n 1, 1) := by decide +kernel
theorem g46_21 : Go 46 21 [l0, some (0, x), l2, l3] st G M Q ↔ Go 46 22 [l0, some (0, x), l2, l3] ((0, x) :: st) G M Q := go_iload_n hq46 k46_21 rfl
theorem k46_22 : cm_at ins_46 22 = some (.iaload, 1) := by decide +kernel
theorem g46_22 : Go 46 22 ls ((0, i) :: (2, k) :: st) G M Q ↔ (0 ≤ i ∧ i < cm_al 1 G M k) ∧ Go 46 23 ls ((0, M k i) :: st) G M Q := go_iald hq46 k46_22
theorem k46_23 : cm_at ins_46 23 = some (.invokestatic 55, 3) := by decide +kernel
theorem c46_23 (h8 : cm_sum st ≤ 8) (K : Go 61 0 [some (0, x), some (0, y), some (0, z)] [] G M (fun r G' M' => Go 46 26 ls (r.toList ++ st) G' M' Q)) : Go 46 23 ls ((0, z) :: (0, y) :: (0, x) :: st) G M Q := go_callS hq46 k46_23 fc5_55 ⟨by decide, by decide⟩ hq61 rfl (as := [(0, z), (0, y), (0, x)]) rfl rfl (Nat.le_of_ble_eq_true rfl) h8 K
theorem k46_26 : cm_at ins_46 26 = some (.ifCond .ne 6, 3) := by decide +kernel
theorem g46_26 : Go 46 26 ls ((0, a) :: st) G M Q ↔ cm_in a ∧ (¬ a = 0 → Go 46 32 ls st G M Q) ∧ (a = 0 → Go 46 29 ls st G M Q) := go_if_ne hq46 k46_26 (by decide)
theorem k46_29 : cm_at ins_46 29 = some (.bipush (-2), 2) := by decide +kernel
theorem g46_29 : Go 46 29 ls st G M Q ↔ Go 46 31 ls ((0, (-2)) :: st) G M Q := go_bipush hq46 k46_29 (by decide)
theorem k46_31 : cm_at ins_46 31 = some (.ireturn, 1) := by decide +kernel
theorem g46_31 : Go 46 31 ls [(0, v)] G M Q ↔ Q (some (0, v)) G M := go_ireturn hq46 k46_31 rfl
theorem k46_32 : cm_at ins_46 32 = some (.aload_n 0, 1) := by decide +kernel
theorem g46_32 : Go 46 32 [some (2, x), l1, l2, l3] st G M Q ↔ Go 46 33 [some (2, x), l1, l2, l3] ((2, x) :: st) G M Q := go_aload_n hq46 k46_32 rfl
theorem k46_33 : cm_at ins_46 33 = some (.getfield 37, 3) := by decide +kernel
theorem g46_33 : Go 46 33 ls ((2, k) :: st) G M Q ↔ cm_sh G k = some (0, 5) ∧ Go 46 36 ls ((2, G.2 k 5) :: st) G M Q := go_get2 hq46 k46_33 ff5_37 rfl
theorem k46_36 : cm_at ins_46 36 = some (.aload_n 0, 1) := by decide +kernel
theorem g46_36 : Go 46 36 [some (2, x), l1, l2, l3] st G M Q ↔ Go 46 37 [some (2, x), l1, l2, l3] ((2, x) :: st) G M Q := go_aload_n hq46 k46_36 rfl
theorem k46_37 : cm_at ins_46 37 = some (.getfield 20, 3) := by decide +kernel
theorem g46_37 : Go 46 37 ls ((2, k) :: st) G M Q ↔ cm_sh G k = some (0, 5) ∧ Go 46 40 ls ((2, G.2 k 1) :: st) G M Q := go_get2 hq46 k46_37 ff5_20 rfl
theorem k46_40 : cm_at ins_46 40 = some (.invokevirtual 59, 3) := by decide +kernel
theorem c46_40 (h8 : cm_sum st ≤ 8) (hk : cm_sh G k = some (0, 2)) (K : Go 42 0 [some (2, k), some (2, y)] [] G M (fun r G' M' => Go 46 43 ls (r.toList ++ st) G' M' Q)) : Go 46 40 ls ((2, y) :: (2, k) :: st) G M Q := go_callV hq46 k46_40 fc5_59 hq42 rfl (as := [(2, y), (2, k)]) rfl rfl (Nat.le_of_ble_eq_true rfl) rfl h8 hk K
theorem k46_43 : cm_at ins_46 43 = some (.aload_n 0, 1) := by decide +kernel
theorem g46_43 : Go 46 43 [some (2, x), l1, l2, l3] st G M Q ↔ Go 46 44 [some (2, x), l1, l2, l3] ((2, x) :: st) G M Q := go_aload_n hq46 k46_43 rfl
theorem k46_44 : cm_at ins_46 44 = some (.getfield 20, 3) := by decide +kernel
theorem g46_44 : Go 46 44 ls ((2, k) :: st) G M Q ↔ cm_sh G k = some (0, 5) ∧ Go 46 47 ls ((2, G.2 k 1) :: st) G M Q := go_get2 hq46 k46_44 ff5_20 rfl
theorem k46_47 : cm_at ins_46 47 = some (.getfield 63, 3) := by decide +kernel
theorem g46_47 : Go 46 47 ls ((2, k) :: st) G M Q ↔ cm_sh G k = some (0, 1) ∧ Go 46 50 ls ((2, G.2 k 0) :: st) G M Q := go_get2 hq46 k46_47 ff5_63 rfl
theorem k46_50 : cm_at ins_46 50 = some (.iload_n 1, 1) := by decide +kernel
theorem g46_50 : Go 46 50 [l0, some (0, x), l2, l3] st G M Q ↔ Go 46 51 [l0, some (0, x), l2, l3] ((0, x) :: st) G M Q := go_iload_n hq46 k46_50 rfl
theorem k46_51 : cm_at ins_46 51 = some (.iaload, 1) := by decide +kernel
theorem g46_51 : Go 46 51 ls ((0, i) :: (2, k) :: st) G M Q ↔ (0 ≤ i ∧ i < cm_al 1 G M k) ∧ Go 46 52 ls ((0, M k i) :: st) G M Q := go_iald hq46 k46_51
theorem k46_52 : cm_at ins_46 52 = some (.istore_n 3, 1) := by decide +kernel
theorem g46_52 : Go 46 52 [l0, l1, l2, l3] ((0, x) :: st) G M Q ↔ Go 46 53 [l0, l1, l2, some (0, x)] st G M Q := go_istore_n hq46 k46_52 ⟨Nat.le_of_ble_eq_true rfl, rfl, by decide⟩
theorem k46_53 : cm_at ins_46 53 = some (.aload_n 0, 1) := by decide +kernel
theorem g46_53 : Go 46 53 [some (2, x), l1, l2, l3] st G M Q ↔ Go 46 54 [some (2, x), l1, l2, l3] ((2, x) :: st) G M Q := go_aload_n hq46 k46_53 rfl
theorem k46_54 : cm_at ins_46 54 = some (.getfield 20, 3) := by decide +kernel
theorem g46_54 : Go 46 54 ls ((2, k) :: st) G M Q ↔ cm_sh G k = some (0, 5) ∧ Go 46 57 ls ((2, G.2 k 1) :: st) G M Q := go_get2 hq46 k46_54 ff5_20 rfl
theorem k46_57 : cm_at ins_46 57 = some (.getfield 63, 3) := by decide +kernel
theorem g46_57 : Go 46 57 ls ((2, k) :: st) G M Q ↔ cm_sh G k = some (0, 1) ∧ Go 46 60 ls ((2, G.2 k 0) :: st) G M Q := go_get2 hq46 k46_57 ff5_63 rfl
theorem k46_60 : cm_at ins_46 60 = some (.iload_n 1, 1) := by decide +kernel
theorem g46_60 : Go 46 60 [l0, some (0, x), l2, l3] st G M Q ↔ Go 46 61 [l0, some (0, x), l2, l3] ((0, x) :: st) G M Q := go_iload_n hq46 k46_60 rfl
theorem k46_61 : cm_at ins_46 61 = some (.iload_n 2, 1) := by decide +kernel
theorem g46_61 : Go 46 61 [l0, l1, some (0, x), l3] st G M Q ↔ Go 46 62 [l0, l1, some (0, x), l3] ((0, x) :: st) G M Q := go_iload_n hq46 k46_61 rfl
theorem k46_62 : cm_at ins_46 62 = some (.iastore, 1) := by decide +kernel
theorem g46_62 : Go 46 62 ls ((0, v) :: (0, i) :: (2, k) :: st) G M Q ↔ (0 ≤ k ∧ 0 ≤ i ∧ i < cm_al 1 G M k) ∧ Go 46 63 ls st G (cm_up M k i v) Q := go_iast hq46 k46_62
theorem k46_63 : cm_at ins_46 63 = some (.iload_n 3, 1) := by decide +kernel
theorem g46_63 : Go 46 63 [l0, l1, l2, some (0, x)] st G M Q ↔ Go 46 64 [l0, l1, l2, some (0, x)] ((0, x) :: st) G M Q := go_iload_n hq46 k46_63 rfl
theorem k46_64 : cm_at ins_46 64 = some (.ireturn, 1) := by decide +kernel
theorem g46_64 : Go 46 64 ls [(0, v)] G M Q ↔ Q (some (0, v)) G M := go_ireturn hq46 k46_64 rfl
theorem k47_0 : cm_at ins_47 0 = some (.iload_n 1, 1) := by decide +kernel
theorem g47_0 : Go 47 0 [l0, some (0, x), l2] st G M Q ↔ Go 47 1 [l0, some (0, x), l2] ((0, x) :: st) G M Q := go_iload_n hq47 k47_0 rfl
theorem k47_1 : cm_at ins_47 1 = some (.invokestatic 68, 3) := by decide +kernel
theorem c47_1 (h8 : cm_sum st ≤ 8) (K : Go 62 0 [some (0, x)] [] G M (fun r G' M' => Go 47 4 ls (r.toList ++ st) G' M' Q)) : Go 47 1 ls ((0, x) :: st) G M Q := go_callS hq47 k47_1 fc5_68 ⟨by decide, by decide⟩ hq62 rfl (as := [(0, x)]) rfl rfl (Nat.le_of_ble_eq_true rfl) h8 K
theorem k47_4 : cm_at ins_47 4 = some (.ifCond .eq 14, 3) := by decide +kernel
theorem g47_4 : Go 47 4 ls ((0, a) :: st) G M Q ↔ cm_in a ∧ (a = 0 → Go 47 18 ls st G M Q) ∧ (¬ a = 0 → Go 47 7 ls st G M Q) := go_if_eq hq47 k47_4 (by decide)
theorem k47_7 : cm_at ins_47 7 = some (.iload_n 2, 1) := by decide +kernel
theorem g47_7 : Go 47 7 [l0, l1, some (0, x)] st G M Q ↔ Go 47 8 [l0, l1, some (0, x)] ((0, x) :: st) G M Q := go_iload_n hq47 k47_7 rfl
theorem k47_8 : cm_at ins_47 8 = some (.iconst 0, 1) := by decide +kernel
theorem g47_8 : Go 47 8 ls st G M Q ↔ Go 47 9 ls ((0, 0) :: st) G M Q := go_iconst hq47 k47_8
theorem k47_9 : cm_at ins_47 9 = some (.sipush 999, 3) := by decide +kernel
theorem g47_9 : Go 47 9 ls st G M Q ↔ Go 47 12 ls ((0, 999) :: st) G M Q := go_sipush hq47 k47_9 (by decide)
theorem k47_12 : cm_at ins_47 12 = some (.invokestatic 55, 3) := by decide +kernel
theorem c47_12 (h8 : cm_sum st ≤ 8) (K : Go 61 0 [some (0, x), some (0, y), some (0, z)] [] G M (fun r G' M' => Go 47 15 ls (r.toList ++ st) G' M' Q)) : Go 47 12 ls ((0, z) :: (0, y) :: (0, x) :: st) G M Q := go_callS hq47 k47_12 fc5_55 ⟨by decide, by decide⟩ hq61 rfl (as := [(0, z), (0, y), (0, x)]) rfl rfl (Nat.le_of_ble_eq_true rfl) h8 K
theorem k47_15 : cm_at ins_47 15 = some (.ifCond .ne 6, 3) := by decide +kernel
theorem g47_15 : Go 47 15 ls ((0, a) :: st) G M Q ↔ cm_in a ∧ (¬ a = 0 → Go 47 21 ls st G M Q) ∧ (a = 0 → Go 47 18 ls st G M Q) := go_if_ne hq47 k47_15 (by decide)
theorem k47_18 : cm_at ins_47 18 = some (.bipush (-2), 2) := by decide +kernel
theorem g47_18 : Go 47 18 ls st G M Q ↔ Go 47 20 ls ((0, (-2)) :: st) G M Q := go_bipush hq47 k47_18 (by decide)
theorem k47_20 : cm_at ins_47 20 = some (.ireturn, 1) := by decide +kernel
theorem g47_20 : Go 47 20 ls [(0, v)] G M Q ↔ Q (some (0, v)) G M := go_ireturn hq47 k47_20 rfl
theorem k47_21 : cm_at ins_47 21 = some (.aload_n 0, 1) := by decide +kernel
theorem g47_21 : Go 47 21 [some (2, x), l1, l2] st G M Q ↔ Go 47 22 [some (2, x), l1, l2] ((2, x) :: st) G M Q := go_aload_n hq47 k47_21 rfl
theorem k47_22 : cm_at ins_47 22 = some (.iconst 0, 1) := by decide +kernel
theorem g47_22 : Go 47 22 ls st G M Q ↔ Go 47 23 ls ((0, 0) :: st) G M Q := go_iconst hq47 k47_22
theorem k47_23 : cm_at ins_47 23 = some (.iload_n 1, 1) := by decide +kernel
theorem g47_23 : Go 47 23 [l0, some (0, x), l2] st G M Q ↔ Go 47 24 [l0, some (0, x), l2] ((0, x) :: st) G M Q := go_iload_n hq47 k47_23 rfl
theorem k47_24 : cm_at ins_47 24 = some (.iload_n 2, 1) := by decide +kernel
theorem g47_24 : Go 47 24 [l0, l1, some (0, x)] st G M Q ↔ Go 47 25 [l0, l1, some (0, x)] ((0, x) :: st) G M Q := go_iload_n hq47 k47_24 rfl
theorem k47_25 : cm_at ins_47 25 = some (.invokevirtual 72, 3) := by decide +kernel
theorem c47_25 (h8 : cm_sum st ≤ 8) (hk : cm_sh G k = some (0, 5)) (K : Go 59 0 [some (2, k), some (0, y), some (0, z), some (0, u)] [] G M (fun r G' M' => Go 47 28 ls (r.toList ++ st) G' M' Q)) : Go 47 25 ls ((0, u) :: (0, z) :: (0, y) :: (2, k) :: st) G M Q := go_callV hq47 k47_25 fc5_72 hq59 rfl (as := [(0, u), (0, z), (0, y), (2, k)]) rfl rfl (Nat.le_of_ble_eq_true rfl) rfl h8 hk K
theorem k47_28 : cm_at ins_47 28 = some (.ireturn, 1) := by decide +kernel
theorem g47_28 : Go 47 28 ls [(0, v)] G M Q ↔ Q (some (0, v)) G M := go_ireturn hq47 k47_28 rfl
theorem k48_0 : cm_at ins_48 0 = some (.iload_n 1, 1) := by decide +kernel
theorem g48_0 : Go 48 0 [l0, some (0, x)] st G M Q ↔ Go 48 1 [l0, some (0, x)] ((0, x) :: st) G M Q := go_iload_n hq48 k48_0 rfl
theorem k48_1 : cm_at ins_48 1 = some (.iconst 1, 1) := by decide +kernel
theorem g48_1 : Go 48 1 ls st G M Q ↔ Go 48 2 ls ((0, 1) :: st) G M Q := go_iconst hq48 k48_1
theorem k48_2 : cm_at ins_48 2 = some (.iconst 3, 1) := by decide +kernel
theorem g48_2 : Go 48 2 ls st G M Q ↔ Go 48 3 ls ((0, 3) :: st) G M Q := go_iconst hq48 k48_2
theorem k48_3 : cm_at ins_48 3 = some (.invokestatic 55, 3) := by decide +kernel
theorem c48_3 (h8 : cm_sum st ≤ 8) (K : Go 61 0 [some (0, x), some (0, y), some (0, z)] [] G M (fun r G' M' => Go 48 6 ls (r.toList ++ st) G' M' Q)) : Go 48 3 ls ((0, z) :: (0, y) :: (0, x) :: st) G M Q := go_callS hq48 k48_3 fc5_55 ⟨by decide, by decide⟩ hq61 rfl (as := [(0, z), (0, y), (0, x)]) rfl rfl (Nat.le_of_ble_eq_true rfl) h8 K
theorem k48_6 : cm_at ins_48 6 = some (.ifCond .ne 6, 3) := by decide +kernel
theorem g48_6 : Go 48 6 ls ((0, a) :: st) G M Q ↔ cm_in a ∧ (¬ a = 0 → Go 48 12 ls st G M Q) ∧ (a = 0 → Go 48 9 ls st G M Q) := go_if_ne hq48 k48_6 (by decide)
theorem k48_9 : cm_at ins_48 9 = some (.bipush (-2), 2) := by decide +kernel
theorem g48_9 : Go 48 9 ls st G M Q ↔ Go 48 11 ls ((0, (-2)) :: st) G M Q := go_bipush hq48 k48_9 (by decide)
theorem k48_11 : cm_at ins_48 11 = some (.ireturn, 1) := by decide +kernel
theorem g48_11 : Go 48 11 ls [(0, v)] G M Q ↔ Q (some (0, v)) G M := go_ireturn hq48 k48_11 rfl
theorem k48_12 : cm_at ins_48 12 = some (.aload_n 0, 1) := by decide +kernel
theorem g48_12 : Go 48 12 [some (2, x), l1] st G M Q ↔ Go 48 13 [some (2, x), l1] ((2, x) :: st) G M Q := go_aload_n hq48 k48_12 rfl
theorem k48_13 : cm_at ins_48 13 = some (.iload_n 1, 1) := by decide +kernel
theorem g48_13 : Go 48 13 [l0, some (0, x)] st G M Q ↔ Go 48 14 [l0, some (0, x)] ((0, x) :: st) G M Q := go_iload_n hq48 k48_13 rfl
theorem k48_14 : cm_at ins_48 14 = some (.bipush (-6), 2) := by decide +kernel
theorem g48_14 : Go 48 14 ls st G M Q ↔ Go 48 16 ls ((0, (-6)) :: st) G M Q := go_bipush hq48 k48_14 (by decide)
theorem k48_16 : cm_at ins_48 16 = some (.bipush (-6), 2) := by decide +kernel
theorem g48_16 : Go 48 16 ls st G M Q ↔ Go 48 18 ls ((0, (-6)) :: st) G M Q := go_bipush hq48 k48_16 (by decide)
theorem k48_18 : cm_at ins_48 18 = some (.invokevirtual 72, 3) := by decide +kernel
theorem c48_18 (h8 : cm_sum st ≤ 8) (hk : cm_sh G k = some (0, 5)) (K : Go 59 0 [some (2, k), some (0, y), some (0, z), some (0, u)] [] G M (fun r G' M' => Go 48 21 ls (r.toList ++ st) G' M' Q)) : Go 48 18 ls ((0, u) :: (0, z) :: (0, y) :: (2, k) :: st) G M Q := go_callV hq48 k48_18 fc5_72 hq59 rfl (as := [(0, u), (0, z), (0, y), (2, k)]) rfl rfl (Nat.le_of_ble_eq_true rfl) rfl h8 hk K
theorem k48_21 : cm_at ins_48 21 = some (.ireturn, 1) := by decide +kernel
theorem g48_21 : Go 48 21 ls [(0, v)] G M Q ↔ Q (some (0, v)) G M := go_ireturn hq48 k48_21 rfl
theorem k49_0 : cm_at ins_49 0 = some (.aload_n 0, 1) := by decide +kernel
theorem g49_0 : Go 49 0 [some (2, x), l1, l2, l3] st G M Q ↔ Go 49 1 [some (2, x), l1, l2, l3] ((2, x) :: st) G M Q := go_aload_n hq49 k49_0 rfl
theorem k49_1 : cm_at ins_49 1 = some (.getfield 20, 3) := by decide +kernel
theorem g49_1 : Go 49 1 ls ((2, k) :: st) G M Q ↔ cm_sh G k = some (0, 5) ∧ Go 49 4 ls ((2, G.2 k 1) :: st) G M Q := go_get2 hq49 k49_1 ff5_20 rfl
theorem k49_4 : cm_at ins_49 4 = some (.iload_n 1, 1) := by decide +kernel
theorem g49_4 : Go 49 4 [l0, some (0, x), l2, l3] st G M Q ↔ Go 49 5 [l0, some (0, x), l2, l3] ((0, x) :: st) G M Q := go_iload_n hq49 k49_4 rfl
theorem k49_5 : cm_at ins_49 5 = some (.invokevirtual 76, 3) := by decide +kernel
theorem c49_5 (h8 : cm_sum st ≤ 8) (hk : cm_sh G k = some (0, 1)) (K : Go 30 0 [some (2, k), some (0, y)] [] G M (fun r G' M' => Go 49 8 ls (r.toList ++ st) G' M' Q)) : Go 49 5 ls ((0, y) :: (2, k) :: st) G M Q := go_callV hq49 k49_5 fc5_76 hq30 rfl (as := [(0, y), (2, k)]) rfl rfl (Nat.le_of_ble_eq_true rfl) rfl h8 hk K
theorem k49_8 : cm_at ins_49 8 = some (.ifCond .ne 5, 3) := by decide +kernel
theorem g49_8 : Go 49 8 ls ((0, a) :: st) G M Q ↔ cm_in a ∧ (¬ a = 0 → Go 49 13 ls st G M Q) ∧ (a = 0 → Go 49 11 ls st G M Q) := go_if_ne hq49 k49_8 (by decide)
theorem k49_11 : cm_at ins_49 11 = some (.iconst (-1), 1) := by decide +kernel
theorem g49_11 : Go 49 11 ls st G M Q ↔ Go 49 12 ls ((0, (-1)) :: st) G M Q := go_iconst hq49 k49_11
theorem k49_12 : cm_at ins_49 12 = some (.ireturn, 1) := by decide +kernel
theorem g49_12 : Go 49 12 ls [(0, v)] G M Q ↔ Q (some (0, v)) G M := go_ireturn hq49 k49_12 rfl
theorem k49_13 : cm_at ins_49 13 = some (.iload_n 2, 1) := by decide +kernel
theorem g49_13 : Go 49 13 [l0, l1, some (0, x), l3] st G M Q ↔ Go 49 14 [l0, l1, some (0, x), l3] ((0, x) :: st) G M Q := go_iload_n hq49 k49_13 rfl
theorem k49_14 : cm_at ins_49 14 = some (.ifCond .eq 13, 3) := by decide +kernel
theorem g49_14 : Go 49 14 ls ((0, a) :: st) G M Q ↔ cm_in a ∧ (a = 0 → Go 49 27 ls st G M Q) ∧ (¬ a = 0 → Go 49 17 ls st G M Q) := go_if_eq hq49 k49_14 (by decide)
theorem k49_17 : cm_at ins_49 17 = some (.iload_n 2, 1) := by decide +kernel
theorem g49_17 : Go 49 17 [l0, l1, some (0, x), l3] st G M Q ↔ Go 49 18 [l0, l1, some (0, x), l3] ((0, x) :: st) G M Q := go_iload_n hq49 k49_17 rfl
theorem k49_18 : cm_at ins_49 18 = some (.invokestatic 79, 3) := by decide +kernel
theorem c49_18 (h8 : cm_sum st ≤ 8) (K : Go 63 0 [some (0, x)] [] G M (fun r G' M' => Go 49 21 ls (r.toList ++ st) G' M' Q)) : Go 49 18 ls ((0, x) :: st) G M Q := go_callS hq49 k49_18 fc5_79 ⟨by decide, by decide⟩ hq63 rfl (as := [(0, x)]) rfl rfl (Nat.le_of_ble_eq_true rfl) h8 K
theorem k49_21 : cm_at ins_49 21 = some (.ifCond .ne 6, 3) := by decide +kernel
theorem g49_21 : Go 49 21 ls ((0, a) :: st) G M Q ↔ cm_in a ∧ (¬ a = 0 → Go 49 27 ls st G M Q) ∧ (a = 0 → Go 49 24 ls st G M Q) := go_if_ne hq49 k49_21 (by decide)
theorem k49_24 : cm_at ins_49 24 = some (.bipush (-2), 2) := by decide +kernel
theorem g49_24 : Go 49 24 ls st G M Q ↔ Go 49 26 ls ((0, (-2)) :: st) G M Q := go_bipush hq49 k49_24 (by decide)
theorem k49_26 : cm_at ins_49 26 = some (.ireturn, 1) := by decide +kernel
theorem g49_26 : Go 49 26 ls [(0, v)] G M Q ↔ Q (some (0, v)) G M := go_ireturn hq49 k49_26 rfl
theorem k49_27 : cm_at ins_49 27 = some (.aload_n 0, 1) := by decide +kernel
theorem g49_27 : Go 49 27 [some (2, x), l1, l2, l3] st G M Q ↔ Go 49 28 [some (2, x), l1, l2, l3] ((2, x) :: st) G M Q := go_aload_n hq49 k49_27 rfl
theorem k49_28 : cm_at ins_49 28 = some (.getfield 37, 3) := by decide +kernel
theorem g49_28 : Go 49 28 ls ((2, k) :: st) G M Q ↔ cm_sh G k = some (0, 5) ∧ Go 49 31 ls ((2, G.2 k 5) :: st) G M Q := go_get2 hq49 k49_28 ff5_37 rfl
theorem k49_31 : cm_at ins_49 31 = some (.aload_n 0, 1) := by decide +kernel
theorem g49_31 : Go 49 31 [some (2, x), l1, l2, l3] st G M Q ↔ Go 49 32 [some (2, x), l1, l2, l3] ((2, x) :: st) G M Q := go_aload_n hq49 k49_31 rfl
theorem k49_32 : cm_at ins_49 32 = some (.getfield 20, 3) := by decide +kernel
theorem g49_32 : Go 49 32 ls ((2, k) :: st) G M Q ↔ cm_sh G k = some (0, 5) ∧ Go 49 35 ls ((2, G.2 k 1) :: st) G M Q := go_get2 hq49 k49_32 ff5_20 rfl
theorem k49_35 : cm_at ins_49 35 = some (.invokevirtual 59, 3) := by decide +kernel
theorem c49_35 (h8 : cm_sum st ≤ 8) (hk : cm_sh G k = some (0, 2)) (K : Go 42 0 [some (2, k), some (2, y)] [] G M (fun r G' M' => Go 49 38 ls (r.toList ++ st) G' M' Q)) : Go 49 35 ls ((2, y) :: (2, k) :: st) G M Q := go_callV hq49 k49_35 fc5_59 hq42 rfl (as := [(2, y), (2, k)]) rfl rfl (Nat.le_of_ble_eq_true rfl) rfl h8 hk K
theorem k49_38 : cm_at ins_49 38 = some (.aload_n 0, 1) := by decide +kernel
theorem g49_38 : Go 49 38 [some (2, x), l1, l2, l3] st G M Q ↔ Go 49 39 [some (2, x), l1, l2, l3] ((2, x) :: st) G M Q := go_aload_n hq49 k49_38 rfl
theorem k49_39 : cm_at ins_49 39 = some (.getfield 20, 3) := by decide +kernel
theorem g49_39 : Go 49 39 ls ((2, k) :: st) G M Q ↔ cm_sh G k = some (0, 5) ∧ Go 49 42 ls ((2, G.2 k 1) :: st) G M Q := go_get2 hq49 k49_39 ff5_20 rfl
theorem k49_42 : cm_at ins_49 42 = some (.getfield 82, 3) := by decide +kernel
theorem g49_42 : Go 49 42 ls ((2, k) :: st) G M Q ↔ cm_sh G k = some (0, 1) ∧ Go 49 45 ls ((2, G.2 k 4) :: st) G M Q := go_get2 hq49 k49_42 ff5_82 rfl
theorem k49_45 : cm_at ins_49 45 = some (.iload_n 1, 1) := by decide +kernel
theorem g49_45 : Go 49 45 [l0, some (0, x), l2, l3] st G M Q ↔ Go 49 46 [l0, some (0, x), l2, l3] ((0, x) :: st) G M Q := go_iload_n hq49 k49_45 rfl
theorem k49_46 : cm_at ins_49 46 = some (.iaload, 1) := by decide +kernel
theorem g49_46 : Go 49 46 ls ((0, i) :: (2, k) :: st) G M Q ↔ (0 ≤ i ∧ i < cm_al 1 G M k) ∧ Go 49 47 ls ((0, M k i) :: st) G M Q := go_iald hq49 k49_46
theorem k49_47 : cm_at ins_49 47 = some (.istore_n 3, 1) := by decide +kernel
theorem g49_47 : Go 49 47 [l0, l1, l2, l3] ((0, x) :: st) G M Q ↔ Go 49 48 [l0, l1, l2, some (0, x)] st G M Q := go_istore_n hq49 k49_47 ⟨Nat.le_of_ble_eq_true rfl, rfl, by decide⟩
theorem k49_48 : cm_at ins_49 48 = some (.aload_n 0, 1) := by decide +kernel
theorem g49_48 : Go 49 48 [some (2, x), l1, l2, l3] st G M Q ↔ Go 49 49 [some (2, x), l1, l2, l3] ((2, x) :: st) G M Q := go_aload_n hq49 k49_48 rfl
theorem k49_49 : cm_at ins_49 49 = some (.getfield 20, 3) := by decide +kernel
theorem g49_49 : Go 49 49 ls ((2, k) :: st) G M Q ↔ cm_sh G k = some (0, 5) ∧ Go 49 52 ls ((2, G.2 k 1) :: st) G M Q := go_get2 hq49 k49_49 ff5_20 rfl
theorem k49_52 : cm_at ins_49 52 = some (.getfield 82, 3) := by decide +kernel
theorem g49_52 : Go 49 52 ls ((2, k) :: st) G M Q ↔ cm_sh G k = some (0, 1) ∧ Go 49 55 ls ((2, G.2 k 4) :: st) G M Q := go_get2 hq49 k49_52 ff5_82 rfl
theorem k49_55 : cm_at ins_49 55 = some (.iload_n 1, 1) := by decide +kernel
theorem g49_55 : Go 49 55 [l0, some (0, x), l2, l3] st G M Q ↔ Go 49 56 [l0, some (0, x), l2, l3] ((0, x) :: st) G M Q := go_iload_n hq49 k49_55 rfl
theorem k49_56 : cm_at ins_49 56 = some (.iload_n 2, 1) := by decide +kernel
theorem g49_56 : Go 49 56 [l0, l1, some (0, x), l3] st G M Q ↔ Go 49 57 [l0, l1, some (0, x), l3] ((0, x) :: st) G M Q := go_iload_n hq49 k49_56 rfl
theorem k49_57 : cm_at ins_49 57 = some (.iastore, 1) := by decide +kernel
theorem g49_57 : Go 49 57 ls ((0, v) :: (0, i) :: (2, k) :: st) G M Q ↔ (0 ≤ k ∧ 0 ≤ i ∧ i < cm_al 1 G M k) ∧ Go 49 58 ls st G (cm_up M k i v) Q := go_iast hq49 k49_57
theorem k49_58 : cm_at ins_49 58 = some (.iload_n 3, 1) := by decide +kernel
theorem g49_58 : Go 49 58 [l0, l1, l2, some (0, x)] st G M Q ↔ Go 49 59 [l0, l1, l2, some (0, x)] ((0, x) :: st) G M Q := go_iload_n hq49 k49_58 rfl
theorem k49_59 : cm_at ins_49 59 = some (.ireturn, 1) := by decide +kernel
theorem g49_59 : Go 49 59 ls [(0, v)] G M Q ↔ Q (some (0, v)) G M := go_ireturn hq49 k49_59 rfl
theorem k50_0 : cm_at ins_50 0 = some (.aload_n 0, 1) := by decide +kernel
theorem g50_0 : Go 50 0 [some (2, x), l1, l2, l3] st G M Q ↔ Go 50 1 [some (2, x), l1, l2, l3] ((2, x) :: st) G M Q := go_aload_n hq50 k50_0 rfl
theorem k50_1 : cm_at ins_50 1 = some (.getfield 20, 3) := by decide +kernel
theorem g50_1 : Go 50 1 ls ((2, k) :: st) G M Q ↔ cm_sh G k = some (0, 5) ∧ Go 50 4 ls ((2, G.2 k 1) :: st) G M Q := go_get2 hq50 k50_1 ff5_20 rfl
theorem k50_4 : cm_at ins_50 4 = some (.iload_n 1, 1) := by decide +kernel
theorem g50_4 : Go 50 4 [l0, some (0, x), l2, l3] st G M Q ↔ Go 50 5 [l0, some (0, x), l2, l3] ((0, x) :: st) G M Q := go_iload_n hq50 k50_4 rfl
theorem k50_5 : cm_at ins_50 5 = some (.invokevirtual 76, 3) := by decide +kernel
theorem c50_5 (h8 : cm_sum st ≤ 8) (hk : cm_sh G k = some (0, 1)) (K : Go 30 0 [some (2, k), some (0, y)] [] G M (fun r G' M' => Go 50 8 ls (r.toList ++ st) G' M' Q)) : Go 50 5 ls ((0, y) :: (2, k) :: st) G M Q := go_callV hq50 k50_5 fc5_76 hq30 rfl (as := [(0, y), (2, k)]) rfl rfl (Nat.le_of_ble_eq_true rfl) rfl h8 hk K
theorem k50_8 : cm_at ins_50 8 = some (.ifCond .eq 14, 3) := by decide +kernel
theorem g50_8 : Go 50 8 ls ((0, a) :: st) G M Q ↔ cm_in a ∧ (a = 0 → Go 50 22 ls st G M Q) ∧ (¬ a = 0 → Go 50 11 ls st G M Q) := go_if_eq hq50 k50_8 (by decide)
theorem k50_11 : cm_at ins_50 11 = some (.aload_n 0, 1) := by decide +kernel
theorem g50_11 : Go 50 11 [some (2, x), l1, l2, l3] st G M Q ↔ Go 50 12 [some (2, x), l1, l2, l3] ((2, x) :: st) G M Q := go_aload_n hq50 k50_11 rfl
theorem k50_12 : cm_at ins_50 12 = some (.getfield 20, 3) := by decide +kernel
theorem g50_12 : Go 50 12 ls ((2, k) :: st) G M Q ↔ cm_sh G k = some (0, 5) ∧ Go 50 15 ls ((2, G.2 k 1) :: st) G M Q := go_get2 hq50 k50_12 ff5_20 rfl
theorem k50_15 : cm_at ins_50 15 = some (.iload_n 2, 1) := by decide +kernel
theorem g50_15 : Go 50 15 [l0, l1, some (0, x), l3] st G M Q ↔ Go 50 16 [l0, l1, some (0, x), l3] ((0, x) :: st) G M Q := go_iload_n hq50 k50_15 rfl
theorem k50_16 : cm_at ins_50 16 = some (.invokevirtual 76, 3) := by decide +kernel
theorem c50_16 (h8 : cm_sum st ≤ 8) (hk : cm_sh G k = some (0, 1)) (K : Go 30 0 [some (2, k), some (0, y)] [] G M (fun r G' M' => Go 50 19 ls (r.toList ++ st) G' M' Q)) : Go 50 16 ls ((0, y) :: (2, k) :: st) G M Q := go_callV hq50 k50_16 fc5_76 hq30 rfl (as := [(0, y), (2, k)]) rfl rfl (Nat.le_of_ble_eq_true rfl) rfl h8 hk K
theorem k50_19 : cm_at ins_50 19 = some (.ifCond .ne 5, 3) := by decide +kernel
theorem g50_19 : Go 50 19 ls ((0, a) :: st) G M Q ↔ cm_in a ∧ (¬ a = 0 → Go 50 24 ls st G M Q) ∧ (a = 0 → Go 50 22 ls st G M Q) := go_if_ne hq50 k50_19 (by decide)
theorem k50_22 : cm_at ins_50 22 = some (.iconst (-1), 1) := by decide +kernel
theorem g50_22 : Go 50 22 ls st G M Q ↔ Go 50 23 ls ((0, (-1)) :: st) G M Q := go_iconst hq50 k50_22
theorem k50_23 : cm_at ins_50 23 = some (.ireturn, 1) := by decide +kernel
theorem g50_23 : Go 50 23 ls [(0, v)] G M Q ↔ Q (some (0, v)) G M := go_ireturn hq50 k50_23 rfl
theorem k50_24 : cm_at ins_50 24 = some (.aload_n 0, 1) := by decide +kernel
theorem g50_24 : Go 50 24 [some (2, x), l1, l2, l3] st G M Q ↔ Go 50 25 [some (2, x), l1, l2, l3] ((2, x) :: st) G M Q := go_aload_n hq50 k50_24 rfl
theorem k50_25 : cm_at ins_50 25 = some (.getfield 10, 3) := by decide +kernel
theorem g50_25 : Go 50 25 ls ((2, k) :: st) G M Q ↔ cm_sh G k = some (0, 5) ∧ Go 50 28 ls ((2, G.2 k 0) :: st) G M Q := go_get2 hq50 k50_25 ff5_10 rfl
theorem k50_28 : cm_at ins_50 28 = some (.invokevirtual 85, 3) := by decide +kernel
theorem c50_28 (h8 : cm_sum st ≤ 8) (hk : cm_sh G k = some (0, 0)) (K : Go 1 0 [some (2, k)] [] G M (fun r G' M' => Go 50 31 ls (r.toList ++ st) G' M' Q)) : Go 50 28 ls ((2, k) :: st) G M Q := go_callV hq50 k50_28 fc5_85 hq1 rfl (as := [(2, k)]) rfl rfl (Nat.le_of_ble_eq_true rfl) rfl h8 hk K
theorem k50_31 : cm_at ins_50 31 = some (.aload_n 0, 1) := by decide +kernel
theorem g50_31 : Go 50 31 [some (2, x), l1, l2, l3] st G M Q ↔ Go 50 32 [some (2, x), l1, l2, l3] ((2, x) :: st) G M Q := go_aload_n hq50 k50_31 rfl
theorem k50_32 : cm_at ins_50 32 = some (.getfield 10, 3) := by decide +kernel
theorem g50_32 : Go 50 32 ls ((2, k) :: st) G M Q ↔ cm_sh G k = some (0, 5) ∧ Go 50 35 ls ((2, G.2 k 0) :: st) G M Q := go_get2 hq50 k50_32 ff5_10 rfl
theorem k50_35 : cm_at ins_50 35 = some (.invokevirtual 88, 3) := by decide +kernel
theorem c50_35 (h8 : cm_sum st ≤ 8) (hk : cm_sh G k = some (0, 0)) (K : Go 10 0 [some (2, k), none] [] G M (fun r G' M' => Go 50 38 ls (r.toList ++ st) G' M' Q)) : Go 50 35 ls ((2, k) :: st) G M Q := go_callV hq50 k50_35 fc5_88 hq10 rfl (as := [(2, k)]) rfl rfl (Nat.le_of_ble_eq_true rfl) rfl h8 hk K
theorem k50_38 : cm_at ins_50 38 = some (.istore_n 3, 1) := by decide +kernel
theorem g50_38 : Go 50 38 [l0, l1, l2, l3] ((0, x) :: st) G M Q ↔ Go 50 39 [l0, l1, l2, some (0, x)] st G M Q := go_istore_n hq50 k50_38 ⟨Nat.le_of_ble_eq_true rfl, rfl, by decide⟩
theorem k50_39 : cm_at ins_50 39 = some (.aload_n 0, 1) := by decide +kernel
theorem g50_39 : Go 50 39 [some (2, x), l1, l2, l3] st G M Q ↔ Go 50 40 [some (2, x), l1, l2, l3] ((2, x) :: st) G M Q := go_aload_n hq50 k50_39 rfl
theorem k50_40 : cm_at ins_50 40 = some (.getfield 37, 3) := by decide +kernel
theorem g50_40 : Go 50 40 ls ((2, k) :: st) G M Q ↔ cm_sh G k = some (0, 5) ∧ Go 50 43 ls ((2, G.2 k 5) :: st) G M Q := go_get2 hq50 k50_40 ff5_37 rfl
theorem k50_43 : cm_at ins_50 43 = some (.aload_n 0, 1) := by decide +kernel
theorem g50_43 : Go 50 43 [some (2, x), l1, l2, l3] st G M Q ↔ Go 50 44 [some (2, x), l1, l2, l3] ((2, x) :: st) G M Q := go_aload_n hq50 k50_43 rfl
theorem k50_44 : cm_at ins_50 44 = some (.getfield 20, 3) := by decide +kernel
theorem g50_44 : Go 50 44 ls ((2, k) :: st) G M Q ↔ cm_sh G k = some (0, 5) ∧ Go 50 47 ls ((2, G.2 k 1) :: st) G M Q := go_get2 hq50 k50_44 ff5_20 rfl
theorem k50_47 : cm_at ins_50 47 = some (.invokevirtual 59, 3) := by decide +kernel
theorem c50_47 (h8 : cm_sum st ≤ 8) (hk : cm_sh G k = some (0, 2)) (K : Go 42 0 [some (2, k), some (2, y)] [] G M (fun r G' M' => Go 50 50 ls (r.toList ++ st) G' M' Q)) : Go 50 47 ls ((2, y) :: (2, k) :: st) G M Q := go_callV hq50 k50_47 fc5_59 hq42 rfl (as := [(2, y), (2, k)]) rfl rfl (Nat.le_of_ble_eq_true rfl) rfl h8 hk K
theorem k50_50 : cm_at ins_50 50 = some (.aload_n 0, 1) := by decide +kernel
theorem g50_50 : Go 50 50 [some (2, x), l1, l2, l3] st G M Q ↔ Go 50 51 [some (2, x), l1, l2, l3] ((2, x) :: st) G M Q := go_aload_n hq50 k50_50 rfl
theorem k50_51 : cm_at ins_50 51 = some (.getfield 20, 3) := by decide +kernel
theorem g50_51 : Go 50 51 ls ((2, k) :: st) G M Q ↔ cm_sh G k = some (0, 5) ∧ Go 50 54 ls ((2, G.2 k 1) :: st) G M Q := go_get2 hq50 k50_51 ff5_20 rfl
theorem k50_54 : cm_at ins_50 54 = some (.iload_n 1, 1) := by decide +kernel
theorem g50_54 : Go 50 54 [l0, some (0, x), l2, l3] st G M Q ↔ Go 50 55 [l0, some (0, x), l2, l3] ((0, x) :: st) G M Q := go_iload_n hq50 k50_54 rfl
theorem k50_55 : cm_at ins_50 55 = some (.iload_n 2, 1) := by decide +kernel
theorem g50_55 : Go 50 55 [l0, l1, some (0, x), l3] st G M Q ↔ Go 50 56 [l0, l1, some (0, x), l3] ((0, x) :: st) G M Q := go_iload_n hq50 k50_55 rfl
theorem k50_56 : cm_at ins_50 56 = some (.invokevirtual 92, 3) := by decide +kernel
theorem c50_56 (h8 : cm_sum st ≤ 8) (hk : cm_sh G k = some (0, 1)) (K : Go 32 0 [some (2, k), some (0, y), some (0, z), none] [] G M (fun r G' M' => Go 50 59 ls (r.toList ++ st) G' M' Q)) : Go 50 56 ls ((0, z) :: (0, y) :: (2, k) :: st) G M Q := go_callV hq50 k50_56 fc5_92 hq32 rfl (as := [(0, z), (0, y), (2, k)]) rfl rfl (Nat.le_of_ble_eq_true rfl) rfl h8 hk K
theorem k50_59 : cm_at ins_50 59 = some (.aload_n 0, 1) := by decide +kernel
theorem g50_59 : Go 50 59 [some (2, x), l1, l2, l3] st G M Q ↔ Go 50 60 [some (2, x), l1, l2, l3] ((2, x) :: st) G M Q := go_aload_n hq50 k50_59 rfl
theorem k50_60 : cm_at ins_50 60 = some (.getfield 10, 3) := by decide +kernel
theorem g50_60 : Go 50 60 ls ((2, k) :: st) G M Q ↔ cm_sh G k = some (0, 5) ∧ Go 50 63 ls ((2, G.2 k 0) :: st) G M Q := go_get2 hq50 k50_60 ff5_10 rfl
theorem k50_63 : cm_at ins_50 63 = some (.invokevirtual 85, 3) := by decide +kernel
theorem c50_63 (h8 : cm_sum st ≤ 8) (hk : cm_sh G k = some (0, 0)) (K : Go 1 0 [some (2, k)] [] G M (fun r G' M' => Go 50 66 ls (r.toList ++ st) G' M' Q)) : Go 50 63 ls ((2, k) :: st) G M Q := go_callV hq50 k50_63 fc5_85 hq1 rfl (as := [(2, k)]) rfl rfl (Nat.le_of_ble_eq_true rfl) rfl h8 hk K
theorem k50_66 : cm_at ins_50 66 = some (.sipush 10000, 3) := by decide +kernel
theorem g50_66 : Go 50 66 ls st G M Q ↔ Go 50 69 ls ((0, 10000) :: st) G M Q := go_sipush hq50 k50_66 (by decide)
theorem k50_69 : cm_at ins_50 69 = some (.aload_n 0, 1) := by decide +kernel
theorem g50_69 : Go 50 69 [some (2, x), l1, l2, l3] st G M Q ↔ Go 50 70 [some (2, x), l1, l2, l3] ((2, x) :: st) G M Q := go_aload_n hq50 k50_69 rfl
theorem k50_70 : cm_at ins_50 70 = some (.getfield 10, 3) := by decide +kernel
theorem g50_70 : Go 50 70 ls ((2, k) :: st) G M Q ↔ cm_sh G k = some (0, 5) ∧ Go 50 73 ls ((2, G.2 k 0) :: st) G M Q := go_get2 hq50 k50_70 ff5_10 rfl
theorem k50_73 : cm_at ins_50 73 = some (.invokevirtual 88, 3) := by decide +kernel
theorem c50_73 (h8 : cm_sum st ≤ 8) (hk : cm_sh G k = some (0, 0)) (K : Go 10 0 [some (2, k), none] [] G M (fun r G' M' => Go 50 76 ls (r.toList ++ st) G' M' Q)) : Go 50 73 ls ((2, k) :: st) G M Q := go_callV hq50 k50_73 fc5_88 hq10 rfl (as := [(2, k)]) rfl rfl (Nat.le_of_ble_eq_true rfl) rfl h8 hk K
theorem k50_76 : cm_at ins_50 76 = some (.iadd, 1) := by decide +kernel
theorem g50_76 : Go 50 76 ls ((0, b) :: (0, a) :: st) G M Q ↔ Go 50 77 ls ((0, a + b) :: st) G M Q := go_iadd hq50 k50_76
theorem k50_77 : cm_at ins_50 77 = some (.iload_n 3, 1) := by decide +kernel
theorem g50_77 : Go 50 77 [l0, l1, l2, some (0, x)] st G M Q ↔ Go 50 78 [l0, l1, l2, some (0, x)] ((0, x) :: st) G M Q := go_iload_n hq50 k50_77 rfl
theorem k50_78 : cm_at ins_50 78 = some (.isub, 1) := by decide +kernel
theorem g50_78 : Go 50 78 ls ((0, b) :: (0, a) :: st) G M Q ↔ Go 50 79 ls ((0, a - b) :: st) G M Q := go_isub hq50 k50_78
theorem k50_79 : cm_at ins_50 79 = some (.ireturn, 1) := by decide +kernel
theorem g50_79 : Go 50 79 ls [(0, v)] G M Q ↔ Q (some (0, v)) G M := go_ireturn hq50 k50_79 rfl
theorem k51_0 : cm_at ins_51 0 = some (.aload_n 0, 1) := by decide +kernel
theorem g51_0 : Go 51 0 [some (2, x), l1] st G M Q ↔ Go 51 1 [some (2, x), l1] ((2, x) :: st) G M Q := go_aload_n hq51 k51_0 rfl
theorem k51_1 : cm_at ins_51 1 = some (.getfield 20, 3) := by decide +kernel
theorem g51_1 : Go 51 1 ls ((2, k) :: st) G M Q ↔ cm_sh G k = some (0, 5) ∧ Go 51 4 ls ((2, G.2 k 1) :: st) G M Q := go_get2 hq51 k51_1 ff5_20 rfl
theorem k51_4 : cm_at ins_51 4 = some (.iload_n 1, 1) := by decide +kernel
theorem g51_4 : Go 51 4 [l0, some (0, x)] st G M Q ↔ Go 51 5 [l0, some (0, x)] ((0, x) :: st) G M Q := go_iload_n hq51 k51_4 rfl
theorem k51_5 : cm_at ins_51 5 = some (.invokevirtual 76, 3) := by decide +kernel
theorem c51_5 (h8 : cm_sum st ≤ 8) (hk : cm_sh G k = some (0, 1)) (K : Go 30 0 [some (2, k), some (0, y)] [] G M (fun r G' M' => Go 51 8 ls (r.toList ++ st) G' M' Q)) : Go 51 5 ls ((0, y) :: (2, k) :: st) G M Q := go_callV hq51 k51_5 fc5_76 hq30 rfl (as := [(0, y), (2, k)]) rfl rfl (Nat.le_of_ble_eq_true rfl) rfl h8 hk K
theorem k51_8 : cm_at ins_51 8 = some (.ifCond .ne 5, 3) := by decide +kernel
theorem g51_8 : Go 51 8 ls ((0, a) :: st) G M Q ↔ cm_in a ∧ (¬ a = 0 → Go 51 13 ls st G M Q) ∧ (a = 0 → Go 51 11 ls st G M Q) := go_if_ne hq51 k51_8 (by decide)
theorem k51_11 : cm_at ins_51 11 = some (.iconst (-1), 1) := by decide +kernel
theorem g51_11 : Go 51 11 ls st G M Q ↔ Go 51 12 ls ((0, (-1)) :: st) G M Q := go_iconst hq51 k51_11
theorem k51_12 : cm_at ins_51 12 = some (.ireturn, 1) := by decide +kernel
theorem g51_12 : Go 51 12 ls [(0, v)] G M Q ↔ Q (some (0, v)) G M := go_ireturn hq51 k51_12 rfl
theorem k51_13 : cm_at ins_51 13 = some (.aload_n 0, 1) := by decide +kernel
theorem g51_13 : Go 51 13 [some (2, x), l1] st G M Q ↔ Go 51 14 [some (2, x), l1] ((2, x) :: st) G M Q := go_aload_n hq51 k51_13 rfl
theorem k51_14 : cm_at ins_51 14 = some (.getfield 37, 3) := by decide +kernel
theorem g51_14 : Go 51 14 ls ((2, k) :: st) G M Q ↔ cm_sh G k = some (0, 5) ∧ Go 51 17 ls ((2, G.2 k 5) :: st) G M Q := go_get2 hq51 k51_14 ff5_37 rfl
theorem k51_17 : cm_at ins_51 17 = some (.aload_n 0, 1) := by decide +kernel
theorem g51_17 : Go 51 17 [some (2, x), l1] st G M Q ↔ Go 51 18 [some (2, x), l1] ((2, x) :: st) G M Q := go_aload_n hq51 k51_17 rfl
theorem k51_18 : cm_at ins_51 18 = some (.getfield 20, 3) := by decide +kernel
theorem g51_18 : Go 51 18 ls ((2, k) :: st) G M Q ↔ cm_sh G k = some (0, 5) ∧ Go 51 21 ls ((2, G.2 k 1) :: st) G M Q := go_get2 hq51 k51_18 ff5_20 rfl
theorem k51_21 : cm_at ins_51 21 = some (.invokevirtual 59, 3) := by decide +kernel
theorem c51_21 (h8 : cm_sum st ≤ 8) (hk : cm_sh G k = some (0, 2)) (K : Go 42 0 [some (2, k), some (2, y)] [] G M (fun r G' M' => Go 51 24 ls (r.toList ++ st) G' M' Q)) : Go 51 21 ls ((2, y) :: (2, k) :: st) G M Q := go_callV hq51 k51_21 fc5_59 hq42 rfl (as := [(2, y), (2, k)]) rfl rfl (Nat.le_of_ble_eq_true rfl) rfl h8 hk K
theorem k51_24 : cm_at ins_51 24 = some (.aload_n 0, 1) := by decide +kernel
theorem g51_24 : Go 51 24 [some (2, x), l1] st G M Q ↔ Go 51 25 [some (2, x), l1] ((2, x) :: st) G M Q := go_aload_n hq51 k51_24 rfl
theorem k51_25 : cm_at ins_51 25 = some (.getfield 20, 3) := by decide +kernel
theorem g51_25 : Go 51 25 ls ((2, k) :: st) G M Q ↔ cm_sh G k = some (0, 5) ∧ Go 51 28 ls ((2, G.2 k 1) :: st) G M Q := go_get2 hq51 k51_25 ff5_20 rfl
theorem k51_28 : cm_at ins_51 28 = some (.iload_n 1, 1) := by decide +kernel
theorem g51_28 : Go 51 28 [l0, some (0, x)] st G M Q ↔ Go 51 29 [l0, some (0, x)] ((0, x) :: st) G M Q := go_iload_n hq51 k51_28 rfl
theorem k51_29 : cm_at ins_51 29 = some (.invokevirtual 96, 3) := by decide +kernel
theorem c51_29 (h8 : cm_sum st ≤ 8) (hk : cm_sh G k = some (0, 1)) (K : Go 33 0 [some (2, k), some (0, y)] [] G M (fun r G' M' => Go 51 32 ls (r.toList ++ st) G' M' Q)) : Go 51 29 ls ((0, y) :: (2, k) :: st) G M Q := go_callV hq51 k51_29 fc5_96 hq33 rfl (as := [(0, y), (2, k)]) rfl rfl (Nat.le_of_ble_eq_true rfl) rfl h8 hk K
theorem k51_32 : cm_at ins_51 32 = some (.aload_n 0, 1) := by decide +kernel
theorem g51_32 : Go 51 32 [some (2, x), l1] st G M Q ↔ Go 51 33 [some (2, x), l1] ((2, x) :: st) G M Q := go_aload_n hq51 k51_32 rfl
theorem k51_33 : cm_at ins_51 33 = some (.getfield 20, 3) := by decide +kernel
theorem g51_33 : Go 51 33 ls ((2, k) :: st) G M Q ↔ cm_sh G k = some (0, 5) ∧ Go 51 36 ls ((2, G.2 k 1) :: st) G M Q := go_get2 hq51 k51_33 ff5_20 rfl
theorem k51_36 : cm_at ins_51 36 = some (.getfield 100, 3) := by decide +kernel
theorem g51_36 : Go 51 36 ls ((2, k) :: st) G M Q ↔ cm_sh G k = some (0, 1) ∧ Go 51 39 ls ((0, M k 5) :: st) G M Q := go_get0 hq51 k51_36 ff5_100 rfl
theorem k51_39 : cm_at ins_51 39 = some (.ireturn, 1) := by decide +kernel
theorem g51_39 : Go 51 39 ls [(0, v)] G M Q ↔ Q (some (0, v)) G M := go_ireturn hq51 k51_39 rfl
theorem k52_0 : cm_at ins_52 0 = some (.aload_n 0, 1) := by decide +kernel
theorem g52_0 : Go 52 0 [some (2, x), l1, l2] st G M Q ↔ Go 52 1 [some (2, x), l1, l2] ((2, x) :: st) G M Q := go_aload_n hq52 k52_0 rfl
theorem k52_1 : cm_at ins_52 1 = some (.getfield 20, 3) := by decide +kernel
theorem g52_1 : Go 52 1 ls ((2, k) :: st) G M Q ↔ cm_sh G k = some (0, 5) ∧ Go 52 4 ls ((2, G.2 k 1) :: st) G M Q := go_get2 hq52 k52_1 ff5_20 rfl
theorem k52_4 : cm_at ins_52 4 = some (.iload_n 1, 1) := by decide +kernel
theorem g52_4 : Go 52 4 [l0, some (0, x), l2] st G M Q ↔ Go 52 5 [l0, some (0, x), l2] ((0, x) :: st) G M Q := go_iload_n hq52 k52_4 rfl
theorem k52_5 : cm_at ins_52 5 = some (.invokevirtual 76, 3) := by decide +kernel
theorem c52_5 (h8 : cm_sum st ≤ 8) (hk : cm_sh G k = some (0, 1)) (K : Go 30 0 [some (2, k), some (0, y)] [] G M (fun r G' M' => Go 52 8 ls (r.toList ++ st) G' M' Q)) : Go 52 5 ls ((0, y) :: (2, k) :: st) G M Q := go_callV hq52 k52_5 fc5_76 hq30 rfl (as := [(0, y), (2, k)]) rfl rfl (Nat.le_of_ble_eq_true rfl) rfl h8 hk K
theorem k52_8 : cm_at ins_52 8 = some (.ifCond .ne 5, 3) := by decide +kernel
theorem g52_8 : Go 52 8 ls ((0, a) :: st) G M Q ↔ cm_in a ∧ (¬ a = 0 → Go 52 13 ls st G M Q) ∧ (a = 0 → Go 52 11 ls st G M Q) := go_if_ne hq52 k52_8 (by decide)
theorem k52_11 : cm_at ins_52 11 = some (.iconst (-1), 1) := by decide +kernel
theorem g52_11 : Go 52 11 ls st G M Q ↔ Go 52 12 ls ((0, (-1)) :: st) G M Q := go_iconst hq52 k52_11
theorem k52_12 : cm_at ins_52 12 = some (.ireturn, 1) := by decide +kernel
theorem g52_12 : Go 52 12 ls [(0, v)] G M Q ↔ Q (some (0, v)) G M := go_ireturn hq52 k52_12 rfl
theorem k52_13 : cm_at ins_52 13 = some (.aload_n 0, 1) := by decide +kernel
theorem g52_13 : Go 52 13 [some (2, x), l1, l2] st G M Q ↔ Go 52 14 [some (2, x), l1, l2] ((2, x) :: st) G M Q := go_aload_n hq52 k52_13 rfl
theorem k52_14 : cm_at ins_52 14 = some (.getfield 10, 3) := by decide +kernel
theorem g52_14 : Go 52 14 ls ((2, k) :: st) G M Q ↔ cm_sh G k = some (0, 5) ∧ Go 52 17 ls ((2, G.2 k 0) :: st) G M Q := go_get2 hq52 k52_14 ff5_10 rfl
theorem k52_17 : cm_at ins_52 17 = some (.invokevirtual 85, 3) := by decide +kernel
theorem c52_17 (h8 : cm_sum st ≤ 8) (hk : cm_sh G k = some (0, 0)) (K : Go 1 0 [some (2, k)] [] G M (fun r G' M' => Go 52 20 ls (r.toList ++ st) G' M' Q)) : Go 52 17 ls ((2, k) :: st) G M Q := go_callV hq52 k52_17 fc5_85 hq1 rfl (as := [(2, k)]) rfl rfl (Nat.le_of_ble_eq_true rfl) rfl h8 hk K
theorem k52_20 : cm_at ins_52 20 = some (.iload_n 2, 1) := by decide +kernel
theorem g52_20 : Go 52 20 [l0, l1, some (0, x)] st G M Q ↔ Go 52 21 [l0, l1, some (0, x)] ((0, x) :: st) G M Q := go_iload_n hq52 k52_20 rfl
theorem k52_21 : cm_at ins_52 21 = some (.tableswitch 186 0 8 #[51, 61, 71, 81, 91, 101, 110, 120, 147], 51) := by decide +kernel
theorem k52_72 : cm_at ins_52 72 = some (.aload_n 0, 1) := by decide +kernel
theorem g52_72 : Go 52 72 [some (2, x), l1, l2] st G M Q ↔ Go 52 73 [some (2, x), l1, l2] ((2, x) :: st) G M Q := go_aload_n hq52 k52_72 rfl
theorem k52_73 : cm_at ins_52 73 = some (.getfield 20, 3) := by decide +kernel
theorem g52_73 : Go 52 73 ls ((2, k) :: st) G M Q ↔ cm_sh G k = some (0, 5) ∧ Go 52 76 ls ((2, G.2 k 1) :: st) G M Q := go_get2 hq52 k52_73 ff5_20 rfl
theorem k52_76 : cm_at ins_52 76 = some (.getfield 124, 3) := by decide +kernel
theorem g52_76 : Go 52 76 ls ((2, k) :: st) G M Q ↔ cm_sh G k = some (0, 1) ∧ Go 52 79 ls ((2, G.2 k 1) :: st) G M Q := go_get2 hq52 k52_76 ff5_124 rfl
theorem k52_79 : cm_at ins_52 79 = some (.iload_n 1, 1) := by decide +kernel
theorem g52_79 : Go 52 79 [l0, some (0, x), l2] st G M Q ↔ Go 52 80 [l0, some (0, x), l2] ((0, x) :: st) G M Q := go_iload_n hq52 k52_79 rfl
theorem k52_80 : cm_at ins_52 80 = some (.iaload, 1) := by decide +kernel
theorem g52_80 : Go 52 80 ls ((0, i) :: (2, k) :: st) G M Q ↔ (0 ≤ i ∧ i < cm_al 1 G M k) ∧ Go 52 81 ls ((0, M k i) :: st) G M Q := go_iald hq52 k52_80
theorem k52_81 : cm_at ins_52 81 = some (.ireturn, 1) := by decide +kernel
theorem g52_81 : Go 52 81 ls [(0, v)] G M Q ↔ Q (some (0, v)) G M := go_ireturn hq52 k52_81 rfl
theorem k52_82 : cm_at ins_52 82 = some (.aload_n 0, 1) := by decide +kernel
theorem g52_82 : Go 52 82 [some (2, x), l1, l2] st G M Q ↔ Go 52 83 [some (2, x), l1, l2] ((2, x) :: st) G M Q := go_aload_n hq52 k52_82 rfl
theorem k52_83 : cm_at ins_52 83 = some (.getfield 20, 3) := by decide +kernel
theorem g52_83 : Go 52 83 ls ((2, k) :: st) G M Q ↔ cm_sh G k = some (0, 5) ∧ Go 52 86 ls ((2, G.2 k 1) :: st) G M Q := go_get2 hq52 k52_83 ff5_20 rfl
theorem k52_86 : cm_at ins_52 86 = some (.getfield 127, 3) := by decide +kernel
theorem g52_86 : Go 52 86 ls ((2, k) :: st) G M Q ↔ cm_sh G k = some (0, 1) ∧ Go 52 89 ls ((2, G.2 k 2) :: st) G M Q := go_get2 hq52 k52_86 ff5_127 rfl
theorem k52_89 : cm_at ins_52 89 = some (.iload_n 1, 1) := by decide +kernel
theorem g52_89 : Go 52 89 [l0, some (0, x), l2] st G M Q ↔ Go 52 90 [l0, some (0, x), l2] ((0, x) :: st) G M Q := go_iload_n hq52 k52_89 rfl
theorem k52_90 : cm_at ins_52 90 = some (.iaload, 1) := by decide +kernel
theorem g52_90 : Go 52 90 ls ((0, i) :: (2, k) :: st) G M Q ↔ (0 ≤ i ∧ i < cm_al 1 G M k) ∧ Go 52 91 ls ((0, M k i) :: st) G M Q := go_iald hq52 k52_90
theorem k52_91 : cm_at ins_52 91 = some (.ireturn, 1) := by decide +kernel
theorem g52_91 : Go 52 91 ls [(0, v)] G M Q ↔ Q (some (0, v)) G M := go_ireturn hq52 k52_91 rfl
theorem k52_92 : cm_at ins_52 92 = some (.aload_n 0, 1) := by decide +kernel
theorem g52_92 : Go 52 92 [some (2, x), l1, l2] st G M Q ↔ Go 52 93 [some (2, x), l1, l2] ((2, x) :: st) G M Q := go_aload_n hq52 k52_92 rfl
theorem k52_93 : cm_at ins_52 93 = some (.getfield 20, 3) := by decide +kernel
theorem g52_93 : Go 52 93 ls ((2, k) :: st) G M Q ↔ cm_sh G k = some (0, 5) ∧ Go 52 96 ls ((2, G.2 k 1) :: st) G M Q := go_get2 hq52 k52_93 ff5_20 rfl
theorem k52_96 : cm_at ins_52 96 = some (.getfield 111, 3) := by decide +kernel
theorem g52_96 : Go 52 96 ls ((2, k) :: st) G M Q ↔ cm_sh G k = some (0, 1) ∧ Go 52 99 ls ((2, G.2 k 3) :: st) G M Q := go_get2 hq52 k52_96 ff5_111 rfl
theorem k52_99 : cm_at ins_52 99 = some (.iload_n 1, 1) := by decide +kernel
theorem g52_99 : Go 52 99 [l0, some (0, x), l2] st G M Q ↔ Go 52 100 [l0, some (0, x), l2] ((0, x) :: st) G M Q := go_iload_n hq52 k52_99 rfl
theorem k52_100 : cm_at ins_52 100 = some (.iaload, 1) := by decide +kernel
theorem g52_100 : Go 52 100 ls ((0, i) :: (2, k) :: st) G M Q ↔ (0 ≤ i ∧ i < cm_al 1 G M k) ∧ Go 52 101 ls ((0, M k i) :: st) G M Q := go_iald hq52 k52_100
theorem k52_101 : cm_at ins_52 101 = some (.ireturn, 1) := by decide +kernel
theorem g52_101 : Go 52 101 ls [(0, v)] G M Q ↔ Q (some (0, v)) G M := go_ireturn hq52 k52_101 rfl
theorem k52_102 : cm_at ins_52 102 = some (.aload_n 0, 1) := by decide +kernel
theorem g52_102 : Go 52 102 [some (2, x), l1, l2] st G M Q ↔ Go 52 103 [some (2, x), l1, l2] ((2, x) :: st) G M Q := go_aload_n hq52 k52_102 rfl
theorem k52_103 : cm_at ins_52 103 = some (.getfield 20, 3) := by decide +kernel
theorem g52_103 : Go 52 103 ls ((2, k) :: st) G M Q ↔ cm_sh G k = some (0, 5) ∧ Go 52 106 ls ((2, G.2 k 1) :: st) G M Q := go_get2 hq52 k52_103 ff5_20 rfl
theorem k52_106 : cm_at ins_52 106 = some (.getfield 82, 3) := by decide +kernel
theorem g52_106 : Go 52 106 ls ((2, k) :: st) G M Q ↔ cm_sh G k = some (0, 1) ∧ Go 52 109 ls ((2, G.2 k 4) :: st) G M Q := go_get2 hq52 k52_106 ff5_82 rfl
theorem k52_109 : cm_at ins_52 109 = some (.iload_n 1, 1) := by decide +kernel
theorem g52_109 : Go 52 109 [l0, some (0, x), l2] st G M Q ↔ Go 52 110 [l0, some (0, x), l2] ((0, x) :: st) G M Q := go_iload_n hq52 k52_109 rfl
theorem k52_110 : cm_at ins_52 110 = some (.iaload, 1) := by decide +kernel
theorem g52_110 : Go 52 110 ls ((0, i) :: (2, k) :: st) G M Q ↔ (0 ≤ i ∧ i < cm_al 1 G M k) ∧ Go 52 111 ls ((0, M k i) :: st) G M Q := go_iald hq52 k52_110
theorem k52_111 : cm_at ins_52 111 = some (.ireturn, 1) := by decide +kernel
theorem g52_111 : Go 52 111 ls [(0, v)] G M Q ↔ Q (some (0, v)) G M := go_ireturn hq52 k52_111 rfl
theorem k52_112 : cm_at ins_52 112 = some (.aload_n 0, 1) := by decide +kernel
theorem g52_112 : Go 52 112 [some (2, x), l1, l2] st G M Q ↔ Go 52 113 [some (2, x), l1, l2] ((2, x) :: st) G M Q := go_aload_n hq52 k52_112 rfl
theorem k52_113 : cm_at ins_52 113 = some (.getfield 10, 3) := by decide +kernel
theorem g52_113 : Go 52 113 ls ((2, k) :: st) G M Q ↔ cm_sh G k = some (0, 5) ∧ Go 52 116 ls ((2, G.2 k 0) :: st) G M Q := go_get2 hq52 k52_113 ff5_10 rfl
theorem k52_116 : cm_at ins_52 116 = some (.getfield 130, 3) := by decide +kernel
theorem g52_116 : Go 52 116 ls ((2, k) :: st) G M Q ↔ cm_sh G k = some (0, 0) ∧ Go 52 119 ls ((2, G.2 k 1) :: st) G M Q := go_get2 hq52 k52_116 ff5_130 rfl
theorem k52_119 : cm_at ins_52 119 = some (.iload_n 1, 1) := by decide +kernel
theorem g52_119 : Go 52 119 [l0, some (0, x), l2] st G M Q ↔ Go 52 120 [l0, some (0, x), l2] ((0, x) :: st) G M Q := go_iload_n hq52 k52_119 rfl
theorem k52_120 : cm_at ins_52 120 = some (.iaload, 1) := by decide +kernel
theorem g52_120 : Go 52 120 ls ((0, i) :: (2, k) :: st) G M Q ↔ (0 ≤ i ∧ i < cm_al 1 G M k) ∧ Go 52 121 ls ((0, M k i) :: st) G M Q := go_iald hq52 k52_120
theorem k52_121 : cm_at ins_52 121 = some (.ireturn, 1) := by decide +kernel
theorem g52_121 : Go 52 121 ls [(0, v)] G M Q ↔ Q (some (0, v)) G M := go_ireturn hq52 k52_121 rfl
theorem k52_122 : cm_at ins_52 122 = some (.aload_n 0, 1) := by decide +kernel
theorem g52_122 : Go 52 122 [some (2, x), l1, l2] st G M Q ↔ Go 52 123 [some (2, x), l1, l2] ((2, x) :: st) G M Q := go_aload_n hq52 k52_122 rfl
theorem k52_123 : cm_at ins_52 123 = some (.getfield 20, 3) := by decide +kernel
theorem g52_123 : Go 52 123 ls ((2, k) :: st) G M Q ↔ cm_sh G k = some (0, 5) ∧ Go 52 126 ls ((2, G.2 k 1) :: st) G M Q := go_get2 hq52 k52_123 ff5_20 rfl
theorem k52_126 : cm_at ins_52 126 = some (.iload_n 1, 1) := by decide +kernel
theorem g52_126 : Go 52 126 [l0, some (0, x), l2] st G M Q ↔ Go 52 127 [l0, some (0, x), l2] ((0, x) :: st) G M Q := go_iload_n hq52 k52_126 rfl
theorem k52_127 : cm_at ins_52 127 = some (.invokevirtual 133, 3) := by decide +kernel
theorem c52_127 (h8 : cm_sum st ≤ 8) (hk : cm_sh G k = some (0, 1)) (K : Go 31 0 [some (2, k), some (0, y)] [] G M (fun r G' M' => Go 52 130 ls (r.toList ++ st) G' M' Q)) : Go 52 127 ls ((0, y) :: (2, k) :: st) G M Q := go_callV hq52 k52_127 fc5_133 hq31 rfl (as := [(0, y), (2, k)]) rfl rfl (Nat.le_of_ble_eq_true rfl) rfl h8 hk K
theorem k52_130 : cm_at ins_52 130 = some (.ireturn, 1) := by decide +kernel
theorem g52_130 : Go 52 130 ls [(0, v)] G M Q ↔ Q (some (0, v)) G M := go_ireturn hq52 k52_130 rfl
theorem k52_131 : cm_at ins_52 131 = some (.aload_n 0, 1) := by decide +kernel
theorem g52_131 : Go 52 131 [some (2, x), l1, l2] st G M Q ↔ Go 52 132 [some (2, x), l1, l2] ((2, x) :: st) G M Q := go_aload_n hq52 k52_131 rfl
theorem k52_132 : cm_at ins_52 132 = some (.getfield 10, 3) := by decide +kernel
theorem g52_132 : Go 52 132 ls ((2, k) :: st) G M Q ↔ cm_sh G k = some (0, 5) ∧ Go 52 135 ls ((2, G.2 k 0) :: st) G M Q := go_get2 hq52 k52_132 ff5_10 rfl
theorem k52_135 : cm_at ins_52 135 = some (.getfield 136, 3) := by decide +kernel
theorem g52_135 : Go 52 135 ls ((2, k) :: st) G M Q ↔ cm_sh G k = some (0, 0) ∧ Go 52 138 ls ((2, G.2 k 3) :: st) G M Q := go_get2 hq52 k52_135 ff5_136 rfl
theorem k52_138 : cm_at ins_52 138 = some (.iload_n 1, 1) := by decide +kernel
theorem g52_138 : Go 52 138 [l0, some (0, x), l2] st G M Q ↔ Go 52 139 [l0, some (0, x), l2] ((0, x) :: st) G M Q := go_iload_n hq52 k52_138 rfl
theorem k52_139 : cm_at ins_52 139 = some (.iaload, 1) := by decide +kernel
theorem g52_139 : Go 52 139 ls ((0, i) :: (2, k) :: st) G M Q ↔ (0 ≤ i ∧ i < cm_al 1 G M k) ∧ Go 52 140 ls ((0, M k i) :: st) G M Q := go_iald hq52 k52_139
theorem k52_140 : cm_at ins_52 140 = some (.ireturn, 1) := by decide +kernel
theorem g52_140 : Go 52 140 ls [(0, v)] G M Q ↔ Q (some (0, v)) G M := go_ireturn hq52 k52_140 rfl
theorem k52_141 : cm_at ins_52 141 = some (.aload_n 0, 1) := by decide +kernel
theorem g52_141 : Go 52 141 [some (2, x), l1, l2] st G M Q ↔ Go 52 142 [some (2, x), l1, l2] ((2, x) :: st) G M Q := go_aload_n hq52 k52_141 rfl
theorem k52_142 : cm_at ins_52 142 = some (.getfield 10, 3) := by decide +kernel
theorem g52_142 : Go 52 142 ls ((2, k) :: st) G M Q ↔ cm_sh G k = some (0, 5) ∧ Go 52 145 ls ((2, G.2 k 0) :: st) G M Q := go_get2 hq52 k52_142 ff5_10 rfl
theorem k52_145 : cm_at ins_52 145 = some (.getfield 136, 3) := by decide +kernel
theorem g52_145 : Go 52 145 ls ((2, k) :: st) G M Q ↔ cm_sh G k = some (0, 0) ∧ Go 52 148 ls ((2, G.2 k 3) :: st) G M Q := go_get2 hq52 k52_145 ff5_136 rfl
theorem k52_148 : cm_at ins_52 148 = some (.iload_n 1, 1) := by decide +kernel
theorem g52_148 : Go 52 148 [l0, some (0, x), l2] st G M Q ↔ Go 52 149 [l0, some (0, x), l2] ((0, x) :: st) G M Q := go_iload_n hq52 k52_148 rfl
theorem k52_149 : cm_at ins_52 149 = some (.iaload, 1) := by decide +kernel
theorem g52_149 : Go 52 149 ls ((0, i) :: (2, k) :: st) G M Q ↔ (0 ≤ i ∧ i < cm_al 1 G M k) ∧ Go 52 150 ls ((0, M k i) :: st) G M Q := go_iald hq52 k52_149
theorem k52_150 : cm_at ins_52 150 = some (.ifCond .ne 8, 3) := by decide +kernel
theorem g52_150 : Go 52 150 ls ((0, a) :: st) G M Q ↔ cm_in a ∧ (¬ a = 0 → Go 52 158 ls st G M Q) ∧ (a = 0 → Go 52 153 ls st G M Q) := go_if_ne hq52 k52_150 (by decide)
theorem k52_153 : cm_at ins_52 153 = some (.bipush (-6), 2) := by decide +kernel
theorem g52_153 : Go 52 153 ls st G M Q ↔ Go 52 155 ls ((0, (-6)) :: st) G M Q := go_bipush hq52 k52_153 (by decide)
theorem k52_155 : cm_at ins_52 155 = some (.goto 12, 3) := by decide +kernel
theorem g52_155 : Go 52 155 ls st G M Q ↔ Go 52 167 ls st G M Q := go_goto hq52 k52_155 (by decide)
theorem k52_158 : cm_at ins_52 158 = some (.aload_n 0, 1) := by decide +kernel
theorem g52_158 : Go 52 158 [some (2, x), l1, l2] st G M Q ↔ Go 52 159 [some (2, x), l1, l2] ((2, x) :: st) G M Q := go_aload_n hq52 k52_158 rfl
theorem k52_159 : cm_at ins_52 159 = some (.getfield 10, 3) := by decide +kernel
theorem g52_159 : Go 52 159 ls ((2, k) :: st) G M Q ↔ cm_sh G k = some (0, 5) ∧ Go 52 162 ls ((2, G.2 k 0) :: st) G M Q := go_get2 hq52 k52_159 ff5_10 rfl
theorem k52_162 : cm_at ins_52 162 = some (.getfield 139, 3) := by decide +kernel
theorem g52_162 : Go 52 162 ls ((2, k) :: st) G M Q ↔ cm_sh G k = some (0, 0) ∧ Go 52 165 ls ((2, G.2 k 2) :: st) G M Q := go_get2 hq52 k52_162 ff5_139 rfl
theorem k52_165 : cm_at ins_52 165 = some (.iload_n 1, 1) := by decide +kernel
theorem g52_165 : Go 52 165 [l0, some (0, x), l2] st G M Q ↔ Go 52 166 [l0, some (0, x), l2] ((0, x) :: st) G M Q := go_iload_n hq52 k52_165 rfl
theorem k52_166 : cm_at ins_52 166 = some (.iaload, 1) := by decide +kernel
theorem g52_166 : Go 52 166 ls ((0, i) :: (2, k) :: st) G M Q ↔ (0 ≤ i ∧ i < cm_al 1 G M k) ∧ Go 52 167 ls ((0, M k i) :: st) G M Q := go_iald hq52 k52_166
theorem k52_167 : cm_at ins_52 167 = some (.ireturn, 1) := by decide +kernel
theorem g52_167 : Go 52 167 ls [(0, v)] G M Q ↔ Q (some (0, v)) G M := go_ireturn hq52 k52_167 rfl
theorem k52_168 : cm_at ins_52 168 = some (.aload_n 0, 1) := by decide +kernel
theorem g52_168 : Go 52 168 [some (2, x), l1, l2] st G M Q ↔ Go 52 169 [some (2, x), l1, l2] ((2, x) :: st) G M Q := go_aload_n hq52 k52_168 rfl
theorem k52_169 : cm_at ins_52 169 = some (.getfield 10, 3) := by decide +kernel
theorem g52_169 : Go 52 169 ls ((2, k) :: st) G M Q ↔ cm_sh G k = some (0, 5) ∧ Go 52 172 ls ((2, G.2 k 0) :: st) G M Q := go_get2 hq52 k52_169 ff5_10 rfl
theorem k52_172 : cm_at ins_52 172 = some (.getfield 136, 3) := by decide +kernel
theorem g52_172 : Go 52 172 ls ((2, k) :: st) G M Q ↔ cm_sh G k = some (0, 0) ∧ Go 52 175 ls ((2, G.2 k 3) :: st) G M Q := go_get2 hq52 k52_172 ff5_136 rfl
theorem k52_175 : cm_at ins_52 175 = some (.iload_n 1, 1) := by decide +kernel
theorem g52_175 : Go 52 175 [l0, some (0, x), l2] st G M Q ↔ Go 52 176 [l0, some (0, x), l2] ((0, x) :: st) G M Q := go_iload_n hq52 k52_175 rfl
theorem k52_176 : cm_at ins_52 176 = some (.iaload, 1) := by decide +kernel
theorem g52_176 : Go 52 176 ls ((0, i) :: (2, k) :: st) G M Q ↔ (0 ≤ i ∧ i < cm_al 1 G M k) ∧ Go 52 177 ls ((0, M k i) :: st) G M Q := go_iald hq52 k52_176
theorem k52_177 : cm_at ins_52 177 = some (.ifCond .ne 8, 3) := by decide +kernel
theorem g52_177 : Go 52 177 ls ((0, a) :: st) G M Q ↔ cm_in a ∧ (¬ a = 0 → Go 52 185 ls st G M Q) ∧ (a = 0 → Go 52 180 ls st G M Q) := go_if_ne hq52 k52_177 (by decide)
theorem k52_180 : cm_at ins_52 180 = some (.bipush (-6), 2) := by decide +kernel
theorem g52_180 : Go 52 180 ls st G M Q ↔ Go 52 182 ls ((0, (-6)) :: st) G M Q := go_bipush hq52 k52_180 (by decide)
theorem k52_182 : cm_at ins_52 182 = some (.goto 24, 3) := by decide +kernel
theorem g52_182 : Go 52 182 ls st G M Q ↔ Go 52 206 ls st G M Q := go_goto hq52 k52_182 (by decide)
theorem k52_185 : cm_at ins_52 185 = some (.aload_n 0, 1) := by decide +kernel
theorem g52_185 : Go 52 185 [some (2, x), l1, l2] st G M Q ↔ Go 52 186 [some (2, x), l1, l2] ((2, x) :: st) G M Q := go_aload_n hq52 k52_185 rfl
theorem k52_186 : cm_at ins_52 186 = some (.getfield 10, 3) := by decide +kernel
theorem g52_186 : Go 52 186 ls ((2, k) :: st) G M Q ↔ cm_sh G k = some (0, 5) ∧ Go 52 189 ls ((2, G.2 k 0) :: st) G M Q := go_get2 hq52 k52_186 ff5_10 rfl
theorem k52_189 : cm_at ins_52 189 = some (.getfield 139, 3) := by decide +kernel
theorem g52_189 : Go 52 189 ls ((2, k) :: st) G M Q ↔ cm_sh G k = some (0, 0) ∧ Go 52 192 ls ((2, G.2 k 2) :: st) G M Q := go_get2 hq52 k52_189 ff5_139 rfl
theorem k52_192 : cm_at ins_52 192 = some (.iload_n 1, 1) := by decide +kernel
theorem g52_192 : Go 52 192 [l0, some (0, x), l2] st G M Q ↔ Go 52 193 [l0, some (0, x), l2] ((0, x) :: st) G M Q := go_iload_n hq52 k52_192 rfl
theorem k52_193 : cm_at ins_52 193 = some (.iaload, 1) := by decide +kernel
theorem g52_193 : Go 52 193 ls ((0, i) :: (2, k) :: st) G M Q ↔ (0 ≤ i ∧ i < cm_al 1 G M k) ∧ Go 52 194 ls ((0, M k i) :: st) G M Q := go_iald hq52 k52_193
theorem k52_194 : cm_at ins_52 194 = some (.aload_n 0, 1) := by decide +kernel
theorem g52_194 : Go 52 194 [some (2, x), l1, l2] st G M Q ↔ Go 52 195 [some (2, x), l1, l2] ((2, x) :: st) G M Q := go_aload_n hq52 k52_194 rfl
theorem k52_195 : cm_at ins_52 195 = some (.getfield 10, 3) := by decide +kernel
theorem g52_195 : Go 52 195 ls ((2, k) :: st) G M Q ↔ cm_sh G k = some (0, 5) ∧ Go 52 198 ls ((2, G.2 k 0) :: st) G M Q := go_get2 hq52 k52_195 ff5_10 rfl
theorem k52_198 : cm_at ins_52 198 = some (.getfield 136, 3) := by decide +kernel
theorem g52_198 : Go 52 198 ls ((2, k) :: st) G M Q ↔ cm_sh G k = some (0, 0) ∧ Go 52 201 ls ((2, G.2 k 3) :: st) G M Q := go_get2 hq52 k52_198 ff5_136 rfl
theorem k52_201 : cm_at ins_52 201 = some (.iload_n 1, 1) := by decide +kernel
theorem g52_201 : Go 52 201 [l0, some (0, x), l2] st G M Q ↔ Go 52 202 [l0, some (0, x), l2] ((0, x) :: st) G M Q := go_iload_n hq52 k52_201 rfl
theorem k52_202 : cm_at ins_52 202 = some (.iaload, 1) := by decide +kernel
theorem g52_202 : Go 52 202 ls ((0, i) :: (2, k) :: st) G M Q ↔ (0 ≤ i ∧ i < cm_al 1 G M k) ∧ Go 52 203 ls ((0, M k i) :: st) G M Q := go_iald hq52 k52_202
theorem k52_203 : cm_at ins_52 203 = some (.iadd, 1) := by decide +kernel
theorem g52_203 : Go 52 203 ls ((0, b) :: (0, a) :: st) G M Q ↔ Go 52 204 ls ((0, a + b) :: st) G M Q := go_iadd hq52 k52_203
theorem k52_204 : cm_at ins_52 204 = some (.iconst 1, 1) := by decide +kernel
theorem g52_204 : Go 52 204 ls st G M Q ↔ Go 52 205 ls ((0, 1) :: st) G M Q := go_iconst hq52 k52_204
theorem k52_205 : cm_at ins_52 205 = some (.isub, 1) := by decide +kernel
theorem g52_205 : Go 52 205 ls ((0, b) :: (0, a) :: st) G M Q ↔ Go 52 206 ls ((0, a - b) :: st) G M Q := go_isub hq52 k52_205
theorem k52_206 : cm_at ins_52 206 = some (.ireturn, 1) := by decide +kernel
theorem g52_206 : Go 52 206 ls [(0, v)] G M Q ↔ Q (some (0, v)) G M := go_ireturn hq52 k52_206 rfl
theorem k52_207 : cm_at ins_52 207 = some (.bipush (-2), 2) := by decide +kernel
theorem g52_207 : Go 52 207 ls st G M Q ↔ Go 52 209 ls ((0, (-2)) :: st) G M Q := go_bipush hq52 k52_207 (by decide)
theorem k52_209 : cm_at ins_52 209 = some (.ireturn, 1) := by decide +kernel
theorem g52_209 : Go 52 209 ls [(0, v)] G M Q ↔ Q (some (0, v)) G M := go_ireturn hq52 k52_209 rfl
theorem k53_0 : cm_at ins_53 0 = some (.iload_n 1, 1) := by decide +kernel
theorem g53_0 : Go 53 0 [l0, some (0, x), l2] st G M Q ↔ Go 53 1 [l0, some (0, x), l2] ((0, x) :: st) G M Q := go_iload_n hq53 k53_0 rfl
theorem k53_1 : cm_at ins_53 1 = some (.invokestatic 68, 3) := by decide +kernel
theorem c53_1 (h8 : cm_sum st ≤ 8) (K : Go 62 0 [some (0, x)] [] G M (fun r G' M' => Go 53 4 ls (r.toList ++ st) G' M' Q)) : Go 53 1 ls ((0, x) :: st) G M Q := go_callS hq53 k53_1 fc5_68 ⟨by decide, by decide⟩ hq62 rfl (as := [(0, x)]) rfl rfl (Nat.le_of_ble_eq_true rfl) h8 K
theorem k53_4 : cm_at ins_53 4 = some (.ifCond .ne 6, 3) := by decide +kernel
theorem g53_4 : Go 53 4 ls ((0, a) :: st) G M Q ↔ cm_in a ∧ (¬ a = 0 → Go 53 10 ls st G M Q) ∧ (a = 0 → Go 53 7 ls st G M Q) := go_if_ne hq53 k53_4 (by decide)
theorem k53_7 : cm_at ins_53 7 = some (.bipush (-2), 2) := by decide +kernel
theorem g53_7 : Go 53 7 ls st G M Q ↔ Go 53 9 ls ((0, (-2)) :: st) G M Q := go_bipush hq53 k53_7 (by decide)
theorem k53_9 : cm_at ins_53 9 = some (.ireturn, 1) := by decide +kernel
theorem g53_9 : Go 53 9 ls [(0, v)] G M Q ↔ Q (some (0, v)) G M := go_ireturn hq53 k53_9 rfl
theorem k53_10 : cm_at ins_53 10 = some (.aload_n 0, 1) := by decide +kernel
theorem g53_10 : Go 53 10 [some (2, x), l1, l2] st G M Q ↔ Go 53 11 [some (2, x), l1, l2] ((2, x) :: st) G M Q := go_aload_n hq53 k53_10 rfl
theorem k53_11 : cm_at ins_53 11 = some (.getfield 10, 3) := by decide +kernel
theorem g53_11 : Go 53 11 ls ((2, k) :: st) G M Q ↔ cm_sh G k = some (0, 5) ∧ Go 53 14 ls ((2, G.2 k 0) :: st) G M Q := go_get2 hq53 k53_11 ff5_10 rfl
theorem k53_14 : cm_at ins_53 14 = some (.invokevirtual 85, 3) := by decide +kernel
theorem c53_14 (h8 : cm_sum st ≤ 8) (hk : cm_sh G k = some (0, 0)) (K : Go 1 0 [some (2, k)] [] G M (fun r G' M' => Go 53 17 ls (r.toList ++ st) G' M' Q)) : Go 53 14 ls ((2, k) :: st) G M Q := go_callV hq53 k53_14 fc5_85 hq1 rfl (as := [(2, k)]) rfl rfl (Nat.le_of_ble_eq_true rfl) rfl h8 hk K
theorem k53_17 : cm_at ins_53 17 = some (.iload_n 2, 1) := by decide +kernel
theorem g53_17 : Go 53 17 [l0, l1, some (0, x)] st G M Q ↔ Go 53 18 [l0, l1, some (0, x)] ((0, x) :: st) G M Q := go_iload_n hq53 k53_17 rfl
theorem k53_18 : cm_at ins_53 18 = some (.tableswitch 92 0 4 #[34, 43, 52, 77, 86], 34) := by decide +kernel
theorem k53_52 : cm_at ins_53 52 = some (.aload_n 0, 1) := by decide +kernel
theorem g53_52 : Go 53 52 [some (2, x), l1, l2] st G M Q ↔ Go 53 53 [some (2, x), l1, l2] ((2, x) :: st) G M Q := go_aload_n hq53 k53_52 rfl
theorem k53_53 : cm_at ins_53 53 = some (.getfield 20, 3) := by decide +kernel
theorem g53_53 : Go 53 53 ls ((2, k) :: st) G M Q ↔ cm_sh G k = some (0, 5) ∧ Go 53 56 ls ((2, G.2 k 1) :: st) G M Q := go_get2 hq53 k53_53 ff5_20 rfl
theorem k53_56 : cm_at ins_53 56 = some (.iload_n 1, 1) := by decide +kernel
theorem g53_56 : Go 53 56 [l0, some (0, x), l2] st G M Q ↔ Go 53 57 [l0, some (0, x), l2] ((0, x) :: st) G M Q := go_iload_n hq53 k53_56 rfl
theorem k53_57 : cm_at ins_53 57 = some (.invokevirtual 142, 3) := by decide +kernel
theorem c53_57 (h8 : cm_sum st ≤ 8) (hk : cm_sh G k = some (0, 1)) (K : Go 37 0 [some (2, k), some (0, y), none, none] [] G M (fun r G' M' => Go 53 60 ls (r.toList ++ st) G' M' Q)) : Go 53 57 ls ((0, y) :: (2, k) :: st) G M Q := go_callV hq53 k53_57 fc5_142 hq37 rfl (as := [(0, y), (2, k)]) rfl rfl (Nat.le_of_ble_eq_true rfl) rfl h8 hk K
theorem k53_60 : cm_at ins_53 60 = some (.ireturn, 1) := by decide +kernel
theorem g53_60 : Go 53 60 ls [(0, v)] G M Q ↔ Q (some (0, v)) G M := go_ireturn hq53 k53_60 rfl
theorem k53_61 : cm_at ins_53 61 = some (.aload_n 0, 1) := by decide +kernel
theorem g53_61 : Go 53 61 [some (2, x), l1, l2] st G M Q ↔ Go 53 62 [some (2, x), l1, l2] ((2, x) :: st) G M Q := go_aload_n hq53 k53_61 rfl
theorem k53_62 : cm_at ins_53 62 = some (.getfield 10, 3) := by decide +kernel
theorem g53_62 : Go 53 62 ls ((2, k) :: st) G M Q ↔ cm_sh G k = some (0, 5) ∧ Go 53 65 ls ((2, G.2 k 0) :: st) G M Q := go_get2 hq53 k53_62 ff5_10 rfl
theorem k53_65 : cm_at ins_53 65 = some (.iload_n 1, 1) := by decide +kernel
theorem g53_65 : Go 53 65 [l0, some (0, x), l2] st G M Q ↔ Go 53 66 [l0, some (0, x), l2] ((0, x) :: st) G M Q := go_iload_n hq53 k53_65 rfl
theorem k53_66 : cm_at ins_53 66 = some (.invokevirtual 145, 3) := by decide +kernel
theorem c53_66 (h8 : cm_sum st ≤ 8) (hk : cm_sh G k = some (0, 0)) (K : Go 21 0 [some (2, k), some (0, y)] [] G M (fun r G' M' => Go 53 69 ls (r.toList ++ st) G' M' Q)) : Go 53 66 ls ((0, y) :: (2, k) :: st) G M Q := go_callV hq53 k53_66 fc5_145 hq21 rfl (as := [(0, y), (2, k)]) rfl rfl (Nat.le_of_ble_eq_true rfl) rfl h8 hk K
theorem k53_69 : cm_at ins_53 69 = some (.ireturn, 1) := by decide +kernel
theorem g53_69 : Go 53 69 ls [(0, v)] G M Q ↔ Q (some (0, v)) G M := go_ireturn hq53 k53_69 rfl
theorem k53_70 : cm_at ins_53 70 = some (.aload_n 0, 1) := by decide +kernel
theorem g53_70 : Go 53 70 [some (2, x), l1, l2] st G M Q ↔ Go 53 71 [some (2, x), l1, l2] ((2, x) :: st) G M Q := go_aload_n hq53 k53_70 rfl
theorem k53_71 : cm_at ins_53 71 = some (.getfield 20, 3) := by decide +kernel
theorem g53_71 : Go 53 71 ls ((2, k) :: st) G M Q ↔ cm_sh G k = some (0, 5) ∧ Go 53 74 ls ((2, G.2 k 1) :: st) G M Q := go_get2 hq53 k53_71 ff5_20 rfl
theorem k53_74 : cm_at ins_53 74 = some (.iload_n 1, 1) := by decide +kernel
theorem g53_74 : Go 53 74 [l0, some (0, x), l2] st G M Q ↔ Go 53 75 [l0, some (0, x), l2] ((0, x) :: st) G M Q := go_iload_n hq53 k53_74 rfl
theorem k53_75 : cm_at ins_53 75 = some (.invokevirtual 142, 3) := by decide +kernel
theorem c53_75 (h8 : cm_sum st ≤ 8) (hk : cm_sh G k = some (0, 1)) (K : Go 37 0 [some (2, k), some (0, y), none, none] [] G M (fun r G' M' => Go 53 78 ls (r.toList ++ st) G' M' Q)) : Go 53 75 ls ((0, y) :: (2, k) :: st) G M Q := go_callV hq53 k53_75 fc5_142 hq37 rfl (as := [(0, y), (2, k)]) rfl rfl (Nat.le_of_ble_eq_true rfl) rfl h8 hk K
theorem k53_78 : cm_at ins_53 78 = some (.ifCond .ne 8, 3) := by decide +kernel
theorem g53_78 : Go 53 78 ls ((0, a) :: st) G M Q ↔ cm_in a ∧ (¬ a = 0 → Go 53 86 ls st G M Q) ∧ (a = 0 → Go 53 81 ls st G M Q) := go_if_ne hq53 k53_78 (by decide)
theorem k53_81 : cm_at ins_53 81 = some (.bipush (-6), 2) := by decide +kernel
theorem g53_81 : Go 53 81 ls st G M Q ↔ Go 53 83 ls ((0, (-6)) :: st) G M Q := go_bipush hq53 k53_81 (by decide)
theorem k53_83 : cm_at ins_53 83 = some (.goto 11, 3) := by decide +kernel
theorem g53_83 : Go 53 83 ls st G M Q ↔ Go 53 94 ls st G M Q := go_goto hq53 k53_83 (by decide)
theorem k53_86 : cm_at ins_53 86 = some (.aload_n 0, 1) := by decide +kernel
theorem g53_86 : Go 53 86 [some (2, x), l1, l2] st G M Q ↔ Go 53 87 [some (2, x), l1, l2] ((2, x) :: st) G M Q := go_aload_n hq53 k53_86 rfl
theorem k53_87 : cm_at ins_53 87 = some (.getfield 10, 3) := by decide +kernel
theorem g53_87 : Go 53 87 ls ((2, k) :: st) G M Q ↔ cm_sh G k = some (0, 5) ∧ Go 53 90 ls ((2, G.2 k 0) :: st) G M Q := go_get2 hq53 k53_87 ff5_10 rfl
theorem k53_90 : cm_at ins_53 90 = some (.iload_n 1, 1) := by decide +kernel
theorem g53_90 : Go 53 90 [l0, some (0, x), l2] st G M Q ↔ Go 53 91 [l0, some (0, x), l2] ((0, x) :: st) G M Q := go_iload_n hq53 k53_90 rfl
theorem k53_91 : cm_at ins_53 91 = some (.invokevirtual 148, 3) := by decide +kernel
theorem c53_91 (h8 : cm_sum st ≤ 8) (hk : cm_sh G k = some (0, 0)) (K : Go 19 0 [some (2, k), some (0, y), none] [] G M (fun r G' M' => Go 53 94 ls (r.toList ++ st) G' M' Q)) : Go 53 91 ls ((0, y) :: (2, k) :: st) G M Q := go_callV hq53 k53_91 fc5_148 hq19 rfl (as := [(0, y), (2, k)]) rfl rfl (Nat.le_of_ble_eq_true rfl) rfl h8 hk K
theorem k53_94 : cm_at ins_53 94 = some (.ireturn, 1) := by decide +kernel
theorem g53_94 : Go 53 94 ls [(0, v)] G M Q ↔ Q (some (0, v)) G M := go_ireturn hq53 k53_94 rfl
theorem k53_95 : cm_at ins_53 95 = some (.aload_n 0, 1) := by decide +kernel
theorem g53_95 : Go 53 95 [some (2, x), l1, l2] st G M Q ↔ Go 53 96 [some (2, x), l1, l2] ((2, x) :: st) G M Q := go_aload_n hq53 k53_95 rfl
theorem k53_96 : cm_at ins_53 96 = some (.getfield 10, 3) := by decide +kernel
theorem g53_96 : Go 53 96 ls ((2, k) :: st) G M Q ↔ cm_sh G k = some (0, 5) ∧ Go 53 99 ls ((2, G.2 k 0) :: st) G M Q := go_get2 hq53 k53_96 ff5_10 rfl
theorem k53_99 : cm_at ins_53 99 = some (.iload_n 1, 1) := by decide +kernel
theorem g53_99 : Go 53 99 [l0, some (0, x), l2] st G M Q ↔ Go 53 100 [l0, some (0, x), l2] ((0, x) :: st) G M Q := go_iload_n hq53 k53_99 rfl
theorem k53_100 : cm_at ins_53 100 = some (.invokevirtual 151, 3) := by decide +kernel
theorem c53_100 (h8 : cm_sum st ≤ 8) (hk : cm_sh G k = some (0, 0)) (K : Go 18 0 [some (2, k), some (0, y), none, none] [] G M (fun r G' M' => Go 53 103 ls (r.toList ++ st) G' M' Q)) : Go 53 100 ls ((0, y) :: (2, k) :: st) G M Q := go_callV hq53 k53_100 fc5_151 hq18 rfl (as := [(0, y), (2, k)]) rfl rfl (Nat.le_of_ble_eq_true rfl) rfl h8 hk K
theorem k53_103 : cm_at ins_53 103 = some (.ireturn, 1) := by decide +kernel
theorem g53_103 : Go 53 103 ls [(0, v)] G M Q ↔ Q (some (0, v)) G M := go_ireturn hq53 k53_103 rfl
theorem k53_104 : cm_at ins_53 104 = some (.aload_n 0, 1) := by decide +kernel
theorem g53_104 : Go 53 104 [some (2, x), l1, l2] st G M Q ↔ Go 53 105 [some (2, x), l1, l2] ((2, x) :: st) G M Q := go_aload_n hq53 k53_104 rfl
theorem k53_105 : cm_at ins_53 105 = some (.iload_n 1, 1) := by decide +kernel
theorem g53_105 : Go 53 105 [l0, some (0, x), l2] st G M Q ↔ Go 53 106 [l0, some (0, x), l2] ((0, x) :: st) G M Q := go_iload_n hq53 k53_105 rfl
theorem k53_106 : cm_at ins_53 106 = some (.invokevirtual 154, 3) := by decide +kernel
theorem c53_106 (h8 : cm_sum st ≤ 8) (hk : cm_sh G k = some (0, 5)) (K : Go 60 0 [some (2, k), some (0, y), none] [] G M (fun r G' M' => Go 53 109 ls (r.toList ++ st) G' M' Q)) : Go 53 106 ls ((0, y) :: (2, k) :: st) G M Q := go_callV hq53 k53_106 fc5_154 hq60 rfl (as := [(0, y), (2, k)]) rfl rfl (Nat.le_of_ble_eq_true rfl) rfl h8 hk K
theorem k53_109 : cm_at ins_53 109 = some (.ireturn, 1) := by decide +kernel
theorem g53_109 : Go 53 109 ls [(0, v)] G M Q ↔ Q (some (0, v)) G M := go_ireturn hq53 k53_109 rfl
theorem k53_110 : cm_at ins_53 110 = some (.bipush (-2), 2) := by decide +kernel
theorem g53_110 : Go 53 110 ls st G M Q ↔ Go 53 112 ls ((0, (-2)) :: st) G M Q := go_bipush hq53 k53_110 (by decide)
theorem k53_112 : cm_at ins_53 112 = some (.ireturn, 1) := by decide +kernel
theorem g53_112 : Go 53 112 ls [(0, v)] G M Q ↔ Q (some (0, v)) G M := go_ireturn hq53 k53_112 rfl
theorem k54_0 : cm_at ins_54 0 = some (.iload_n 1, 1) := by decide +kernel
theorem g54_0 : Go 54 0 [l0, some (0, x), l2] st G M Q ↔ Go 54 1 [l0, some (0, x), l2] ((0, x) :: st) G M Q := go_iload_n hq54 k54_0 rfl
theorem k54_1 : cm_at ins_54 1 = some (.iconst 0, 1) := by decide +kernel
theorem g54_1 : Go 54 1 ls st G M Q ↔ Go 54 2 ls ((0, 0) :: st) G M Q := go_iconst hq54 k54_1
theorem k54_2 : cm_at ins_54 2 = some (.sipush 9999, 3) := by decide +kernel
theorem g54_2 : Go 54 2 ls st G M Q ↔ Go 54 5 ls ((0, 9999) :: st) G M Q := go_sipush hq54 k54_2 (by decide)
theorem k54_5 : cm_at ins_54 5 = some (.invokestatic 55, 3) := by decide +kernel
theorem c54_5 (h8 : cm_sum st ≤ 8) (K : Go 61 0 [some (0, x), some (0, y), some (0, z)] [] G M (fun r G' M' => Go 54 8 ls (r.toList ++ st) G' M' Q)) : Go 54 5 ls ((0, z) :: (0, y) :: (0, x) :: st) G M Q := go_callS hq54 k54_5 fc5_55 ⟨by decide, by decide⟩ hq61 rfl (as := [(0, z), (0, y), (0, x)]) rfl rfl (Nat.le_of_ble_eq_true rfl) h8 K
theorem k54_8 : cm_at ins_54 8 = some (.ifCond .ne 6, 3) := by decide +kernel
theorem g54_8 : Go 54 8 ls ((0, a) :: st) G M Q ↔ cm_in a ∧ (¬ a = 0 → Go 54 14 ls st G M Q) ∧ (a = 0 → Go 54 11 ls st G M Q) := go_if_ne hq54 k54_8 (by decide)
theorem k54_11 : cm_at ins_54 11 = some (.bipush (-2), 2) := by decide +kernel
theorem g54_11 : Go 54 11 ls st G M Q ↔ Go 54 13 ls ((0, (-2)) :: st) G M Q := go_bipush hq54 k54_11 (by decide)
theorem k54_13 : cm_at ins_54 13 = some (.ireturn, 1) := by decide +kernel
theorem g54_13 : Go 54 13 ls [(0, v)] G M Q ↔ Q (some (0, v)) G M := go_ireturn hq54 k54_13 rfl
theorem k54_14 : cm_at ins_54 14 = some (.aload_n 0, 1) := by decide +kernel
theorem g54_14 : Go 54 14 [some (2, x), l1, l2] st G M Q ↔ Go 54 15 [some (2, x), l1, l2] ((2, x) :: st) G M Q := go_aload_n hq54 k54_14 rfl
theorem k54_15 : cm_at ins_54 15 = some (.getfield 10, 3) := by decide +kernel
theorem g54_15 : Go 54 15 ls ((2, k) :: st) G M Q ↔ cm_sh G k = some (0, 5) ∧ Go 54 18 ls ((2, G.2 k 0) :: st) G M Q := go_get2 hq54 k54_15 ff5_10 rfl
theorem k54_18 : cm_at ins_54 18 = some (.invokevirtual 85, 3) := by decide +kernel
theorem c54_18 (h8 : cm_sum st ≤ 8) (hk : cm_sh G k = some (0, 0)) (K : Go 1 0 [some (2, k)] [] G M (fun r G' M' => Go 54 21 ls (r.toList ++ st) G' M' Q)) : Go 54 18 ls ((2, k) :: st) G M Q := go_callV hq54 k54_18 fc5_85 hq1 rfl (as := [(2, k)]) rfl rfl (Nat.le_of_ble_eq_true rfl) rfl h8 hk K
theorem k54_21 : cm_at ins_54 21 = some (.iload_n 2, 1) := by decide +kernel
theorem g54_21 : Go 54 21 [l0, l1, some (0, x)] st G M Q ↔ Go 54 22 [l0, l1, some (0, x)] ((0, x) :: st) G M Q := go_iload_n hq54 k54_21 rfl
theorem k54_22 : cm_at ins_54 22 = some (.tableswitch 79 0 4 #[34, 43, 52, 61, 70], 34) := by decide +kernel
theorem k54_56 : cm_at ins_54 56 = some (.aload_n 0, 1) := by decide +kernel
theorem g54_56 : Go 54 56 [some (2, x), l1, l2] st G M Q ↔ Go 54 57 [some (2, x), l1, l2] ((2, x) :: st) G M Q := go_aload_n hq54 k54_56 rfl
theorem k54_57 : cm_at ins_54 57 = some (.getfield 10, 3) := by decide +kernel
theorem g54_57 : Go 54 57 ls ((2, k) :: st) G M Q ↔ cm_sh G k = some (0, 5) ∧ Go 54 60 ls ((2, G.2 k 0) :: st) G M Q := go_get2 hq54 k54_57 ff5_10 rfl
theorem k54_60 : cm_at ins_54 60 = some (.iload_n 1, 1) := by decide +kernel
theorem g54_60 : Go 54 60 [l0, some (0, x), l2] st G M Q ↔ Go 54 61 [l0, some (0, x), l2] ((0, x) :: st) G M Q := go_iload_n hq54 k54_60 rfl
theorem k54_61 : cm_at ins_54 61 = some (.invokevirtual 157, 3) := by decide +kernel
theorem c54_61 (h8 : cm_sum st ≤ 8) (hk : cm_sh G k = some (0, 0)) (K : Go 15 0 [some (2, k), some (0, y), none] [] G M (fun r G' M' => Go 54 64 ls (r.toList ++ st) G' M' Q)) : Go 54 61 ls ((0, y) :: (2, k) :: st) G M Q := go_callV hq54 k54_61 fc5_157 hq15 rfl (as := [(0, y), (2, k)]) rfl rfl (Nat.le_of_ble_eq_true rfl) rfl h8 hk K
theorem k54_64 : cm_at ins_54 64 = some (.ireturn, 1) := by decide +kernel
theorem g54_64 : Go 54 64 ls [(0, v)] G M Q ↔ Q (some (0, v)) G M := go_ireturn hq54 k54_64 rfl
theorem k54_65 : cm_at ins_54 65 = some (.aload_n 0, 1) := by decide +kernel
theorem g54_65 : Go 54 65 [some (2, x), l1, l2] st G M Q ↔ Go 54 66 [some (2, x), l1, l2] ((2, x) :: st) G M Q := go_aload_n hq54 k54_65 rfl
theorem k54_66 : cm_at ins_54 66 = some (.getfield 10, 3) := by decide +kernel
theorem g54_66 : Go 54 66 ls ((2, k) :: st) G M Q ↔ cm_sh G k = some (0, 5) ∧ Go 54 69 ls ((2, G.2 k 0) :: st) G M Q := go_get2 hq54 k54_66 ff5_10 rfl
theorem k54_69 : cm_at ins_54 69 = some (.iload_n 1, 1) := by decide +kernel
theorem g54_69 : Go 54 69 [l0, some (0, x), l2] st G M Q ↔ Go 54 70 [l0, some (0, x), l2] ((0, x) :: st) G M Q := go_iload_n hq54 k54_69 rfl
theorem k54_70 : cm_at ins_54 70 = some (.invokevirtual 160, 3) := by decide +kernel
theorem c54_70 (h8 : cm_sum st ≤ 8) (hk : cm_sh G k = some (0, 0)) (K : Go 16 0 [some (2, k), some (0, y), none] [] G M (fun r G' M' => Go 54 73 ls (r.toList ++ st) G' M' Q)) : Go 54 70 ls ((0, y) :: (2, k) :: st) G M Q := go_callV hq54 k54_70 fc5_160 hq16 rfl (as := [(0, y), (2, k)]) rfl rfl (Nat.le_of_ble_eq_true rfl) rfl h8 hk K
theorem k54_73 : cm_at ins_54 73 = some (.ireturn, 1) := by decide +kernel
theorem g54_73 : Go 54 73 ls [(0, v)] G M Q ↔ Q (some (0, v)) G M := go_ireturn hq54 k54_73 rfl
theorem k54_74 : cm_at ins_54 74 = some (.aload_n 0, 1) := by decide +kernel
theorem g54_74 : Go 54 74 [some (2, x), l1, l2] st G M Q ↔ Go 54 75 [some (2, x), l1, l2] ((2, x) :: st) G M Q := go_aload_n hq54 k54_74 rfl
theorem k54_75 : cm_at ins_54 75 = some (.getfield 10, 3) := by decide +kernel
theorem g54_75 : Go 54 75 ls ((2, k) :: st) G M Q ↔ cm_sh G k = some (0, 5) ∧ Go 54 78 ls ((2, G.2 k 0) :: st) G M Q := go_get2 hq54 k54_75 ff5_10 rfl
theorem k54_78 : cm_at ins_54 78 = some (.iload_n 1, 1) := by decide +kernel
theorem g54_78 : Go 54 78 [l0, some (0, x), l2] st G M Q ↔ Go 54 79 [l0, some (0, x), l2] ((0, x) :: st) G M Q := go_iload_n hq54 k54_78 rfl
theorem k54_79 : cm_at ins_54 79 = some (.invokevirtual 163, 3) := by decide +kernel
theorem c54_79 (h8 : cm_sum st ≤ 8) (hk : cm_sh G k = some (0, 0)) (K : Go 17 0 [some (2, k), some (0, y), none, none] [] G M (fun r G' M' => Go 54 82 ls (r.toList ++ st) G' M' Q)) : Go 54 79 ls ((0, y) :: (2, k) :: st) G M Q := go_callV hq54 k54_79 fc5_163 hq17 rfl (as := [(0, y), (2, k)]) rfl rfl (Nat.le_of_ble_eq_true rfl) rfl h8 hk K
theorem k54_82 : cm_at ins_54 82 = some (.ireturn, 1) := by decide +kernel
theorem g54_82 : Go 54 82 ls [(0, v)] G M Q ↔ Q (some (0, v)) G M := go_ireturn hq54 k54_82 rfl
theorem k54_83 : cm_at ins_54 83 = some (.aload_n 0, 1) := by decide +kernel
theorem g54_83 : Go 54 83 [some (2, x), l1, l2] st G M Q ↔ Go 54 84 [some (2, x), l1, l2] ((2, x) :: st) G M Q := go_aload_n hq54 k54_83 rfl
theorem k54_84 : cm_at ins_54 84 = some (.getfield 10, 3) := by decide +kernel
theorem g54_84 : Go 54 84 ls ((2, k) :: st) G M Q ↔ cm_sh G k = some (0, 5) ∧ Go 54 87 ls ((2, G.2 k 0) :: st) G M Q := go_get2 hq54 k54_84 ff5_10 rfl
theorem k54_87 : cm_at ins_54 87 = some (.iload_n 1, 1) := by decide +kernel
theorem g54_87 : Go 54 87 [l0, some (0, x), l2] st G M Q ↔ Go 54 88 [l0, some (0, x), l2] ((0, x) :: st) G M Q := go_iload_n hq54 k54_87 rfl
theorem k54_88 : cm_at ins_54 88 = some (.invokevirtual 166, 3) := by decide +kernel
theorem c54_88 (h8 : cm_sum st ≤ 8) (hk : cm_sh G k = some (0, 0)) (K : Go 12 0 [some (2, k), some (0, y)] [] G M (fun r G' M' => Go 54 91 ls (r.toList ++ st) G' M' Q)) : Go 54 88 ls ((0, y) :: (2, k) :: st) G M Q := go_callV hq54 k54_88 fc5_166 hq12 rfl (as := [(0, y), (2, k)]) rfl rfl (Nat.le_of_ble_eq_true rfl) rfl h8 hk K
theorem k54_91 : cm_at ins_54 91 = some (.ireturn, 1) := by decide +kernel
theorem g54_91 : Go 54 91 ls [(0, v)] G M Q ↔ Q (some (0, v)) G M := go_ireturn hq54 k54_91 rfl
theorem k54_92 : cm_at ins_54 92 = some (.aload_n 0, 1) := by decide +kernel
theorem g54_92 : Go 54 92 [some (2, x), l1, l2] st G M Q ↔ Go 54 93 [some (2, x), l1, l2] ((2, x) :: st) G M Q := go_aload_n hq54 k54_92 rfl
theorem k54_93 : cm_at ins_54 93 = some (.getfield 10, 3) := by decide +kernel
theorem g54_93 : Go 54 93 ls ((2, k) :: st) G M Q ↔ cm_sh G k = some (0, 5) ∧ Go 54 96 ls ((2, G.2 k 0) :: st) G M Q := go_get2 hq54 k54_93 ff5_10 rfl
theorem k54_96 : cm_at ins_54 96 = some (.iload_n 1, 1) := by decide +kernel
theorem g54_96 : Go 54 96 [l0, some (0, x), l2] st G M Q ↔ Go 54 97 [l0, some (0, x), l2] ((0, x) :: st) G M Q := go_iload_n hq54 k54_96 rfl
theorem k54_97 : cm_at ins_54 97 = some (.invokevirtual 169, 3) := by decide +kernel
theorem c54_97 (h8 : cm_sum st ≤ 8) (hk : cm_sh G k = some (0, 0)) (K : Go 13 0 [some (2, k), some (0, y), none] [] G M (fun r G' M' => Go 54 100 ls (r.toList ++ st) G' M' Q)) : Go 54 97 ls ((0, y) :: (2, k) :: st) G M Q := go_callV hq54 k54_97 fc5_169 hq13 rfl (as := [(0, y), (2, k)]) rfl rfl (Nat.le_of_ble_eq_true rfl) rfl h8 hk K
theorem k54_100 : cm_at ins_54 100 = some (.ireturn, 1) := by decide +kernel
theorem g54_100 : Go 54 100 ls [(0, v)] G M Q ↔ Q (some (0, v)) G M := go_ireturn hq54 k54_100 rfl
theorem k54_101 : cm_at ins_54 101 = some (.bipush (-2), 2) := by decide +kernel
theorem g54_101 : Go 54 101 ls st G M Q ↔ Go 54 103 ls ((0, (-2)) :: st) G M Q := go_bipush hq54 k54_101 (by decide)
theorem k54_103 : cm_at ins_54 103 = some (.ireturn, 1) := by decide +kernel
theorem g54_103 : Go 54 103 ls [(0, v)] G M Q ↔ Q (some (0, v)) G M := go_ireturn hq54 k54_103 rfl
theorem k55_0 : cm_at ins_55 0 = some (.aload_n 0, 1) := by decide +kernel
theorem g55_0 : Go 55 0 [some (2, x), l1] st G M Q ↔ Go 55 1 [some (2, x), l1] ((2, x) :: st) G M Q := go_aload_n hq55 k55_0 rfl
theorem k55_1 : cm_at ins_55 1 = some (.getfield 10, 3) := by decide +kernel
theorem g55_1 : Go 55 1 ls ((2, k) :: st) G M Q ↔ cm_sh G k = some (0, 5) ∧ Go 55 4 ls ((2, G.2 k 0) :: st) G M Q := go_get2 hq55 k55_1 ff5_10 rfl
theorem k55_4 : cm_at ins_55 4 = some (.invokevirtual 85, 3) := by decide +kernel
theorem c55_4 (h8 : cm_sum st ≤ 8) (hk : cm_sh G k = some (0, 0)) (K : Go 1 0 [some (2, k)] [] G M (fun r G' M' => Go 55 7 ls (r.toList ++ st) G' M' Q)) : Go 55 4 ls ((2, k) :: st) G M Q := go_callV hq55 k55_4 fc5_85 hq1 rfl (as := [(2, k)]) rfl rfl (Nat.le_of_ble_eq_true rfl) rfl h8 hk K
theorem k55_7 : cm_at ins_55 7 = some (.iload_n 1, 1) := by decide +kernel
theorem g55_7 : Go 55 7 [l0, some (0, x)] st G M Q ↔ Go 55 8 [l0, some (0, x)] ((0, x) :: st) G M Q := go_iload_n hq55 k55_7 rfl
theorem k55_8 : cm_at ins_55 8 = some (.tableswitch 166 0 11 #[64, 72, 80, 88, 96, 104, 112, 120, 130, 140, 150, 158], 64) := by decide +kernel
theorem k55_72 : cm_at ins_55 72 = some (.aload_n 0, 1) := by decide +kernel
theorem g55_72 : Go 55 72 [some (2, x), l1] st G M Q ↔ Go 55 73 [some (2, x), l1] ((2, x) :: st) G M Q := go_aload_n hq55 k55_72 rfl
theorem k55_73 : cm_at ins_55 73 = some (.getfield 20, 3) := by decide +kernel
theorem g55_73 : Go 55 73 ls ((2, k) :: st) G M Q ↔ cm_sh G k = some (0, 5) ∧ Go 55 76 ls ((2, G.2 k 1) :: st) G M Q := go_get2 hq55 k55_73 ff5_20 rfl
theorem k55_76 : cm_at ins_55 76 = some (.getfield 100, 3) := by decide +kernel
theorem g55_76 : Go 55 76 ls ((2, k) :: st) G M Q ↔ cm_sh G k = some (0, 1) ∧ Go 55 79 ls ((0, M k 5) :: st) G M Q := go_get0 hq55 k55_76 ff5_100 rfl
theorem k55_79 : cm_at ins_55 79 = some (.ireturn, 1) := by decide +kernel
theorem g55_79 : Go 55 79 ls [(0, v)] G M Q ↔ Q (some (0, v)) G M := go_ireturn hq55 k55_79 rfl
theorem k55_80 : cm_at ins_55 80 = some (.aload_n 0, 1) := by decide +kernel
theorem g55_80 : Go 55 80 [some (2, x), l1] st G M Q ↔ Go 55 81 [some (2, x), l1] ((2, x) :: st) G M Q := go_aload_n hq55 k55_80 rfl
theorem k55_81 : cm_at ins_55 81 = some (.getfield 20, 3) := by decide +kernel
theorem g55_81 : Go 55 81 ls ((2, k) :: st) G M Q ↔ cm_sh G k = some (0, 5) ∧ Go 55 84 ls ((2, G.2 k 1) :: st) G M Q := go_get2 hq55 k55_81 ff5_20 rfl
theorem k55_84 : cm_at ins_55 84 = some (.invokevirtual 172, 3) := by decide +kernel
theorem c55_84 (h8 : cm_sum st ≤ 8) (hk : cm_sh G k = some (0, 1)) (K : Go 38 0 [some (2, k), none, none] [] G M (fun r G' M' => Go 55 87 ls (r.toList ++ st) G' M' Q)) : Go 55 84 ls ((2, k) :: st) G M Q := go_callV hq55 k55_84 fc5_172 hq38 rfl (as := [(2, k)]) rfl rfl (Nat.le_of_ble_eq_true rfl) rfl h8 hk K
theorem k55_87 : cm_at ins_55 87 = some (.ireturn, 1) := by decide +kernel
theorem g55_87 : Go 55 87 ls [(0, v)] G M Q ↔ Q (some (0, v)) G M := go_ireturn hq55 k55_87 rfl
theorem k55_88 : cm_at ins_55 88 = some (.aload_n 0, 1) := by decide +kernel
theorem g55_88 : Go 55 88 [some (2, x), l1] st G M Q ↔ Go 55 89 [some (2, x), l1] ((2, x) :: st) G M Q := go_aload_n hq55 k55_88 rfl
theorem k55_89 : cm_at ins_55 89 = some (.getfield 10, 3) := by decide +kernel
theorem g55_89 : Go 55 89 ls ((2, k) :: st) G M Q ↔ cm_sh G k = some (0, 5) ∧ Go 55 92 ls ((2, G.2 k 0) :: st) G M Q := go_get2 hq55 k55_89 ff5_10 rfl
theorem k55_92 : cm_at ins_55 92 = some (.getfield 175, 3) := by decide +kernel
theorem g55_92 : Go 55 92 ls ((2, k) :: st) G M Q ↔ cm_sh G k = some (0, 0) ∧ Go 55 95 ls ((0, M k 4) :: st) G M Q := go_get0 hq55 k55_92 ff5_175 rfl
theorem k55_95 : cm_at ins_55 95 = some (.ireturn, 1) := by decide +kernel
theorem g55_95 : Go 55 95 ls [(0, v)] G M Q ↔ Q (some (0, v)) G M := go_ireturn hq55 k55_95 rfl
theorem k55_96 : cm_at ins_55 96 = some (.aload_n 0, 1) := by decide +kernel
theorem g55_96 : Go 55 96 [some (2, x), l1] st G M Q ↔ Go 55 97 [some (2, x), l1] ((2, x) :: st) G M Q := go_aload_n hq55 k55_96 rfl
theorem k55_97 : cm_at ins_55 97 = some (.getfield 10, 3) := by decide +kernel
theorem g55_97 : Go 55 97 ls ((2, k) :: st) G M Q ↔ cm_sh G k = some (0, 5) ∧ Go 55 100 ls ((2, G.2 k 0) :: st) G M Q := go_get2 hq55 k55_97 ff5_10 rfl
theorem k55_100 : cm_at ins_55 100 = some (.invokevirtual 88, 3) := by decide +kernel
theorem c55_100 (h8 : cm_sum st ≤ 8) (hk : cm_sh G k = some (0, 0)) (K : Go 10 0 [some (2, k), none] [] G M (fun r G' M' => Go 55 103 ls (r.toList ++ st) G' M' Q)) : Go 55 100 ls ((2, k) :: st) G M Q := go_callV hq55 k55_100 fc5_88 hq10 rfl (as := [(2, k)]) rfl rfl (Nat.le_of_ble_eq_true rfl) rfl h8 hk K
theorem k55_103 : cm_at ins_55 103 = some (.ireturn, 1) := by decide +kernel
theorem g55_103 : Go 55 103 ls [(0, v)] G M Q ↔ Q (some (0, v)) G M := go_ireturn hq55 k55_103 rfl
theorem k55_104 : cm_at ins_55 104 = some (.aload_n 0, 1) := by decide +kernel
theorem g55_104 : Go 55 104 [some (2, x), l1] st G M Q ↔ Go 55 105 [some (2, x), l1] ((2, x) :: st) G M Q := go_aload_n hq55 k55_104 rfl
theorem k55_105 : cm_at ins_55 105 = some (.getfield 10, 3) := by decide +kernel
theorem g55_105 : Go 55 105 ls ((2, k) :: st) G M Q ↔ cm_sh G k = some (0, 5) ∧ Go 55 108 ls ((2, G.2 k 0) :: st) G M Q := go_get2 hq55 k55_105 ff5_10 rfl
theorem k55_108 : cm_at ins_55 108 = some (.invokevirtual 178, 3) := by decide +kernel
theorem c55_108 (h8 : cm_sum st ≤ 8) (hk : cm_sh G k = some (0, 0)) (K : Go 23 0 [some (2, k), none, none] [] G M (fun r G' M' => Go 55 111 ls (r.toList ++ st) G' M' Q)) : Go 55 108 ls ((2, k) :: st) G M Q := go_callV hq55 k55_108 fc5_178 hq23 rfl (as := [(2, k)]) rfl rfl (Nat.le_of_ble_eq_true rfl) rfl h8 hk K
theorem k55_111 : cm_at ins_55 111 = some (.ireturn, 1) := by decide +kernel
theorem g55_111 : Go 55 111 ls [(0, v)] G M Q ↔ Q (some (0, v)) G M := go_ireturn hq55 k55_111 rfl
theorem k55_112 : cm_at ins_55 112 = some (.aload_n 0, 1) := by decide +kernel
theorem g55_112 : Go 55 112 [some (2, x), l1] st G M Q ↔ Go 55 113 [some (2, x), l1] ((2, x) :: st) G M Q := go_aload_n hq55 k55_112 rfl
theorem k55_113 : cm_at ins_55 113 = some (.getfield 20, 3) := by decide +kernel
theorem g55_113 : Go 55 113 ls ((2, k) :: st) G M Q ↔ cm_sh G k = some (0, 5) ∧ Go 55 116 ls ((2, G.2 k 1) :: st) G M Q := go_get2 hq55 k55_113 ff5_20 rfl
theorem k55_116 : cm_at ins_55 116 = some (.invokevirtual 181, 3) := by decide +kernel
theorem c55_116 (h8 : cm_sum st ≤ 8) (hk : cm_sh G k = some (0, 1)) (K : Go 39 0 [some (2, k), none, none] [] G M (fun r G' M' => Go 55 119 ls (r.toList ++ st) G' M' Q)) : Go 55 116 ls ((2, k) :: st) G M Q := go_callV hq55 k55_116 fc5_181 hq39 rfl (as := [(2, k)]) rfl rfl (Nat.le_of_ble_eq_true rfl) rfl h8 hk K
theorem k55_119 : cm_at ins_55 119 = some (.ireturn, 1) := by decide +kernel
theorem g55_119 : Go 55 119 ls [(0, v)] G M Q ↔ Q (some (0, v)) G M := go_ireturn hq55 k55_119 rfl
theorem k55_120 : cm_at ins_55 120 = some (.aload_n 0, 1) := by decide +kernel
theorem g55_120 : Go 55 120 [some (2, x), l1] st G M Q ↔ Go 55 121 [some (2, x), l1] ((2, x) :: st) G M Q := go_aload_n hq55 k55_120 rfl
theorem k55_121 : cm_at ins_55 121 = some (.getfield 10, 3) := by decide +kernel
theorem g55_121 : Go 55 121 ls ((2, k) :: st) G M Q ↔ cm_sh G k = some (0, 5) ∧ Go 55 124 ls ((2, G.2 k 0) :: st) G M Q := go_get2 hq55 k55_121 ff5_10 rfl
theorem k55_124 : cm_at ins_55 124 = some (.invokevirtual 184, 3) := by decide +kernel
theorem c55_124 (h8 : cm_sum st ≤ 8) (hk : cm_sh G k = some (0, 0)) (K : Go 24 0 [some (2, k), none, none] [] G M (fun r G' M' => Go 55 127 ls (r.toList ++ st) G' M' Q)) : Go 55 124 ls ((2, k) :: st) G M Q := go_callV hq55 k55_124 fc5_184 hq24 rfl (as := [(2, k)]) rfl rfl (Nat.le_of_ble_eq_true rfl) rfl h8 hk K
theorem k55_127 : cm_at ins_55 127 = some (.ireturn, 1) := by decide +kernel
theorem g55_127 : Go 55 127 ls [(0, v)] G M Q ↔ Q (some (0, v)) G M := go_ireturn hq55 k55_127 rfl
theorem k55_128 : cm_at ins_55 128 = some (.aload_n 0, 1) := by decide +kernel
theorem g55_128 : Go 55 128 [some (2, x), l1] st G M Q ↔ Go 55 129 [some (2, x), l1] ((2, x) :: st) G M Q := go_aload_n hq55 k55_128 rfl
theorem k55_129 : cm_at ins_55 129 = some (.getfield 20, 3) := by decide +kernel
theorem g55_129 : Go 55 129 ls ((2, k) :: st) G M Q ↔ cm_sh G k = some (0, 5) ∧ Go 55 132 ls ((2, G.2 k 1) :: st) G M Q := go_get2 hq55 k55_129 ff5_20 rfl
theorem k55_132 : cm_at ins_55 132 = some (.getfield 63, 3) := by decide +kernel
theorem g55_132 : Go 55 132 ls ((2, k) :: st) G M Q ↔ cm_sh G k = some (0, 1) ∧ Go 55 135 ls ((2, G.2 k 0) :: st) G M Q := go_get2 hq55 k55_132 ff5_63 rfl
theorem k55_135 : cm_at ins_55 135 = some (.iconst 0, 1) := by decide +kernel
theorem g55_135 : Go 55 135 ls st G M Q ↔ Go 55 136 ls ((0, 0) :: st) G M Q := go_iconst hq55 k55_135
theorem k55_136 : cm_at ins_55 136 = some (.iaload, 1) := by decide +kernel
theorem g55_136 : Go 55 136 ls ((0, i) :: (2, k) :: st) G M Q ↔ (0 ≤ i ∧ i < cm_al 1 G M k) ∧ Go 55 137 ls ((0, M k i) :: st) G M Q := go_iald hq55 k55_136
theorem k55_137 : cm_at ins_55 137 = some (.ireturn, 1) := by decide +kernel
theorem g55_137 : Go 55 137 ls [(0, v)] G M Q ↔ Q (some (0, v)) G M := go_ireturn hq55 k55_137 rfl
theorem k55_138 : cm_at ins_55 138 = some (.aload_n 0, 1) := by decide +kernel
theorem g55_138 : Go 55 138 [some (2, x), l1] st G M Q ↔ Go 55 139 [some (2, x), l1] ((2, x) :: st) G M Q := go_aload_n hq55 k55_138 rfl
theorem k55_139 : cm_at ins_55 139 = some (.getfield 20, 3) := by decide +kernel
theorem g55_139 : Go 55 139 ls ((2, k) :: st) G M Q ↔ cm_sh G k = some (0, 5) ∧ Go 55 142 ls ((2, G.2 k 1) :: st) G M Q := go_get2 hq55 k55_139 ff5_20 rfl
theorem k55_142 : cm_at ins_55 142 = some (.getfield 63, 3) := by decide +kernel
theorem g55_142 : Go 55 142 ls ((2, k) :: st) G M Q ↔ cm_sh G k = some (0, 1) ∧ Go 55 145 ls ((2, G.2 k 0) :: st) G M Q := go_get2 hq55 k55_142 ff5_63 rfl
theorem k55_145 : cm_at ins_55 145 = some (.iconst 1, 1) := by decide +kernel
theorem g55_145 : Go 55 145 ls st G M Q ↔ Go 55 146 ls ((0, 1) :: st) G M Q := go_iconst hq55 k55_145
theorem k55_146 : cm_at ins_55 146 = some (.iaload, 1) := by decide +kernel
theorem g55_146 : Go 55 146 ls ((0, i) :: (2, k) :: st) G M Q ↔ (0 ≤ i ∧ i < cm_al 1 G M k) ∧ Go 55 147 ls ((0, M k i) :: st) G M Q := go_iald hq55 k55_146
theorem k55_147 : cm_at ins_55 147 = some (.ireturn, 1) := by decide +kernel
theorem g55_147 : Go 55 147 ls [(0, v)] G M Q ↔ Q (some (0, v)) G M := go_ireturn hq55 k55_147 rfl
theorem k55_148 : cm_at ins_55 148 = some (.aload_n 0, 1) := by decide +kernel
theorem g55_148 : Go 55 148 [some (2, x), l1] st G M Q ↔ Go 55 149 [some (2, x), l1] ((2, x) :: st) G M Q := go_aload_n hq55 k55_148 rfl
theorem k55_149 : cm_at ins_55 149 = some (.getfield 20, 3) := by decide +kernel
theorem g55_149 : Go 55 149 ls ((2, k) :: st) G M Q ↔ cm_sh G k = some (0, 5) ∧ Go 55 152 ls ((2, G.2 k 1) :: st) G M Q := go_get2 hq55 k55_149 ff5_20 rfl
theorem k55_152 : cm_at ins_55 152 = some (.getfield 63, 3) := by decide +kernel
theorem g55_152 : Go 55 152 ls ((2, k) :: st) G M Q ↔ cm_sh G k = some (0, 1) ∧ Go 55 155 ls ((2, G.2 k 0) :: st) G M Q := go_get2 hq55 k55_152 ff5_63 rfl
theorem k55_155 : cm_at ins_55 155 = some (.iconst 2, 1) := by decide +kernel
theorem g55_155 : Go 55 155 ls st G M Q ↔ Go 55 156 ls ((0, 2) :: st) G M Q := go_iconst hq55 k55_155
theorem k55_156 : cm_at ins_55 156 = some (.iaload, 1) := by decide +kernel
theorem g55_156 : Go 55 156 ls ((0, i) :: (2, k) :: st) G M Q ↔ (0 ≤ i ∧ i < cm_al 1 G M k) ∧ Go 55 157 ls ((0, M k i) :: st) G M Q := go_iald hq55 k55_156
theorem k55_157 : cm_at ins_55 157 = some (.ireturn, 1) := by decide +kernel
theorem g55_157 : Go 55 157 ls [(0, v)] G M Q ↔ Q (some (0, v)) G M := go_ireturn hq55 k55_157 rfl
theorem k55_158 : cm_at ins_55 158 = some (.aload_n 0, 1) := by decide +kernel
theorem g55_158 : Go 55 158 [some (2, x), l1] st G M Q ↔ Go 55 159 [some (2, x), l1] ((2, x) :: st) G M Q := go_aload_n hq55 k55_158 rfl
theorem k55_159 : cm_at ins_55 159 = some (.getfield 30, 3) := by decide +kernel
theorem g55_159 : Go 55 159 ls ((2, k) :: st) G M Q ↔ cm_sh G k = some (0, 5) ∧ Go 55 162 ls ((2, G.2 k 4) :: st) G M Q := go_get2 hq55 k55_159 ff5_30 rfl
theorem k55_162 : cm_at ins_55 162 = some (.getfield 121, 3) := by decide +kernel
theorem g55_162 : Go 55 162 ls ((2, k) :: st) G M Q ↔ cm_sh G k = some (0, 3) ∧ Go 55 165 ls ((0, M k 1) :: st) G M Q := go_get0 hq55 k55_162 ff5_121 rfl
theorem k55_165 : cm_at ins_55 165 = some (.ireturn, 1) := by decide +kernel
theorem g55_165 : Go 55 165 ls [(0, v)] G M Q ↔ Q (some (0, v)) G M := go_ireturn hq55 k55_165 rfl
theorem k55_166 : cm_at ins_55 166 = some (.aload_n 0, 1) := by decide +kernel
theorem g55_166 : Go 55 166 [some (2, x), l1] st G M Q ↔ Go 55 167 [some (2, x), l1] ((2, x) :: st) G M Q := go_aload_n hq55 k55_166 rfl
theorem k55_167 : cm_at ins_55 167 = some (.getfield 37, 3) := by decide +kernel
theorem g55_167 : Go 55 167 ls ((2, k) :: st) G M Q ↔ cm_sh G k = some (0, 5) ∧ Go 55 170 ls ((2, G.2 k 5) :: st) G M Q := go_get2 hq55 k55_167 ff5_37 rfl
theorem k55_170 : cm_at ins_55 170 = some (.getfield 187, 3) := by decide +kernel
theorem g55_170 : Go 55 170 ls ((2, k) :: st) G M Q ↔ cm_sh G k = some (0, 2) ∧ Go 55 173 ls ((0, M k 1) :: st) G M Q := go_get0 hq55 k55_170 ff5_187 rfl
theorem k55_173 : cm_at ins_55 173 = some (.ireturn, 1) := by decide +kernel
theorem g55_173 : Go 55 173 ls [(0, v)] G M Q ↔ Q (some (0, v)) G M := go_ireturn hq55 k55_173 rfl
theorem k55_174 : cm_at ins_55 174 = some (.bipush (-2), 2) := by decide +kernel
theorem g55_174 : Go 55 174 ls st G M Q ↔ Go 55 176 ls ((0, (-2)) :: st) G M Q := go_bipush hq55 k55_174 (by decide)
theorem k55_176 : cm_at ins_55 176 = some (.ireturn, 1) := by decide +kernel
theorem g55_176 : Go 55 176 ls [(0, v)] G M Q ↔ Q (some (0, v)) G M := go_ireturn hq55 k55_176 rfl
theorem k56_0 : cm_at ins_56 0 = some (.iload_n 1, 1) := by decide +kernel
theorem g56_0 : Go 56 0 [l0, some (0, x), l2, l3, l4, l5, l6] st G M Q ↔ Go 56 1 [l0, some (0, x), l2, l3, l4, l5, l6] ((0, x) :: st) G M Q := go_iload_n hq56 k56_0 rfl
theorem k56_1 : cm_at ins_56 1 = some (.iconst 0, 1) := by decide +kernel
theorem g56_1 : Go 56 1 ls st G M Q ↔ Go 56 2 ls ((0, 0) :: st) G M Q := go_iconst hq56 k56_1
theorem k56_2 : cm_at ins_56 2 = some (.iconst 1, 1) := by decide +kernel
theorem g56_2 : Go 56 2 ls st G M Q ↔ Go 56 3 ls ((0, 1) :: st) G M Q := go_iconst hq56 k56_2
theorem k56_3 : cm_at ins_56 3 = some (.invokestatic 55, 3) := by decide +kernel
theorem c56_3 (h8 : cm_sum st ≤ 8) (K : Go 61 0 [some (0, x), some (0, y), some (0, z)] [] G M (fun r G' M' => Go 56 6 ls (r.toList ++ st) G' M' Q)) : Go 56 3 ls ((0, z) :: (0, y) :: (0, x) :: st) G M Q := go_callS hq56 k56_3 fc5_55 ⟨by decide, by decide⟩ hq61 rfl (as := [(0, z), (0, y), (0, x)]) rfl rfl (Nat.le_of_ble_eq_true rfl) h8 K
theorem k56_6 : cm_at ins_56 6 = some (.ifCond .ne 6, 3) := by decide +kernel
theorem g56_6 : Go 56 6 ls ((0, a) :: st) G M Q ↔ cm_in a ∧ (¬ a = 0 → Go 56 12 ls st G M Q) ∧ (a = 0 → Go 56 9 ls st G M Q) := go_if_ne hq56 k56_6 (by decide)
theorem k56_9 : cm_at ins_56 9 = some (.bipush (-2), 2) := by decide +kernel
theorem g56_9 : Go 56 9 ls st G M Q ↔ Go 56 11 ls ((0, (-2)) :: st) G M Q := go_bipush hq56 k56_9 (by decide)
theorem k56_11 : cm_at ins_56 11 = some (.ireturn, 1) := by decide +kernel
theorem g56_11 : Go 56 11 ls [(0, v)] G M Q ↔ Q (some (0, v)) G M := go_ireturn hq56 k56_11 rfl
theorem k56_12 : cm_at ins_56 12 = some (.aload_n 0, 1) := by decide +kernel
theorem g56_12 : Go 56 12 [some (2, x), l1, l2, l3, l4, l5, l6] st G M Q ↔ Go 56 13 [some (2, x), l1, l2, l3, l4, l5, l6] ((2, x) :: st) G M Q := go_aload_n hq56 k56_12 rfl
theorem k56_13 : cm_at ins_56 13 = some (.getfield 24, 3) := by decide +kernel
theorem g56_13 : Go 56 13 ls ((2, k) :: st) G M Q ↔ cm_sh G k = some (0, 5) ∧ Go 56 16 ls ((2, G.2 k 3) :: st) G M Q := go_get2 hq56 k56_13 ff5_24 rfl
theorem k56_16 : cm_at ins_56 16 = some (.aload_n 0, 1) := by decide +kernel
theorem g56_16 : Go 56 16 [some (2, x), l1, l2, l3, l4, l5, l6] st G M Q ↔ Go 56 17 [some (2, x), l1, l2, l3, l4, l5, l6] ((2, x) :: st) G M Q := go_aload_n hq56 k56_16 rfl
theorem k56_17 : cm_at ins_56 17 = some (.getfield 20, 3) := by decide +kernel
theorem g56_17 : Go 56 17 ls ((2, k) :: st) G M Q ↔ cm_sh G k = some (0, 5) ∧ Go 56 20 ls ((2, G.2 k 1) :: st) G M Q := go_get2 hq56 k56_17 ff5_20 rfl
theorem k56_20 : cm_at ins_56 20 = some (.invokevirtual 190, 3) := by decide +kernel
theorem c56_20 (h8 : cm_sum st ≤ 8) (hk : cm_sh G k = some (0, 1)) (K : Go 27 0 [some (2, k), some (2, y)] [] G M (fun r G' M' => Go 56 23 ls (r.toList ++ st) G' M' Q)) : Go 56 20 ls ((2, y) :: (2, k) :: st) G M Q := go_callV hq56 k56_20 fc5_190 hq27 rfl (as := [(2, y), (2, k)]) rfl rfl (Nat.le_of_ble_eq_true rfl) rfl h8 hk K
theorem k56_23 : cm_at ins_56 23 = some (.bipush (-6), 2) := by decide +kernel
theorem g56_23 : Go 56 23 ls st G M Q ↔ Go 56 25 ls ((0, (-6)) :: st) G M Q := go_bipush hq56 k56_23 (by decide)
theorem k56_25 : cm_at ins_56 25 = some (.istore_n 2, 1) := by decide +kernel
theorem g56_25 : Go 56 25 [l0, l1, l2, l3, l4, l5, l6] ((0, x) :: st) G M Q ↔ Go 56 26 [l0, l1, some (0, x), l3, l4, l5, l6] st G M Q := go_istore_n hq56 k56_25 ⟨Nat.le_of_ble_eq_true rfl, rfl, by decide⟩
theorem k56_26 : cm_at ins_56 26 = some (.bipush (-6), 2) := by decide +kernel
theorem g56_26 : Go 56 26 ls st G M Q ↔ Go 56 28 ls ((0, (-6)) :: st) G M Q := go_bipush hq56 k56_26 (by decide)
theorem k56_28 : cm_at ins_56 28 = some (.istore_n 3, 1) := by decide +kernel
theorem g56_28 : Go 56 28 [l0, l1, l2, l3, l4, l5, l6] ((0, x) :: st) G M Q ↔ Go 56 29 [l0, l1, l2, some (0, x), l4, l5, l6] st G M Q := go_istore_n hq56 k56_28 ⟨Nat.le_of_ble_eq_true rfl, rfl, by decide⟩
theorem k56_29 : cm_at ins_56 29 = some (.iconst 0, 1) := by decide +kernel
theorem g56_29 : Go 56 29 ls st G M Q ↔ Go 56 30 ls ((0, 0) :: st) G M Q := go_iconst hq56 k56_29
theorem k56_30 : cm_at ins_56 30 = some (.istore 4, 2) := by decide +kernel
theorem g56_30 : Go 56 30 [l0, l1, l2, l3, l4, l5, l6] ((0, x) :: st) G M Q ↔ Go 56 32 [l0, l1, l2, l3, some (0, x), l5, l6] st G M Q := go_istore hq56 k56_30 ⟨Nat.le_of_ble_eq_true rfl, rfl, by decide⟩
theorem k56_32 : cm_at ins_56 32 = some (.iload 4, 2) := by decide +kernel
theorem g56_32 : Go 56 32 [l0, l1, l2, l3, some (0, x), l5, l6] st G M Q ↔ Go 56 34 [l0, l1, l2, l3, some (0, x), l5, l6] ((0, x) :: st) G M Q := go_iload hq56 k56_32 rfl
theorem k56_34 : cm_at ins_56 34 = some (.aload_n 0, 1) := by decide +kernel
theorem g56_34 : Go 56 34 [some (2, x), l1, l2, l3, l4, l5, l6] st G M Q ↔ Go 56 35 [some (2, x), l1, l2, l3, l4, l5, l6] ((2, x) :: st) G M Q := go_aload_n hq56 k56_34 rfl
theorem k56_35 : cm_at ins_56 35 = some (.getfield 24, 3) := by decide +kernel
theorem g56_35 : Go 56 35 ls ((2, k) :: st) G M Q ↔ cm_sh G k = some (0, 5) ∧ Go 56 38 ls ((2, G.2 k 3) :: st) G M Q := go_get2 hq56 k56_35 ff5_24 rfl
theorem k56_38 : cm_at ins_56 38 = some (.getfield 100, 3) := by decide +kernel
theorem g56_38 : Go 56 38 ls ((2, k) :: st) G M Q ↔ cm_sh G k = some (0, 1) ∧ Go 56 41 ls ((0, M k 5) :: st) G M Q := go_get0 hq56 k56_38 ff5_100 rfl
theorem k56_41 : cm_at ins_56 41 = some (.if_icmp .ge 83, 3) := by decide +kernel
theorem g56_41 : Go 56 41 ls ((0, b) :: (0, a) :: st) G M Q ↔ (cm_in a ∧ cm_in b) ∧ (¬ a < b → Go 56 124 ls st G M Q) ∧ (a < b → Go 56 44 ls st G M Q) := go_icmp_ge hq56 k56_41 (by decide)
theorem k56_44 : cm_at ins_56 44 = some (.aload_n 0, 1) := by decide +kernel
theorem g56_44 : Go 56 44 [some (2, x), l1, l2, l3, l4, l5, l6] st G M Q ↔ Go 56 45 [some (2, x), l1, l2, l3, l4, l5, l6] ((2, x) :: st) G M Q := go_aload_n hq56 k56_44 rfl
theorem k56_45 : cm_at ins_56 45 = some (.getfield 24, 3) := by decide +kernel
theorem g56_45 : Go 56 45 ls ((2, k) :: st) G M Q ↔ cm_sh G k = some (0, 5) ∧ Go 56 48 ls ((2, G.2 k 3) :: st) G M Q := go_get2 hq56 k56_45 ff5_24 rfl
theorem k56_48 : cm_at ins_56 48 = some (.getfield 82, 3) := by decide +kernel
theorem g56_48 : Go 56 48 ls ((2, k) :: st) G M Q ↔ cm_sh G k = some (0, 1) ∧ Go 56 51 ls ((2, G.2 k 4) :: st) G M Q := go_get2 hq56 k56_48 ff5_82 rfl
theorem k56_51 : cm_at ins_56 51 = some (.iload 4, 2) := by decide +kernel
theorem g56_51 : Go 56 51 [l0, l1, l2, l3, some (0, x), l5, l6] st G M Q ↔ Go 56 53 [l0, l1, l2, l3, some (0, x), l5, l6] ((0, x) :: st) G M Q := go_iload hq56 k56_51 rfl
theorem k56_53 : cm_at ins_56 53 = some (.iaload, 1) := by decide +kernel
theorem g56_53 : Go 56 53 ls ((0, i) :: (2, k) :: st) G M Q ↔ (0 ≤ i ∧ i < cm_al 1 G M k) ∧ Go 56 54 ls ((0, M k i) :: st) G M Q := go_iald hq56 k56_53
theorem k56_54 : cm_at ins_56 54 = some (.istore 5, 2) := by decide +kernel
theorem g56_54 : Go 56 54 [l0, l1, l2, l3, l4, l5, l6] ((0, x) :: st) G M Q ↔ Go 56 56 [l0, l1, l2, l3, l4, some (0, x), l6] st G M Q := go_istore hq56 k56_54 ⟨Nat.le_of_ble_eq_true rfl, rfl, by decide⟩
theorem k56_56 : cm_at ins_56 56 = some (.iload 5, 2) := by decide +kernel
theorem g56_56 : Go 56 56 [l0, l1, l2, l3, l4, some (0, x), l6] st G M Q ↔ Go 56 58 [l0, l1, l2, l3, l4, some (0, x), l6] ((0, x) :: st) G M Q := go_iload hq56 k56_56 rfl
theorem k56_58 : cm_at ins_56 58 = some (.ifCond .eq 60, 3) := by decide +kernel
theorem g56_58 : Go 56 58 ls ((0, a) :: st) G M Q ↔ cm_in a ∧ (a = 0 → Go 56 118 ls st G M Q) ∧ (¬ a = 0 → Go 56 61 ls st G M Q) := go_if_eq hq56 k56_58 (by decide)
theorem k56_61 : cm_at ins_56 61 = some (.aload_n 0, 1) := by decide +kernel
theorem g56_61 : Go 56 61 [some (2, x), l1, l2, l3, l4, l5, l6] st G M Q ↔ Go 56 62 [some (2, x), l1, l2, l3, l4, l5, l6] ((2, x) :: st) G M Q := go_aload_n hq56 k56_61 rfl
theorem k56_62 : cm_at ins_56 62 = some (.getfield 24, 3) := by decide +kernel
theorem g56_62 : Go 56 62 ls ((2, k) :: st) G M Q ↔ cm_sh G k = some (0, 5) ∧ Go 56 65 ls ((2, G.2 k 3) :: st) G M Q := go_get2 hq56 k56_62 ff5_24 rfl
theorem k56_65 : cm_at ins_56 65 = some (.getfield 82, 3) := by decide +kernel
theorem g56_65 : Go 56 65 ls ((2, k) :: st) G M Q ↔ cm_sh G k = some (0, 1) ∧ Go 56 68 ls ((2, G.2 k 4) :: st) G M Q := go_get2 hq56 k56_65 ff5_82 rfl
theorem k56_68 : cm_at ins_56 68 = some (.iload 4, 2) := by decide +kernel
theorem g56_68 : Go 56 68 [l0, l1, l2, l3, some (0, x), l5, l6] st G M Q ↔ Go 56 70 [l0, l1, l2, l3, some (0, x), l5, l6] ((0, x) :: st) G M Q := go_iload hq56 k56_68 rfl
theorem k56_70 : cm_at ins_56 70 = some (.iconst 0, 1) := by decide +kernel
theorem g56_70 : Go 56 70 ls st G M Q ↔ Go 56 71 ls ((0, 0) :: st) G M Q := go_iconst hq56 k56_70
theorem k56_71 : cm_at ins_56 71 = some (.iastore, 1) := by decide +kernel
theorem g56_71 : Go 56 71 ls ((0, v) :: (0, i) :: (2, k) :: st) G M Q ↔ (0 ≤ k ∧ 0 ≤ i ∧ i < cm_al 1 G M k) ∧ Go 56 72 ls st G (cm_up M k i v) Q := go_iast hq56 k56_71
theorem k56_72 : cm_at ins_56 72 = some (.aload_n 0, 1) := by decide +kernel
theorem g56_72 : Go 56 72 [some (2, x), l1, l2, l3, l4, l5, l6] st G M Q ↔ Go 56 73 [some (2, x), l1, l2, l3, l4, l5, l6] ((2, x) :: st) G M Q := go_aload_n hq56 k56_72 rfl
theorem k56_73 : cm_at ins_56 73 = some (.getfield 21, 3) := by decide +kernel
theorem g56_73 : Go 56 73 ls ((2, k) :: st) G M Q ↔ cm_sh G k = some (0, 5) ∧ Go 56 76 ls ((2, G.2 k 2) :: st) G M Q := go_get2 hq56 k56_73 ff5_21 rfl
theorem k56_76 : cm_at ins_56 76 = some (.invokevirtual 85, 3) := by decide +kernel
theorem c56_76 (h8 : cm_sum st ≤ 8) (hk : cm_sh G k = some (0, 0)) (K : Go 1 0 [some (2, k)] [] G M (fun r G' M' => Go 56 79 ls (r.toList ++ st) G' M' Q)) : Go 56 76 ls ((2, k) :: st) G M Q := go_callV hq56 k56_76 fc5_85 hq1 rfl (as := [(2, k)]) rfl rfl (Nat.le_of_ble_eq_true rfl) rfl h8 hk K
theorem k56_79 : cm_at ins_56 79 = some (.aload_n 0, 1) := by decide +kernel
theorem g56_79 : Go 56 79 [some (2, x), l1, l2, l3, l4, l5, l6] st G M Q ↔ Go 56 80 [some (2, x), l1, l2, l3, l4, l5, l6] ((2, x) :: st) G M Q := go_aload_n hq56 k56_79 rfl
theorem k56_80 : cm_at ins_56 80 = some (.getfield 21, 3) := by decide +kernel
theorem g56_80 : Go 56 80 ls ((2, k) :: st) G M Q ↔ cm_sh G k = some (0, 5) ∧ Go 56 83 ls ((2, G.2 k 2) :: st) G M Q := go_get2 hq56 k56_80 ff5_21 rfl
theorem k56_83 : cm_at ins_56 83 = some (.invokevirtual 193, 3) := by decide +kernel
theorem c56_83 (h8 : cm_sum st ≤ 8) (hk : cm_sh G k = some (0, 0)) (K : Go 22 0 [some (2, k), none, none] [] G M (fun r G' M' => Go 56 86 ls (r.toList ++ st) G' M' Q)) : Go 56 83 ls ((2, k) :: st) G M Q := go_callV hq56 k56_83 fc5_193 hq22 rfl (as := [(2, k)]) rfl rfl (Nat.le_of_ble_eq_true rfl) rfl h8 hk K
theorem k56_86 : cm_at ins_56 86 = some (.istore 6, 2) := by decide +kernel
theorem g56_86 : Go 56 86 [l0, l1, l2, l3, l4, l5, l6] ((0, x) :: st) G M Q ↔ Go 56 88 [l0, l1, l2, l3, l4, l5, some (0, x)] st G M Q := go_istore hq56 k56_86 ⟨Nat.le_of_ble_eq_true rfl, rfl, by decide⟩
theorem k56_88 : cm_at ins_56 88 = some (.iload_n 2, 1) := by decide +kernel
theorem g56_88 : Go 56 88 [l0, l1, some (0, x), l3, l4, l5, l6] st G M Q ↔ Go 56 89 [l0, l1, some (0, x), l3, l4, l5, l6] ((0, x) :: st) G M Q := go_iload_n hq56 k56_88 rfl
theorem k56_89 : cm_at ins_56 89 = some (.bipush (-6), 2) := by decide +kernel
theorem g56_89 : Go 56 89 ls st G M Q ↔ Go 56 91 ls ((0, (-6)) :: st) G M Q := go_bipush hq56 k56_89 (by decide)
theorem k56_91 : cm_at ins_56 91 = some (.if_icmp .eq 9, 3) := by decide +kernel
theorem g56_91 : Go 56 91 ls ((0, b) :: (0, a) :: st) G M Q ↔ (cm_in a ∧ cm_in b) ∧ (a = b → Go 56 100 ls st G M Q) ∧ (¬ a = b → Go 56 94 ls st G M Q) := go_icmp_eq hq56 k56_91 (by decide)
theorem k56_94 : cm_at ins_56 94 = some (.iload 6, 2) := by decide +kernel
theorem g56_94 : Go 56 94 [l0, l1, l2, l3, l4, l5, some (0, x)] st G M Q ↔ Go 56 96 [l0, l1, l2, l3, l4, l5, some (0, x)] ((0, x) :: st) G M Q := go_iload hq56 k56_94 rfl
theorem k56_96 : cm_at ins_56 96 = some (.iload_n 3, 1) := by decide +kernel
theorem g56_96 : Go 56 96 [l0, l1, l2, some (0, x), l4, l5, l6] st G M Q ↔ Go 56 97 [l0, l1, l2, some (0, x), l4, l5, l6] ((0, x) :: st) G M Q := go_iload_n hq56 k56_96 rfl
theorem k56_97 : cm_at ins_56 97 = some (.if_icmp .ge 9, 3) := by decide +kernel
theorem g56_97 : Go 56 97 ls ((0, b) :: (0, a) :: st) G M Q ↔ (cm_in a ∧ cm_in b) ∧ (¬ a < b → Go 56 106 ls st G M Q) ∧ (a < b → Go 56 100 ls st G M Q) := go_icmp_ge hq56 k56_97 (by decide)
theorem k56_100 : cm_at ins_56 100 = some (.iload 4, 2) := by decide +kernel
theorem g56_100 : Go 56 100 [l0, l1, l2, l3, some (0, x), l5, l6] st G M Q ↔ Go 56 102 [l0, l1, l2, l3, some (0, x), l5, l6] ((0, x) :: st) G M Q := go_iload hq56 k56_100 rfl
theorem k56_102 : cm_at ins_56 102 = some (.istore_n 2, 1) := by decide +kernel
theorem g56_102 : Go 56 102 [l0, l1, l2, l3, l4, l5, l6] ((0, x) :: st) G M Q ↔ Go 56 103 [l0, l1, some (0, x), l3, l4, l5, l6] st G M Q := go_istore_n hq56 k56_102 ⟨Nat.le_of_ble_eq_true rfl, rfl, by decide⟩
theorem k56_103 : cm_at ins_56 103 = some (.iload 6, 2) := by decide +kernel
theorem g56_103 : Go 56 103 [l0, l1, l2, l3, l4, l5, some (0, x)] st G M Q ↔ Go 56 105 [l0, l1, l2, l3, l4, l5, some (0, x)] ((0, x) :: st) G M Q := go_iload hq56 k56_103 rfl
theorem k56_105 : cm_at ins_56 105 = some (.istore_n 3, 1) := by decide +kernel
theorem g56_105 : Go 56 105 [l0, l1, l2, l3, l4, l5, l6] ((0, x) :: st) G M Q ↔ Go 56 106 [l0, l1, l2, some (0, x), l4, l5, l6] st G M Q := go_istore_n hq56 k56_105 ⟨Nat.le_of_ble_eq_true rfl, rfl, by decide⟩
theorem k56_106 : cm_at ins_56 106 = some (.aload_n 0, 1) := by decide +kernel
theorem g56_106 : Go 56 106 [some (2, x), l1, l2, l3, l4, l5, l6] st G M Q ↔ Go 56 107 [some (2, x), l1, l2, l3, l4, l5, l6] ((2, x) :: st) G M Q := go_aload_n hq56 k56_106 rfl
theorem k56_107 : cm_at ins_56 107 = some (.getfield 24, 3) := by decide +kernel
theorem g56_107 : Go 56 107 ls ((2, k) :: st) G M Q ↔ cm_sh G k = some (0, 5) ∧ Go 56 110 ls ((2, G.2 k 3) :: st) G M Q := go_get2 hq56 k56_107 ff5_24 rfl
theorem k56_110 : cm_at ins_56 110 = some (.getfield 82, 3) := by decide +kernel
theorem g56_110 : Go 56 110 ls ((2, k) :: st) G M Q ↔ cm_sh G k = some (0, 1) ∧ Go 56 113 ls ((2, G.2 k 4) :: st) G M Q := go_get2 hq56 k56_110 ff5_82 rfl
theorem k56_113 : cm_at ins_56 113 = some (.iload 4, 2) := by decide +kernel
theorem g56_113 : Go 56 113 [l0, l1, l2, l3, some (0, x), l5, l6] st G M Q ↔ Go 56 115 [l0, l1, l2, l3, some (0, x), l5, l6] ((0, x) :: st) G M Q := go_iload hq56 k56_113 rfl
theorem k56_115 : cm_at ins_56 115 = some (.iload 5, 2) := by decide +kernel
theorem g56_115 : Go 56 115 [l0, l1, l2, l3, l4, some (0, x), l6] st G M Q ↔ Go 56 117 [l0, l1, l2, l3, l4, some (0, x), l6] ((0, x) :: st) G M Q := go_iload hq56 k56_115 rfl
theorem k56_117 : cm_at ins_56 117 = some (.iastore, 1) := by decide +kernel
theorem g56_117 : Go 56 117 ls ((0, v) :: (0, i) :: (2, k) :: st) G M Q ↔ (0 ≤ k ∧ 0 ≤ i ∧ i < cm_al 1 G M k) ∧ Go 56 118 ls st G (cm_up M k i v) Q := go_iast hq56 k56_117
theorem k56_118 : cm_at ins_56 118 = some (.iinc 4 1, 3) := by decide +kernel
theorem g56_118 : Go 56 118 [l0, l1, l2, l3, some (0, x), l5, l6] st G M Q ↔ Go 56 121 [l0, l1, l2, l3, some (0, x + 1), l5, l6] st G M Q := go_iinc hq56 k56_118 rfl ⟨rfl, by decide⟩
theorem k56_121 : cm_at ins_56 121 = some (.goto (-89), 3) := by decide +kernel
theorem g56_121 : Go 56 121 ls st G M Q ↔ Go 56 32 ls st G M Q := go_goto hq56 k56_121 (by decide)
theorem k56_124 : cm_at ins_56 124 = some (.iload_n 1, 1) := by decide +kernel
theorem g56_124 : Go 56 124 [l0, some (0, x), l2, l3, l4, l5, l6] st G M Q ↔ Go 56 125 [l0, some (0, x), l2, l3, l4, l5, l6] ((0, x) :: st) G M Q := go_iload_n hq56 k56_124 rfl
theorem k56_125 : cm_at ins_56 125 = some (.ifCond .ne 7, 3) := by decide +kernel
theorem g56_125 : Go 56 125 ls ((0, a) :: st) G M Q ↔ cm_in a ∧ (¬ a = 0 → Go 56 132 ls st G M Q) ∧ (a = 0 → Go 56 128 ls st G M Q) := go_if_ne hq56 k56_125 (by decide)
theorem k56_128 : cm_at ins_56 128 = some (.iload_n 2, 1) := by decide +kernel
theorem g56_128 : Go 56 128 [l0, l1, some (0, x), l3, l4, l5, l6] st G M Q ↔ Go 56 129 [l0, l1, some (0, x), l3, l4, l5, l6] ((0, x) :: st) G M Q := go_iload_n hq56 k56_128 rfl
theorem k56_129 : cm_at ins_56 129 = some (.goto 4, 3) := by decide +kernel
theorem g56_129 : Go 56 129 ls st G M Q ↔ Go 56 133 ls st G M Q := go_goto hq56 k56_129 (by decide)
theorem k56_132 : cm_at ins_56 132 = some (.iload_n 3, 1) := by decide +kernel
theorem g56_132 : Go 56 132 [l0, l1, l2, some (0, x), l4, l5, l6] st G M Q ↔ Go 56 133 [l0, l1, l2, some (0, x), l4, l5, l6] ((0, x) :: st) G M Q := go_iload_n hq56 k56_132 rfl
theorem k56_133 : cm_at ins_56 133 = some (.ireturn, 1) := by decide +kernel
theorem g56_133 : Go 56 133 ls [(0, v)] G M Q ↔ Q (some (0, v)) G M := go_ireturn hq56 k56_133 rfl
theorem k57_0 : cm_at ins_57 0 = some (.iload_n 1, 1) := by decide +kernel
theorem g57_0 : Go 57 0 [l0, some (0, x), l2] st G M Q ↔ Go 57 1 [l0, some (0, x), l2] ((0, x) :: st) G M Q := go_iload_n hq57 k57_0 rfl
theorem k57_1 : cm_at ins_57 1 = some (.iconst 1, 1) := by decide +kernel
theorem g57_1 : Go 57 1 ls st G M Q ↔ Go 57 2 ls ((0, 1) :: st) G M Q := go_iconst hq57 k57_1
theorem k57_2 : cm_at ins_57 2 = some (.sipush 200, 3) := by decide +kernel
theorem g57_2 : Go 57 2 ls st G M Q ↔ Go 57 5 ls ((0, 200) :: st) G M Q := go_sipush hq57 k57_2 (by decide)
theorem k57_5 : cm_at ins_57 5 = some (.invokestatic 55, 3) := by decide +kernel
theorem c57_5 (h8 : cm_sum st ≤ 8) (K : Go 61 0 [some (0, x), some (0, y), some (0, z)] [] G M (fun r G' M' => Go 57 8 ls (r.toList ++ st) G' M' Q)) : Go 57 5 ls ((0, z) :: (0, y) :: (0, x) :: st) G M Q := go_callS hq57 k57_5 fc5_55 ⟨by decide, by decide⟩ hq61 rfl (as := [(0, z), (0, y), (0, x)]) rfl rfl (Nat.le_of_ble_eq_true rfl) h8 K
theorem k57_8 : cm_at ins_57 8 = some (.ifCond .ne 6, 3) := by decide +kernel
theorem g57_8 : Go 57 8 ls ((0, a) :: st) G M Q ↔ cm_in a ∧ (¬ a = 0 → Go 57 14 ls st G M Q) ∧ (a = 0 → Go 57 11 ls st G M Q) := go_if_ne hq57 k57_8 (by decide)
theorem k57_11 : cm_at ins_57 11 = some (.bipush (-2), 2) := by decide +kernel
theorem g57_11 : Go 57 11 ls st G M Q ↔ Go 57 13 ls ((0, (-2)) :: st) G M Q := go_bipush hq57 k57_11 (by decide)
theorem k57_13 : cm_at ins_57 13 = some (.ireturn, 1) := by decide +kernel
theorem g57_13 : Go 57 13 ls [(0, v)] G M Q ↔ Q (some (0, v)) G M := go_ireturn hq57 k57_13 rfl
theorem k57_14 : cm_at ins_57 14 = some (.aload_n 0, 1) := by decide +kernel
theorem g57_14 : Go 57 14 [some (2, x), l1, l2] st G M Q ↔ Go 57 15 [some (2, x), l1, l2] ((2, x) :: st) G M Q := go_aload_n hq57 k57_14 rfl
theorem k57_15 : cm_at ins_57 15 = some (.getfield 24, 3) := by decide +kernel
theorem g57_15 : Go 57 15 ls ((2, k) :: st) G M Q ↔ cm_sh G k = some (0, 5) ∧ Go 57 18 ls ((2, G.2 k 3) :: st) G M Q := go_get2 hq57 k57_15 ff5_24 rfl
theorem k57_18 : cm_at ins_57 18 = some (.aload_n 0, 1) := by decide +kernel
theorem g57_18 : Go 57 18 [some (2, x), l1, l2] st G M Q ↔ Go 57 19 [some (2, x), l1, l2] ((2, x) :: st) G M Q := go_aload_n hq57 k57_18 rfl
theorem k57_19 : cm_at ins_57 19 = some (.getfield 20, 3) := by decide +kernel
theorem g57_19 : Go 57 19 ls ((2, k) :: st) G M Q ↔ cm_sh G k = some (0, 5) ∧ Go 57 22 ls ((2, G.2 k 1) :: st) G M Q := go_get2 hq57 k57_19 ff5_20 rfl
theorem k57_22 : cm_at ins_57 22 = some (.invokevirtual 190, 3) := by decide +kernel
theorem c57_22 (h8 : cm_sum st ≤ 8) (hk : cm_sh G k = some (0, 1)) (K : Go 27 0 [some (2, k), some (2, y)] [] G M (fun r G' M' => Go 57 25 ls (r.toList ++ st) G' M' Q)) : Go 57 22 ls ((2, y) :: (2, k) :: st) G M Q := go_callV hq57 k57_22 fc5_190 hq27 rfl (as := [(2, y), (2, k)]) rfl rfl (Nat.le_of_ble_eq_true rfl) rfl h8 hk K
theorem k57_25 : cm_at ins_57 25 = some (.aload_n 0, 1) := by decide +kernel
theorem g57_25 : Go 57 25 [some (2, x), l1, l2] st G M Q ↔ Go 57 26 [some (2, x), l1, l2] ((2, x) :: st) G M Q := go_aload_n hq57 k57_25 rfl
theorem k57_26 : cm_at ins_57 26 = some (.getfield 24, 3) := by decide +kernel
theorem g57_26 : Go 57 26 ls ((2, k) :: st) G M Q ↔ cm_sh G k = some (0, 5) ∧ Go 57 29 ls ((2, G.2 k 3) :: st) G M Q := go_get2 hq57 k57_26 ff5_24 rfl
theorem k57_29 : cm_at ins_57 29 = some (.invokevirtual 196, 3) := by decide +kernel
theorem c57_29 (h8 : cm_sum st ≤ 8) (hk : cm_sh G k = some (0, 1)) (K : Go 40 0 [some (2, k), none] [] G M (fun r G' M' => Go 57 32 ls (r.toList ++ st) G' M' Q)) : Go 57 29 ls ((2, k) :: st) G M Q := go_callV hq57 k57_29 fc5_196 hq40 rfl (as := [(2, k)]) rfl rfl (Nat.le_of_ble_eq_true rfl) rfl h8 hk K
theorem k57_32 : cm_at ins_57 32 = some (.bipush 30, 2) := by decide +kernel
theorem g57_32 : Go 57 32 ls st G M Q ↔ Go 57 34 ls ((0, 30) :: st) G M Q := go_bipush hq57 k57_32 (by decide)
theorem k57_34 : cm_at ins_57 34 = some (.istore_n 2, 1) := by decide +kernel
theorem g57_34 : Go 57 34 [l0, l1, l2] ((0, x) :: st) G M Q ↔ Go 57 35 [l0, l1, some (0, x)] st G M Q := go_istore_n hq57 k57_34 ⟨Nat.le_of_ble_eq_true rfl, rfl, by decide⟩
theorem k57_35 : cm_at ins_57 35 = some (.iload_n 2, 1) := by decide +kernel
theorem g57_35 : Go 57 35 [l0, l1, some (0, x)] st G M Q ↔ Go 57 36 [l0, l1, some (0, x)] ((0, x) :: st) G M Q := go_iload_n hq57 k57_35 rfl
theorem k57_36 : cm_at ins_57 36 = some (.iconst 1, 1) := by decide +kernel
theorem g57_36 : Go 57 36 ls st G M Q ↔ Go 57 37 ls ((0, 1) :: st) G M Q := go_iconst hq57 k57_36
theorem k57_37 : cm_at ins_57 37 = some (.if_icmp .lt 39, 3) := by decide +kernel
theorem g57_37 : Go 57 37 ls ((0, b) :: (0, a) :: st) G M Q ↔ (cm_in a ∧ cm_in b) ∧ (a < b → Go 57 76 ls st G M Q) ∧ (¬ a < b → Go 57 40 ls st G M Q) := go_icmp_lt hq57 k57_37 (by decide)
theorem k57_40 : cm_at ins_57 40 = some (.aload_n 0, 1) := by decide +kernel
theorem g57_40 : Go 57 40 [some (2, x), l1, l2] st G M Q ↔ Go 57 41 [some (2, x), l1, l2] ((2, x) :: st) G M Q := go_aload_n hq57 k57_40 rfl
theorem k57_41 : cm_at ins_57 41 = some (.getfield 24, 3) := by decide +kernel
theorem g57_41 : Go 57 41 ls ((2, k) :: st) G M Q ↔ cm_sh G k = some (0, 5) ∧ Go 57 44 ls ((2, G.2 k 3) :: st) G M Q := go_get2 hq57 k57_41 ff5_24 rfl
theorem k57_44 : cm_at ins_57 44 = some (.getfield 63, 3) := by decide +kernel
theorem g57_44 : Go 57 44 ls ((2, k) :: st) G M Q ↔ cm_sh G k = some (0, 1) ∧ Go 57 47 ls ((2, G.2 k 0) :: st) G M Q := go_get2 hq57 k57_44 ff5_63 rfl
theorem k57_47 : cm_at ins_57 47 = some (.iconst 1, 1) := by decide +kernel
theorem g57_47 : Go 57 47 ls st G M Q ↔ Go 57 48 ls ((0, 1) :: st) G M Q := go_iconst hq57 k57_47
theorem k57_48 : cm_at ins_57 48 = some (.iload_n 2, 1) := by decide +kernel
theorem g57_48 : Go 57 48 [l0, l1, some (0, x)] st G M Q ↔ Go 57 49 [l0, l1, some (0, x)] ((0, x) :: st) G M Q := go_iload_n hq57 k57_48 rfl
theorem k57_49 : cm_at ins_57 49 = some (.iastore, 1) := by decide +kernel
theorem g57_49 : Go 57 49 ls ((0, v) :: (0, i) :: (2, k) :: st) G M Q ↔ (0 ≤ k ∧ 0 ≤ i ∧ i < cm_al 1 G M k) ∧ Go 57 50 ls st G (cm_up M k i v) Q := go_iast hq57 k57_49
theorem k57_50 : cm_at ins_57 50 = some (.aload_n 0, 1) := by decide +kernel
theorem g57_50 : Go 57 50 [some (2, x), l1, l2] st G M Q ↔ Go 57 51 [some (2, x), l1, l2] ((2, x) :: st) G M Q := go_aload_n hq57 k57_50 rfl
theorem k57_51 : cm_at ins_57 51 = some (.getfield 21, 3) := by decide +kernel
theorem g57_51 : Go 57 51 ls ((2, k) :: st) G M Q ↔ cm_sh G k = some (0, 5) ∧ Go 57 54 ls ((2, G.2 k 2) :: st) G M Q := go_get2 hq57 k57_51 ff5_21 rfl
theorem k57_54 : cm_at ins_57 54 = some (.invokevirtual 85, 3) := by decide +kernel
theorem c57_54 (h8 : cm_sum st ≤ 8) (hk : cm_sh G k = some (0, 0)) (K : Go 1 0 [some (2, k)] [] G M (fun r G' M' => Go 57 57 ls (r.toList ++ st) G' M' Q)) : Go 57 54 ls ((2, k) :: st) G M Q := go_callV hq57 k57_54 fc5_85 hq1 rfl (as := [(2, k)]) rfl rfl (Nat.le_of_ble_eq_true rfl) rfl h8 hk K
theorem k57_57 : cm_at ins_57 57 = some (.aload_n 0, 1) := by decide +kernel
theorem g57_57 : Go 57 57 [some (2, x), l1, l2] st G M Q ↔ Go 57 58 [some (2, x), l1, l2] ((2, x) :: st) G M Q := go_aload_n hq57 k57_57 rfl
theorem k57_58 : cm_at ins_57 58 = some (.getfield 21, 3) := by decide +kernel
theorem g57_58 : Go 57 58 ls ((2, k) :: st) G M Q ↔ cm_sh G k = some (0, 5) ∧ Go 57 61 ls ((2, G.2 k 2) :: st) G M Q := go_get2 hq57 k57_58 ff5_21 rfl
theorem k57_61 : cm_at ins_57 61 = some (.iload_n 1, 1) := by decide +kernel
theorem g57_61 : Go 57 61 [l0, some (0, x), l2] st G M Q ↔ Go 57 62 [l0, some (0, x), l2] ((0, x) :: st) G M Q := go_iload_n hq57 k57_61 rfl
theorem k57_62 : cm_at ins_57 62 = some (.invokevirtual 199, 3) := by decide +kernel
theorem c57_62 (h8 : cm_sum st ≤ 8) (hk : cm_sh G k = some (0, 0)) (K : Go 25 0 [some (2, k), some (0, y), none] [] G M (fun r G' M' => Go 57 65 ls (r.toList ++ st) G' M' Q)) : Go 57 62 ls ((0, y) :: (2, k) :: st) G M Q := go_callV hq57 k57_62 fc5_199 hq25 rfl (as := [(0, y), (2, k)]) rfl rfl (Nat.le_of_ble_eq_true rfl) rfl h8 hk K
theorem k57_65 : cm_at ins_57 65 = some (.ifCond .eq 5, 3) := by decide +kernel
theorem g57_65 : Go 57 65 ls ((0, a) :: st) G M Q ↔ cm_in a ∧ (a = 0 → Go 57 70 ls st G M Q) ∧ (¬ a = 0 → Go 57 68 ls st G M Q) := go_if_eq hq57 k57_65 (by decide)
theorem k57_68 : cm_at ins_57 68 = some (.iload_n 2, 1) := by decide +kernel
theorem g57_68 : Go 57 68 [l0, l1, some (0, x)] st G M Q ↔ Go 57 69 [l0, l1, some (0, x)] ((0, x) :: st) G M Q := go_iload_n hq57 k57_68 rfl
theorem k57_69 : cm_at ins_57 69 = some (.ireturn, 1) := by decide +kernel
theorem g57_69 : Go 57 69 ls [(0, v)] G M Q ↔ Q (some (0, v)) G M := go_ireturn hq57 k57_69 rfl
theorem k57_70 : cm_at ins_57 70 = some (.iinc 2 (-1), 3) := by decide +kernel
theorem g57_70 : Go 57 70 [l0, l1, some (0, x)] st G M Q ↔ Go 57 73 [l0, l1, some (0, x + (-1))] st G M Q := go_iinc hq57 k57_70 rfl ⟨rfl, by decide⟩
theorem k57_73 : cm_at ins_57 73 = some (.goto (-38), 3) := by decide +kernel
theorem g57_73 : Go 57 73 ls st G M Q ↔ Go 57 35 ls st G M Q := go_goto hq57 k57_73 (by decide)
theorem k57_76 : cm_at ins_57 76 = some (.bipush (-6), 2) := by decide +kernel
theorem g57_76 : Go 57 76 ls st G M Q ↔ Go 57 78 ls ((0, (-6)) :: st) G M Q := go_bipush hq57 k57_76 (by decide)
theorem k57_78 : cm_at ins_57 78 = some (.ireturn, 1) := by decide +kernel
theorem g57_78 : Go 57 78 ls [(0, v)] G M Q ↔ Q (some (0, v)) G M := go_ireturn hq57 k57_78 rfl
theorem k58_0 : cm_at ins_58 0 = some (.aload_n 0, 1) := by decide +kernel
theorem g58_0 : Go 58 0 [some (2, x), l1, l2] st G M Q ↔ Go 58 1 [some (2, x), l1, l2] ((2, x) :: st) G M Q := go_aload_n hq58 k58_0 rfl
theorem k58_1 : cm_at ins_58 1 = some (.getfield 20, 3) := by decide +kernel
theorem g58_1 : Go 58 1 ls ((2, k) :: st) G M Q ↔ cm_sh G k = some (0, 5) ∧ Go 58 4 ls ((2, G.2 k 1) :: st) G M Q := go_get2 hq58 k58_1 ff5_20 rfl
theorem k58_4 : cm_at ins_58 4 = some (.iload_n 1, 1) := by decide +kernel
theorem g58_4 : Go 58 4 [l0, some (0, x), l2] st G M Q ↔ Go 58 5 [l0, some (0, x), l2] ((0, x) :: st) G M Q := go_iload_n hq58 k58_4 rfl
theorem k58_5 : cm_at ins_58 5 = some (.invokevirtual 76, 3) := by decide +kernel
theorem c58_5 (h8 : cm_sum st ≤ 8) (hk : cm_sh G k = some (0, 1)) (K : Go 30 0 [some (2, k), some (0, y)] [] G M (fun r G' M' => Go 58 8 ls (r.toList ++ st) G' M' Q)) : Go 58 5 ls ((0, y) :: (2, k) :: st) G M Q := go_callV hq58 k58_5 fc5_76 hq30 rfl (as := [(0, y), (2, k)]) rfl rfl (Nat.le_of_ble_eq_true rfl) rfl h8 hk K
theorem k58_8 : cm_at ins_58 8 = some (.ifCond .ne 5, 3) := by decide +kernel
theorem g58_8 : Go 58 8 ls ((0, a) :: st) G M Q ↔ cm_in a ∧ (¬ a = 0 → Go 58 13 ls st G M Q) ∧ (a = 0 → Go 58 11 ls st G M Q) := go_if_ne hq58 k58_8 (by decide)
theorem k58_11 : cm_at ins_58 11 = some (.iconst (-1), 1) := by decide +kernel
theorem g58_11 : Go 58 11 ls st G M Q ↔ Go 58 12 ls ((0, (-1)) :: st) G M Q := go_iconst hq58 k58_11
theorem k58_12 : cm_at ins_58 12 = some (.ireturn, 1) := by decide +kernel
theorem g58_12 : Go 58 12 ls [(0, v)] G M Q ↔ Q (some (0, v)) G M := go_ireturn hq58 k58_12 rfl
theorem k58_13 : cm_at ins_58 13 = some (.iload_n 2, 1) := by decide +kernel
theorem g58_13 : Go 58 13 [l0, l1, some (0, x)] st G M Q ↔ Go 58 14 [l0, l1, some (0, x)] ((0, x) :: st) G M Q := go_iload_n hq58 k58_13 rfl
theorem k58_14 : cm_at ins_58 14 = some (.invokestatic 79, 3) := by decide +kernel
theorem c58_14 (h8 : cm_sum st ≤ 8) (K : Go 63 0 [some (0, x)] [] G M (fun r G' M' => Go 58 17 ls (r.toList ++ st) G' M' Q)) : Go 58 14 ls ((0, x) :: st) G M Q := go_callS hq58 k58_14 fc5_79 ⟨by decide, by decide⟩ hq63 rfl (as := [(0, x)]) rfl rfl (Nat.le_of_ble_eq_true rfl) h8 K
theorem k58_17 : cm_at ins_58 17 = some (.ifCond .ne 6, 3) := by decide +kernel
theorem g58_17 : Go 58 17 ls ((0, a) :: st) G M Q ↔ cm_in a ∧ (¬ a = 0 → Go 58 23 ls st G M Q) ∧ (a = 0 → Go 58 20 ls st G M Q) := go_if_ne hq58 k58_17 (by decide)
theorem k58_20 : cm_at ins_58 20 = some (.bipush (-2), 2) := by decide +kernel
theorem g58_20 : Go 58 20 ls st G M Q ↔ Go 58 22 ls ((0, (-2)) :: st) G M Q := go_bipush hq58 k58_20 (by decide)
theorem k58_22 : cm_at ins_58 22 = some (.ireturn, 1) := by decide +kernel
theorem g58_22 : Go 58 22 ls [(0, v)] G M Q ↔ Q (some (0, v)) G M := go_ireturn hq58 k58_22 rfl
theorem k58_23 : cm_at ins_58 23 = some (.aload_n 0, 1) := by decide +kernel
theorem g58_23 : Go 58 23 [some (2, x), l1, l2] st G M Q ↔ Go 58 24 [some (2, x), l1, l2] ((2, x) :: st) G M Q := go_aload_n hq58 k58_23 rfl
theorem k58_24 : cm_at ins_58 24 = some (.getfield 24, 3) := by decide +kernel
theorem g58_24 : Go 58 24 ls ((2, k) :: st) G M Q ↔ cm_sh G k = some (0, 5) ∧ Go 58 27 ls ((2, G.2 k 3) :: st) G M Q := go_get2 hq58 k58_24 ff5_24 rfl
theorem k58_27 : cm_at ins_58 27 = some (.aload_n 0, 1) := by decide +kernel
theorem g58_27 : Go 58 27 [some (2, x), l1, l2] st G M Q ↔ Go 58 28 [some (2, x), l1, l2] ((2, x) :: st) G M Q := go_aload_n hq58 k58_27 rfl
theorem k58_28 : cm_at ins_58 28 = some (.getfield 20, 3) := by decide +kernel
theorem g58_28 : Go 58 28 ls ((2, k) :: st) G M Q ↔ cm_sh G k = some (0, 5) ∧ Go 58 31 ls ((2, G.2 k 1) :: st) G M Q := go_get2 hq58 k58_28 ff5_20 rfl
theorem k58_31 : cm_at ins_58 31 = some (.invokevirtual 190, 3) := by decide +kernel
theorem c58_31 (h8 : cm_sum st ≤ 8) (hk : cm_sh G k = some (0, 1)) (K : Go 27 0 [some (2, k), some (2, y)] [] G M (fun r G' M' => Go 58 34 ls (r.toList ++ st) G' M' Q)) : Go 58 31 ls ((2, y) :: (2, k) :: st) G M Q := go_callV hq58 k58_31 fc5_190 hq27 rfl (as := [(2, y), (2, k)]) rfl rfl (Nat.le_of_ble_eq_true rfl) rfl h8 hk K
theorem k58_34 : cm_at ins_58 34 = some (.aload_n 0, 1) := by decide +kernel
theorem g58_34 : Go 58 34 [some (2, x), l1, l2] st G M Q ↔ Go 58 35 [some (2, x), l1, l2] ((2, x) :: st) G M Q := go_aload_n hq58 k58_34 rfl
theorem k58_35 : cm_at ins_58 35 = some (.getfield 24, 3) := by decide +kernel
theorem g58_35 : Go 58 35 ls ((2, k) :: st) G M Q ↔ cm_sh G k = some (0, 5) ∧ Go 58 38 ls ((2, G.2 k 3) :: st) G M Q := go_get2 hq58 k58_35 ff5_24 rfl
theorem k58_38 : cm_at ins_58 38 = some (.getfield 63, 3) := by decide +kernel
theorem g58_38 : Go 58 38 ls ((2, k) :: st) G M Q ↔ cm_sh G k = some (0, 1) ∧ Go 58 41 ls ((2, G.2 k 0) :: st) G M Q := go_get2 hq58 k58_38 ff5_63 rfl
theorem k58_41 : cm_at ins_58 41 = some (.iconst 1, 1) := by decide +kernel
theorem g58_41 : Go 58 41 ls st G M Q ↔ Go 58 42 ls ((0, 1) :: st) G M Q := go_iconst hq58 k58_41
theorem k58_42 : cm_at ins_58 42 = some (.iload_n 2, 1) := by decide +kernel
theorem g58_42 : Go 58 42 [l0, l1, some (0, x)] st G M Q ↔ Go 58 43 [l0, l1, some (0, x)] ((0, x) :: st) G M Q := go_iload_n hq58 k58_42 rfl
theorem k58_43 : cm_at ins_58 43 = some (.iastore, 1) := by decide +kernel
theorem g58_43 : Go 58 43 ls ((0, v) :: (0, i) :: (2, k) :: st) G M Q ↔ (0 ≤ k ∧ 0 ≤ i ∧ i < cm_al 1 G M k) ∧ Go 58 44 ls st G (cm_up M k i v) Q := go_iast hq58 k58_43
theorem k58_44 : cm_at ins_58 44 = some (.aload_n 0, 1) := by decide +kernel
theorem g58_44 : Go 58 44 [some (2, x), l1, l2] st G M Q ↔ Go 58 45 [some (2, x), l1, l2] ((2, x) :: st) G M Q := go_aload_n hq58 k58_44 rfl
theorem k58_45 : cm_at ins_58 45 = some (.getfield 21, 3) := by decide +kernel
theorem g58_45 : Go 58 45 ls ((2, k) :: st) G M Q ↔ cm_sh G k = some (0, 5) ∧ Go 58 48 ls ((2, G.2 k 2) :: st) G M Q := go_get2 hq58 k58_45 ff5_21 rfl
theorem k58_48 : cm_at ins_58 48 = some (.invokevirtual 85, 3) := by decide +kernel
theorem c58_48 (h8 : cm_sum st ≤ 8) (hk : cm_sh G k = some (0, 0)) (K : Go 1 0 [some (2, k)] [] G M (fun r G' M' => Go 58 51 ls (r.toList ++ st) G' M' Q)) : Go 58 48 ls ((2, k) :: st) G M Q := go_callV hq58 k58_48 fc5_85 hq1 rfl (as := [(2, k)]) rfl rfl (Nat.le_of_ble_eq_true rfl) rfl h8 hk K
theorem k58_51 : cm_at ins_58 51 = some (.aload_n 0, 1) := by decide +kernel
theorem g58_51 : Go 58 51 [some (2, x), l1, l2] st G M Q ↔ Go 58 52 [some (2, x), l1, l2] ((2, x) :: st) G M Q := go_aload_n hq58 k58_51 rfl
theorem k58_52 : cm_at ins_58 52 = some (.getfield 21, 3) := by decide +kernel
theorem g58_52 : Go 58 52 ls ((2, k) :: st) G M Q ↔ cm_sh G k = some (0, 5) ∧ Go 58 55 ls ((2, G.2 k 2) :: st) G M Q := go_get2 hq58 k58_52 ff5_21 rfl
theorem k58_55 : cm_at ins_58 55 = some (.getfield 136, 3) := by decide +kernel
theorem g58_55 : Go 58 55 ls ((2, k) :: st) G M Q ↔ cm_sh G k = some (0, 0) ∧ Go 58 58 ls ((2, G.2 k 3) :: st) G M Q := go_get2 hq58 k58_55 ff5_136 rfl
theorem k58_58 : cm_at ins_58 58 = some (.iload_n 1, 1) := by decide +kernel
theorem g58_58 : Go 58 58 [l0, some (0, x), l2] st G M Q ↔ Go 58 59 [l0, some (0, x), l2] ((0, x) :: st) G M Q := go_iload_n hq58 k58_58 rfl
theorem k58_59 : cm_at ins_58 59 = some (.iaload, 1) := by decide +kernel
theorem g58_59 : Go 58 59 ls ((0, i) :: (2, k) :: st) G M Q ↔ (0 ≤ i ∧ i < cm_al 1 G M k) ∧ Go 58 60 ls ((0, M k i) :: st) G M Q := go_iald hq58 k58_59
theorem k58_60 : cm_at ins_58 60 = some (.ireturn, 1) := by decide +kernel
theorem g58_60 : Go 58 60 ls [(0, v)] G M Q ↔ Q (some (0, v)) G M := go_ireturn hq58 k58_60 rfl
theorem k59_0 : cm_at ins_59 0 = some (.aload_n 0, 1) := by decide +kernel
theorem g59_0 : Go 59 0 [some (2, x), l1, l2, l3] st G M Q ↔ Go 59 1 [some (2, x), l1, l2, l3] ((2, x) :: st) G M Q := go_aload_n hq59 k59_0 rfl
theorem k59_1 : cm_at ins_59 1 = some (.getfield 20, 3) := by decide +kernel
theorem g59_1 : Go 59 1 ls ((2, k) :: st) G M Q ↔ cm_sh G k = some (0, 5) ∧ Go 59 4 ls ((2, G.2 k 1) :: st) G M Q := go_get2 hq59 k59_1 ff5_20 rfl
theorem k59_4 : cm_at ins_59 4 = some (.getfield 100, 3) := by decide +kernel
theorem g59_4 : Go 59 4 ls ((2, k) :: st) G M Q ↔ cm_sh G k = some (0, 1) ∧ Go 59 7 ls ((0, M k 5) :: st) G M Q := go_get0 hq59 k59_4 ff5_100 rfl
theorem k59_7 : cm_at ins_59 7 = some (.bipush 40, 2) := by decide +kernel
theorem g59_7 : Go 59 7 ls st G M Q ↔ Go 59 9 ls ((0, 40) :: st) G M Q := go_bipush hq59 k59_7 (by decide)
theorem k59_9 : cm_at ins_59 9 = some (.if_icmp .lt 6, 3) := by decide +kernel
theorem g59_9 : Go 59 9 ls ((0, b) :: (0, a) :: st) G M Q ↔ (cm_in a ∧ cm_in b) ∧ (a < b → Go 59 15 ls st G M Q) ∧ (¬ a < b → Go 59 12 ls st G M Q) := go_icmp_lt hq59 k59_9 (by decide)
theorem k59_12 : cm_at ins_59 12 = some (.bipush (-4), 2) := by decide +kernel
theorem g59_12 : Go 59 12 ls st G M Q ↔ Go 59 14 ls ((0, (-4)) :: st) G M Q := go_bipush hq59 k59_12 (by decide)
theorem k59_14 : cm_at ins_59 14 = some (.ireturn, 1) := by decide +kernel
theorem g59_14 : Go 59 14 ls [(0, v)] G M Q ↔ Q (some (0, v)) G M := go_ireturn hq59 k59_14 rfl
theorem k59_15 : cm_at ins_59 15 = some (.aload_n 0, 1) := by decide +kernel
theorem g59_15 : Go 59 15 [some (2, x), l1, l2, l3] st G M Q ↔ Go 59 16 [some (2, x), l1, l2, l3] ((2, x) :: st) G M Q := go_aload_n hq59 k59_15 rfl
theorem k59_16 : cm_at ins_59 16 = some (.getfield 37, 3) := by decide +kernel
theorem g59_16 : Go 59 16 ls ((2, k) :: st) G M Q ↔ cm_sh G k = some (0, 5) ∧ Go 59 19 ls ((2, G.2 k 5) :: st) G M Q := go_get2 hq59 k59_16 ff5_37 rfl
theorem k59_19 : cm_at ins_59 19 = some (.aload_n 0, 1) := by decide +kernel
theorem g59_19 : Go 59 19 [some (2, x), l1, l2, l3] st G M Q ↔ Go 59 20 [some (2, x), l1, l2, l3] ((2, x) :: st) G M Q := go_aload_n hq59 k59_19 rfl
theorem k59_20 : cm_at ins_59 20 = some (.getfield 20, 3) := by decide +kernel
theorem g59_20 : Go 59 20 ls ((2, k) :: st) G M Q ↔ cm_sh G k = some (0, 5) ∧ Go 59 23 ls ((2, G.2 k 1) :: st) G M Q := go_get2 hq59 k59_20 ff5_20 rfl
theorem k59_23 : cm_at ins_59 23 = some (.invokevirtual 59, 3) := by decide +kernel
theorem c59_23 (h8 : cm_sum st ≤ 8) (hk : cm_sh G k = some (0, 2)) (K : Go 42 0 [some (2, k), some (2, y)] [] G M (fun r G' M' => Go 59 26 ls (r.toList ++ st) G' M' Q)) : Go 59 23 ls ((2, y) :: (2, k) :: st) G M Q := go_callV hq59 k59_23 fc5_59 hq42 rfl (as := [(2, y), (2, k)]) rfl rfl (Nat.le_of_ble_eq_true rfl) rfl h8 hk K
theorem k59_26 : cm_at ins_59 26 = some (.aload_n 0, 1) := by decide +kernel
theorem g59_26 : Go 59 26 [some (2, x), l1, l2, l3] st G M Q ↔ Go 59 27 [some (2, x), l1, l2, l3] ((2, x) :: st) G M Q := go_aload_n hq59 k59_26 rfl
theorem k59_27 : cm_at ins_59 27 = some (.getfield 20, 3) := by decide +kernel
theorem g59_27 : Go 59 27 ls ((2, k) :: st) G M Q ↔ cm_sh G k = some (0, 5) ∧ Go 59 30 ls ((2, G.2 k 1) :: st) G M Q := go_get2 hq59 k59_27 ff5_20 rfl
theorem k59_30 : cm_at ins_59 30 = some (.iload_n 1, 1) := by decide +kernel
theorem g59_30 : Go 59 30 [l0, some (0, x), l2, l3] st G M Q ↔ Go 59 31 [l0, some (0, x), l2, l3] ((0, x) :: st) G M Q := go_iload_n hq59 k59_30 rfl
theorem k59_31 : cm_at ins_59 31 = some (.iload_n 2, 1) := by decide +kernel
theorem g59_31 : Go 59 31 [l0, l1, some (0, x), l3] st G M Q ↔ Go 59 32 [l0, l1, some (0, x), l3] ((0, x) :: st) G M Q := go_iload_n hq59 k59_31 rfl
theorem k59_32 : cm_at ins_59 32 = some (.iload_n 3, 1) := by decide +kernel
theorem g59_32 : Go 59 32 [l0, l1, l2, some (0, x)] st G M Q ↔ Go 59 33 [l0, l1, l2, some (0, x)] ((0, x) :: st) G M Q := go_iload_n hq59 k59_32 rfl
theorem k59_33 : cm_at ins_59 33 = some (.iconst 0, 1) := by decide +kernel
theorem g59_33 : Go 59 33 ls st G M Q ↔ Go 59 34 ls ((0, 0) :: st) G M Q := go_iconst hq59 k59_33
theorem k59_34 : cm_at ins_59 34 = some (.invokevirtual 224, 3) := by decide +kernel
theorem c59_34 (h8 : cm_sum st ≤ 8) (hk : cm_sh G k = some (0, 1)) (K : Go 29 0 [some (2, k), some (0, y), some (0, z), some (0, u), some (0, w)] [] G M (fun r G' M' => Go 59 37 ls (r.toList ++ st) G' M' Q)) : Go 59 34 ls ((0, w) :: (0, u) :: (0, z) :: (0, y) :: (2, k) :: st) G M Q := go_callV hq59 k59_34 fc5_224 hq29 rfl (as := [(0, w), (0, u), (0, z), (0, y), (2, k)]) rfl rfl (Nat.le_of_ble_eq_true rfl) rfl h8 hk K
theorem k59_37 : cm_at ins_59 37 = some (.aload_n 0, 1) := by decide +kernel
theorem g59_37 : Go 59 37 [some (2, x), l1, l2, l3] st G M Q ↔ Go 59 38 [some (2, x), l1, l2, l3] ((2, x) :: st) G M Q := go_aload_n hq59 k59_37 rfl
theorem k59_38 : cm_at ins_59 38 = some (.getfield 20, 3) := by decide +kernel
theorem g59_38 : Go 59 38 ls ((2, k) :: st) G M Q ↔ cm_sh G k = some (0, 5) ∧ Go 59 41 ls ((2, G.2 k 1) :: st) G M Q := go_get2 hq59 k59_38 ff5_20 rfl
theorem k59_41 : cm_at ins_59 41 = some (.getfield 100, 3) := by decide +kernel
theorem g59_41 : Go 59 41 ls ((2, k) :: st) G M Q ↔ cm_sh G k = some (0, 1) ∧ Go 59 44 ls ((0, M k 5) :: st) G M Q := go_get0 hq59 k59_41 ff5_100 rfl
theorem k59_44 : cm_at ins_59 44 = some (.iconst 1, 1) := by decide +kernel
theorem g59_44 : Go 59 44 ls st G M Q ↔ Go 59 45 ls ((0, 1) :: st) G M Q := go_iconst hq59 k59_44
theorem k59_45 : cm_at ins_59 45 = some (.isub, 1) := by decide +kernel
theorem g59_45 : Go 59 45 ls ((0, b) :: (0, a) :: st) G M Q ↔ Go 59 46 ls ((0, a - b) :: st) G M Q := go_isub hq59 k59_45
theorem k59_46 : cm_at ins_59 46 = some (.ireturn, 1) := by decide +kernel
theorem g59_46 : Go 59 46 ls [(0, v)] G M Q ↔ Q (some (0, v)) G M := go_ireturn hq59 k59_46 rfl
theorem k60_0 : cm_at ins_60 0 = some (.aload_n 0, 1) := by decide +kernel
theorem g60_0 : Go 60 0 [some (2, x), l1, l2] st G M Q ↔ Go 60 1 [some (2, x), l1, l2] ((2, x) :: st) G M Q := go_aload_n hq60 k60_0 rfl
theorem k60_1 : cm_at ins_60 1 = some (.getfield 20, 3) := by decide +kernel
theorem g60_1 : Go 60 1 ls ((2, k) :: st) G M Q ↔ cm_sh G k = some (0, 5) ∧ Go 60 4 ls ((2, G.2 k 1) :: st) G M Q := go_get2 hq60 k60_1 ff5_20 rfl
theorem k60_4 : cm_at ins_60 4 = some (.iload_n 1, 1) := by decide +kernel
theorem g60_4 : Go 60 4 [l0, some (0, x), l2] st G M Q ↔ Go 60 5 [l0, some (0, x), l2] ((0, x) :: st) G M Q := go_iload_n hq60 k60_4 rfl
theorem k60_5 : cm_at ins_60 5 = some (.invokevirtual 104, 3) := by decide +kernel
theorem c60_5 (h8 : cm_sum st ≤ 8) (hk : cm_sh G k = some (0, 1)) (K : Go 36 0 [some (2, k), some (0, y), none] [] G M (fun r G' M' => Go 60 8 ls (r.toList ++ st) G' M' Q)) : Go 60 5 ls ((0, y) :: (2, k) :: st) G M Q := go_callV hq60 k60_5 fc5_104 hq36 rfl (as := [(0, y), (2, k)]) rfl rfl (Nat.le_of_ble_eq_true rfl) rfl h8 hk K
theorem k60_8 : cm_at ins_60 8 = some (.istore_n 2, 1) := by decide +kernel
theorem g60_8 : Go 60 8 [l0, l1, l2] ((0, x) :: st) G M Q ↔ Go 60 9 [l0, l1, some (0, x)] st G M Q := go_istore_n hq60 k60_8 ⟨Nat.le_of_ble_eq_true rfl, rfl, by decide⟩
theorem k60_9 : cm_at ins_60 9 = some (.aload_n 0, 1) := by decide +kernel
theorem g60_9 : Go 60 9 [some (2, x), l1, l2] st G M Q ↔ Go 60 10 [some (2, x), l1, l2] ((2, x) :: st) G M Q := go_aload_n hq60 k60_9 rfl
theorem k60_10 : cm_at ins_60 10 = some (.getfield 20, 3) := by decide +kernel
theorem g60_10 : Go 60 10 ls ((2, k) :: st) G M Q ↔ cm_sh G k = some (0, 5) ∧ Go 60 13 ls ((2, G.2 k 1) :: st) G M Q := go_get2 hq60 k60_10 ff5_20 rfl
theorem k60_13 : cm_at ins_60 13 = some (.iload_n 2, 1) := by decide +kernel
theorem g60_13 : Go 60 13 [l0, l1, some (0, x)] st G M Q ↔ Go 60 14 [l0, l1, some (0, x)] ((0, x) :: st) G M Q := go_iload_n hq60 k60_13 rfl
theorem k60_14 : cm_at ins_60 14 = some (.invokevirtual 76, 3) := by decide +kernel
theorem c60_14 (h8 : cm_sum st ≤ 8) (hk : cm_sh G k = some (0, 1)) (K : Go 30 0 [some (2, k), some (0, y)] [] G M (fun r G' M' => Go 60 17 ls (r.toList ++ st) G' M' Q)) : Go 60 14 ls ((0, y) :: (2, k) :: st) G M Q := go_callV hq60 k60_14 fc5_76 hq30 rfl (as := [(0, y), (2, k)]) rfl rfl (Nat.le_of_ble_eq_true rfl) rfl h8 hk K
theorem k60_17 : cm_at ins_60 17 = some (.ifCond .eq 15, 3) := by decide +kernel
theorem g60_17 : Go 60 17 ls ((0, a) :: st) G M Q ↔ cm_in a ∧ (a = 0 → Go 60 32 ls st G M Q) ∧ (¬ a = 0 → Go 60 20 ls st G M Q) := go_if_eq hq60 k60_17 (by decide)
theorem k60_20 : cm_at ins_60 20 = some (.aload_n 0, 1) := by decide +kernel
theorem g60_20 : Go 60 20 [some (2, x), l1, l2] st G M Q ↔ Go 60 21 [some (2, x), l1, l2] ((2, x) :: st) G M Q := go_aload_n hq60 k60_20 rfl
theorem k60_21 : cm_at ins_60 21 = some (.getfield 20, 3) := by decide +kernel
theorem g60_21 : Go 60 21 ls ((2, k) :: st) G M Q ↔ cm_sh G k = some (0, 5) ∧ Go 60 24 ls ((2, G.2 k 1) :: st) G M Q := go_get2 hq60 k60_21 ff5_20 rfl
theorem k60_24 : cm_at ins_60 24 = some (.getfield 111, 3) := by decide +kernel
theorem g60_24 : Go 60 24 ls ((2, k) :: st) G M Q ↔ cm_sh G k = some (0, 1) ∧ Go 60 27 ls ((2, G.2 k 3) :: st) G M Q := go_get2 hq60 k60_24 ff5_111 rfl
theorem k60_27 : cm_at ins_60 27 = some (.iload_n 2, 1) := by decide +kernel
theorem g60_27 : Go 60 27 [l0, l1, some (0, x)] st G M Q ↔ Go 60 28 [l0, l1, some (0, x)] ((0, x) :: st) G M Q := go_iload_n hq60 k60_27 rfl
theorem k60_28 : cm_at ins_60 28 = some (.iaload, 1) := by decide +kernel
theorem g60_28 : Go 60 28 ls ((0, i) :: (2, k) :: st) G M Q ↔ (0 ≤ i ∧ i < cm_al 1 G M k) ∧ Go 60 29 ls ((0, M k i) :: st) G M Q := go_iald hq60 k60_28
theorem k60_29 : cm_at ins_60 29 = some (.goto 5, 3) := by decide +kernel
theorem g60_29 : Go 60 29 ls st G M Q ↔ Go 60 34 ls st G M Q := go_goto hq60 k60_29 (by decide)
theorem k60_32 : cm_at ins_60 32 = some (.bipush (-6), 2) := by decide +kernel
theorem g60_32 : Go 60 32 ls st G M Q ↔ Go 60 34 ls ((0, (-6)) :: st) G M Q := go_bipush hq60 k60_32 (by decide)
theorem k60_34 : cm_at ins_60 34 = some (.ireturn, 1) := by decide +kernel
theorem g60_34 : Go 60 34 ls [(0, v)] G M Q ↔ Q (some (0, v)) G M := go_ireturn hq60 k60_34 rfl
theorem k61_0 : cm_at ins_61 0 = some (.iload_n 0, 1) := by decide +kernel
theorem g61_0 : Go 61 0 [some (0, x), l1, l2] st G M Q ↔ Go 61 1 [some (0, x), l1, l2] ((0, x) :: st) G M Q := go_iload_n hq61 k61_0 rfl
theorem k61_1 : cm_at ins_61 1 = some (.iload_n 1, 1) := by decide +kernel
theorem g61_1 : Go 61 1 [l0, some (0, x), l2] st G M Q ↔ Go 61 2 [l0, some (0, x), l2] ((0, x) :: st) G M Q := go_iload_n hq61 k61_1 rfl
theorem k61_2 : cm_at ins_61 2 = some (.if_icmp .lt 12, 3) := by decide +kernel
theorem g61_2 : Go 61 2 ls ((0, b) :: (0, a) :: st) G M Q ↔ (cm_in a ∧ cm_in b) ∧ (a < b → Go 61 14 ls st G M Q) ∧ (¬ a < b → Go 61 5 ls st G M Q) := go_icmp_lt hq61 k61_2 (by decide)
theorem k61_5 : cm_at ins_61 5 = some (.iload_n 0, 1) := by decide +kernel
theorem g61_5 : Go 61 5 [some (0, x), l1, l2] st G M Q ↔ Go 61 6 [some (0, x), l1, l2] ((0, x) :: st) G M Q := go_iload_n hq61 k61_5 rfl
theorem k61_6 : cm_at ins_61 6 = some (.iload_n 2, 1) := by decide +kernel
theorem g61_6 : Go 61 6 [l0, l1, some (0, x)] st G M Q ↔ Go 61 7 [l0, l1, some (0, x)] ((0, x) :: st) G M Q := go_iload_n hq61 k61_6 rfl
theorem k61_7 : cm_at ins_61 7 = some (.if_icmp .gt 7, 3) := by decide +kernel
theorem g61_7 : Go 61 7 ls ((0, b) :: (0, a) :: st) G M Q ↔ (cm_in a ∧ cm_in b) ∧ (b < a → Go 61 14 ls st G M Q) ∧ (¬ b < a → Go 61 10 ls st G M Q) := go_icmp_gt hq61 k61_7 (by decide)
theorem k61_10 : cm_at ins_61 10 = some (.iconst 1, 1) := by decide +kernel
theorem g61_10 : Go 61 10 ls st G M Q ↔ Go 61 11 ls ((0, 1) :: st) G M Q := go_iconst hq61 k61_10
theorem k61_11 : cm_at ins_61 11 = some (.goto 4, 3) := by decide +kernel
theorem g61_11 : Go 61 11 ls st G M Q ↔ Go 61 15 ls st G M Q := go_goto hq61 k61_11 (by decide)
theorem k61_14 : cm_at ins_61 14 = some (.iconst 0, 1) := by decide +kernel
theorem g61_14 : Go 61 14 ls st G M Q ↔ Go 61 15 ls ((0, 0) :: st) G M Q := go_iconst hq61 k61_14
theorem k61_15 : cm_at ins_61 15 = some (.ireturn, 1) := by decide +kernel
theorem g61_15 : Go 61 15 ls [(0, v)] G M Q ↔ (v = 0 ∨ v = 1) ∧ Q (some (0, v)) G M := go_zreturn hq61 k61_15 rfl
theorem k62_0 : cm_at ins_62 0 = some (.iload_n 0, 1) := by decide +kernel
theorem g62_0 : Go 62 0 [some (0, x)] st G M Q ↔ Go 62 1 [some (0, x)] ((0, x) :: st) G M Q := go_iload_n hq62 k62_0 rfl
theorem k62_1 : cm_at ins_62 1 = some (.iconst 0, 1) := by decide +kernel
theorem g62_1 : Go 62 1 ls st G M Q ↔ Go 62 2 ls ((0, 0) :: st) G M Q := go_iconst hq62 k62_1
theorem k62_2 : cm_at ins_62 2 = some (.bipush 7, 2) := by decide +kernel
theorem g62_2 : Go 62 2 ls st G M Q ↔ Go 62 4 ls ((0, 7) :: st) G M Q := go_bipush hq62 k62_2 (by decide)
theorem k62_4 : cm_at ins_62 4 = some (.invokestatic 55, 3) := by decide +kernel
theorem c62_4 (h8 : cm_sum st ≤ 8) (K : Go 61 0 [some (0, x), some (0, y), some (0, z)] [] G M (fun r G' M' => Go 62 7 ls (r.toList ++ st) G' M' Q)) : Go 62 4 ls ((0, z) :: (0, y) :: (0, x) :: st) G M Q := go_callS hq62 k62_4 fc5_55 ⟨by decide, by decide⟩ hq61 rfl (as := [(0, z), (0, y), (0, x)]) rfl rfl (Nat.le_of_ble_eq_true rfl) h8 K
theorem k62_7 : cm_at ins_62 7 = some (.ireturn, 1) := by decide +kernel
theorem g62_7 : Go 62 7 ls [(0, v)] G M Q ↔ (v = 0 ∨ v = 1) ∧ Q (some (0, v)) G M := go_zreturn hq62 k62_7 rfl
theorem k63_0 : cm_at ins_63 0 = some (.iload_n 0, 1) := by decide +kernel
theorem g63_0 : Go 63 0 [some (0, x)] st G M Q ↔ Go 63 1 [some (0, x)] ((0, x) :: st) G M Q := go_iload_n hq63 k63_0 rfl
theorem k63_1 : cm_at ins_63 1 = some (.iconst 1, 1) := by decide +kernel
theorem g63_1 : Go 63 1 ls st G M Q ↔ Go 63 2 ls ((0, 1) :: st) G M Q := go_iconst hq63 k63_1
theorem k63_2 : cm_at ins_63 2 = some (.bipush 30, 2) := by decide +kernel
theorem g63_2 : Go 63 2 ls st G M Q ↔ Go 63 4 ls ((0, 30) :: st) G M Q := go_bipush hq63 k63_2 (by decide)
theorem k63_4 : cm_at ins_63 4 = some (.invokestatic 55, 3) := by decide +kernel
theorem c63_4 (h8 : cm_sum st ≤ 8) (K : Go 61 0 [some (0, x), some (0, y), some (0, z)] [] G M (fun r G' M' => Go 63 7 ls (r.toList ++ st) G' M' Q)) : Go 63 4 ls ((0, z) :: (0, y) :: (0, x) :: st) G M Q := go_callS hq63 k63_4 fc5_55 ⟨by decide, by decide⟩ hq61 rfl (as := [(0, z), (0, y), (0, x)]) rfl rfl (Nat.le_of_ble_eq_true rfl) h8 K
theorem k63_7 : cm_at ins_63 7 = some (.ireturn, 1) := by decide +kernel
theorem g63_7 : Go 63 7 ls [(0, v)] G M Q ↔ (v = 0 ∨ v = 1) ∧ Q (some (0, v)) G M := go_zreturn hq63 k63_7 rfl
theorem k64_0 : cm_at ins_64 0 = some (.iload_n 1, 1) := by decide +kernel
theorem g64_0 : Go 64 0 [l0, some (0, x)] st G M Q ↔ Go 64 1 [l0, some (0, x)] ((0, x) :: st) G M Q := go_iload_n hq64 k64_0 rfl
theorem k64_1 : cm_at ins_64 1 = some (.aload_n 0, 1) := by decide +kernel
theorem g64_1 : Go 64 1 [some (2, x), l1] st G M Q ↔ Go 64 2 [some (2, x), l1] ((2, x) :: st) G M Q := go_aload_n hq64 k64_1 rfl
theorem k64_2 : cm_at ins_64 2 = some (.arraylength, 1) := by decide +kernel
theorem g64_2 : Go 64 2 ls ((2, -2) :: st) G M Q ↔ Go 64 3 ls ((0, M (-2) (-1)) :: st) G M Q := go_alen hq64 k64_2
theorem k64_3 : cm_at ins_64 3 = some (.if_icmp .ge 9, 3) := by decide +kernel
theorem g64_3 : Go 64 3 ls ((0, b) :: (0, a) :: st) G M Q ↔ (cm_in a ∧ cm_in b) ∧ (¬ a < b → Go 64 12 ls st G M Q) ∧ (a < b → Go 64 6 ls st G M Q) := go_icmp_ge hq64 k64_3 (by decide)
theorem k64_6 : cm_at ins_64 6 = some (.aload_n 0, 1) := by decide +kernel
theorem g64_6 : Go 64 6 [some (2, x), l1] st G M Q ↔ Go 64 7 [some (2, x), l1] ((2, x) :: st) G M Q := go_aload_n hq64 k64_6 rfl
theorem k64_7 : cm_at ins_64 7 = some (.iload_n 1, 1) := by decide +kernel
theorem g64_7 : Go 64 7 [l0, some (0, x)] st G M Q ↔ Go 64 8 [l0, some (0, x)] ((0, x) :: st) G M Q := go_iload_n hq64 k64_7 rfl
theorem k64_8 : cm_at ins_64 8 = some (.iaload, 1) := by decide +kernel
theorem g64_8 : Go 64 8 ls ((0, i) :: (2, k) :: st) G M Q ↔ (0 ≤ i ∧ i < cm_al 1 G M k) ∧ Go 64 9 ls ((0, M k i) :: st) G M Q := go_iald hq64 k64_8
theorem k64_9 : cm_at ins_64 9 = some (.goto 10, 3) := by decide +kernel
theorem g64_9 : Go 64 9 ls st G M Q ↔ Go 64 19 ls st G M Q := go_goto hq64 k64_9 (by decide)
theorem k64_12 : cm_at ins_64 12 = some (.ldc 7, 2) := by decide +kernel
theorem g64_12 : Go 64 12 ls st G M Q ↔ Go 64 14 ls ((0, 32452867) :: st) G M Q := go_ldc hq64 k64_12 (by decide +kernel)
theorem k64_14 : cm_at ins_64 14 = some (.iload_n 1, 1) := by decide +kernel
theorem g64_14 : Go 64 14 [l0, some (0, x)] st G M Q ↔ Go 64 15 [l0, some (0, x)] ((0, x) :: st) G M Q := go_iload_n hq64 k64_14 rfl
theorem k64_15 : cm_at ins_64 15 = some (.imul, 1) := by decide +kernel
theorem g64_15 : Go 64 15 ls ((0, b) :: (0, a) :: st) G M Q ↔ Go 64 16 ls ((0, a * b) :: st) G M Q := go_imul hq64 k64_15
theorem k64_16 : cm_at ins_64 16 = some (.ldc 8, 2) := by decide +kernel
theorem g64_16 : Go 64 16 ls st G M Q ↔ Go 64 18 ls ((0, 15485863) :: st) G M Q := go_ldc hq64 k64_16 (by decide +kernel)
theorem k64_18 : cm_at ins_64 18 = some (.iadd, 1) := by decide +kernel
theorem g64_18 : Go 64 18 ls ((0, b) :: (0, a) :: st) G M Q ↔ Go 64 19 ls ((0, a + b) :: st) G M Q := go_iadd hq64 k64_18
theorem k64_19 : cm_at ins_64 19 = some (.ireturn, 1) := by decide +kernel
theorem g64_19 : Go 64 19 ls [(0, v)] G M Q ↔ Q (some (0, v)) G M := go_ireturn hq64 k64_19 rfl
theorem k65_0 : cm_at ins_65 0 = some (.iload_n 0, 1) := by decide +kernel
theorem g65_0 : Go 65 0 [some (0, x), l1] st G M Q ↔ Go 65 1 [some (0, x), l1] ((0, x) :: st) G M Q := go_iload_n hq65 k65_0 rfl
theorem k65_1 : cm_at ins_65 1 = some (.ldc 9, 2) := by decide +kernel
theorem g65_1 : Go 65 1 ls st G M Q ↔ Go 65 3 ls ((0, 2147483647) :: st) G M Q := go_ldc hq65 k65_1 (by decide +kernel)
theorem k65_3 : cm_at ins_65 3 = some (.iand, 1) := by decide +kernel
theorem g65_3 : Go 65 3 ls ((0, b) :: (0, a) :: st) G M Q ↔ Go 65 4 ls ((0, cm_iand a b) :: st) G M Q := go_iand hq65 k65_3
theorem k65_4 : cm_at ins_65 4 = some (.iload_n 1, 1) := by decide +kernel
theorem g65_4 : Go 65 4 [l0, some (0, x)] st G M Q ↔ Go 65 5 [l0, some (0, x)] ((0, x) :: st) G M Q := go_iload_n hq65 k65_4 rfl
theorem k65_5 : cm_at ins_65 5 = some (.irem, 1) := by decide +kernel
theorem g65_5 : Go 65 5 ls ((0, b) :: (0, a) :: st) G M Q ↔ (cm_in a ∧ cm_in b ∧ 0 < b) ∧ Go 65 6 ls ((0, a.tmod b) :: st) G M Q := go_irem hq65 k65_5
theorem k65_6 : cm_at ins_65 6 = some (.ireturn, 1) := by decide +kernel
theorem g65_6 : Go 65 6 ls [(0, v)] G M Q ↔ Q (some (0, v)) G M := go_ireturn hq65 k65_6 rfl
theorem k66_0 : cm_at ins_66 0 = some (.aload_n 0, 1) := by decide +kernel
theorem g66_0 : Go 66 0 [some (2, x), l1, l2, l3, l4, l5, l6] st G M Q ↔ Go 66 1 [some (2, x), l1, l2, l3, l4, l5, l6] ((2, x) :: st) G M Q := go_aload_n hq66 k66_0 rfl
theorem k66_1 : cm_at ins_66 1 = some (.iconst 0, 1) := by decide +kernel
theorem g66_1 : Go 66 1 ls st G M Q ↔ Go 66 2 ls ((0, 0) :: st) G M Q := go_iconst hq66 k66_1
theorem k66_2 : cm_at ins_66 2 = some (.invokevirtual 10, 3) := by decide +kernel
theorem c66_2 (h8 : cm_sum st ≤ 8) (hk : cm_sh G k = some (0, 5)) (K : Go 55 0 [some (2, k), some (0, y)] [] G M (fun r G' M' => Go 66 5 ls (r.toList ++ st) G' M' Q)) : Go 66 2 ls ((0, y) :: (2, k) :: st) G M Q := go_callV hq66 k66_2 fc7_10 hq55 rfl (as := [(0, y), (2, k)]) rfl rfl (Nat.le_of_ble_eq_true rfl) rfl h8 hk K
theorem k66_5 : cm_at ins_66 5 = some (.istore_n 2, 1) := by decide +kernel
theorem g66_5 : Go 66 5 [l0, l1, l2, l3, l4, l5, l6] ((0, x) :: st) G M Q ↔ Go 66 6 [l0, l1, some (0, x), l3, l4, l5, l6] st G M Q := go_istore_n hq66 k66_5 ⟨Nat.le_of_ble_eq_true rfl, rfl, by decide⟩
theorem k66_6 : cm_at ins_66 6 = some (.iload_n 1, 1) := by decide +kernel
theorem g66_6 : Go 66 6 [l0, some (0, x), l2, l3, l4, l5, l6] st G M Q ↔ Go 66 7 [l0, some (0, x), l2, l3, l4, l5, l6] ((0, x) :: st) G M Q := go_iload_n hq66 k66_6 rfl
theorem k66_7 : cm_at ins_66 7 = some (.bipush 7, 2) := by decide +kernel
theorem g66_7 : Go 66 7 ls st G M Q ↔ Go 66 9 ls ((0, 7) :: st) G M Q := go_bipush hq66 k66_7 (by decide)
theorem k66_9 : cm_at ins_66 9 = some (.invokestatic 16, 3) := by decide +kernel
theorem c66_9 (h8 : cm_sum st ≤ 8) (K : Go 65 0 [some (0, x), some (0, y)] [] G M (fun r G' M' => Go 66 12 ls (r.toList ++ st) G' M' Q)) : Go 66 9 ls ((0, y) :: (0, x) :: st) G M Q := go_callS hq66 k66_9 fc7_16 ⟨by decide, by decide⟩ hq65 rfl (as := [(0, y), (0, x)]) rfl rfl (Nat.le_of_ble_eq_true rfl) h8 K
theorem k66_12 : cm_at ins_66 12 = some (.istore_n 3, 1) := by decide +kernel
theorem g66_12 : Go 66 12 [l0, l1, l2, l3, l4, l5, l6] ((0, x) :: st) G M Q ↔ Go 66 13 [l0, l1, l2, some (0, x), l4, l5, l6] st G M Q := go_istore_n hq66 k66_12 ⟨Nat.le_of_ble_eq_true rfl, rfl, by decide⟩
theorem k66_13 : cm_at ins_66 13 = some (.iload_n 3, 1) := by decide +kernel
theorem g66_13 : Go 66 13 [l0, l1, l2, some (0, x), l4, l5, l6] st G M Q ↔ Go 66 14 [l0, l1, l2, some (0, x), l4, l5, l6] ((0, x) :: st) G M Q := go_iload_n hq66 k66_13 rfl
theorem k66_14 : cm_at ins_66 14 = some (.iconst 4, 1) := by decide +kernel
theorem g66_14 : Go 66 14 ls st G M Q ↔ Go 66 15 ls ((0, 4) :: st) G M Q := go_iconst hq66 k66_14
theorem k66_15 : cm_at ins_66 15 = some (.if_icmp .ge 26, 3) := by decide +kernel
theorem g66_15 : Go 66 15 ls ((0, b) :: (0, a) :: st) G M Q ↔ (cm_in a ∧ cm_in b) ∧ (¬ a < b → Go 66 41 ls st G M Q) ∧ (a < b → Go 66 18 ls st G M Q) := go_icmp_ge hq66 k66_15 (by decide)
theorem k66_18 : cm_at ins_66 18 = some (.aload_n 0, 1) := by decide +kernel
theorem g66_18 : Go 66 18 [some (2, x), l1, l2, l3, l4, l5, l6] st G M Q ↔ Go 66 19 [some (2, x), l1, l2, l3, l4, l5, l6] ((2, x) :: st) G M Q := go_aload_n hq66 k66_18 rfl
theorem k66_19 : cm_at ins_66 19 = some (.iload_n 1, 1) := by decide +kernel
theorem g66_19 : Go 66 19 [l0, some (0, x), l2, l3, l4, l5, l6] st G M Q ↔ Go 66 20 [l0, some (0, x), l2, l3, l4, l5, l6] ((0, x) :: st) G M Q := go_iload_n hq66 k66_19 rfl
theorem k66_20 : cm_at ins_66 20 = some (.iconst 3, 1) := by decide +kernel
theorem g66_20 : Go 66 20 ls st G M Q ↔ Go 66 21 ls ((0, 3) :: st) G M Q := go_iconst hq66 k66_20
theorem k66_21 : cm_at ins_66 21 = some (.ishr, 1) := by decide +kernel
theorem g66_21 : Go 66 21 ls ((0, b) :: (0, a) :: st) G M Q ↔ Go 66 22 ls ((0, cm_ishr a b) :: st) G M Q := go_ishr hq66 k66_21
theorem k66_22 : cm_at ins_66 22 = some (.iconst 3, 1) := by decide +kernel
theorem g66_22 : Go 66 22 ls st G M Q ↔ Go 66 23 ls ((0, 3) :: st) G M Q := go_iconst hq66 k66_22
theorem k66_23 : cm_at ins_66 23 = some (.invokestatic 16, 3) := by decide +kernel
theorem c66_23 (h8 : cm_sum st ≤ 8) (K : Go 65 0 [some (0, x), some (0, y)] [] G M (fun r G' M' => Go 66 26 ls (r.toList ++ st) G' M' Q)) : Go 66 23 ls ((0, y) :: (0, x) :: st) G M Q := go_callS hq66 k66_23 fc7_16 ⟨by decide, by decide⟩ hq65 rfl (as := [(0, y), (0, x)]) rfl rfl (Nat.le_of_ble_eq_true rfl) h8 K
theorem k66_26 : cm_at ins_66 26 = some (.iload_n 1, 1) := by decide +kernel
theorem g66_26 : Go 66 26 [l0, some (0, x), l2, l3, l4, l5, l6] st G M Q ↔ Go 66 27 [l0, some (0, x), l2, l3, l4, l5, l6] ((0, x) :: st) G M Q := go_iload_n hq66 k66_26 rfl
theorem k66_27 : cm_at ins_66 27 = some (.iconst 5, 1) := by decide +kernel
theorem g66_27 : Go 66 27 ls st G M Q ↔ Go 66 28 ls ((0, 5) :: st) G M Q := go_iconst hq66 k66_27
theorem k66_28 : cm_at ins_66 28 = some (.ishr, 1) := by decide +kernel
theorem g66_28 : Go 66 28 ls ((0, b) :: (0, a) :: st) G M Q ↔ Go 66 29 ls ((0, cm_ishr a b) :: st) G M Q := go_ishr hq66 k66_28
theorem k66_29 : cm_at ins_66 29 = some (.sipush 1000, 3) := by decide +kernel
theorem g66_29 : Go 66 29 ls st G M Q ↔ Go 66 32 ls ((0, 1000) :: st) G M Q := go_sipush hq66 k66_29 (by decide)
theorem k66_32 : cm_at ins_66 32 = some (.invokestatic 16, 3) := by decide +kernel
theorem c66_32 (h8 : cm_sum st ≤ 8) (K : Go 65 0 [some (0, x), some (0, y)] [] G M (fun r G' M' => Go 66 35 ls (r.toList ++ st) G' M' Q)) : Go 66 32 ls ((0, y) :: (0, x) :: st) G M Q := go_callS hq66 k66_32 fc7_16 ⟨by decide, by decide⟩ hq65 rfl (as := [(0, y), (0, x)]) rfl rfl (Nat.le_of_ble_eq_true rfl) h8 K
theorem k66_35 : cm_at ins_66 35 = some (.invokevirtual 22, 3) := by decide +kernel
theorem c66_35 (h8 : cm_sum st ≤ 8) (hk : cm_sh G k = some (0, 5)) (K : Go 47 0 [some (2, k), some (0, y), some (0, z)] [] G M (fun r G' M' => Go 66 38 ls (r.toList ++ st) G' M' Q)) : Go 66 35 ls ((0, z) :: (0, y) :: (2, k) :: st) G M Q := go_callV hq66 k66_35 fc7_22 hq47 rfl (as := [(0, z), (0, y), (2, k)]) rfl rfl (Nat.le_of_ble_eq_true rfl) rfl h8 hk K
theorem k66_38 : cm_at ins_66 38 = some (.goto 10, 3) := by decide +kernel
theorem g66_38 : Go 66 38 ls st G M Q ↔ Go 66 48 ls st G M Q := go_goto hq66 k66_38 (by decide)
theorem k66_41 : cm_at ins_66 41 = some (.aload_n 0, 1) := by decide +kernel
theorem g66_41 : Go 66 41 [some (2, x), l1, l2, l3, l4, l5, l6] st G M Q ↔ Go 66 42 [some (2, x), l1, l2, l3, l4, l5, l6] ((2, x) :: st) G M Q := go_aload_n hq66 k66_41 rfl
theorem k66_42 : cm_at ins_66 42 = some (.iload_n 3, 1) := by decide +kernel
theorem g66_42 : Go 66 42 [l0, l1, l2, some (0, x), l4, l5, l6] st G M Q ↔ Go 66 43 [l0, l1, l2, some (0, x), l4, l5, l6] ((0, x) :: st) G M Q := go_iload_n hq66 k66_42 rfl
theorem k66_43 : cm_at ins_66 43 = some (.iconst 3, 1) := by decide +kernel
theorem g66_43 : Go 66 43 ls st G M Q ↔ Go 66 44 ls ((0, 3) :: st) G M Q := go_iconst hq66 k66_43
theorem k66_44 : cm_at ins_66 44 = some (.isub, 1) := by decide +kernel
theorem g66_44 : Go 66 44 ls ((0, b) :: (0, a) :: st) G M Q ↔ Go 66 45 ls ((0, a - b) :: st) G M Q := go_isub hq66 k66_44
theorem k66_45 : cm_at ins_66 45 = some (.invokevirtual 25, 3) := by decide +kernel
theorem c66_45 (h8 : cm_sum st ≤ 8) (hk : cm_sh G k = some (0, 5)) (K : Go 48 0 [some (2, k), some (0, y)] [] G M (fun r G' M' => Go 66 48 ls (r.toList ++ st) G' M' Q)) : Go 66 45 ls ((0, y) :: (2, k) :: st) G M Q := go_callV hq66 k66_45 fc7_25 hq48 rfl (as := [(0, y), (2, k)]) rfl rfl (Nat.le_of_ble_eq_true rfl) rfl h8 hk K
theorem k66_48 : cm_at ins_66 48 = some (.istore 4, 2) := by decide +kernel
theorem g66_48 : Go 66 48 [l0, l1, l2, l3, l4, l5, l6] ((0, x) :: st) G M Q ↔ Go 66 50 [l0, l1, l2, l3, some (0, x), l5, l6] st G M Q := go_istore hq66 k66_48 ⟨Nat.le_of_ble_eq_true rfl, rfl, by decide⟩
theorem k66_50 : cm_at ins_66 50 = some (.iload_n 2, 1) := by decide +kernel
theorem g66_50 : Go 66 50 [l0, l1, some (0, x), l3, l4, l5, l6] st G M Q ↔ Go 66 51 [l0, l1, some (0, x), l3, l4, l5, l6] ((0, x) :: st) G M Q := go_iload_n hq66 k66_50 rfl
theorem k66_51 : cm_at ins_66 51 = some (.bipush 40, 2) := by decide +kernel
theorem g66_51 : Go 66 51 ls st G M Q ↔ Go 66 53 ls ((0, 40) :: st) G M Q := go_bipush hq66 k66_51 (by decide)
theorem k66_53 : cm_at ins_66 53 = some (.if_icmp .ne 26, 3) := by decide +kernel
theorem g66_53 : Go 66 53 ls ((0, b) :: (0, a) :: st) G M Q ↔ (cm_in a ∧ cm_in b) ∧ (¬ a = b → Go 66 79 ls st G M Q) ∧ (a = b → Go 66 56 ls st G M Q) := go_icmp_ne hq66 k66_53 (by decide)
theorem k66_56 : cm_at ins_66 56 = some (.iload 4, 2) := by decide +kernel
theorem g66_56 : Go 66 56 [l0, l1, l2, l3, some (0, x), l5, l6] st G M Q ↔ Go 66 58 [l0, l1, l2, l3, some (0, x), l5, l6] ((0, x) :: st) G M Q := go_iload hq66 k66_56 rfl
theorem k66_58 : cm_at ins_66 58 = some (.bipush (-4), 2) := by decide +kernel
theorem g66_58 : Go 66 58 ls st G M Q ↔ Go 66 60 ls ((0, (-4)) :: st) G M Q := go_bipush hq66 k66_58 (by decide)
theorem k66_60 : cm_at ins_66 60 = some (.if_icmp .ne 17, 3) := by decide +kernel
theorem g66_60 : Go 66 60 ls ((0, b) :: (0, a) :: st) G M Q ↔ (cm_in a ∧ cm_in b) ∧ (¬ a = b → Go 66 77 ls st G M Q) ∧ (a = b → Go 66 63 ls st G M Q) := go_icmp_ne hq66 k66_60 (by decide)
theorem k66_63 : cm_at ins_66 63 = some (.aload_n 0, 1) := by decide +kernel
theorem g66_63 : Go 66 63 [some (2, x), l1, l2, l3, l4, l5, l6] st G M Q ↔ Go 66 64 [some (2, x), l1, l2, l3, l4, l5, l6] ((2, x) :: st) G M Q := go_aload_n hq66 k66_63 rfl
theorem k66_64 : cm_at ins_66 64 = some (.iconst 0, 1) := by decide +kernel
theorem g66_64 : Go 66 64 ls st G M Q ↔ Go 66 65 ls ((0, 0) :: st) G M Q := go_iconst hq66 k66_64
theorem k66_65 : cm_at ins_66 65 = some (.invokevirtual 10, 3) := by decide +kernel
theorem c66_65 (h8 : cm_sum st ≤ 8) (hk : cm_sh G k = some (0, 5)) (K : Go 55 0 [some (2, k), some (0, y)] [] G M (fun r G' M' => Go 66 68 ls (r.toList ++ st) G' M' Q)) : Go 66 65 ls ((0, y) :: (2, k) :: st) G M Q := go_callV hq66 k66_65 fc7_10 hq55 rfl (as := [(0, y), (2, k)]) rfl rfl (Nat.le_of_ble_eq_true rfl) rfl h8 hk K
theorem k66_68 : cm_at ins_66 68 = some (.bipush 40, 2) := by decide +kernel
theorem g66_68 : Go 66 68 ls st G M Q ↔ Go 66 70 ls ((0, 40) :: st) G M Q := go_bipush hq66 k66_68 (by decide)
theorem k66_70 : cm_at ins_66 70 = some (.if_icmp .ne 7, 3) := by decide +kernel
theorem g66_70 : Go 66 70 ls ((0, b) :: (0, a) :: st) G M Q ↔ (cm_in a ∧ cm_in b) ∧ (¬ a = b → Go 66 77 ls st G M Q) ∧ (a = b → Go 66 73 ls st G M Q) := go_icmp_ne hq66 k66_70 (by decide)
theorem k66_73 : cm_at ins_66 73 = some (.iconst 1, 1) := by decide +kernel
theorem g66_73 : Go 66 73 ls st G M Q ↔ Go 66 74 ls ((0, 1) :: st) G M Q := go_iconst hq66 k66_73
theorem k66_74 : cm_at ins_66 74 = some (.goto 4, 3) := by decide +kernel
theorem g66_74 : Go 66 74 ls st G M Q ↔ Go 66 78 ls st G M Q := go_goto hq66 k66_74 (by decide)
theorem k66_77 : cm_at ins_66 77 = some (.iconst 0, 1) := by decide +kernel
theorem g66_77 : Go 66 77 ls st G M Q ↔ Go 66 78 ls ((0, 0) :: st) G M Q := go_iconst hq66 k66_77
theorem k66_78 : cm_at ins_66 78 = some (.ireturn, 1) := by decide +kernel
theorem g66_78 : Go 66 78 ls [(0, v)] G M Q ↔ (v = 0 ∨ v = 1) ∧ Q (some (0, v)) G M := go_zreturn hq66 k66_78 rfl
theorem k66_79 : cm_at ins_66 79 = some (.iload_n 1, 1) := by decide +kernel
theorem g66_79 : Go 66 79 [l0, some (0, x), l2, l3, l4, l5, l6] st G M Q ↔ Go 66 80 [l0, some (0, x), l2, l3, l4, l5, l6] ((0, x) :: st) G M Q := go_iload_n hq66 k66_79 rfl
theorem k66_80 : cm_at ins_66 80 = some (.bipush 16, 2) := by decide +kernel
theorem g66_80 : Go 66 80 ls st G M Q ↔ Go 66 82 ls ((0, 16) :: st) G M Q := go_bipush hq66 k66_80 (by decide)
theorem k66_82 : cm_at ins_66 82 = some (.ishr, 1) := by decide +kernel
theorem g66_82 : Go 66 82 ls ((0, b) :: (0, a) :: st) G M Q ↔ Go 66 83 ls ((0, cm_ishr a b) :: st) G M Q := go_ishr hq66 k66_82
theorem k66_83 : cm_at ins_66 83 = some (.iconst 5, 1) := by decide +kernel
theorem g66_83 : Go 66 83 ls st G M Q ↔ Go 66 84 ls ((0, 5) :: st) G M Q := go_iconst hq66 k66_83
theorem k66_84 : cm_at ins_66 84 = some (.invokestatic 16, 3) := by decide +kernel
theorem c66_84 (h8 : cm_sum st ≤ 8) (K : Go 65 0 [some (0, x), some (0, y)] [] G M (fun r G' M' => Go 66 87 ls (r.toList ++ st) G' M' Q)) : Go 66 84 ls ((0, y) :: (0, x) :: st) G M Q := go_callS hq66 k66_84 fc7_16 ⟨by decide, by decide⟩ hq65 rfl (as := [(0, y), (0, x)]) rfl rfl (Nat.le_of_ble_eq_true rfl) h8 K
theorem k66_87 : cm_at ins_66 87 = some (.ifCond .ne 17, 3) := by decide +kernel
theorem g66_87 : Go 66 87 ls ((0, a) :: st) G M Q ↔ cm_in a ∧ (¬ a = 0 → Go 66 104 ls st G M Q) ∧ (a = 0 → Go 66 90 ls st G M Q) := go_if_ne hq66 k66_87 (by decide)
theorem k66_90 : cm_at ins_66 90 = some (.iconst 1, 1) := by decide +kernel
theorem g66_90 : Go 66 90 ls st G M Q ↔ Go 66 91 ls ((0, 1) :: st) G M Q := go_iconst hq66 k66_90
theorem k66_91 : cm_at ins_66 91 = some (.iload_n 1, 1) := by decide +kernel
theorem g66_91 : Go 66 91 [l0, some (0, x), l2, l3, l4, l5, l6] st G M Q ↔ Go 66 92 [l0, some (0, x), l2, l3, l4, l5, l6] ((0, x) :: st) G M Q := go_iload_n hq66 k66_91 rfl
theorem k66_92 : cm_at ins_66 92 = some (.bipush 19, 2) := by decide +kernel
theorem g66_92 : Go 66 92 ls st G M Q ↔ Go 66 94 ls ((0, 19) :: st) G M Q := go_bipush hq66 k66_92 (by decide)
theorem k66_94 : cm_at ins_66 94 = some (.ishr, 1) := by decide +kernel
theorem g66_94 : Go 66 94 ls ((0, b) :: (0, a) :: st) G M Q ↔ Go 66 95 ls ((0, cm_ishr a b) :: st) G M Q := go_ishr hq66 k66_94
theorem k66_95 : cm_at ins_66 95 = some (.bipush 30, 2) := by decide +kernel
theorem g66_95 : Go 66 95 ls st G M Q ↔ Go 66 97 ls ((0, 30) :: st) G M Q := go_bipush hq66 k66_95 (by decide)
theorem k66_97 : cm_at ins_66 97 = some (.invokestatic 16, 3) := by decide +kernel
theorem c66_97 (h8 : cm_sum st ≤ 8) (K : Go 65 0 [some (0, x), some (0, y)] [] G M (fun r G' M' => Go 66 100 ls (r.toList ++ st) G' M' Q)) : Go 66 97 ls ((0, y) :: (0, x) :: st) G M Q := go_callS hq66 k66_97 fc7_16 ⟨by decide, by decide⟩ hq65 rfl (as := [(0, y), (0, x)]) rfl rfl (Nat.le_of_ble_eq_true rfl) h8 K
theorem k66_100 : cm_at ins_66 100 = some (.iadd, 1) := by decide +kernel
theorem g66_100 : Go 66 100 ls ((0, b) :: (0, a) :: st) G M Q ↔ Go 66 101 ls ((0, a + b) :: st) G M Q := go_iadd hq66 k66_100
theorem k66_101 : cm_at ins_66 101 = some (.goto 4, 3) := by decide +kernel
theorem g66_101 : Go 66 101 ls st G M Q ↔ Go 66 105 ls st G M Q := go_goto hq66 k66_101 (by decide)
theorem k66_104 : cm_at ins_66 104 = some (.iconst 0, 1) := by decide +kernel
theorem g66_104 : Go 66 104 ls st G M Q ↔ Go 66 105 ls ((0, 0) :: st) G M Q := go_iconst hq66 k66_104
theorem k66_105 : cm_at ins_66 105 = some (.istore 5, 2) := by decide +kernel
theorem g66_105 : Go 66 105 [l0, l1, l2, l3, l4, l5, l6] ((0, x) :: st) G M Q ↔ Go 66 107 [l0, l1, l2, l3, l4, some (0, x), l6] st G M Q := go_istore hq66 k66_105 ⟨Nat.le_of_ble_eq_true rfl, rfl, by decide⟩
theorem k66_107 : cm_at ins_66 107 = some (.iload 4, 2) := by decide +kernel
theorem g66_107 : Go 66 107 [l0, l1, l2, l3, some (0, x), l5, l6] st G M Q ↔ Go 66 109 [l0, l1, l2, l3, some (0, x), l5, l6] ((0, x) :: st) G M Q := go_iload hq66 k66_107 rfl
theorem k66_109 : cm_at ins_66 109 = some (.iload_n 2, 1) := by decide +kernel
theorem g66_109 : Go 66 109 [l0, l1, some (0, x), l3, l4, l5, l6] st G M Q ↔ Go 66 110 [l0, l1, some (0, x), l3, l4, l5, l6] ((0, x) :: st) G M Q := go_iload_n hq66 k66_109 rfl
theorem k66_110 : cm_at ins_66 110 = some (.if_icmp .ne 93, 3) := by decide +kernel
theorem g66_110 : Go 66 110 ls ((0, b) :: (0, a) :: st) G M Q ↔ (cm_in a ∧ cm_in b) ∧ (¬ a = b → Go 66 203 ls st G M Q) ∧ (a = b → Go 66 113 ls st G M Q) := go_icmp_ne hq66 k66_110 (by decide)
theorem k66_113 : cm_at ins_66 113 = some (.aload_n 0, 1) := by decide +kernel
theorem g66_113 : Go 66 113 [some (2, x), l1, l2, l3, l4, l5, l6] st G M Q ↔ Go 66 114 [some (2, x), l1, l2, l3, l4, l5, l6] ((2, x) :: st) G M Q := go_aload_n hq66 k66_113 rfl
theorem k66_114 : cm_at ins_66 114 = some (.iconst 0, 1) := by decide +kernel
theorem g66_114 : Go 66 114 ls st G M Q ↔ Go 66 115 ls ((0, 0) :: st) G M Q := go_iconst hq66 k66_114
theorem k66_115 : cm_at ins_66 115 = some (.invokevirtual 10, 3) := by decide +kernel
theorem c66_115 (h8 : cm_sum st ≤ 8) (hk : cm_sh G k = some (0, 5)) (K : Go 55 0 [some (2, k), some (0, y)] [] G M (fun r G' M' => Go 66 118 ls (r.toList ++ st) G' M' Q)) : Go 66 115 ls ((0, y) :: (2, k) :: st) G M Q := go_callV hq66 k66_115 fc7_10 hq55 rfl (as := [(0, y), (2, k)]) rfl rfl (Nat.le_of_ble_eq_true rfl) rfl h8 hk K
theorem k66_118 : cm_at ins_66 118 = some (.iload_n 2, 1) := by decide +kernel
theorem g66_118 : Go 66 118 [l0, l1, some (0, x), l3, l4, l5, l6] st G M Q ↔ Go 66 119 [l0, l1, some (0, x), l3, l4, l5, l6] ((0, x) :: st) G M Q := go_iload_n hq66 k66_118 rfl
theorem k66_119 : cm_at ins_66 119 = some (.iconst 1, 1) := by decide +kernel
theorem g66_119 : Go 66 119 ls st G M Q ↔ Go 66 120 ls ((0, 1) :: st) G M Q := go_iconst hq66 k66_119
theorem k66_120 : cm_at ins_66 120 = some (.iadd, 1) := by decide +kernel
theorem g66_120 : Go 66 120 ls ((0, b) :: (0, a) :: st) G M Q ↔ Go 66 121 ls ((0, a + b) :: st) G M Q := go_iadd hq66 k66_120
theorem k66_121 : cm_at ins_66 121 = some (.if_icmp .ne 82, 3) := by decide +kernel
theorem g66_121 : Go 66 121 ls ((0, b) :: (0, a) :: st) G M Q ↔ (cm_in a ∧ cm_in b) ∧ (¬ a = b → Go 66 203 ls st G M Q) ∧ (a = b → Go 66 124 ls st G M Q) := go_icmp_ne hq66 k66_121 (by decide)
theorem k66_124 : cm_at ins_66 124 = some (.aload_n 0, 1) := by decide +kernel
theorem g66_124 : Go 66 124 [some (2, x), l1, l2, l3, l4, l5, l6] st G M Q ↔ Go 66 125 [some (2, x), l1, l2, l3, l4, l5, l6] ((2, x) :: st) G M Q := go_aload_n hq66 k66_124 rfl
theorem k66_125 : cm_at ins_66 125 = some (.iload_n 2, 1) := by decide +kernel
theorem g66_125 : Go 66 125 [l0, l1, some (0, x), l3, l4, l5, l6] st G M Q ↔ Go 66 126 [l0, l1, some (0, x), l3, l4, l5, l6] ((0, x) :: st) G M Q := go_iload_n hq66 k66_125 rfl
theorem k66_126 : cm_at ins_66 126 = some (.iconst 0, 1) := by decide +kernel
theorem g66_126 : Go 66 126 ls st G M Q ↔ Go 66 127 ls ((0, 0) :: st) G M Q := go_iconst hq66 k66_126
theorem k66_127 : cm_at ins_66 127 = some (.invokevirtual 28, 3) := by decide +kernel
theorem c66_127 (h8 : cm_sum st ≤ 8) (hk : cm_sh G k = some (0, 5)) (K : Go 52 0 [some (2, k), some (0, y), some (0, z)] [] G M (fun r G' M' => Go 66 130 ls (r.toList ++ st) G' M' Q)) : Go 66 127 ls ((0, z) :: (0, y) :: (2, k) :: st) G M Q := go_callV hq66 k66_127 fc7_28 hq52 rfl (as := [(0, z), (0, y), (2, k)]) rfl rfl (Nat.le_of_ble_eq_true rfl) rfl h8 hk K
theorem k66_130 : cm_at ins_66 130 = some (.iload_n 3, 1) := by decide +kernel
theorem g66_130 : Go 66 130 [l0, l1, l2, some (0, x), l4, l5, l6] st G M Q ↔ Go 66 131 [l0, l1, l2, some (0, x), l4, l5, l6] ((0, x) :: st) G M Q := go_iload_n hq66 k66_130 rfl
theorem k66_131 : cm_at ins_66 131 = some (.iconst 4, 1) := by decide +kernel
theorem g66_131 : Go 66 131 ls st G M Q ↔ Go 66 132 ls ((0, 4) :: st) G M Q := go_iconst hq66 k66_131
theorem k66_132 : cm_at ins_66 132 = some (.if_icmp .ge 7, 3) := by decide +kernel
theorem g66_132 : Go 66 132 ls ((0, b) :: (0, a) :: st) G M Q ↔ (cm_in a ∧ cm_in b) ∧ (¬ a < b → Go 66 139 ls st G M Q) ∧ (a < b → Go 66 135 ls st G M Q) := go_icmp_ge hq66 k66_132 (by decide)
theorem k66_135 : cm_at ins_66 135 = some (.iconst 0, 1) := by decide +kernel
theorem g66_135 : Go 66 135 ls st G M Q ↔ Go 66 136 ls ((0, 0) :: st) G M Q := go_iconst hq66 k66_135
theorem k66_136 : cm_at ins_66 136 = some (.goto 6, 3) := by decide +kernel
theorem g66_136 : Go 66 136 ls st G M Q ↔ Go 66 142 ls st G M Q := go_goto hq66 k66_136 (by decide)
theorem k66_139 : cm_at ins_66 139 = some (.iload_n 3, 1) := by decide +kernel
theorem g66_139 : Go 66 139 [l0, l1, l2, some (0, x), l4, l5, l6] st G M Q ↔ Go 66 140 [l0, l1, l2, some (0, x), l4, l5, l6] ((0, x) :: st) G M Q := go_iload_n hq66 k66_139 rfl
theorem k66_140 : cm_at ins_66 140 = some (.iconst 3, 1) := by decide +kernel
theorem g66_140 : Go 66 140 ls st G M Q ↔ Go 66 141 ls ((0, 3) :: st) G M Q := go_iconst hq66 k66_140
theorem k66_141 : cm_at ins_66 141 = some (.isub, 1) := by decide +kernel
theorem g66_141 : Go 66 141 ls ((0, b) :: (0, a) :: st) G M Q ↔ Go 66 142 ls ((0, a - b) :: st) G M Q := go_isub hq66 k66_141
theorem k66_142 : cm_at ins_66 142 = some (.if_icmp .ne 61, 3) := by decide +kernel
theorem g66_142 : Go 66 142 ls ((0, b) :: (0, a) :: st) G M Q ↔ (cm_in a ∧ cm_in b) ∧ (¬ a = b → Go 66 203 ls st G M Q) ∧ (a = b → Go 66 145 ls st G M Q) := go_icmp_ne hq66 k66_142 (by decide)
theorem k66_145 : cm_at ins_66 145 = some (.aload_n 0, 1) := by decide +kernel
theorem g66_145 : Go 66 145 [some (2, x), l1, l2, l3, l4, l5, l6] st G M Q ↔ Go 66 146 [some (2, x), l1, l2, l3, l4, l5, l6] ((2, x) :: st) G M Q := go_aload_n hq66 k66_145 rfl
theorem k66_146 : cm_at ins_66 146 = some (.iload_n 2, 1) := by decide +kernel
theorem g66_146 : Go 66 146 [l0, l1, some (0, x), l3, l4, l5, l6] st G M Q ↔ Go 66 147 [l0, l1, some (0, x), l3, l4, l5, l6] ((0, x) :: st) G M Q := go_iload_n hq66 k66_146 rfl
theorem k66_147 : cm_at ins_66 147 = some (.iconst 1, 1) := by decide +kernel
theorem g66_147 : Go 66 147 ls st G M Q ↔ Go 66 148 ls ((0, 1) :: st) G M Q := go_iconst hq66 k66_147
theorem k66_148 : cm_at ins_66 148 = some (.invokevirtual 28, 3) := by decide +kernel
theorem c66_148 (h8 : cm_sum st ≤ 8) (hk : cm_sh G k = some (0, 5)) (K : Go 52 0 [some (2, k), some (0, y), some (0, z)] [] G M (fun r G' M' => Go 66 151 ls (r.toList ++ st) G' M' Q)) : Go 66 148 ls ((0, z) :: (0, y) :: (2, k) :: st) G M Q := go_callV hq66 k66_148 fc7_28 hq52 rfl (as := [(0, z), (0, y), (2, k)]) rfl rfl (Nat.le_of_ble_eq_true rfl) rfl h8 hk K
theorem k66_151 : cm_at ins_66 151 = some (.iload_n 3, 1) := by decide +kernel
theorem g66_151 : Go 66 151 [l0, l1, l2, some (0, x), l4, l5, l6] st G M Q ↔ Go 66 152 [l0, l1, l2, some (0, x), l4, l5, l6] ((0, x) :: st) G M Q := go_iload_n hq66 k66_151 rfl
theorem k66_152 : cm_at ins_66 152 = some (.iconst 4, 1) := by decide +kernel
theorem g66_152 : Go 66 152 ls st G M Q ↔ Go 66 153 ls ((0, 4) :: st) G M Q := go_iconst hq66 k66_152
theorem k66_153 : cm_at ins_66 153 = some (.if_icmp .ge 13, 3) := by decide +kernel
theorem g66_153 : Go 66 153 ls ((0, b) :: (0, a) :: st) G M Q ↔ (cm_in a ∧ cm_in b) ∧ (¬ a < b → Go 66 166 ls st G M Q) ∧ (a < b → Go 66 156 ls st G M Q) := go_icmp_ge hq66 k66_153 (by decide)
theorem k66_156 : cm_at ins_66 156 = some (.iload_n 1, 1) := by decide +kernel
theorem g66_156 : Go 66 156 [l0, some (0, x), l2, l3, l4, l5, l6] st G M Q ↔ Go 66 157 [l0, some (0, x), l2, l3, l4, l5, l6] ((0, x) :: st) G M Q := go_iload_n hq66 k66_156 rfl
theorem k66_157 : cm_at ins_66 157 = some (.iconst 3, 1) := by decide +kernel
theorem g66_157 : Go 66 157 ls st G M Q ↔ Go 66 158 ls ((0, 3) :: st) G M Q := go_iconst hq66 k66_157
theorem k66_158 : cm_at ins_66 158 = some (.ishr, 1) := by decide +kernel
theorem g66_158 : Go 66 158 ls ((0, b) :: (0, a) :: st) G M Q ↔ Go 66 159 ls ((0, cm_ishr a b) :: st) G M Q := go_ishr hq66 k66_158
theorem k66_159 : cm_at ins_66 159 = some (.iconst 3, 1) := by decide +kernel
theorem g66_159 : Go 66 159 ls st G M Q ↔ Go 66 160 ls ((0, 3) :: st) G M Q := go_iconst hq66 k66_159
theorem k66_160 : cm_at ins_66 160 = some (.invokestatic 16, 3) := by decide +kernel
theorem c66_160 (h8 : cm_sum st ≤ 8) (K : Go 65 0 [some (0, x), some (0, y)] [] G M (fun r G' M' => Go 66 163 ls (r.toList ++ st) G' M' Q)) : Go 66 160 ls ((0, y) :: (0, x) :: st) G M Q := go_callS hq66 k66_160 fc7_16 ⟨by decide, by decide⟩ hq65 rfl (as := [(0, y), (0, x)]) rfl rfl (Nat.le_of_ble_eq_true rfl) h8 K
theorem k66_163 : cm_at ins_66 163 = some (.goto 5, 3) := by decide +kernel
theorem g66_163 : Go 66 163 ls st G M Q ↔ Go 66 168 ls st G M Q := go_goto hq66 k66_163 (by decide)
theorem k66_166 : cm_at ins_66 166 = some (.bipush (-6), 2) := by decide +kernel
theorem g66_166 : Go 66 166 ls st G M Q ↔ Go 66 168 ls ((0, (-6)) :: st) G M Q := go_bipush hq66 k66_166 (by decide)
theorem k66_168 : cm_at ins_66 168 = some (.if_icmp .ne 35, 3) := by decide +kernel
theorem g66_168 : Go 66 168 ls ((0, b) :: (0, a) :: st) G M Q ↔ (cm_in a ∧ cm_in b) ∧ (¬ a = b → Go 66 203 ls st G M Q) ∧ (a = b → Go 66 171 ls st G M Q) := go_icmp_ne hq66 k66_168 (by decide)
theorem k66_171 : cm_at ins_66 171 = some (.aload_n 0, 1) := by decide +kernel
theorem g66_171 : Go 66 171 [some (2, x), l1, l2, l3, l4, l5, l6] st G M Q ↔ Go 66 172 [some (2, x), l1, l2, l3, l4, l5, l6] ((2, x) :: st) G M Q := go_aload_n hq66 k66_171 rfl
theorem k66_172 : cm_at ins_66 172 = some (.iload_n 2, 1) := by decide +kernel
theorem g66_172 : Go 66 172 [l0, l1, some (0, x), l3, l4, l5, l6] st G M Q ↔ Go 66 173 [l0, l1, some (0, x), l3, l4, l5, l6] ((0, x) :: st) G M Q := go_iload_n hq66 k66_172 rfl
theorem k66_173 : cm_at ins_66 173 = some (.iconst 2, 1) := by decide +kernel
theorem g66_173 : Go 66 173 ls st G M Q ↔ Go 66 174 ls ((0, 2) :: st) G M Q := go_iconst hq66 k66_173
theorem k66_174 : cm_at ins_66 174 = some (.invokevirtual 28, 3) := by decide +kernel
theorem c66_174 (h8 : cm_sum st ≤ 8) (hk : cm_sh G k = some (0, 5)) (K : Go 52 0 [some (2, k), some (0, y), some (0, z)] [] G M (fun r G' M' => Go 66 177 ls (r.toList ++ st) G' M' Q)) : Go 66 174 ls ((0, z) :: (0, y) :: (2, k) :: st) G M Q := go_callV hq66 k66_174 fc7_28 hq52 rfl (as := [(0, z), (0, y), (2, k)]) rfl rfl (Nat.le_of_ble_eq_true rfl) rfl h8 hk K
theorem k66_177 : cm_at ins_66 177 = some (.iload_n 3, 1) := by decide +kernel
theorem g66_177 : Go 66 177 [l0, l1, l2, some (0, x), l4, l5, l6] st G M Q ↔ Go 66 178 [l0, l1, l2, some (0, x), l4, l5, l6] ((0, x) :: st) G M Q := go_iload_n hq66 k66_177 rfl
theorem k66_178 : cm_at ins_66 178 = some (.iconst 4, 1) := by decide +kernel
theorem g66_178 : Go 66 178 ls st G M Q ↔ Go 66 179 ls ((0, 4) :: st) G M Q := go_iconst hq66 k66_178
theorem k66_179 : cm_at ins_66 179 = some (.if_icmp .ge 15, 3) := by decide +kernel
theorem g66_179 : Go 66 179 ls ((0, b) :: (0, a) :: st) G M Q ↔ (cm_in a ∧ cm_in b) ∧ (¬ a < b → Go 66 194 ls st G M Q) ∧ (a < b → Go 66 182 ls st G M Q) := go_icmp_ge hq66 k66_179 (by decide)
theorem k66_182 : cm_at ins_66 182 = some (.iload_n 1, 1) := by decide +kernel
theorem g66_182 : Go 66 182 [l0, some (0, x), l2, l3, l4, l5, l6] st G M Q ↔ Go 66 183 [l0, some (0, x), l2, l3, l4, l5, l6] ((0, x) :: st) G M Q := go_iload_n hq66 k66_182 rfl
theorem k66_183 : cm_at ins_66 183 = some (.iconst 5, 1) := by decide +kernel
theorem g66_183 : Go 66 183 ls st G M Q ↔ Go 66 184 ls ((0, 5) :: st) G M Q := go_iconst hq66 k66_183
theorem k66_184 : cm_at ins_66 184 = some (.ishr, 1) := by decide +kernel
theorem g66_184 : Go 66 184 ls ((0, b) :: (0, a) :: st) G M Q ↔ Go 66 185 ls ((0, cm_ishr a b) :: st) G M Q := go_ishr hq66 k66_184
theorem k66_185 : cm_at ins_66 185 = some (.sipush 1000, 3) := by decide +kernel
theorem g66_185 : Go 66 185 ls st G M Q ↔ Go 66 188 ls ((0, 1000) :: st) G M Q := go_sipush hq66 k66_185 (by decide)
theorem k66_188 : cm_at ins_66 188 = some (.invokestatic 16, 3) := by decide +kernel
theorem c66_188 (h8 : cm_sum st ≤ 8) (K : Go 65 0 [some (0, x), some (0, y)] [] G M (fun r G' M' => Go 66 191 ls (r.toList ++ st) G' M' Q)) : Go 66 188 ls ((0, y) :: (0, x) :: st) G M Q := go_callS hq66 k66_188 fc7_16 ⟨by decide, by decide⟩ hq65 rfl (as := [(0, y), (0, x)]) rfl rfl (Nat.le_of_ble_eq_true rfl) h8 K
theorem k66_191 : cm_at ins_66 191 = some (.goto 5, 3) := by decide +kernel
theorem g66_191 : Go 66 191 ls st G M Q ↔ Go 66 196 ls st G M Q := go_goto hq66 k66_191 (by decide)
theorem k66_194 : cm_at ins_66 194 = some (.bipush (-6), 2) := by decide +kernel
theorem g66_194 : Go 66 194 ls st G M Q ↔ Go 66 196 ls ((0, (-6)) :: st) G M Q := go_bipush hq66 k66_194 (by decide)
theorem k66_196 : cm_at ins_66 196 = some (.if_icmp .ne 7, 3) := by decide +kernel
theorem g66_196 : Go 66 196 ls ((0, b) :: (0, a) :: st) G M Q ↔ (cm_in a ∧ cm_in b) ∧ (¬ a = b → Go 66 203 ls st G M Q) ∧ (a = b → Go 66 199 ls st G M Q) := go_icmp_ne hq66 k66_196 (by decide)
theorem k66_199 : cm_at ins_66 199 = some (.iconst 1, 1) := by decide +kernel
theorem g66_199 : Go 66 199 ls st G M Q ↔ Go 66 200 ls ((0, 1) :: st) G M Q := go_iconst hq66 k66_199
theorem k66_200 : cm_at ins_66 200 = some (.goto 4, 3) := by decide +kernel
theorem g66_200 : Go 66 200 ls st G M Q ↔ Go 66 204 ls st G M Q := go_goto hq66 k66_200 (by decide)
theorem k66_203 : cm_at ins_66 203 = some (.iconst 0, 1) := by decide +kernel
theorem g66_203 : Go 66 203 ls st G M Q ↔ Go 66 204 ls ((0, 0) :: st) G M Q := go_iconst hq66 k66_203
theorem k66_204 : cm_at ins_66 204 = some (.istore 6, 2) := by decide +kernel
theorem g66_204 : Go 66 204 [l0, l1, l2, l3, l4, l5, l6] ((0, x) :: st) G M Q ↔ Go 66 206 [l0, l1, l2, l3, l4, l5, some (0, x)] st G M Q := go_istore hq66 k66_204 ⟨Nat.le_of_ble_eq_true rfl, rfl, by decide⟩
theorem k66_206 : cm_at ins_66 206 = some (.iload 6, 2) := by decide +kernel
theorem g66_206 : Go 66 206 [l0, l1, l2, l3, l4, l5, some (0, x)] st G M Q ↔ Go 66 208 [l0, l1, l2, l3, l4, l5, some (0, x)] ((0, x) :: st) G M Q := go_iload hq66 k66_206 rfl
theorem k66_208 : cm_at ins_66 208 = some (.ifCond .eq 42, 3) := by decide +kernel
theorem g66_208 : Go 66 208 ls ((0, a) :: st) G M Q ↔ cm_in a ∧ (a = 0 → Go 66 250 ls st G M Q) ∧ (¬ a = 0 → Go 66 211 ls st G M Q) := go_if_eq hq66 k66_208 (by decide)
theorem k66_211 : cm_at ins_66 211 = some (.aload_n 0, 1) := by decide +kernel
theorem g66_211 : Go 66 211 [some (2, x), l1, l2, l3, l4, l5, l6] st G M Q ↔ Go 66 212 [some (2, x), l1, l2, l3, l4, l5, l6] ((2, x) :: st) G M Q := go_aload_n hq66 k66_211 rfl
theorem k66_212 : cm_at ins_66 212 = some (.iload_n 2, 1) := by decide +kernel
theorem g66_212 : Go 66 212 [l0, l1, some (0, x), l3, l4, l5, l6] st G M Q ↔ Go 66 213 [l0, l1, some (0, x), l3, l4, l5, l6] ((0, x) :: st) G M Q := go_iload_n hq66 k66_212 rfl
theorem k66_213 : cm_at ins_66 213 = some (.iconst 3, 1) := by decide +kernel
theorem g66_213 : Go 66 213 ls st G M Q ↔ Go 66 214 ls ((0, 3) :: st) G M Q := go_iconst hq66 k66_213
theorem k66_214 : cm_at ins_66 214 = some (.invokevirtual 28, 3) := by decide +kernel
theorem c66_214 (h8 : cm_sum st ≤ 8) (hk : cm_sh G k = some (0, 5)) (K : Go 52 0 [some (2, k), some (0, y), some (0, z)] [] G M (fun r G' M' => Go 66 217 ls (r.toList ++ st) G' M' Q)) : Go 66 214 ls ((0, z) :: (0, y) :: (2, k) :: st) G M Q := go_callV hq66 k66_214 fc7_28 hq52 rfl (as := [(0, z), (0, y), (2, k)]) rfl rfl (Nat.le_of_ble_eq_true rfl) rfl h8 hk K
theorem k66_217 : cm_at ins_66 217 = some (.ifCond .ne 33, 3) := by decide +kernel
theorem g66_217 : Go 66 217 ls ((0, a) :: st) G M Q ↔ cm_in a ∧ (¬ a = 0 → Go 66 250 ls st G M Q) ∧ (a = 0 → Go 66 220 ls st G M Q) := go_if_ne hq66 k66_217 (by decide)
theorem k66_220 : cm_at ins_66 220 = some (.iload 5, 2) := by decide +kernel
theorem g66_220 : Go 66 220 [l0, l1, l2, l3, l4, some (0, x), l6] st G M Q ↔ Go 66 222 [l0, l1, l2, l3, l4, some (0, x), l6] ((0, x) :: st) G M Q := go_iload hq66 k66_220 rfl
theorem k66_222 : cm_at ins_66 222 = some (.ifCond .eq 24, 3) := by decide +kernel
theorem g66_222 : Go 66 222 ls ((0, a) :: st) G M Q ↔ cm_in a ∧ (a = 0 → Go 66 246 ls st G M Q) ∧ (¬ a = 0 → Go 66 225 ls st G M Q) := go_if_eq hq66 k66_222 (by decide)
theorem k66_225 : cm_at ins_66 225 = some (.aload_n 0, 1) := by decide +kernel
theorem g66_225 : Go 66 225 [some (2, x), l1, l2, l3, l4, l5, l6] st G M Q ↔ Go 66 226 [some (2, x), l1, l2, l3, l4, l5, l6] ((2, x) :: st) G M Q := go_aload_n hq66 k66_225 rfl
theorem k66_226 : cm_at ins_66 226 = some (.iload_n 2, 1) := by decide +kernel
theorem g66_226 : Go 66 226 [l0, l1, some (0, x), l3, l4, l5, l6] st G M Q ↔ Go 66 227 [l0, l1, some (0, x), l3, l4, l5, l6] ((0, x) :: st) G M Q := go_iload_n hq66 k66_226 rfl
theorem k66_227 : cm_at ins_66 227 = some (.iload 5, 2) := by decide +kernel
theorem g66_227 : Go 66 227 [l0, l1, l2, l3, l4, some (0, x), l6] st G M Q ↔ Go 66 229 [l0, l1, l2, l3, l4, some (0, x), l6] ((0, x) :: st) G M Q := go_iload hq66 k66_227 rfl
theorem k66_229 : cm_at ins_66 229 = some (.invokevirtual 31, 3) := by decide +kernel
theorem c66_229 (h8 : cm_sum st ≤ 8) (hk : cm_sh G k = some (0, 5)) (K : Go 49 0 [some (2, k), some (0, y), some (0, z), none] [] G M (fun r G' M' => Go 66 232 ls (r.toList ++ st) G' M' Q)) : Go 66 229 ls ((0, z) :: (0, y) :: (2, k) :: st) G M Q := go_callV hq66 k66_229 fc7_31 hq49 rfl (as := [(0, z), (0, y), (2, k)]) rfl rfl (Nat.le_of_ble_eq_true rfl) rfl h8 hk K
theorem k66_232 : cm_at ins_66 232 = some (.ifCond .ne 18, 3) := by decide +kernel
theorem g66_232 : Go 66 232 ls ((0, a) :: st) G M Q ↔ cm_in a ∧ (¬ a = 0 → Go 66 250 ls st G M Q) ∧ (a = 0 → Go 66 235 ls st G M Q) := go_if_ne hq66 k66_232 (by decide)
theorem k66_235 : cm_at ins_66 235 = some (.aload_n 0, 1) := by decide +kernel
theorem g66_235 : Go 66 235 [some (2, x), l1, l2, l3, l4, l5, l6] st G M Q ↔ Go 66 236 [some (2, x), l1, l2, l3, l4, l5, l6] ((2, x) :: st) G M Q := go_aload_n hq66 k66_235 rfl
theorem k66_236 : cm_at ins_66 236 = some (.iload_n 2, 1) := by decide +kernel
theorem g66_236 : Go 66 236 [l0, l1, some (0, x), l3, l4, l5, l6] st G M Q ↔ Go 66 237 [l0, l1, some (0, x), l3, l4, l5, l6] ((0, x) :: st) G M Q := go_iload_n hq66 k66_236 rfl
theorem k66_237 : cm_at ins_66 237 = some (.iconst 3, 1) := by decide +kernel
theorem g66_237 : Go 66 237 ls st G M Q ↔ Go 66 238 ls ((0, 3) :: st) G M Q := go_iconst hq66 k66_237
theorem k66_238 : cm_at ins_66 238 = some (.invokevirtual 28, 3) := by decide +kernel
theorem c66_238 (h8 : cm_sum st ≤ 8) (hk : cm_sh G k = some (0, 5)) (K : Go 52 0 [some (2, k), some (0, y), some (0, z)] [] G M (fun r G' M' => Go 66 241 ls (r.toList ++ st) G' M' Q)) : Go 66 238 ls ((0, z) :: (0, y) :: (2, k) :: st) G M Q := go_callV hq66 k66_238 fc7_28 hq52 rfl (as := [(0, z), (0, y), (2, k)]) rfl rfl (Nat.le_of_ble_eq_true rfl) rfl h8 hk K
theorem k66_241 : cm_at ins_66 241 = some (.iload 5, 2) := by decide +kernel
theorem g66_241 : Go 66 241 [l0, l1, l2, l3, l4, some (0, x), l6] st G M Q ↔ Go 66 243 [l0, l1, l2, l3, l4, some (0, x), l6] ((0, x) :: st) G M Q := go_iload hq66 k66_241 rfl
theorem k66_243 : cm_at ins_66 243 = some (.if_icmp .ne 7, 3) := by decide +kernel
theorem g66_243 : Go 66 243 ls ((0, b) :: (0, a) :: st) G M Q ↔ (cm_in a ∧ cm_in b) ∧ (¬ a = b → Go 66 250 ls st G M Q) ∧ (a = b → Go 66 246 ls st G M Q) := go_icmp_ne hq66 k66_243 (by decide)
theorem k66_246 : cm_at ins_66 246 = some (.iconst 1, 1) := by decide +kernel
theorem g66_246 : Go 66 246 ls st G M Q ↔ Go 66 247 ls ((0, 1) :: st) G M Q := go_iconst hq66 k66_246
theorem k66_247 : cm_at ins_66 247 = some (.goto 4, 3) := by decide +kernel
theorem g66_247 : Go 66 247 ls st G M Q ↔ Go 66 251 ls st G M Q := go_goto hq66 k66_247 (by decide)
theorem k66_250 : cm_at ins_66 250 = some (.iconst 0, 1) := by decide +kernel
theorem g66_250 : Go 66 250 ls st G M Q ↔ Go 66 251 ls ((0, 0) :: st) G M Q := go_iconst hq66 k66_250
theorem k66_251 : cm_at ins_66 251 = some (.ireturn, 1) := by decide +kernel
theorem g66_251 : Go 66 251 ls [(0, v)] G M Q ↔ (v = 0 ∨ v = 1) ∧ Q (some (0, v)) G M := go_zreturn hq66 k66_251 rfl
theorem k67_0 : cm_at ins_67 0 = some (.iconst 4, 1) := by decide +kernel
theorem g67_0 : Go 67 0 ls st G M Q ↔ Go 67 1 ls ((0, 4) :: st) G M Q := go_iconst hq67 k67_0
theorem k67_1 : cm_at ins_67 1 = some (.iload_n 1, 1) := by decide +kernel
theorem g67_1 : Go 67 1 [l0, some (0, x), l2, l3, l4] st G M Q ↔ Go 67 2 [l0, some (0, x), l2, l3, l4] ((0, x) :: st) G M Q := go_iload_n hq67 k67_1 rfl
theorem k67_2 : cm_at ins_67 2 = some (.bipush 17, 2) := by decide +kernel
theorem g67_2 : Go 67 2 ls st G M Q ↔ Go 67 4 ls ((0, 17) :: st) G M Q := go_bipush hq67 k67_2 (by decide)
theorem k67_4 : cm_at ins_67 4 = some (.invokestatic 16, 3) := by decide +kernel
theorem c67_4 (h8 : cm_sum st ≤ 8) (K : Go 65 0 [some (0, x), some (0, y)] [] G M (fun r G' M' => Go 67 7 ls (r.toList ++ st) G' M' Q)) : Go 67 4 ls ((0, y) :: (0, x) :: st) G M Q := go_callS hq67 k67_4 fc7_16 ⟨by decide, by decide⟩ hq65 rfl (as := [(0, y), (0, x)]) rfl rfl (Nat.le_of_ble_eq_true rfl) h8 K
theorem k67_7 : cm_at ins_67 7 = some (.iadd, 1) := by decide +kernel
theorem g67_7 : Go 67 7 ls ((0, b) :: (0, a) :: st) G M Q ↔ Go 67 8 ls ((0, a + b) :: st) G M Q := go_iadd hq67 k67_7
theorem k67_8 : cm_at ins_67 8 = some (.istore_n 2, 1) := by decide +kernel
theorem g67_8 : Go 67 8 [l0, l1, l2, l3, l4] ((0, x) :: st) G M Q ↔ Go 67 9 [l0, l1, some (0, x), l3, l4] st G M Q := go_istore_n hq67 k67_8 ⟨Nat.le_of_ble_eq_true rfl, rfl, by decide⟩
theorem k67_9 : cm_at ins_67 9 = some (.iconst 1, 1) := by decide +kernel
theorem g67_9 : Go 67 9 ls st G M Q ↔ Go 67 10 ls ((0, 1) :: st) G M Q := go_iconst hq67 k67_9
theorem k67_10 : cm_at ins_67 10 = some (.iload_n 1, 1) := by decide +kernel
theorem g67_10 : Go 67 10 [l0, some (0, x), l2, l3, l4] st G M Q ↔ Go 67 11 [l0, some (0, x), l2, l3, l4] ((0, x) :: st) G M Q := go_iload_n hq67 k67_10 rfl
theorem k67_11 : cm_at ins_67 11 = some (.iconst 5, 1) := by decide +kernel
theorem g67_11 : Go 67 11 ls st G M Q ↔ Go 67 12 ls ((0, 5) :: st) G M Q := go_iconst hq67 k67_11
theorem k67_12 : cm_at ins_67 12 = some (.ishr, 1) := by decide +kernel
theorem g67_12 : Go 67 12 ls ((0, b) :: (0, a) :: st) G M Q ↔ Go 67 13 ls ((0, cm_ishr a b) :: st) G M Q := go_ishr hq67 k67_12
theorem k67_13 : cm_at ins_67 13 = some (.iload_n 1, 1) := by decide +kernel
theorem g67_13 : Go 67 13 [l0, some (0, x), l2, l3, l4] st G M Q ↔ Go 67 14 [l0, some (0, x), l2, l3, l4] ((0, x) :: st) G M Q := go_iload_n hq67 k67_13 rfl
theorem k67_14 : cm_at ins_67 14 = some (.bipush 10, 2) := by decide +kernel
theorem g67_14 : Go 67 14 ls st G M Q ↔ Go 67 16 ls ((0, 10) :: st) G M Q := go_bipush hq67 k67_14 (by decide)
theorem k67_16 : cm_at ins_67 16 = some (.ishr, 1) := by decide +kernel
theorem g67_16 : Go 67 16 ls ((0, b) :: (0, a) :: st) G M Q ↔ Go 67 17 ls ((0, cm_ishr a b) :: st) G M Q := go_ishr hq67 k67_16
theorem k67_17 : cm_at ins_67 17 = some (.iconst 2, 1) := by decide +kernel
theorem g67_17 : Go 67 17 ls st G M Q ↔ Go 67 18 ls ((0, 2) :: st) G M Q := go_iconst hq67 k67_17
theorem k67_18 : cm_at ins_67 18 = some (.invokestatic 16, 3) := by decide +kernel
theorem c67_18 (h8 : cm_sum st ≤ 8) (K : Go 65 0 [some (0, x), some (0, y)] [] G M (fun r G' M' => Go 67 21 ls (r.toList ++ st) G' M' Q)) : Go 67 18 ls ((0, y) :: (0, x) :: st) G M Q := go_callS hq67 k67_18 fc7_16 ⟨by decide, by decide⟩ hq65 rfl (as := [(0, y), (0, x)]) rfl rfl (Nat.le_of_ble_eq_true rfl) h8 K
theorem k67_21 : cm_at ins_67 21 = some (.ifCond .ne 8, 3) := by decide +kernel
theorem g67_21 : Go 67 21 ls ((0, a) :: st) G M Q ↔ cm_in a ∧ (¬ a = 0 → Go 67 29 ls st G M Q) ∧ (a = 0 → Go 67 24 ls st G M Q) := go_if_ne hq67 k67_21 (by decide)
theorem k67_24 : cm_at ins_67 24 = some (.bipush 30, 2) := by decide +kernel
theorem g67_24 : Go 67 24 ls st G M Q ↔ Go 67 26 ls ((0, 30) :: st) G M Q := go_bipush hq67 k67_24 (by decide)
theorem k67_26 : cm_at ins_67 26 = some (.goto 5, 3) := by decide +kernel
theorem g67_26 : Go 67 26 ls st G M Q ↔ Go 67 31 ls st G M Q := go_goto hq67 k67_26 (by decide)
theorem k67_29 : cm_at ins_67 29 = some (.bipush 8, 2) := by decide +kernel
theorem g67_29 : Go 67 29 ls st G M Q ↔ Go 67 31 ls ((0, 8) :: st) G M Q := go_bipush hq67 k67_29 (by decide)
theorem k67_31 : cm_at ins_67 31 = some (.invokestatic 16, 3) := by decide +kernel
theorem c67_31 (h8 : cm_sum st ≤ 8) (K : Go 65 0 [some (0, x), some (0, y)] [] G M (fun r G' M' => Go 67 34 ls (r.toList ++ st) G' M' Q)) : Go 67 31 ls ((0, y) :: (0, x) :: st) G M Q := go_callS hq67 k67_31 fc7_16 ⟨by decide, by decide⟩ hq65 rfl (as := [(0, y), (0, x)]) rfl rfl (Nat.le_of_ble_eq_true rfl) h8 K
theorem k67_34 : cm_at ins_67 34 = some (.iadd, 1) := by decide +kernel
theorem g67_34 : Go 67 34 ls ((0, b) :: (0, a) :: st) G M Q ↔ Go 67 35 ls ((0, a + b) :: st) G M Q := go_iadd hq67 k67_34
theorem k67_35 : cm_at ins_67 35 = some (.istore_n 3, 1) := by decide +kernel
theorem g67_35 : Go 67 35 [l0, l1, l2, l3, l4] ((0, x) :: st) G M Q ↔ Go 67 36 [l0, l1, l2, some (0, x), l4] st G M Q := go_istore_n hq67 k67_35 ⟨Nat.le_of_ble_eq_true rfl, rfl, by decide⟩
theorem k67_36 : cm_at ins_67 36 = some (.iconst 1, 1) := by decide +kernel
theorem g67_36 : Go 67 36 ls st G M Q ↔ Go 67 37 ls ((0, 1) :: st) G M Q := go_iconst hq67 k67_36
theorem k67_37 : cm_at ins_67 37 = some (.iload_n 1, 1) := by decide +kernel
theorem g67_37 : Go 67 37 [l0, some (0, x), l2, l3, l4] st G M Q ↔ Go 67 38 [l0, some (0, x), l2, l3, l4] ((0, x) :: st) G M Q := go_iload_n hq67 k67_37 rfl
theorem k67_38 : cm_at ins_67 38 = some (.bipush 11, 2) := by decide +kernel
theorem g67_38 : Go 67 38 ls st G M Q ↔ Go 67 40 ls ((0, 11) :: st) G M Q := go_bipush hq67 k67_38 (by decide)
theorem k67_40 : cm_at ins_67 40 = some (.ishr, 1) := by decide +kernel
theorem g67_40 : Go 67 40 ls ((0, b) :: (0, a) :: st) G M Q ↔ Go 67 41 ls ((0, cm_ishr a b) :: st) G M Q := go_ishr hq67 k67_40
theorem k67_41 : cm_at ins_67 41 = some (.iconst 4, 1) := by decide +kernel
theorem g67_41 : Go 67 41 ls st G M Q ↔ Go 67 42 ls ((0, 4) :: st) G M Q := go_iconst hq67 k67_41
theorem k67_42 : cm_at ins_67 42 = some (.invokestatic 16, 3) := by decide +kernel
theorem c67_42 (h8 : cm_sum st ≤ 8) (K : Go 65 0 [some (0, x), some (0, y)] [] G M (fun r G' M' => Go 67 45 ls (r.toList ++ st) G' M' Q)) : Go 67 42 ls ((0, y) :: (0, x) :: st) G M Q := go_callS hq67 k67_42 fc7_16 ⟨by decide, by decide⟩ hq65 rfl (as := [(0, y), (0, x)]) rfl rfl (Nat.le_of_ble_eq_true rfl) h8 K
theorem k67_45 : cm_at ins_67 45 = some (.iadd, 1) := by decide +kernel
theorem g67_45 : Go 67 45 ls ((0, b) :: (0, a) :: st) G M Q ↔ Go 67 46 ls ((0, a + b) :: st) G M Q := go_iadd hq67 k67_45
theorem k67_46 : cm_at ins_67 46 = some (.istore 4, 2) := by decide +kernel
theorem g67_46 : Go 67 46 [l0, l1, l2, l3, l4] ((0, x) :: st) G M Q ↔ Go 67 48 [l0, l1, l2, l3, some (0, x)] st G M Q := go_istore hq67 k67_46 ⟨Nat.le_of_ble_eq_true rfl, rfl, by decide⟩
theorem k67_48 : cm_at ins_67 48 = some (.aload_n 0, 1) := by decide +kernel
theorem g67_48 : Go 67 48 [some (2, x), l1, l2, l3, l4] st G M Q ↔ Go 67 49 [some (2, x), l1, l2, l3, l4] ((2, x) :: st) G M Q := go_aload_n hq67 k67_48 rfl
theorem k67_49 : cm_at ins_67 49 = some (.iconst 0, 1) := by decide +kernel
theorem g67_49 : Go 67 49 ls st G M Q ↔ Go 67 50 ls ((0, 0) :: st) G M Q := go_iconst hq67 k67_49
theorem k67_50 : cm_at ins_67 50 = some (.iload_n 2, 1) := by decide +kernel
theorem g67_50 : Go 67 50 [l0, l1, some (0, x), l3, l4] st G M Q ↔ Go 67 51 [l0, l1, some (0, x), l3, l4] ((0, x) :: st) G M Q := go_iload_n hq67 k67_50 rfl
theorem k67_51 : cm_at ins_67 51 = some (.invokevirtual 34, 3) := by decide +kernel
theorem c67_51 (h8 : cm_sum st ≤ 8) (hk : cm_sh G k = some (0, 5)) (K : Go 46 0 [some (2, k), some (0, y), some (0, z), none] [] G M (fun r G' M' => Go 67 54 ls (r.toList ++ st) G' M' Q)) : Go 67 51 ls ((0, z) :: (0, y) :: (2, k) :: st) G M Q := go_callV hq67 k67_51 fc7_34 hq46 rfl (as := [(0, z), (0, y), (2, k)]) rfl rfl (Nat.le_of_ble_eq_true rfl) rfl h8 hk K
theorem k67_54 : cm_at ins_67 54 = some (.bipush 10, 2) := by decide +kernel
theorem g67_54 : Go 67 54 ls st G M Q ↔ Go 67 56 ls ((0, 10) :: st) G M Q := go_bipush hq67 k67_54 (by decide)
theorem k67_56 : cm_at ins_67 56 = some (.if_icmp .ne 59, 3) := by decide +kernel
theorem g67_56 : Go 67 56 ls ((0, b) :: (0, a) :: st) G M Q ↔ (cm_in a ∧ cm_in b) ∧ (¬ a = b → Go 67 115 ls st G M Q) ∧ (a = b → Go 67 59 ls st G M Q) := go_icmp_ne hq67 k67_56 (by decide)
theorem k67_59 : cm_at ins_67 59 = some (.aload_n 0, 1) := by decide +kernel
theorem g67_59 : Go 67 59 [some (2, x), l1, l2, l3, l4] st G M Q ↔ Go 67 60 [some (2, x), l1, l2, l3, l4] ((2, x) :: st) G M Q := go_aload_n hq67 k67_59 rfl
theorem k67_60 : cm_at ins_67 60 = some (.iconst 1, 1) := by decide +kernel
theorem g67_60 : Go 67 60 ls st G M Q ↔ Go 67 61 ls ((0, 1) :: st) G M Q := go_iconst hq67 k67_60
theorem k67_61 : cm_at ins_67 61 = some (.iload_n 3, 1) := by decide +kernel
theorem g67_61 : Go 67 61 [l0, l1, l2, some (0, x), l4] st G M Q ↔ Go 67 62 [l0, l1, l2, some (0, x), l4] ((0, x) :: st) G M Q := go_iload_n hq67 k67_61 rfl
theorem k67_62 : cm_at ins_67 62 = some (.invokevirtual 34, 3) := by decide +kernel
theorem c67_62 (h8 : cm_sum st ≤ 8) (hk : cm_sh G k = some (0, 5)) (K : Go 46 0 [some (2, k), some (0, y), some (0, z), none] [] G M (fun r G' M' => Go 67 65 ls (r.toList ++ st) G' M' Q)) : Go 67 62 ls ((0, z) :: (0, y) :: (2, k) :: st) G M Q := go_callV hq67 k67_62 fc7_34 hq46 rfl (as := [(0, z), (0, y), (2, k)]) rfl rfl (Nat.le_of_ble_eq_true rfl) rfl h8 hk K
theorem k67_65 : cm_at ins_67 65 = some (.iconst 5, 1) := by decide +kernel
theorem g67_65 : Go 67 65 ls st G M Q ↔ Go 67 66 ls ((0, 5) :: st) G M Q := go_iconst hq67 k67_65
theorem k67_66 : cm_at ins_67 66 = some (.if_icmp .ne 49, 3) := by decide +kernel
theorem g67_66 : Go 67 66 ls ((0, b) :: (0, a) :: st) G M Q ↔ (cm_in a ∧ cm_in b) ∧ (¬ a = b → Go 67 115 ls st G M Q) ∧ (a = b → Go 67 69 ls st G M Q) := go_icmp_ne hq67 k67_66 (by decide)
theorem k67_69 : cm_at ins_67 69 = some (.aload_n 0, 1) := by decide +kernel
theorem g67_69 : Go 67 69 [some (2, x), l1, l2, l3, l4] st G M Q ↔ Go 67 70 [some (2, x), l1, l2, l3, l4] ((2, x) :: st) G M Q := go_aload_n hq67 k67_69 rfl
theorem k67_70 : cm_at ins_67 70 = some (.iconst 2, 1) := by decide +kernel
theorem g67_70 : Go 67 70 ls st G M Q ↔ Go 67 71 ls ((0, 2) :: st) G M Q := go_iconst hq67 k67_70
theorem k67_71 : cm_at ins_67 71 = some (.iload 4, 2) := by decide +kernel
theorem g67_71 : Go 67 71 [l0, l1, l2, l3, some (0, x)] st G M Q ↔ Go 67 73 [l0, l1, l2, l3, some (0, x)] ((0, x) :: st) G M Q := go_iload hq67 k67_71 rfl
theorem k67_73 : cm_at ins_67 73 = some (.invokevirtual 34, 3) := by decide +kernel
theorem c67_73 (h8 : cm_sum st ≤ 8) (hk : cm_sh G k = some (0, 5)) (K : Go 46 0 [some (2, k), some (0, y), some (0, z), none] [] G M (fun r G' M' => Go 67 76 ls (r.toList ++ st) G' M' Q)) : Go 67 73 ls ((0, z) :: (0, y) :: (2, k) :: st) G M Q := go_callV hq67 k67_73 fc7_34 hq46 rfl (as := [(0, z), (0, y), (2, k)]) rfl rfl (Nat.le_of_ble_eq_true rfl) rfl h8 hk K
theorem k67_76 : cm_at ins_67 76 = some (.iconst 3, 1) := by decide +kernel
theorem g67_76 : Go 67 76 ls st G M Q ↔ Go 67 77 ls ((0, 3) :: st) G M Q := go_iconst hq67 k67_76
theorem k67_77 : cm_at ins_67 77 = some (.if_icmp .ne 38, 3) := by decide +kernel
theorem g67_77 : Go 67 77 ls ((0, b) :: (0, a) :: st) G M Q ↔ (cm_in a ∧ cm_in b) ∧ (¬ a = b → Go 67 115 ls st G M Q) ∧ (a = b → Go 67 80 ls st G M Q) := go_icmp_ne hq67 k67_77 (by decide)
theorem k67_80 : cm_at ins_67 80 = some (.aload_n 0, 1) := by decide +kernel
theorem g67_80 : Go 67 80 [some (2, x), l1, l2, l3, l4] st G M Q ↔ Go 67 81 [some (2, x), l1, l2, l3, l4] ((2, x) :: st) G M Q := go_aload_n hq67 k67_80 rfl
theorem k67_81 : cm_at ins_67 81 = some (.bipush 7, 2) := by decide +kernel
theorem g67_81 : Go 67 81 ls st G M Q ↔ Go 67 83 ls ((0, 7) :: st) G M Q := go_bipush hq67 k67_81 (by decide)
theorem k67_83 : cm_at ins_67 83 = some (.invokevirtual 10, 3) := by decide +kernel
theorem c67_83 (h8 : cm_sum st ≤ 8) (hk : cm_sh G k = some (0, 5)) (K : Go 55 0 [some (2, k), some (0, y)] [] G M (fun r G' M' => Go 67 86 ls (r.toList ++ st) G' M' Q)) : Go 67 83 ls ((0, y) :: (2, k) :: st) G M Q := go_callV hq67 k67_83 fc7_10 hq55 rfl (as := [(0, y), (2, k)]) rfl rfl (Nat.le_of_ble_eq_true rfl) rfl h8 hk K
theorem k67_86 : cm_at ins_67 86 = some (.iload_n 2, 1) := by decide +kernel
theorem g67_86 : Go 67 86 [l0, l1, some (0, x), l3, l4] st G M Q ↔ Go 67 87 [l0, l1, some (0, x), l3, l4] ((0, x) :: st) G M Q := go_iload_n hq67 k67_86 rfl
theorem k67_87 : cm_at ins_67 87 = some (.if_icmp .ne 28, 3) := by decide +kernel
theorem g67_87 : Go 67 87 ls ((0, b) :: (0, a) :: st) G M Q ↔ (cm_in a ∧ cm_in b) ∧ (¬ a = b → Go 67 115 ls st G M Q) ∧ (a = b → Go 67 90 ls st G M Q) := go_icmp_ne hq67 k67_87 (by decide)
theorem k67_90 : cm_at ins_67 90 = some (.aload_n 0, 1) := by decide +kernel
theorem g67_90 : Go 67 90 [some (2, x), l1, l2, l3, l4] st G M Q ↔ Go 67 91 [some (2, x), l1, l2, l3, l4] ((2, x) :: st) G M Q := go_aload_n hq67 k67_90 rfl
theorem k67_91 : cm_at ins_67 91 = some (.bipush 8, 2) := by decide +kernel
theorem g67_91 : Go 67 91 ls st G M Q ↔ Go 67 93 ls ((0, 8) :: st) G M Q := go_bipush hq67 k67_91 (by decide)
theorem k67_93 : cm_at ins_67 93 = some (.invokevirtual 10, 3) := by decide +kernel
theorem c67_93 (h8 : cm_sum st ≤ 8) (hk : cm_sh G k = some (0, 5)) (K : Go 55 0 [some (2, k), some (0, y)] [] G M (fun r G' M' => Go 67 96 ls (r.toList ++ st) G' M' Q)) : Go 67 93 ls ((0, y) :: (2, k) :: st) G M Q := go_callV hq67 k67_93 fc7_10 hq55 rfl (as := [(0, y), (2, k)]) rfl rfl (Nat.le_of_ble_eq_true rfl) rfl h8 hk K
theorem k67_96 : cm_at ins_67 96 = some (.iload_n 3, 1) := by decide +kernel
theorem g67_96 : Go 67 96 [l0, l1, l2, some (0, x), l4] st G M Q ↔ Go 67 97 [l0, l1, l2, some (0, x), l4] ((0, x) :: st) G M Q := go_iload_n hq67 k67_96 rfl
theorem k67_97 : cm_at ins_67 97 = some (.if_icmp .ne 18, 3) := by decide +kernel
theorem g67_97 : Go 67 97 ls ((0, b) :: (0, a) :: st) G M Q ↔ (cm_in a ∧ cm_in b) ∧ (¬ a = b → Go 67 115 ls st G M Q) ∧ (a = b → Go 67 100 ls st G M Q) := go_icmp_ne hq67 k67_97 (by decide)
theorem k67_100 : cm_at ins_67 100 = some (.aload_n 0, 1) := by decide +kernel
theorem g67_100 : Go 67 100 [some (2, x), l1, l2, l3, l4] st G M Q ↔ Go 67 101 [some (2, x), l1, l2, l3, l4] ((2, x) :: st) G M Q := go_aload_n hq67 k67_100 rfl
theorem k67_101 : cm_at ins_67 101 = some (.bipush 9, 2) := by decide +kernel
theorem g67_101 : Go 67 101 ls st G M Q ↔ Go 67 103 ls ((0, 9) :: st) G M Q := go_bipush hq67 k67_101 (by decide)
theorem k67_103 : cm_at ins_67 103 = some (.invokevirtual 10, 3) := by decide +kernel
theorem c67_103 (h8 : cm_sum st ≤ 8) (hk : cm_sh G k = some (0, 5)) (K : Go 55 0 [some (2, k), some (0, y)] [] G M (fun r G' M' => Go 67 106 ls (r.toList ++ st) G' M' Q)) : Go 67 103 ls ((0, y) :: (2, k) :: st) G M Q := go_callV hq67 k67_103 fc7_10 hq55 rfl (as := [(0, y), (2, k)]) rfl rfl (Nat.le_of_ble_eq_true rfl) rfl h8 hk K
theorem k67_106 : cm_at ins_67 106 = some (.iload 4, 2) := by decide +kernel
theorem g67_106 : Go 67 106 [l0, l1, l2, l3, some (0, x)] st G M Q ↔ Go 67 108 [l0, l1, l2, l3, some (0, x)] ((0, x) :: st) G M Q := go_iload hq67 k67_106 rfl
theorem k67_108 : cm_at ins_67 108 = some (.if_icmp .ne 7, 3) := by decide +kernel
theorem g67_108 : Go 67 108 ls ((0, b) :: (0, a) :: st) G M Q ↔ (cm_in a ∧ cm_in b) ∧ (¬ a = b → Go 67 115 ls st G M Q) ∧ (a = b → Go 67 111 ls st G M Q) := go_icmp_ne hq67 k67_108 (by decide)
theorem k67_111 : cm_at ins_67 111 = some (.iconst 1, 1) := by decide +kernel
theorem g67_111 : Go 67 111 ls st G M Q ↔ Go 67 112 ls ((0, 1) :: st) G M Q := go_iconst hq67 k67_111
theorem k67_112 : cm_at ins_67 112 = some (.goto 4, 3) := by decide +kernel
theorem g67_112 : Go 67 112 ls st G M Q ↔ Go 67 116 ls st G M Q := go_goto hq67 k67_112 (by decide)
theorem k67_115 : cm_at ins_67 115 = some (.iconst 0, 1) := by decide +kernel
theorem g67_115 : Go 67 115 ls st G M Q ↔ Go 67 116 ls ((0, 0) :: st) G M Q := go_iconst hq67 k67_115
theorem k67_116 : cm_at ins_67 116 = some (.ireturn, 1) := by decide +kernel
theorem g67_116 : Go 67 116 ls [(0, v)] G M Q ↔ (v = 0 ∨ v = 1) ∧ Q (some (0, v)) G M := go_zreturn hq67 k67_116 rfl
theorem k68_0 : cm_at ins_68 0 = some (.iconst 0, 1) := by decide +kernel
theorem g68_0 : Go 68 0 ls st G M Q ↔ Go 68 1 ls ((0, 0) :: st) G M Q := go_iconst hq68 k68_0
theorem k68_1 : cm_at ins_68 1 = some (.istore 9, 2) := by decide +kernel
theorem g68_1 : Go 68 1 [l0, l1, l2, l3, l4, l5, l6, l7, l8, l9, l10, l11, l12, l13, l14] ((0, x) :: st) G M Q ↔ Go 68 3 [l0, l1, l2, l3, l4, l5, l6, l7, l8, some (0, x), l10, l11, l12, l13, l14] st G M Q := go_istore hq68 k68_1 ⟨Nat.le_of_ble_eq_true rfl, rfl, by decide⟩
theorem k68_3 : cm_at ins_68 3 = some (.iload 9, 2) := by decide +kernel
theorem g68_3 : Go 68 3 [l0, l1, l2, l3, l4, l5, l6, l7, l8, some (0, x), l10, l11, l12, l13, l14] st G M Q ↔ Go 68 5 [l0, l1, l2, l3, l4, l5, l6, l7, l8, some (0, x), l10, l11, l12, l13, l14] ((0, x) :: st) G M Q := go_iload hq68 k68_3 rfl
theorem k68_5 : cm_at ins_68 5 = some (.iload_n 3, 1) := by decide +kernel
theorem g68_5 : Go 68 5 [l0, l1, l2, some (0, x), l4, l5, l6, l7, l8, l9, l10, l11, l12, l13, l14] st G M Q ↔ Go 68 6 [l0, l1, l2, some (0, x), l4, l5, l6, l7, l8, l9, l10, l11, l12, l13, l14] ((0, x) :: st) G M Q := go_iload_n hq68 k68_5 rfl
theorem k68_6 : cm_at ins_68 6 = some (.if_icmp .ge 29, 3) := by decide +kernel
theorem g68_6 : Go 68 6 ls ((0, b) :: (0, a) :: st) G M Q ↔ (cm_in a ∧ cm_in b) ∧ (¬ a < b → Go 68 35 ls st G M Q) ∧ (a < b → Go 68 9 ls st G M Q) := go_icmp_ge hq68 k68_6 (by decide)
theorem k68_9 : cm_at ins_68 9 = some (.aload 6, 2) := by decide +kernel
theorem g68_9 : Go 68 9 [l0, l1, l2, l3, l4, l5, some (2, x), l7, l8, l9, l10, l11, l12, l13, l14] st G M Q ↔ Go 68 11 [l0, l1, l2, l3, l4, l5, some (2, x), l7, l8, l9, l10, l11, l12, l13, l14] ((2, x) :: st) G M Q := go_aload hq68 k68_9 rfl
theorem k68_11 : cm_at ins_68 11 = some (.iload 9, 2) := by decide +kernel
theorem g68_11 : Go 68 11 [l0, l1, l2, l3, l4, l5, l6, l7, l8, some (0, x), l10, l11, l12, l13, l14] st G M Q ↔ Go 68 13 [l0, l1, l2, l3, l4, l5, l6, l7, l8, some (0, x), l10, l11, l12, l13, l14] ((0, x) :: st) G M Q := go_iload hq68 k68_11 rfl
theorem k68_13 : cm_at ins_68 13 = some (.iconst 0, 1) := by decide +kernel
theorem g68_13 : Go 68 13 ls st G M Q ↔ Go 68 14 ls ((0, 0) :: st) G M Q := go_iconst hq68 k68_13
theorem k68_14 : cm_at ins_68 14 = some (.iastore, 1) := by decide +kernel
theorem g68_14 : Go 68 14 ls ((0, v) :: (0, i) :: (2, k) :: st) G M Q ↔ (0 ≤ k ∧ 0 ≤ i ∧ i < cm_al 1 G M k) ∧ Go 68 15 ls st G (cm_up M k i v) Q := go_iast hq68 k68_14
theorem k68_15 : cm_at ins_68 15 = some (.aload 7, 2) := by decide +kernel
theorem g68_15 : Go 68 15 [l0, l1, l2, l3, l4, l5, l6, some (2, x), l8, l9, l10, l11, l12, l13, l14] st G M Q ↔ Go 68 17 [l0, l1, l2, l3, l4, l5, l6, some (2, x), l8, l9, l10, l11, l12, l13, l14] ((2, x) :: st) G M Q := go_aload hq68 k68_15 rfl
theorem k68_17 : cm_at ins_68 17 = some (.iload 9, 2) := by decide +kernel
theorem g68_17 : Go 68 17 [l0, l1, l2, l3, l4, l5, l6, l7, l8, some (0, x), l10, l11, l12, l13, l14] st G M Q ↔ Go 68 19 [l0, l1, l2, l3, l4, l5, l6, l7, l8, some (0, x), l10, l11, l12, l13, l14] ((0, x) :: st) G M Q := go_iload hq68 k68_17 rfl
theorem k68_19 : cm_at ins_68 19 = some (.bipush (-6), 2) := by decide +kernel
theorem g68_19 : Go 68 19 ls st G M Q ↔ Go 68 21 ls ((0, (-6)) :: st) G M Q := go_bipush hq68 k68_19 (by decide)
theorem k68_21 : cm_at ins_68 21 = some (.iastore, 1) := by decide +kernel
theorem g68_21 : Go 68 21 ls ((0, v) :: (0, i) :: (2, k) :: st) G M Q ↔ (0 ≤ k ∧ 0 ≤ i ∧ i < cm_al 1 G M k) ∧ Go 68 22 ls st G (cm_up M k i v) Q := go_iast hq68 k68_21
theorem k68_22 : cm_at ins_68 22 = some (.aload 8, 2) := by decide +kernel
theorem g68_22 : Go 68 22 [l0, l1, l2, l3, l4, l5, l6, l7, some (2, x), l9, l10, l11, l12, l13, l14] st G M Q ↔ Go 68 24 [l0, l1, l2, l3, l4, l5, l6, l7, some (2, x), l9, l10, l11, l12, l13, l14] ((2, x) :: st) G M Q := go_aload hq68 k68_22 rfl
theorem k68_24 : cm_at ins_68 24 = some (.iload 9, 2) := by decide +kernel
theorem g68_24 : Go 68 24 [l0, l1, l2, l3, l4, l5, l6, l7, l8, some (0, x), l10, l11, l12, l13, l14] st G M Q ↔ Go 68 26 [l0, l1, l2, l3, l4, l5, l6, l7, l8, some (0, x), l10, l11, l12, l13, l14] ((0, x) :: st) G M Q := go_iload hq68 k68_24 rfl
theorem k68_26 : cm_at ins_68 26 = some (.bipush (-6), 2) := by decide +kernel
theorem g68_26 : Go 68 26 ls st G M Q ↔ Go 68 28 ls ((0, (-6)) :: st) G M Q := go_bipush hq68 k68_26 (by decide)
theorem k68_28 : cm_at ins_68 28 = some (.iastore, 1) := by decide +kernel
theorem g68_28 : Go 68 28 ls ((0, v) :: (0, i) :: (2, k) :: st) G M Q ↔ (0 ≤ k ∧ 0 ≤ i ∧ i < cm_al 1 G M k) ∧ Go 68 29 ls st G (cm_up M k i v) Q := go_iast hq68 k68_28
theorem k68_29 : cm_at ins_68 29 = some (.iinc 9 1, 3) := by decide +kernel
theorem g68_29 : Go 68 29 [l0, l1, l2, l3, l4, l5, l6, l7, l8, some (0, x), l10, l11, l12, l13, l14] st G M Q ↔ Go 68 32 [l0, l1, l2, l3, l4, l5, l6, l7, l8, some (0, x + 1), l10, l11, l12, l13, l14] st G M Q := go_iinc hq68 k68_29 rfl ⟨rfl, by decide⟩
theorem k68_32 : cm_at ins_68 32 = some (.goto (-29), 3) := by decide +kernel
theorem g68_32 : Go 68 32 ls st G M Q ↔ Go 68 3 ls st G M Q := go_goto hq68 k68_32 (by decide)
theorem k68_35 : cm_at ins_68 35 = some (.iconst 0, 1) := by decide +kernel
theorem g68_35 : Go 68 35 ls st G M Q ↔ Go 68 36 ls ((0, 0) :: st) G M Q := go_iconst hq68 k68_35
theorem k68_36 : cm_at ins_68 36 = some (.istore 9, 2) := by decide +kernel
theorem g68_36 : Go 68 36 [l0, l1, l2, l3, l4, l5, l6, l7, l8, l9, l10, l11, l12, l13, l14] ((0, x) :: st) G M Q ↔ Go 68 38 [l0, l1, l2, l3, l4, l5, l6, l7, l8, some (0, x), l10, l11, l12, l13, l14] st G M Q := go_istore hq68 k68_36 ⟨Nat.le_of_ble_eq_true rfl, rfl, by decide⟩
theorem k68_38 : cm_at ins_68 38 = some (.iconst 0, 1) := by decide +kernel
theorem g68_38 : Go 68 38 ls st G M Q ↔ Go 68 39 ls ((0, 0) :: st) G M Q := go_iconst hq68 k68_38
theorem k68_39 : cm_at ins_68 39 = some (.istore 10, 2) := by decide +kernel
theorem g68_39 : Go 68 39 [l0, l1, l2, l3, l4, l5, l6, l7, l8, l9, l10, l11, l12, l13, l14] ((0, x) :: st) G M Q ↔ Go 68 41 [l0, l1, l2, l3, l4, l5, l6, l7, l8, l9, some (0, x), l11, l12, l13, l14] st G M Q := go_istore hq68 k68_39 ⟨Nat.le_of_ble_eq_true rfl, rfl, by decide⟩
theorem k68_41 : cm_at ins_68 41 = some (.iload_n 3, 1) := by decide +kernel
theorem g68_41 : Go 68 41 [l0, l1, l2, some (0, x), l4, l5, l6, l7, l8, l9, l10, l11, l12, l13, l14] st G M Q ↔ Go 68 42 [l0, l1, l2, some (0, x), l4, l5, l6, l7, l8, l9, l10, l11, l12, l13, l14] ((0, x) :: st) G M Q := go_iload_n hq68 k68_41 rfl
theorem k68_42 : cm_at ins_68 42 = some (.ifCond .le 231, 3) := by decide +kernel
theorem g68_42 : Go 68 42 ls ((0, a) :: st) G M Q ↔ cm_in a ∧ (¬ 0 < a → Go 68 273 ls st G M Q) ∧ (0 < a → Go 68 45 ls st G M Q) := go_if_le hq68 k68_42 (by decide)
theorem k68_45 : cm_at ins_68 45 = some (.iload 9, 2) := by decide +kernel
theorem g68_45 : Go 68 45 [l0, l1, l2, l3, l4, l5, l6, l7, l8, some (0, x), l10, l11, l12, l13, l14] st G M Q ↔ Go 68 47 [l0, l1, l2, l3, l4, l5, l6, l7, l8, some (0, x), l10, l11, l12, l13, l14] ((0, x) :: st) G M Q := go_iload hq68 k68_45 rfl
theorem k68_47 : cm_at ins_68 47 = some (.bipush 10, 2) := by decide +kernel
theorem g68_47 : Go 68 47 ls st G M Q ↔ Go 68 49 ls ((0, 10) :: st) G M Q := go_bipush hq68 k68_47 (by decide)
theorem k68_49 : cm_at ins_68 49 = some (.aload_n 0, 1) := by decide +kernel
theorem g68_49 : Go 68 49 [some (2, x), l1, l2, l3, l4, l5, l6, l7, l8, l9, l10, l11, l12, l13, l14] st G M Q ↔ Go 68 50 [some (2, x), l1, l2, l3, l4, l5, l6, l7, l8, l9, l10, l11, l12, l13, l14] ((2, x) :: st) G M Q := go_aload_n hq68 k68_49 rfl
theorem k68_50 : cm_at ins_68 50 = some (.iload_n 3, 1) := by decide +kernel
theorem g68_50 : Go 68 50 [l0, l1, l2, some (0, x), l4, l5, l6, l7, l8, l9, l10, l11, l12, l13, l14] st G M Q ↔ Go 68 51 [l0, l1, l2, some (0, x), l4, l5, l6, l7, l8, l9, l10, l11, l12, l13, l14] ((0, x) :: st) G M Q := go_iload_n hq68 k68_50 rfl
theorem k68_51 : cm_at ins_68 51 = some (.iaload, 1) := by decide +kernel
theorem g68_51 : Go 68 51 ls ((0, i) :: (2, k) :: st) G M Q ↔ (0 ≤ i ∧ i < cm_al 1 G M k) ∧ Go 68 52 ls ((0, M k i) :: st) G M Q := go_iald hq68 k68_51
theorem k68_52 : cm_at ins_68 52 = some (.iload 4, 2) := by decide +kernel
theorem g68_52 : Go 68 52 [l0, l1, l2, l3, some (0, x), l5, l6, l7, l8, l9, l10, l11, l12, l13, l14] st G M Q ↔ Go 68 54 [l0, l1, l2, l3, some (0, x), l5, l6, l7, l8, l9, l10, l11, l12, l13, l14] ((0, x) :: st) G M Q := go_iload hq68 k68_52 rfl
theorem k68_54 : cm_at ins_68 54 = some (.iadd, 1) := by decide +kernel
theorem g68_54 : Go 68 54 ls ((0, b) :: (0, a) :: st) G M Q ↔ Go 68 55 ls ((0, a + b) :: st) G M Q := go_iadd hq68 k68_54
theorem k68_55 : cm_at ins_68 55 = some (.imul, 1) := by decide +kernel
theorem g68_55 : Go 68 55 ls ((0, b) :: (0, a) :: st) G M Q ↔ Go 68 56 ls ((0, a * b) :: st) G M Q := go_imul hq68 k68_55
theorem k68_56 : cm_at ins_68 56 = some (.if_icmp .ge 217, 3) := by decide +kernel
theorem g68_56 : Go 68 56 ls ((0, b) :: (0, a) :: st) G M Q ↔ (cm_in a ∧ cm_in b) ∧ (¬ a < b → Go 68 273 ls st G M Q) ∧ (a < b → Go 68 59 ls st G M Q) := go_icmp_ge hq68 k68_56 (by decide)
theorem k68_59 : cm_at ins_68 59 = some (.iload 5, 2) := by decide +kernel
theorem g68_59 : Go 68 59 [l0, l1, l2, l3, l4, some (0, x), l6, l7, l8, l9, l10, l11, l12, l13, l14] st G M Q ↔ Go 68 61 [l0, l1, l2, l3, l4, some (0, x), l6, l7, l8, l9, l10, l11, l12, l13, l14] ((0, x) :: st) G M Q := go_iload hq68 k68_59 rfl
theorem k68_61 : cm_at ins_68 61 = some (.istore 11, 2) := by decide +kernel
theorem g68_61 : Go 68 61 [l0, l1, l2, l3, l4, l5, l6, l7, l8, l9, l10, l11, l12, l13, l14] ((0, x) :: st) G M Q ↔ Go 68 63 [l0, l1, l2, l3, l4, l5, l6, l7, l8, l9, l10, some (0, x), l12, l13, l14] st G M Q := go_istore hq68 k68_61 ⟨Nat.le_of_ble_eq_true rfl, rfl, by decide⟩
theorem k68_63 : cm_at ins_68 63 = some (.iload_n 3, 1) := by decide +kernel
theorem g68_63 : Go 68 63 [l0, l1, l2, some (0, x), l4, l5, l6, l7, l8, l9, l10, l11, l12, l13, l14] st G M Q ↔ Go 68 64 [l0, l1, l2, some (0, x), l4, l5, l6, l7, l8, l9, l10, l11, l12, l13, l14] ((0, x) :: st) G M Q := go_iload_n hq68 k68_63 rfl
theorem k68_64 : cm_at ins_68 64 = some (.iconst 1, 1) := by decide +kernel
theorem g68_64 : Go 68 64 ls st G M Q ↔ Go 68 65 ls ((0, 1) :: st) G M Q := go_iconst hq68 k68_64
theorem k68_65 : cm_at ins_68 65 = some (.isub, 1) := by decide +kernel
theorem g68_65 : Go 68 65 ls ((0, b) :: (0, a) :: st) G M Q ↔ Go 68 66 ls ((0, a - b) :: st) G M Q := go_isub hq68 k68_65
theorem k68_66 : cm_at ins_68 66 = some (.istore 12, 2) := by decide +kernel
theorem g68_66 : Go 68 66 [l0, l1, l2, l3, l4, l5, l6, l7, l8, l9, l10, l11, l12, l13, l14] ((0, x) :: st) G M Q ↔ Go 68 68 [l0, l1, l2, l3, l4, l5, l6, l7, l8, l9, l10, l11, some (0, x), l13, l14] st G M Q := go_istore hq68 k68_66 ⟨Nat.le_of_ble_eq_true rfl, rfl, by decide⟩
theorem k68_68 : cm_at ins_68 68 = some (.iload 12, 2) := by decide +kernel
theorem g68_68 : Go 68 68 [l0, l1, l2, l3, l4, l5, l6, l7, l8, l9, l10, l11, some (0, x), l13, l14] st G M Q ↔ Go 68 70 [l0, l1, l2, l3, l4, l5, l6, l7, l8, l9, l10, l11, some (0, x), l13, l14] ((0, x) :: st) G M Q := go_iload hq68 k68_68 rfl
theorem k68_70 : cm_at ins_68 70 = some (.ifCond .lt 49, 3) := by decide +kernel
theorem g68_70 : Go 68 70 ls ((0, a) :: st) G M Q ↔ cm_in a ∧ (a < 0 → Go 68 119 ls st G M Q) ∧ (¬ a < 0 → Go 68 73 ls st G M Q) := go_if_lt hq68 k68_70 (by decide)
theorem k68_73 : cm_at ins_68 73 = some (.iload 11, 2) := by decide +kernel
theorem g68_73 : Go 68 73 [l0, l1, l2, l3, l4, l5, l6, l7, l8, l9, l10, some (0, x), l12, l13, l14] st G M Q ↔ Go 68 75 [l0, l1, l2, l3, l4, l5, l6, l7, l8, l9, l10, some (0, x), l12, l13, l14] ((0, x) :: st) G M Q := go_iload hq68 k68_73 rfl
theorem k68_75 : cm_at ins_68 75 = some (.iload 5, 2) := by decide +kernel
theorem g68_75 : Go 68 75 [l0, l1, l2, l3, l4, some (0, x), l6, l7, l8, l9, l10, l11, l12, l13, l14] st G M Q ↔ Go 68 77 [l0, l1, l2, l3, l4, some (0, x), l6, l7, l8, l9, l10, l11, l12, l13, l14] ((0, x) :: st) G M Q := go_iload hq68 k68_75 rfl
theorem k68_77 : cm_at ins_68 77 = some (.if_icmp .ne 42, 3) := by decide +kernel
theorem g68_77 : Go 68 77 ls ((0, b) :: (0, a) :: st) G M Q ↔ (cm_in a ∧ cm_in b) ∧ (¬ a = b → Go 68 119 ls st G M Q) ∧ (a = b → Go 68 80 ls st G M Q) := go_icmp_ne hq68 k68_77 (by decide)
theorem k68_80 : cm_at ins_68 80 = some (.aload_n 2, 1) := by decide +kernel
theorem g68_80 : Go 68 80 [l0, l1, some (2, x), l3, l4, l5, l6, l7, l8, l9, l10, l11, l12, l13, l14] st G M Q ↔ Go 68 81 [l0, l1, some (2, x), l3, l4, l5, l6, l7, l8, l9, l10, l11, l12, l13, l14] ((2, x) :: st) G M Q := go_aload_n hq68 k68_80 rfl
theorem k68_81 : cm_at ins_68 81 = some (.iload 12, 2) := by decide +kernel
theorem g68_81 : Go 68 81 [l0, l1, l2, l3, l4, l5, l6, l7, l8, l9, l10, l11, some (0, x), l13, l14] st G M Q ↔ Go 68 83 [l0, l1, l2, l3, l4, l5, l6, l7, l8, l9, l10, l11, some (0, x), l13, l14] ((0, x) :: st) G M Q := go_iload hq68 k68_81 rfl
theorem k68_83 : cm_at ins_68 83 = some (.iaload, 1) := by decide +kernel
theorem g68_83 : Go 68 83 ls ((0, i) :: (2, k) :: st) G M Q ↔ (0 ≤ i ∧ i < cm_al 1 G M k) ∧ Go 68 84 ls ((0, M k i) :: st) G M Q := go_iald hq68 k68_83
theorem k68_84 : cm_at ins_68 84 = some (.ifCond .le 25, 3) := by decide +kernel
theorem g68_84 : Go 68 84 ls ((0, a) :: st) G M Q ↔ cm_in a ∧ (¬ 0 < a → Go 68 109 ls st G M Q) ∧ (0 < a → Go 68 87 ls st G M Q) := go_if_le hq68 k68_84 (by decide)
theorem k68_87 : cm_at ins_68 87 = some (.bipush 10, 2) := by decide +kernel
theorem g68_87 : Go 68 87 ls st G M Q ↔ Go 68 89 ls ((0, 10) :: st) G M Q := go_bipush hq68 k68_87 (by decide)
theorem k68_89 : cm_at ins_68 89 = some (.aload_n 0, 1) := by decide +kernel
theorem g68_89 : Go 68 89 [some (2, x), l1, l2, l3, l4, l5, l6, l7, l8, l9, l10, l11, l12, l13, l14] st G M Q ↔ Go 68 90 [some (2, x), l1, l2, l3, l4, l5, l6, l7, l8, l9, l10, l11, l12, l13, l14] ((2, x) :: st) G M Q := go_aload_n hq68 k68_89 rfl
theorem k68_90 : cm_at ins_68 90 = some (.iload 12, 2) := by decide +kernel
theorem g68_90 : Go 68 90 [l0, l1, l2, l3, l4, l5, l6, l7, l8, l9, l10, l11, some (0, x), l13, l14] st G M Q ↔ Go 68 92 [l0, l1, l2, l3, l4, l5, l6, l7, l8, l9, l10, l11, some (0, x), l13, l14] ((0, x) :: st) G M Q := go_iload hq68 k68_90 rfl
theorem k68_92 : cm_at ins_68 92 = some (.iaload, 1) := by decide +kernel
theorem g68_92 : Go 68 92 ls ((0, i) :: (2, k) :: st) G M Q ↔ (0 ≤ i ∧ i < cm_al 1 G M k) ∧ Go 68 93 ls ((0, M k i) :: st) G M Q := go_iald hq68 k68_92
theorem k68_93 : cm_at ins_68 93 = some (.imul, 1) := by decide +kernel
theorem g68_93 : Go 68 93 ls ((0, b) :: (0, a) :: st) G M Q ↔ Go 68 94 ls ((0, a * b) :: st) G M Q := go_imul hq68 k68_93
theorem k68_94 : cm_at ins_68 94 = some (.iload 9, 2) := by decide +kernel
theorem g68_94 : Go 68 94 [l0, l1, l2, l3, l4, l5, l6, l7, l8, some (0, x), l10, l11, l12, l13, l14] st G M Q ↔ Go 68 96 [l0, l1, l2, l3, l4, l5, l6, l7, l8, some (0, x), l10, l11, l12, l13, l14] ((0, x) :: st) G M Q := go_iload hq68 k68_94 rfl
theorem k68_96 : cm_at ins_68 96 = some (.if_icmp .gt 13, 3) := by decide +kernel
theorem g68_96 : Go 68 96 ls ((0, b) :: (0, a) :: st) G M Q ↔ (cm_in a ∧ cm_in b) ∧ (b < a → Go 68 109 ls st G M Q) ∧ (¬ b < a → Go 68 99 ls st G M Q) := go_icmp_gt hq68 k68_96 (by decide)
theorem k68_99 : cm_at ins_68 99 = some (.aload_n 2, 1) := by decide +kernel
theorem g68_99 : Go 68 99 [l0, l1, some (2, x), l3, l4, l5, l6, l7, l8, l9, l10, l11, l12, l13, l14] st G M Q ↔ Go 68 100 [l0, l1, some (2, x), l3, l4, l5, l6, l7, l8, l9, l10, l11, l12, l13, l14] ((2, x) :: st) G M Q := go_aload_n hq68 k68_99 rfl
theorem k68_100 : cm_at ins_68 100 = some (.iload 12, 2) := by decide +kernel
theorem g68_100 : Go 68 100 [l0, l1, l2, l3, l4, l5, l6, l7, l8, l9, l10, l11, some (0, x), l13, l14] st G M Q ↔ Go 68 102 [l0, l1, l2, l3, l4, l5, l6, l7, l8, l9, l10, l11, some (0, x), l13, l14] ((0, x) :: st) G M Q := go_iload hq68 k68_100 rfl
theorem k68_102 : cm_at ins_68 102 = some (.iaload, 1) := by decide +kernel
theorem g68_102 : Go 68 102 ls ((0, i) :: (2, k) :: st) G M Q ↔ (0 ≤ i ∧ i < cm_al 1 G M k) ∧ Go 68 103 ls ((0, M k i) :: st) G M Q := go_iald hq68 k68_102
theorem k68_103 : cm_at ins_68 103 = some (.bipush 100, 2) := by decide +kernel
theorem g68_103 : Go 68 103 ls st G M Q ↔ Go 68 105 ls ((0, 100) :: st) G M Q := go_bipush hq68 k68_103 (by decide)
theorem k68_105 : cm_at ins_68 105 = some (.iadd, 1) := by decide +kernel
theorem g68_105 : Go 68 105 ls ((0, b) :: (0, a) :: st) G M Q ↔ Go 68 106 ls ((0, a + b) :: st) G M Q := go_iadd hq68 k68_105
theorem k68_106 : cm_at ins_68 106 = some (.goto 5, 3) := by decide +kernel
theorem g68_106 : Go 68 106 ls st G M Q ↔ Go 68 111 ls st G M Q := go_goto hq68 k68_106 (by decide)
theorem k68_109 : cm_at ins_68 109 = some (.iload 5, 2) := by decide +kernel
theorem g68_109 : Go 68 109 [l0, l1, l2, l3, l4, some (0, x), l6, l7, l8, l9, l10, l11, l12, l13, l14] st G M Q ↔ Go 68 111 [l0, l1, l2, l3, l4, some (0, x), l6, l7, l8, l9, l10, l11, l12, l13, l14] ((0, x) :: st) G M Q := go_iload hq68 k68_109 rfl
theorem k68_111 : cm_at ins_68 111 = some (.istore 11, 2) := by decide +kernel
theorem g68_111 : Go 68 111 [l0, l1, l2, l3, l4, l5, l6, l7, l8, l9, l10, l11, l12, l13, l14] ((0, x) :: st) G M Q ↔ Go 68 113 [l0, l1, l2, l3, l4, l5, l6, l7, l8, l9, l10, some (0, x), l12, l13, l14] st G M Q := go_istore hq68 k68_111 ⟨Nat.le_of_ble_eq_true rfl, rfl, by decide⟩
theorem k68_113 : cm_at ins_68 113 = some (.iinc 12 (-1), 3) := by decide +kernel
theorem g68_113 : Go 68 113 [l0, l1, l2, l3, l4, l5, l6, l7, l8, l9, l10, l11, some (0, x), l13, l14] st G M Q ↔ Go 68 116 [l0, l1, l2, l3, l4, l5, l6, l7, l8, l9, l10, l11, some (0, x + (-1)), l13, l14] st G M Q := go_iinc hq68 k68_113 rfl ⟨rfl, by decide⟩
theorem k68_116 : cm_at ins_68 116 = some (.goto (-48), 3) := by decide +kernel
theorem g68_116 : Go 68 116 ls st G M Q ↔ Go 68 68 ls st G M Q := go_goto hq68 k68_116 (by decide)
theorem k68_119 : cm_at ins_68 119 = some (.iload 9, 2) := by decide +kernel
theorem g68_119 : Go 68 119 [l0, l1, l2, l3, l4, l5, l6, l7, l8, some (0, x), l10, l11, l12, l13, l14] st G M Q ↔ Go 68 121 [l0, l1, l2, l3, l4, l5, l6, l7, l8, some (0, x), l10, l11, l12, l13, l14] ((0, x) :: st) G M Q := go_iload hq68 k68_119 rfl
theorem k68_121 : cm_at ins_68 121 = some (.iload 11, 2) := by decide +kernel
theorem g68_121 : Go 68 121 [l0, l1, l2, l3, l4, l5, l6, l7, l8, l9, l10, some (0, x), l12, l13, l14] st G M Q ↔ Go 68 123 [l0, l1, l2, l3, l4, l5, l6, l7, l8, l9, l10, some (0, x), l12, l13, l14] ((0, x) :: st) G M Q := go_iload hq68 k68_121 rfl
theorem k68_123 : cm_at ins_68 123 = some (.bipush 100, 2) := by decide +kernel
theorem g68_123 : Go 68 123 ls st G M Q ↔ Go 68 125 ls ((0, 100) :: st) G M Q := go_bipush hq68 k68_123 (by decide)
theorem k68_125 : cm_at ins_68 125 = some (.if_icmp .le 11, 3) := by decide +kernel
theorem g68_125 : Go 68 125 ls ((0, b) :: (0, a) :: st) G M Q ↔ (cm_in a ∧ cm_in b) ∧ (¬ b < a → Go 68 136 ls st G M Q) ∧ (b < a → Go 68 128 ls st G M Q) := go_icmp_le hq68 k68_125 (by decide)
theorem k68_128 : cm_at ins_68 128 = some (.iload 11, 2) := by decide +kernel
theorem g68_128 : Go 68 128 [l0, l1, l2, l3, l4, l5, l6, l7, l8, l9, l10, some (0, x), l12, l13, l14] st G M Q ↔ Go 68 130 [l0, l1, l2, l3, l4, l5, l6, l7, l8, l9, l10, some (0, x), l12, l13, l14] ((0, x) :: st) G M Q := go_iload hq68 k68_128 rfl
theorem k68_130 : cm_at ins_68 130 = some (.bipush 100, 2) := by decide +kernel
theorem g68_130 : Go 68 130 ls st G M Q ↔ Go 68 132 ls ((0, 100) :: st) G M Q := go_bipush hq68 k68_130 (by decide)
theorem k68_132 : cm_at ins_68 132 = some (.isub, 1) := by decide +kernel
theorem g68_132 : Go 68 132 ls ((0, b) :: (0, a) :: st) G M Q ↔ Go 68 133 ls ((0, a - b) :: st) G M Q := go_isub hq68 k68_132
theorem k68_133 : cm_at ins_68 133 = some (.goto 5, 3) := by decide +kernel
theorem g68_133 : Go 68 133 ls st G M Q ↔ Go 68 138 ls st G M Q := go_goto hq68 k68_133 (by decide)
theorem k68_136 : cm_at ins_68 136 = some (.iload 11, 2) := by decide +kernel
theorem g68_136 : Go 68 136 [l0, l1, l2, l3, l4, l5, l6, l7, l8, l9, l10, some (0, x), l12, l13, l14] st G M Q ↔ Go 68 138 [l0, l1, l2, l3, l4, l5, l6, l7, l8, l9, l10, some (0, x), l12, l13, l14] ((0, x) :: st) G M Q := go_iload hq68 k68_136 rfl
theorem k68_138 : cm_at ins_68 138 = some (.iadd, 1) := by decide +kernel
theorem g68_138 : Go 68 138 ls ((0, b) :: (0, a) :: st) G M Q ↔ Go 68 139 ls ((0, a + b) :: st) G M Q := go_iadd hq68 k68_138
theorem k68_139 : cm_at ins_68 139 = some (.istore 9, 2) := by decide +kernel
theorem g68_139 : Go 68 139 [l0, l1, l2, l3, l4, l5, l6, l7, l8, l9, l10, l11, l12, l13, l14] ((0, x) :: st) G M Q ↔ Go 68 141 [l0, l1, l2, l3, l4, l5, l6, l7, l8, some (0, x), l10, l11, l12, l13, l14] st G M Q := go_istore hq68 k68_139 ⟨Nat.le_of_ble_eq_true rfl, rfl, by decide⟩
theorem k68_141 : cm_at ins_68 141 = some (.iinc 10 1, 3) := by decide +kernel
theorem g68_141 : Go 68 141 [l0, l1, l2, l3, l4, l5, l6, l7, l8, l9, some (0, x), l11, l12, l13, l14] st G M Q ↔ Go 68 144 [l0, l1, l2, l3, l4, l5, l6, l7, l8, l9, some (0, x + 1), l11, l12, l13, l14] st G M Q := go_iinc hq68 k68_141 rfl ⟨rfl, by decide⟩
theorem k68_144 : cm_at ins_68 144 = some (.iconst 0, 1) := by decide +kernel
theorem g68_144 : Go 68 144 ls st G M Q ↔ Go 68 145 ls ((0, 0) :: st) G M Q := go_iconst hq68 k68_144
theorem k68_145 : cm_at ins_68 145 = some (.istore 12, 2) := by decide +kernel
theorem g68_145 : Go 68 145 [l0, l1, l2, l3, l4, l5, l6, l7, l8, l9, l10, l11, l12, l13, l14] ((0, x) :: st) G M Q ↔ Go 68 147 [l0, l1, l2, l3, l4, l5, l6, l7, l8, l9, l10, l11, some (0, x), l13, l14] st G M Q := go_istore hq68 k68_145 ⟨Nat.le_of_ble_eq_true rfl, rfl, by decide⟩
theorem k68_147 : cm_at ins_68 147 = some (.iload 12, 2) := by decide +kernel
theorem g68_147 : Go 68 147 [l0, l1, l2, l3, l4, l5, l6, l7, l8, l9, l10, l11, some (0, x), l13, l14] st G M Q ↔ Go 68 149 [l0, l1, l2, l3, l4, l5, l6, l7, l8, l9, l10, l11, some (0, x), l13, l14] ((0, x) :: st) G M Q := go_iload hq68 k68_147 rfl
theorem k68_149 : cm_at ins_68 149 = some (.iload_n 3, 1) := by decide +kernel
theorem g68_149 : Go 68 149 [l0, l1, l2, some (0, x), l4, l5, l6, l7, l8, l9, l10, l11, l12, l13, l14] st G M Q ↔ Go 68 150 [l0, l1, l2, some (0, x), l4, l5, l6, l7, l8, l9, l10, l11, l12, l13, l14] ((0, x) :: st) G M Q := go_iload_n hq68 k68_149 rfl
theorem k68_150 : cm_at ins_68 150 = some (.if_icmp .ge 120, 3) := by decide +kernel
theorem g68_150 : Go 68 150 ls ((0, b) :: (0, a) :: st) G M Q ↔ (cm_in a ∧ cm_in b) ∧ (¬ a < b → Go 68 270 ls st G M Q) ∧ (a < b → Go 68 153 ls st G M Q) := go_icmp_ge hq68 k68_150 (by decide)
theorem k68_153 : cm_at ins_68 153 = some (.bipush 10, 2) := by decide +kernel
theorem g68_153 : Go 68 153 ls st G M Q ↔ Go 68 155 ls ((0, 10) :: st) G M Q := go_bipush hq68 k68_153 (by decide)
theorem k68_155 : cm_at ins_68 155 = some (.iload 4, 2) := by decide +kernel
theorem g68_155 : Go 68 155 [l0, l1, l2, l3, some (0, x), l5, l6, l7, l8, l9, l10, l11, l12, l13, l14] st G M Q ↔ Go 68 157 [l0, l1, l2, l3, some (0, x), l5, l6, l7, l8, l9, l10, l11, l12, l13, l14] ((0, x) :: st) G M Q := go_iload hq68 k68_155 rfl
theorem k68_157 : cm_at ins_68 157 = some (.aload_n 0, 1) := by decide +kernel
theorem g68_157 : Go 68 157 [some (2, x), l1, l2, l3, l4, l5, l6, l7, l8, l9, l10, l11, l12, l13, l14] st G M Q ↔ Go 68 158 [some (2, x), l1, l2, l3, l4, l5, l6, l7, l8, l9, l10, l11, l12, l13, l14] ((2, x) :: st) G M Q := go_aload_n hq68 k68_157 rfl
theorem k68_158 : cm_at ins_68 158 = some (.iload 12, 2) := by decide +kernel
theorem g68_158 : Go 68 158 [l0, l1, l2, l3, l4, l5, l6, l7, l8, l9, l10, l11, some (0, x), l13, l14] st G M Q ↔ Go 68 160 [l0, l1, l2, l3, l4, l5, l6, l7, l8, l9, l10, l11, some (0, x), l13, l14] ((0, x) :: st) G M Q := go_iload hq68 k68_158 rfl
theorem k68_160 : cm_at ins_68 160 = some (.iaload, 1) := by decide +kernel
theorem g68_160 : Go 68 160 ls ((0, i) :: (2, k) :: st) G M Q ↔ (0 ≤ i ∧ i < cm_al 1 G M k) ∧ Go 68 161 ls ((0, M k i) :: st) G M Q := go_iald hq68 k68_160
theorem k68_161 : cm_at ins_68 161 = some (.iadd, 1) := by decide +kernel
theorem g68_161 : Go 68 161 ls ((0, b) :: (0, a) :: st) G M Q ↔ Go 68 162 ls ((0, a + b) :: st) G M Q := go_iadd hq68 k68_161
theorem k68_162 : cm_at ins_68 162 = some (.imul, 1) := by decide +kernel
theorem g68_162 : Go 68 162 ls ((0, b) :: (0, a) :: st) G M Q ↔ Go 68 163 ls ((0, a * b) :: st) G M Q := go_imul hq68 k68_162
theorem k68_163 : cm_at ins_68 163 = some (.iload 9, 2) := by decide +kernel
theorem g68_163 : Go 68 163 [l0, l1, l2, l3, l4, l5, l6, l7, l8, some (0, x), l10, l11, l12, l13, l14] st G M Q ↔ Go 68 165 [l0, l1, l2, l3, l4, l5, l6, l7, l8, some (0, x), l10, l11, l12, l13, l14] ((0, x) :: st) G M Q := go_iload hq68 k68_163 rfl
theorem k68_165 : cm_at ins_68 165 = some (.isub, 1) := by decide +kernel
theorem g68_165 : Go 68 165 ls ((0, b) :: (0, a) :: st) G M Q ↔ Go 68 166 ls ((0, a - b) :: st) G M Q := go_isub hq68 k68_165
theorem k68_166 : cm_at ins_68 166 = some (.istore 13, 2) := by decide +kernel
theorem g68_166 : Go 68 166 [l0, l1, l2, l3, l4, l5, l6, l7, l8, l9, l10, l11, l12, l13, l14] ((0, x) :: st) G M Q ↔ Go 68 168 [l0, l1, l2, l3, l4, l5, l6, l7, l8, l9, l10, l11, l12, some (0, x), l14] st G M Q := go_istore hq68 k68_166 ⟨Nat.le_of_ble_eq_true rfl, rfl, by decide⟩
theorem k68_168 : cm_at ins_68 168 = some (.iload 13, 2) := by decide +kernel
theorem g68_168 : Go 68 168 [l0, l1, l2, l3, l4, l5, l6, l7, l8, l9, l10, l11, l12, some (0, x), l14] st G M Q ↔ Go 68 170 [l0, l1, l2, l3, l4, l5, l6, l7, l8, l9, l10, l11, l12, some (0, x), l14] ((0, x) :: st) G M Q := go_iload hq68 k68_168 rfl
theorem k68_170 : cm_at ins_68 170 = some (.ifCond .lt 25, 3) := by decide +kernel
theorem g68_170 : Go 68 170 ls ((0, a) :: st) G M Q ↔ cm_in a ∧ (a < 0 → Go 68 195 ls st G M Q) ∧ (¬ a < 0 → Go 68 173 ls st G M Q) := go_if_lt hq68 k68_170 (by decide)
theorem k68_173 : cm_at ins_68 173 = some (.iload 13, 2) := by decide +kernel
theorem g68_173 : Go 68 173 [l0, l1, l2, l3, l4, l5, l6, l7, l8, l9, l10, l11, l12, some (0, x), l14] st G M Q ↔ Go 68 175 [l0, l1, l2, l3, l4, l5, l6, l7, l8, l9, l10, l11, l12, some (0, x), l14] ((0, x) :: st) G M Q := go_iload hq68 k68_173 rfl
theorem k68_175 : cm_at ins_68 175 = some (.bipush 10, 2) := by decide +kernel
theorem g68_175 : Go 68 175 ls st G M Q ↔ Go 68 177 ls ((0, 10) :: st) G M Q := go_bipush hq68 k68_175 (by decide)
theorem k68_177 : cm_at ins_68 177 = some (.aload_n 1, 1) := by decide +kernel
theorem g68_177 : Go 68 177 [l0, some (2, x), l2, l3, l4, l5, l6, l7, l8, l9, l10, l11, l12, l13, l14] st G M Q ↔ Go 68 178 [l0, some (2, x), l2, l3, l4, l5, l6, l7, l8, l9, l10, l11, l12, l13, l14] ((2, x) :: st) G M Q := go_aload_n hq68 k68_177 rfl
theorem k68_178 : cm_at ins_68 178 = some (.iload 12, 2) := by decide +kernel
theorem g68_178 : Go 68 178 [l0, l1, l2, l3, l4, l5, l6, l7, l8, l9, l10, l11, some (0, x), l13, l14] st G M Q ↔ Go 68 180 [l0, l1, l2, l3, l4, l5, l6, l7, l8, l9, l10, l11, some (0, x), l13, l14] ((0, x) :: st) G M Q := go_iload hq68 k68_178 rfl
theorem k68_180 : cm_at ins_68 180 = some (.iaload, 1) := by decide +kernel
theorem g68_180 : Go 68 180 ls ((0, i) :: (2, k) :: st) G M Q ↔ (0 ≤ i ∧ i < cm_al 1 G M k) ∧ Go 68 181 ls ((0, M k i) :: st) G M Q := go_iald hq68 k68_180
theorem k68_181 : cm_at ins_68 181 = some (.imul, 1) := by decide +kernel
theorem g68_181 : Go 68 181 ls ((0, b) :: (0, a) :: st) G M Q ↔ Go 68 182 ls ((0, a * b) :: st) G M Q := go_imul hq68 k68_181
theorem k68_182 : cm_at ins_68 182 = some (.iadd, 1) := by decide +kernel
theorem g68_182 : Go 68 182 ls ((0, b) :: (0, a) :: st) G M Q ↔ Go 68 183 ls ((0, a + b) :: st) G M Q := go_iadd hq68 k68_182
theorem k68_183 : cm_at ins_68 183 = some (.bipush 10, 2) := by decide +kernel
theorem g68_183 : Go 68 183 ls st G M Q ↔ Go 68 185 ls ((0, 10) :: st) G M Q := go_bipush hq68 k68_183 (by decide)
theorem k68_185 : cm_at ins_68 185 = some (.iload 4, 2) := by decide +kernel
theorem g68_185 : Go 68 185 [l0, l1, l2, l3, some (0, x), l5, l6, l7, l8, l9, l10, l11, l12, l13, l14] st G M Q ↔ Go 68 187 [l0, l1, l2, l3, some (0, x), l5, l6, l7, l8, l9, l10, l11, l12, l13, l14] ((0, x) :: st) G M Q := go_iload hq68 k68_185 rfl
theorem k68_187 : cm_at ins_68 187 = some (.imul, 1) := by decide +kernel
theorem g68_187 : Go 68 187 ls ((0, b) :: (0, a) :: st) G M Q ↔ Go 68 188 ls ((0, a * b) :: st) G M Q := go_imul hq68 k68_187
theorem k68_188 : cm_at ins_68 188 = some (.if_icmp .gt 7, 3) := by decide +kernel
theorem g68_188 : Go 68 188 ls ((0, b) :: (0, a) :: st) G M Q ↔ (cm_in a ∧ cm_in b) ∧ (b < a → Go 68 195 ls st G M Q) ∧ (¬ b < a → Go 68 191 ls st G M Q) := go_icmp_gt hq68 k68_188 (by decide)
theorem k68_191 : cm_at ins_68 191 = some (.iconst 1, 1) := by decide +kernel
theorem g68_191 : Go 68 191 ls st G M Q ↔ Go 68 192 ls ((0, 1) :: st) G M Q := go_iconst hq68 k68_191
theorem k68_192 : cm_at ins_68 192 = some (.goto 4, 3) := by decide +kernel
theorem g68_192 : Go 68 192 ls st G M Q ↔ Go 68 196 ls st G M Q := go_goto hq68 k68_192 (by decide)
theorem k68_195 : cm_at ins_68 195 = some (.iconst 0, 1) := by decide +kernel
theorem g68_195 : Go 68 195 ls st G M Q ↔ Go 68 196 ls ((0, 0) :: st) G M Q := go_iconst hq68 k68_195
theorem k68_196 : cm_at ins_68 196 = some (.istore 14, 2) := by decide +kernel
theorem g68_196 : Go 68 196 [l0, l1, l2, l3, l4, l5, l6, l7, l8, l9, l10, l11, l12, l13, l14] ((0, x) :: st) G M Q ↔ Go 68 198 [l0, l1, l2, l3, l4, l5, l6, l7, l8, l9, l10, l11, l12, l13, some (0, x)] st G M Q := go_istore hq68 k68_196 ⟨Nat.le_of_ble_eq_true rfl, rfl, by decide⟩
theorem k68_198 : cm_at ins_68 198 = some (.aload 6, 2) := by decide +kernel
theorem g68_198 : Go 68 198 [l0, l1, l2, l3, l4, l5, some (2, x), l7, l8, l9, l10, l11, l12, l13, l14] st G M Q ↔ Go 68 200 [l0, l1, l2, l3, l4, l5, some (2, x), l7, l8, l9, l10, l11, l12, l13, l14] ((2, x) :: st) G M Q := go_aload hq68 k68_198 rfl
theorem k68_200 : cm_at ins_68 200 = some (.iload 12, 2) := by decide +kernel
theorem g68_200 : Go 68 200 [l0, l1, l2, l3, l4, l5, l6, l7, l8, l9, l10, l11, some (0, x), l13, l14] st G M Q ↔ Go 68 202 [l0, l1, l2, l3, l4, l5, l6, l7, l8, l9, l10, l11, some (0, x), l13, l14] ((0, x) :: st) G M Q := go_iload hq68 k68_200 rfl
theorem k68_202 : cm_at ins_68 202 = some (.dup2, 1) := by decide +kernel
theorem g68_202 : Go 68 202 ls ((0, x) :: (2, y) :: st) G M Q ↔ Go 68 203 ls ((0, x) :: (2, y) :: (0, x) :: (2, y) :: st) G M Q := go_dup2_02 hq68 k68_202
theorem k68_203 : cm_at ins_68 203 = some (.iaload, 1) := by decide +kernel
theorem g68_203 : Go 68 203 ls ((0, i) :: (2, k) :: st) G M Q ↔ (0 ≤ i ∧ i < cm_al 1 G M k) ∧ Go 68 204 ls ((0, M k i) :: st) G M Q := go_iald hq68 k68_203
theorem k68_204 : cm_at ins_68 204 = some (.iload 14, 2) := by decide +kernel
theorem g68_204 : Go 68 204 [l0, l1, l2, l3, l4, l5, l6, l7, l8, l9, l10, l11, l12, l13, some (0, x)] st G M Q ↔ Go 68 206 [l0, l1, l2, l3, l4, l5, l6, l7, l8, l9, l10, l11, l12, l13, some (0, x)] ((0, x) :: st) G M Q := go_iload hq68 k68_204 rfl
theorem k68_206 : cm_at ins_68 206 = some (.ifCond .eq 7, 3) := by decide +kernel
theorem g68_206 : Go 68 206 ls ((0, a) :: st) G M Q ↔ cm_in a ∧ (a = 0 → Go 68 213 ls st G M Q) ∧ (¬ a = 0 → Go 68 209 ls st G M Q) := go_if_eq hq68 k68_206 (by decide)
theorem k68_209 : cm_at ins_68 209 = some (.iconst 1, 1) := by decide +kernel
theorem g68_209 : Go 68 209 ls st G M Q ↔ Go 68 210 ls ((0, 1) :: st) G M Q := go_iconst hq68 k68_209
theorem k68_210 : cm_at ins_68 210 = some (.goto 4, 3) := by decide +kernel
theorem g68_210 : Go 68 210 ls st G M Q ↔ Go 68 214 ls st G M Q := go_goto hq68 k68_210 (by decide)
theorem k68_213 : cm_at ins_68 213 = some (.iconst 0, 1) := by decide +kernel
theorem g68_213 : Go 68 213 ls st G M Q ↔ Go 68 214 ls ((0, 0) :: st) G M Q := go_iconst hq68 k68_213
theorem k68_214 : cm_at ins_68 214 = some (.iadd, 1) := by decide +kernel
theorem g68_214 : Go 68 214 ls ((0, b) :: (0, a) :: st) G M Q ↔ Go 68 215 ls ((0, a + b) :: st) G M Q := go_iadd hq68 k68_214
theorem k68_215 : cm_at ins_68 215 = some (.iastore, 1) := by decide +kernel
theorem g68_215 : Go 68 215 ls ((0, v) :: (0, i) :: (2, k) :: st) G M Q ↔ (0 ≤ k ∧ 0 ≤ i ∧ i < cm_al 1 G M k) ∧ Go 68 216 ls st G (cm_up M k i v) Q := go_iast hq68 k68_215
theorem k68_216 : cm_at ins_68 216 = some (.aload 7, 2) := by decide +kernel
theorem g68_216 : Go 68 216 [l0, l1, l2, l3, l4, l5, l6, some (2, x), l8, l9, l10, l11, l12, l13, l14] st G M Q ↔ Go 68 218 [l0, l1, l2, l3, l4, l5, l6, some (2, x), l8, l9, l10, l11, l12, l13, l14] ((2, x) :: st) G M Q := go_aload hq68 k68_216 rfl
theorem k68_218 : cm_at ins_68 218 = some (.iload 12, 2) := by decide +kernel
theorem g68_218 : Go 68 218 [l0, l1, l2, l3, l4, l5, l6, l7, l8, l9, l10, l11, some (0, x), l13, l14] st G M Q ↔ Go 68 220 [l0, l1, l2, l3, l4, l5, l6, l7, l8, l9, l10, l11, some (0, x), l13, l14] ((0, x) :: st) G M Q := go_iload hq68 k68_218 rfl
theorem k68_220 : cm_at ins_68 220 = some (.iload 14, 2) := by decide +kernel
theorem g68_220 : Go 68 220 [l0, l1, l2, l3, l4, l5, l6, l7, l8, l9, l10, l11, l12, l13, some (0, x)] st G M Q ↔ Go 68 222 [l0, l1, l2, l3, l4, l5, l6, l7, l8, l9, l10, l11, l12, l13, some (0, x)] ((0, x) :: st) G M Q := go_iload hq68 k68_220 rfl
theorem k68_222 : cm_at ins_68 222 = some (.ifCond .eq 16, 3) := by decide +kernel
theorem g68_222 : Go 68 222 ls ((0, a) :: st) G M Q ↔ cm_in a ∧ (a = 0 → Go 68 238 ls st G M Q) ∧ (¬ a = 0 → Go 68 225 ls st G M Q) := go_if_eq hq68 k68_222 (by decide)
theorem k68_225 : cm_at ins_68 225 = some (.aload 7, 2) := by decide +kernel
theorem g68_225 : Go 68 225 [l0, l1, l2, l3, l4, l5, l6, some (2, x), l8, l9, l10, l11, l12, l13, l14] st G M Q ↔ Go 68 227 [l0, l1, l2, l3, l4, l5, l6, some (2, x), l8, l9, l10, l11, l12, l13, l14] ((2, x) :: st) G M Q := go_aload hq68 k68_225 rfl
theorem k68_227 : cm_at ins_68 227 = some (.iload 12, 2) := by decide +kernel
theorem g68_227 : Go 68 227 [l0, l1, l2, l3, l4, l5, l6, l7, l8, l9, l10, l11, some (0, x), l13, l14] st G M Q ↔ Go 68 229 [l0, l1, l2, l3, l4, l5, l6, l7, l8, l9, l10, l11, some (0, x), l13, l14] ((0, x) :: st) G M Q := go_iload hq68 k68_227 rfl
theorem k68_229 : cm_at ins_68 229 = some (.iaload, 1) := by decide +kernel
theorem g68_229 : Go 68 229 ls ((0, i) :: (2, k) :: st) G M Q ↔ (0 ≤ i ∧ i < cm_al 1 G M k) ∧ Go 68 230 ls ((0, M k i) :: st) G M Q := go_iald hq68 k68_229
theorem k68_230 : cm_at ins_68 230 = some (.ifCond .ge 8, 3) := by decide +kernel
theorem g68_230 : Go 68 230 ls ((0, a) :: st) G M Q ↔ cm_in a ∧ (¬ a < 0 → Go 68 238 ls st G M Q) ∧ (a < 0 → Go 68 233 ls st G M Q) := go_if_ge hq68 k68_230 (by decide)
theorem k68_233 : cm_at ins_68 233 = some (.iload 10, 2) := by decide +kernel
theorem g68_233 : Go 68 233 [l0, l1, l2, l3, l4, l5, l6, l7, l8, l9, some (0, x), l11, l12, l13, l14] st G M Q ↔ Go 68 235 [l0, l1, l2, l3, l4, l5, l6, l7, l8, l9, some (0, x), l11, l12, l13, l14] ((0, x) :: st) G M Q := go_iload hq68 k68_233 rfl
theorem k68_235 : cm_at ins_68 235 = some (.goto 8, 3) := by decide +kernel
theorem g68_235 : Go 68 235 ls st G M Q ↔ Go 68 243 ls st G M Q := go_goto hq68 k68_235 (by decide)
theorem k68_238 : cm_at ins_68 238 = some (.aload 7, 2) := by decide +kernel
theorem g68_238 : Go 68 238 [l0, l1, l2, l3, l4, l5, l6, some (2, x), l8, l9, l10, l11, l12, l13, l14] st G M Q ↔ Go 68 240 [l0, l1, l2, l3, l4, l5, l6, some (2, x), l8, l9, l10, l11, l12, l13, l14] ((2, x) :: st) G M Q := go_aload hq68 k68_238 rfl
theorem k68_240 : cm_at ins_68 240 = some (.iload 12, 2) := by decide +kernel
theorem g68_240 : Go 68 240 [l0, l1, l2, l3, l4, l5, l6, l7, l8, l9, l10, l11, some (0, x), l13, l14] st G M Q ↔ Go 68 242 [l0, l1, l2, l3, l4, l5, l6, l7, l8, l9, l10, l11, some (0, x), l13, l14] ((0, x) :: st) G M Q := go_iload hq68 k68_240 rfl
theorem k68_242 : cm_at ins_68 242 = some (.iaload, 1) := by decide +kernel
theorem g68_242 : Go 68 242 ls ((0, i) :: (2, k) :: st) G M Q ↔ (0 ≤ i ∧ i < cm_al 1 G M k) ∧ Go 68 243 ls ((0, M k i) :: st) G M Q := go_iald hq68 k68_242
theorem k68_243 : cm_at ins_68 243 = some (.iastore, 1) := by decide +kernel
theorem g68_243 : Go 68 243 ls ((0, v) :: (0, i) :: (2, k) :: st) G M Q ↔ (0 ≤ k ∧ 0 ≤ i ∧ i < cm_al 1 G M k) ∧ Go 68 244 ls st G (cm_up M k i v) Q := go_iast hq68 k68_243
theorem k68_244 : cm_at ins_68 244 = some (.aload 8, 2) := by decide +kernel
theorem g68_244 : Go 68 244 [l0, l1, l2, l3, l4, l5, l6, l7, some (2, x), l9, l10, l11, l12, l13, l14] st G M Q ↔ Go 68 246 [l0, l1, l2, l3, l4, l5, l6, l7, some (2, x), l9, l10, l11, l12, l13, l14] ((2, x) :: st) G M Q := go_aload hq68 k68_244 rfl
theorem k68_246 : cm_at ins_68 246 = some (.iload 12, 2) := by decide +kernel
theorem g68_246 : Go 68 246 [l0, l1, l2, l3, l4, l5, l6, l7, l8, l9, l10, l11, some (0, x), l13, l14] st G M Q ↔ Go 68 248 [l0, l1, l2, l3, l4, l5, l6, l7, l8, l9, l10, l11, some (0, x), l13, l14] ((0, x) :: st) G M Q := go_iload hq68 k68_246 rfl
theorem k68_248 : cm_at ins_68 248 = some (.iload 14, 2) := by decide +kernel
theorem g68_248 : Go 68 248 [l0, l1, l2, l3, l4, l5, l6, l7, l8, l9, l10, l11, l12, l13, some (0, x)] st G M Q ↔ Go 68 250 [l0, l1, l2, l3, l4, l5, l6, l7, l8, l9, l10, l11, l12, l13, some (0, x)] ((0, x) :: st) G M Q := go_iload hq68 k68_248 rfl
theorem k68_250 : cm_at ins_68 250 = some (.ifCond .eq 8, 3) := by decide +kernel
theorem g68_250 : Go 68 250 ls ((0, a) :: st) G M Q ↔ cm_in a ∧ (a = 0 → Go 68 258 ls st G M Q) ∧ (¬ a = 0 → Go 68 253 ls st G M Q) := go_if_eq hq68 k68_250 (by decide)
theorem k68_253 : cm_at ins_68 253 = some (.iload 10, 2) := by decide +kernel
theorem g68_253 : Go 68 253 [l0, l1, l2, l3, l4, l5, l6, l7, l8, l9, some (0, x), l11, l12, l13, l14] st G M Q ↔ Go 68 255 [l0, l1, l2, l3, l4, l5, l6, l7, l8, l9, some (0, x), l11, l12, l13, l14] ((0, x) :: st) G M Q := go_iload hq68 k68_253 rfl
theorem k68_255 : cm_at ins_68 255 = some (.goto 8, 3) := by decide +kernel
theorem g68_255 : Go 68 255 ls st G M Q ↔ Go 68 263 ls st G M Q := go_goto hq68 k68_255 (by decide)
theorem k68_258 : cm_at ins_68 258 = some (.aload 8, 2) := by decide +kernel
theorem g68_258 : Go 68 258 [l0, l1, l2, l3, l4, l5, l6, l7, some (2, x), l9, l10, l11, l12, l13, l14] st G M Q ↔ Go 68 260 [l0, l1, l2, l3, l4, l5, l6, l7, some (2, x), l9, l10, l11, l12, l13, l14] ((2, x) :: st) G M Q := go_aload hq68 k68_258 rfl
theorem k68_260 : cm_at ins_68 260 = some (.iload 12, 2) := by decide +kernel
theorem g68_260 : Go 68 260 [l0, l1, l2, l3, l4, l5, l6, l7, l8, l9, l10, l11, some (0, x), l13, l14] st G M Q ↔ Go 68 262 [l0, l1, l2, l3, l4, l5, l6, l7, l8, l9, l10, l11, some (0, x), l13, l14] ((0, x) :: st) G M Q := go_iload hq68 k68_260 rfl
theorem k68_262 : cm_at ins_68 262 = some (.iaload, 1) := by decide +kernel
theorem g68_262 : Go 68 262 ls ((0, i) :: (2, k) :: st) G M Q ↔ (0 ≤ i ∧ i < cm_al 1 G M k) ∧ Go 68 263 ls ((0, M k i) :: st) G M Q := go_iald hq68 k68_262
theorem k68_263 : cm_at ins_68 263 = some (.iastore, 1) := by decide +kernel
theorem g68_263 : Go 68 263 ls ((0, v) :: (0, i) :: (2, k) :: st) G M Q ↔ (0 ≤ k ∧ 0 ≤ i ∧ i < cm_al 1 G M k) ∧ Go 68 264 ls st G (cm_up M k i v) Q := go_iast hq68 k68_263
theorem k68_264 : cm_at ins_68 264 = some (.iinc 12 1, 3) := by decide +kernel
theorem g68_264 : Go 68 264 [l0, l1, l2, l3, l4, l5, l6, l7, l8, l9, l10, l11, some (0, x), l13, l14] st G M Q ↔ Go 68 267 [l0, l1, l2, l3, l4, l5, l6, l7, l8, l9, l10, l11, some (0, x + 1), l13, l14] st G M Q := go_iinc hq68 k68_264 rfl ⟨rfl, by decide⟩
theorem k68_267 : cm_at ins_68 267 = some (.goto (-120), 3) := by decide +kernel
theorem g68_267 : Go 68 267 ls st G M Q ↔ Go 68 147 ls st G M Q := go_goto hq68 k68_267 (by decide)
theorem k68_270 : cm_at ins_68 270 = some (.goto (-229), 3) := by decide +kernel
theorem g68_270 : Go 68 270 ls st G M Q ↔ Go 68 41 ls st G M Q := go_goto hq68 k68_270 (by decide)
theorem k68_273 : cm_at ins_68 273 = some (.iload 10, 2) := by decide +kernel
theorem g68_273 : Go 68 273 [l0, l1, l2, l3, l4, l5, l6, l7, l8, l9, some (0, x), l11, l12, l13, l14] st G M Q ↔ Go 68 275 [l0, l1, l2, l3, l4, l5, l6, l7, l8, l9, some (0, x), l11, l12, l13, l14] ((0, x) :: st) G M Q := go_iload hq68 k68_273 rfl
theorem k68_275 : cm_at ins_68 275 = some (.ireturn, 1) := by decide +kernel
theorem g68_275 : Go 68 275 ls [(0, v)] G M Q ↔ Q (some (0, v)) G M := go_ireturn hq68 k68_275 rfl
theorem k69_0 : cm_at ins_69 0 = some (.aload_n 0, 1) := by decide +kernel
theorem g69_0 : Go 69 0 [some (2, x), l1, l2, l3, l4, l5, l6, l7] st G M Q ↔ Go 69 1 [some (2, x), l1, l2, l3, l4, l5, l6, l7] ((2, x) :: st) G M Q := go_aload_n hq69 k69_0 rfl
theorem k69_1 : cm_at ins_69 1 = some (.iconst 0, 1) := by decide +kernel
theorem g69_1 : Go 69 1 ls st G M Q ↔ Go 69 2 ls ((0, 0) :: st) G M Q := go_iconst hq69 k69_1
theorem k69_2 : cm_at ins_69 2 = some (.invokevirtual 10, 3) := by decide +kernel
theorem c69_2 (h8 : cm_sum st ≤ 8) (hk : cm_sh G k = some (0, 5)) (K : Go 55 0 [some (2, k), some (0, y)] [] G M (fun r G' M' => Go 69 5 ls (r.toList ++ st) G' M' Q)) : Go 69 2 ls ((0, y) :: (2, k) :: st) G M Q := go_callV hq69 k69_2 fc7_10 hq55 rfl (as := [(0, y), (2, k)]) rfl rfl (Nat.le_of_ble_eq_true rfl) rfl h8 hk K
theorem k69_5 : cm_at ins_69 5 = some (.istore 5, 2) := by decide +kernel
theorem g69_5 : Go 69 5 [l0, l1, l2, l3, l4, l5, l6, l7] ((0, x) :: st) G M Q ↔ Go 69 7 [l0, l1, l2, l3, l4, some (0, x), l6, l7] st G M Q := go_istore hq69 k69_5 ⟨Nat.le_of_ble_eq_true rfl, rfl, by decide⟩
theorem k69_7 : cm_at ins_69 7 = some (.aload_n 1, 1) := by decide +kernel
theorem g69_7 : Go 69 7 [l0, some (2, x), l2, l3, l4, l5, l6, l7] st G M Q ↔ Go 69 8 [l0, some (2, x), l2, l3, l4, l5, l6, l7] ((2, x) :: st) G M Q := go_aload_n hq69 k69_7 rfl
theorem k69_8 : cm_at ins_69 8 = some (.iconst 0, 1) := by decide +kernel
theorem g69_8 : Go 69 8 ls st G M Q ↔ Go 69 9 ls ((0, 0) :: st) G M Q := go_iconst hq69 k69_8
theorem k69_9 : cm_at ins_69 9 = some (.iconst 0, 1) := by decide +kernel
theorem g69_9 : Go 69 9 ls st G M Q ↔ Go 69 10 ls ((0, 0) :: st) G M Q := go_iconst hq69 k69_9
theorem k69_10 : cm_at ins_69 10 = some (.iastore, 1) := by decide +kernel
theorem g69_10 : Go 69 10 ls ((0, v) :: (0, i) :: (2, k) :: st) G M Q ↔ (0 ≤ k ∧ 0 ≤ i ∧ i < cm_al 1 G M k) ∧ Go 69 11 ls st G (cm_up M k i v) Q := go_iast hq69 k69_10
theorem k69_11 : cm_at ins_69 11 = some (.iconst 0, 1) := by decide +kernel
theorem g69_11 : Go 69 11 ls st G M Q ↔ Go 69 12 ls ((0, 0) :: st) G M Q := go_iconst hq69 k69_11
theorem k69_12 : cm_at ins_69 12 = some (.istore 6, 2) := by decide +kernel
theorem g69_12 : Go 69 12 [l0, l1, l2, l3, l4, l5, l6, l7] ((0, x) :: st) G M Q ↔ Go 69 14 [l0, l1, l2, l3, l4, l5, some (0, x), l7] st G M Q := go_istore hq69 k69_12 ⟨Nat.le_of_ble_eq_true rfl, rfl, by decide⟩
theorem k69_14 : cm_at ins_69 14 = some (.iload 6, 2) := by decide +kernel
theorem g69_14 : Go 69 14 [l0, l1, l2, l3, l4, l5, some (0, x), l7] st G M Q ↔ Go 69 16 [l0, l1, l2, l3, l4, l5, some (0, x), l7] ((0, x) :: st) G M Q := go_iload hq69 k69_14 rfl
theorem k69_16 : cm_at ins_69 16 = some (.iload 5, 2) := by decide +kernel
theorem g69_16 : Go 69 16 [l0, l1, l2, l3, l4, some (0, x), l6, l7] st G M Q ↔ Go 69 18 [l0, l1, l2, l3, l4, some (0, x), l6, l7] ((0, x) :: st) G M Q := go_iload hq69 k69_16 rfl
theorem k69_18 : cm_at ins_69 18 = some (.if_icmp .ge 86, 3) := by decide +kernel
theorem g69_18 : Go 69 18 ls ((0, b) :: (0, a) :: st) G M Q ↔ (cm_in a ∧ cm_in b) ∧ (¬ a < b → Go 69 104 ls st G M Q) ∧ (a < b → Go 69 21 ls st G M Q) := go_icmp_ge hq69 k69_18 (by decide)
theorem k69_21 : cm_at ins_69 21 = some (.aload_n 0, 1) := by decide +kernel
theorem g69_21 : Go 69 21 [some (2, x), l1, l2, l3, l4, l5, l6, l7] st G M Q ↔ Go 69 22 [some (2, x), l1, l2, l3, l4, l5, l6, l7] ((2, x) :: st) G M Q := go_aload_n hq69 k69_21 rfl
theorem k69_22 : cm_at ins_69 22 = some (.iload 6, 2) := by decide +kernel
theorem g69_22 : Go 69 22 [l0, l1, l2, l3, l4, l5, some (0, x), l7] st G M Q ↔ Go 69 24 [l0, l1, l2, l3, l4, l5, some (0, x), l7] ((0, x) :: st) G M Q := go_iload hq69 k69_22 rfl
theorem k69_24 : cm_at ins_69 24 = some (.iconst 0, 1) := by decide +kernel
theorem g69_24 : Go 69 24 ls st G M Q ↔ Go 69 25 ls ((0, 0) :: st) G M Q := go_iconst hq69 k69_24
theorem k69_25 : cm_at ins_69 25 = some (.invokevirtual 28, 3) := by decide +kernel
theorem c69_25 (h8 : cm_sum st ≤ 8) (hk : cm_sh G k = some (0, 5)) (K : Go 52 0 [some (2, k), some (0, y), some (0, z)] [] G M (fun r G' M' => Go 69 28 ls (r.toList ++ st) G' M' Q)) : Go 69 25 ls ((0, z) :: (0, y) :: (2, k) :: st) G M Q := go_callV hq69 k69_25 fc7_28 hq52 rfl (as := [(0, z), (0, y), (2, k)]) rfl rfl (Nat.le_of_ble_eq_true rfl) rfl h8 hk K
theorem k69_28 : cm_at ins_69 28 = some (.istore 7, 2) := by decide +kernel
theorem g69_28 : Go 69 28 [l0, l1, l2, l3, l4, l5, l6, l7] ((0, x) :: st) G M Q ↔ Go 69 30 [l0, l1, l2, l3, l4, l5, l6, some (0, x)] st G M Q := go_istore hq69 k69_28 ⟨Nat.le_of_ble_eq_true rfl, rfl, by decide⟩
theorem k69_30 : cm_at ins_69 30 = some (.aload_n 2, 1) := by decide +kernel
theorem g69_30 : Go 69 30 [l0, l1, some (2, x), l3, l4, l5, l6, l7] st G M Q ↔ Go 69 31 [l0, l1, some (2, x), l3, l4, l5, l6, l7] ((2, x) :: st) G M Q := go_aload_n hq69 k69_30 rfl
theorem k69_31 : cm_at ins_69 31 = some (.iload 6, 2) := by decide +kernel
theorem g69_31 : Go 69 31 [l0, l1, l2, l3, l4, l5, some (0, x), l7] st G M Q ↔ Go 69 33 [l0, l1, l2, l3, l4, l5, some (0, x), l7] ((0, x) :: st) G M Q := go_iload hq69 k69_31 rfl
theorem k69_33 : cm_at ins_69 33 = some (.iload 7, 2) := by decide +kernel
theorem g69_33 : Go 69 33 [l0, l1, l2, l3, l4, l5, l6, some (0, x)] st G M Q ↔ Go 69 35 [l0, l1, l2, l3, l4, l5, l6, some (0, x)] ((0, x) :: st) G M Q := go_iload hq69 k69_33 rfl
theorem k69_35 : cm_at ins_69 35 = some (.iconst 1, 1) := by decide +kernel
theorem g69_35 : Go 69 35 ls st G M Q ↔ Go 69 36 ls ((0, 1) :: st) G M Q := go_iconst hq69 k69_35
theorem k69_36 : cm_at ins_69 36 = some (.if_icmp .ne 7, 3) := by decide +kernel
theorem g69_36 : Go 69 36 ls ((0, b) :: (0, a) :: st) G M Q ↔ (cm_in a ∧ cm_in b) ∧ (¬ a = b → Go 69 43 ls st G M Q) ∧ (a = b → Go 69 39 ls st G M Q) := go_icmp_ne hq69 k69_36 (by decide)
theorem k69_39 : cm_at ins_69 39 = some (.iconst 2, 1) := by decide +kernel
theorem g69_39 : Go 69 39 ls st G M Q ↔ Go 69 40 ls ((0, 2) :: st) G M Q := go_iconst hq69 k69_39
theorem k69_40 : cm_at ins_69 40 = some (.goto 19, 3) := by decide +kernel
theorem g69_40 : Go 69 40 ls st G M Q ↔ Go 69 59 ls st G M Q := go_goto hq69 k69_40 (by decide)
theorem k69_43 : cm_at ins_69 43 = some (.iload 7, 2) := by decide +kernel
theorem g69_43 : Go 69 43 [l0, l1, l2, l3, l4, l5, l6, some (0, x)] st G M Q ↔ Go 69 45 [l0, l1, l2, l3, l4, l5, l6, some (0, x)] ((0, x) :: st) G M Q := go_iload hq69 k69_43 rfl
theorem k69_45 : cm_at ins_69 45 = some (.iconst 2, 1) := by decide +kernel
theorem g69_45 : Go 69 45 ls st G M Q ↔ Go 69 46 ls ((0, 2) :: st) G M Q := go_iconst hq69 k69_45
theorem k69_46 : cm_at ins_69 46 = some (.if_icmp .ne 12, 3) := by decide +kernel
theorem g69_46 : Go 69 46 ls ((0, b) :: (0, a) :: st) G M Q ↔ (cm_in a ∧ cm_in b) ∧ (¬ a = b → Go 69 58 ls st G M Q) ∧ (a = b → Go 69 49 ls st G M Q) := go_icmp_ne hq69 k69_46 (by decide)
theorem k69_49 : cm_at ins_69 49 = some (.aload_n 0, 1) := by decide +kernel
theorem g69_49 : Go 69 49 [some (2, x), l1, l2, l3, l4, l5, l6, l7] st G M Q ↔ Go 69 50 [some (2, x), l1, l2, l3, l4, l5, l6, l7] ((2, x) :: st) G M Q := go_aload_n hq69 k69_49 rfl
theorem k69_50 : cm_at ins_69 50 = some (.bipush 9, 2) := by decide +kernel
theorem g69_50 : Go 69 50 ls st G M Q ↔ Go 69 52 ls ((0, 9) :: st) G M Q := go_bipush hq69 k69_50 (by decide)
theorem k69_52 : cm_at ins_69 52 = some (.invokevirtual 10, 3) := by decide +kernel
theorem c69_52 (h8 : cm_sum st ≤ 8) (hk : cm_sh G k = some (0, 5)) (K : Go 55 0 [some (2, k), some (0, y)] [] G M (fun r G' M' => Go 69 55 ls (r.toList ++ st) G' M' Q)) : Go 69 52 ls ((0, y) :: (2, k) :: st) G M Q := go_callV hq69 k69_52 fc7_10 hq55 rfl (as := [(0, y), (2, k)]) rfl rfl (Nat.le_of_ble_eq_true rfl) rfl h8 hk K
theorem k69_55 : cm_at ins_69 55 = some (.goto 4, 3) := by decide +kernel
theorem g69_55 : Go 69 55 ls st G M Q ↔ Go 69 59 ls st G M Q := go_goto hq69 k69_55 (by decide)
theorem k69_58 : cm_at ins_69 58 = some (.iconst 1, 1) := by decide +kernel
theorem g69_58 : Go 69 58 ls st G M Q ↔ Go 69 59 ls ((0, 1) :: st) G M Q := go_iconst hq69 k69_58
theorem k69_59 : cm_at ins_69 59 = some (.iastore, 1) := by decide +kernel
theorem g69_59 : Go 69 59 ls ((0, v) :: (0, i) :: (2, k) :: st) G M Q ↔ (0 ≤ k ∧ 0 ≤ i ∧ i < cm_al 1 G M k) ∧ Go 69 60 ls st G (cm_up M k i v) Q := go_iast hq69 k69_59
theorem k69_60 : cm_at ins_69 60 = some (.aload_n 1, 1) := by decide +kernel
theorem g69_60 : Go 69 60 [l0, some (2, x), l2, l3, l4, l5, l6, l7] st G M Q ↔ Go 69 61 [l0, some (2, x), l2, l3, l4, l5, l6, l7] ((2, x) :: st) G M Q := go_aload_n hq69 k69_60 rfl
theorem k69_61 : cm_at ins_69 61 = some (.iload 6, 2) := by decide +kernel
theorem g69_61 : Go 69 61 [l0, l1, l2, l3, l4, l5, some (0, x), l7] st G M Q ↔ Go 69 63 [l0, l1, l2, l3, l4, l5, some (0, x), l7] ((0, x) :: st) G M Q := go_iload hq69 k69_61 rfl
theorem k69_63 : cm_at ins_69 63 = some (.iconst 1, 1) := by decide +kernel
theorem g69_63 : Go 69 63 ls st G M Q ↔ Go 69 64 ls ((0, 1) :: st) G M Q := go_iconst hq69 k69_63
theorem k69_64 : cm_at ins_69 64 = some (.iadd, 1) := by decide +kernel
theorem g69_64 : Go 69 64 ls ((0, b) :: (0, a) :: st) G M Q ↔ Go 69 65 ls ((0, a + b) :: st) G M Q := go_iadd hq69 k69_64
theorem k69_65 : cm_at ins_69 65 = some (.aload_n 1, 1) := by decide +kernel
theorem g69_65 : Go 69 65 [l0, some (2, x), l2, l3, l4, l5, l6, l7] st G M Q ↔ Go 69 66 [l0, some (2, x), l2, l3, l4, l5, l6, l7] ((2, x) :: st) G M Q := go_aload_n hq69 k69_65 rfl
theorem k69_66 : cm_at ins_69 66 = some (.iload 6, 2) := by decide +kernel
theorem g69_66 : Go 69 66 [l0, l1, l2, l3, l4, l5, some (0, x), l7] st G M Q ↔ Go 69 68 [l0, l1, l2, l3, l4, l5, some (0, x), l7] ((0, x) :: st) G M Q := go_iload hq69 k69_66 rfl
theorem k69_68 : cm_at ins_69 68 = some (.iaload, 1) := by decide +kernel
theorem g69_68 : Go 69 68 ls ((0, i) :: (2, k) :: st) G M Q ↔ (0 ≤ i ∧ i < cm_al 1 G M k) ∧ Go 69 69 ls ((0, M k i) :: st) G M Q := go_iald hq69 k69_68
theorem k69_69 : cm_at ins_69 69 = some (.aload_n 2, 1) := by decide +kernel
theorem g69_69 : Go 69 69 [l0, l1, some (2, x), l3, l4, l5, l6, l7] st G M Q ↔ Go 69 70 [l0, l1, some (2, x), l3, l4, l5, l6, l7] ((2, x) :: st) G M Q := go_aload_n hq69 k69_69 rfl
theorem k69_70 : cm_at ins_69 70 = some (.iload 6, 2) := by decide +kernel
theorem g69_70 : Go 69 70 [l0, l1, l2, l3, l4, l5, some (0, x), l7] st G M Q ↔ Go 69 72 [l0, l1, l2, l3, l4, l5, some (0, x), l7] ((0, x) :: st) G M Q := go_iload hq69 k69_70 rfl
theorem k69_72 : cm_at ins_69 72 = some (.iaload, 1) := by decide +kernel
theorem g69_72 : Go 69 72 ls ((0, i) :: (2, k) :: st) G M Q ↔ (0 ≤ i ∧ i < cm_al 1 G M k) ∧ Go 69 73 ls ((0, M k i) :: st) G M Q := go_iald hq69 k69_72
theorem k69_73 : cm_at ins_69 73 = some (.iadd, 1) := by decide +kernel
theorem g69_73 : Go 69 73 ls ((0, b) :: (0, a) :: st) G M Q ↔ Go 69 74 ls ((0, a + b) :: st) G M Q := go_iadd hq69 k69_73
theorem k69_74 : cm_at ins_69 74 = some (.iastore, 1) := by decide +kernel
theorem g69_74 : Go 69 74 ls ((0, v) :: (0, i) :: (2, k) :: st) G M Q ↔ (0 ≤ k ∧ 0 ≤ i ∧ i < cm_al 1 G M k) ∧ Go 69 75 ls st G (cm_up M k i v) Q := go_iast hq69 k69_74
theorem k69_75 : cm_at ins_69 75 = some (.aload_n 3, 1) := by decide +kernel
theorem g69_75 : Go 69 75 [l0, l1, l2, some (2, x), l4, l5, l6, l7] st G M Q ↔ Go 69 76 [l0, l1, l2, some (2, x), l4, l5, l6, l7] ((2, x) :: st) G M Q := go_aload_n hq69 k69_75 rfl
theorem k69_76 : cm_at ins_69 76 = some (.iload 6, 2) := by decide +kernel
theorem g69_76 : Go 69 76 [l0, l1, l2, l3, l4, l5, some (0, x), l7] st G M Q ↔ Go 69 78 [l0, l1, l2, l3, l4, l5, some (0, x), l7] ((0, x) :: st) G M Q := go_iload hq69 k69_76 rfl
theorem k69_78 : cm_at ins_69 78 = some (.aload_n 0, 1) := by decide +kernel
theorem g69_78 : Go 69 78 [some (2, x), l1, l2, l3, l4, l5, l6, l7] st G M Q ↔ Go 69 79 [some (2, x), l1, l2, l3, l4, l5, l6, l7] ((2, x) :: st) G M Q := go_aload_n hq69 k69_78 rfl
theorem k69_79 : cm_at ins_69 79 = some (.iload 6, 2) := by decide +kernel
theorem g69_79 : Go 69 79 [l0, l1, l2, l3, l4, l5, some (0, x), l7] st G M Q ↔ Go 69 81 [l0, l1, l2, l3, l4, l5, some (0, x), l7] ((0, x) :: st) G M Q := go_iload hq69 k69_79 rfl
theorem k69_81 : cm_at ins_69 81 = some (.iconst 3, 1) := by decide +kernel
theorem g69_81 : Go 69 81 ls st G M Q ↔ Go 69 82 ls ((0, 3) :: st) G M Q := go_iconst hq69 k69_81
theorem k69_82 : cm_at ins_69 82 = some (.invokevirtual 28, 3) := by decide +kernel
theorem c69_82 (h8 : cm_sum st ≤ 8) (hk : cm_sh G k = some (0, 5)) (K : Go 52 0 [some (2, k), some (0, y), some (0, z)] [] G M (fun r G' M' => Go 69 85 ls (r.toList ++ st) G' M' Q)) : Go 69 82 ls ((0, z) :: (0, y) :: (2, k) :: st) G M Q := go_callV hq69 k69_82 fc7_28 hq52 rfl (as := [(0, z), (0, y), (2, k)]) rfl rfl (Nat.le_of_ble_eq_true rfl) rfl h8 hk K
theorem k69_85 : cm_at ins_69 85 = some (.iastore, 1) := by decide +kernel
theorem g69_85 : Go 69 85 ls ((0, v) :: (0, i) :: (2, k) :: st) G M Q ↔ (0 ≤ k ∧ 0 ≤ i ∧ i < cm_al 1 G M k) ∧ Go 69 86 ls st G (cm_up M k i v) Q := go_iast hq69 k69_85
theorem k69_86 : cm_at ins_69 86 = some (.aload 4, 2) := by decide +kernel
theorem g69_86 : Go 69 86 [l0, l1, l2, l3, some (2, x), l5, l6, l7] st G M Q ↔ Go 69 88 [l0, l1, l2, l3, some (2, x), l5, l6, l7] ((2, x) :: st) G M Q := go_aload hq69 k69_86 rfl
theorem k69_88 : cm_at ins_69 88 = some (.iload 6, 2) := by decide +kernel
theorem g69_88 : Go 69 88 [l0, l1, l2, l3, l4, l5, some (0, x), l7] st G M Q ↔ Go 69 90 [l0, l1, l2, l3, l4, l5, some (0, x), l7] ((0, x) :: st) G M Q := go_iload hq69 k69_88 rfl
theorem k69_90 : cm_at ins_69 90 = some (.aload_n 0, 1) := by decide +kernel
theorem g69_90 : Go 69 90 [some (2, x), l1, l2, l3, l4, l5, l6, l7] st G M Q ↔ Go 69 91 [some (2, x), l1, l2, l3, l4, l5, l6, l7] ((2, x) :: st) G M Q := go_aload_n hq69 k69_90 rfl
theorem k69_91 : cm_at ins_69 91 = some (.iload 6, 2) := by decide +kernel
theorem g69_91 : Go 69 91 [l0, l1, l2, l3, l4, l5, some (0, x), l7] st G M Q ↔ Go 69 93 [l0, l1, l2, l3, l4, l5, some (0, x), l7] ((0, x) :: st) G M Q := go_iload hq69 k69_91 rfl
theorem k69_93 : cm_at ins_69 93 = some (.iconst 1, 1) := by decide +kernel
theorem g69_93 : Go 69 93 ls st G M Q ↔ Go 69 94 ls ((0, 1) :: st) G M Q := go_iconst hq69 k69_93
theorem k69_94 : cm_at ins_69 94 = some (.invokevirtual 28, 3) := by decide +kernel
theorem c69_94 (h8 : cm_sum st ≤ 8) (hk : cm_sh G k = some (0, 5)) (K : Go 52 0 [some (2, k), some (0, y), some (0, z)] [] G M (fun r G' M' => Go 69 97 ls (r.toList ++ st) G' M' Q)) : Go 69 94 ls ((0, z) :: (0, y) :: (2, k) :: st) G M Q := go_callV hq69 k69_94 fc7_28 hq52 rfl (as := [(0, z), (0, y), (2, k)]) rfl rfl (Nat.le_of_ble_eq_true rfl) rfl h8 hk K
theorem k69_97 : cm_at ins_69 97 = some (.iastore, 1) := by decide +kernel
theorem g69_97 : Go 69 97 ls ((0, v) :: (0, i) :: (2, k) :: st) G M Q ↔ (0 ≤ k ∧ 0 ≤ i ∧ i < cm_al 1 G M k) ∧ Go 69 98 ls st G (cm_up M k i v) Q := go_iast hq69 k69_97
theorem k69_98 : cm_at ins_69 98 = some (.iinc 6 1, 3) := by decide +kernel
theorem g69_98 : Go 69 98 [l0, l1, l2, l3, l4, l5, some (0, x), l7] st G M Q ↔ Go 69 101 [l0, l1, l2, l3, l4, l5, some (0, x + 1), l7] st G M Q := go_iinc hq69 k69_98 rfl ⟨rfl, by decide⟩
theorem k69_101 : cm_at ins_69 101 = some (.goto (-87), 3) := by decide +kernel
theorem g69_101 : Go 69 101 ls st G M Q ↔ Go 69 14 ls st G M Q := go_goto hq69 k69_101 (by decide)
theorem k69_104 : cm_at ins_69 104 = some (.return_, 1) := by decide +kernel
theorem g69_104 : Go 69 104 ls [] G M Q ↔ Q none G M := go_return hq69 k69_104 rfl
theorem k70_0 : cm_at ins_70 0 = some (.bipush 41, 2) := by decide +kernel
theorem g70_0 : Go 70 0 ls st G M Q ↔ Go 70 2 ls ((0, 41) :: st) G M Q := go_bipush hq70 k70_0 (by decide)
theorem k70_2 : cm_at ins_70 2 = some (.newarray .int, 2) := by decide +kernel
theorem g70_2 : Go 70 2 ls ((0, x) :: st) G M Q ↔ (0 ≤ x ∧ x ≤ 1000) ∧ Go 70 4 ls ((2, (G.1.length : Int)) :: st) (G.1 ++ [(1, x.toNat)], G.2) (cm_row M (G.1.length : Int) 0) Q := go_newarr hq70 k70_2 rfl
theorem k70_4 : cm_at ins_70 4 = some (.astore_n 2, 1) := by decide +kernel
theorem g70_4 : Go 70 4 [l0, l1, l2, l3, l4, l5, l6, l7, l8, l9, l10, l11, l12, l13, l14, l15] ((2, x) :: st) G M Q ↔ x ≠ -1 ∧ Go 70 5 [l0, l1, some (2, x), l3, l4, l5, l6, l7, l8, l9, l10, l11, l12, l13, l14, l15] st G M Q := go_astore_n hq70 k70_4 ⟨Nat.le_of_ble_eq_true rfl, rfl, by decide⟩
theorem k70_5 : cm_at ins_70 5 = some (.bipush 40, 2) := by decide +kernel
theorem g70_5 : Go 70 5 ls st G M Q ↔ Go 70 7 ls ((0, 40) :: st) G M Q := go_bipush hq70 k70_5 (by decide)
theorem k70_7 : cm_at ins_70 7 = some (.newarray .int, 2) := by decide +kernel
theorem g70_7 : Go 70 7 ls ((0, x) :: st) G M Q ↔ (0 ≤ x ∧ x ≤ 1000) ∧ Go 70 9 ls ((2, (G.1.length : Int)) :: st) (G.1 ++ [(1, x.toNat)], G.2) (cm_row M (G.1.length : Int) 0) Q := go_newarr hq70 k70_7 rfl
theorem k70_9 : cm_at ins_70 9 = some (.astore_n 3, 1) := by decide +kernel
theorem g70_9 : Go 70 9 [l0, l1, l2, l3, l4, l5, l6, l7, l8, l9, l10, l11, l12, l13, l14, l15] ((2, x) :: st) G M Q ↔ x ≠ -1 ∧ Go 70 10 [l0, l1, l2, some (2, x), l4, l5, l6, l7, l8, l9, l10, l11, l12, l13, l14, l15] st G M Q := go_astore_n hq70 k70_9 ⟨Nat.le_of_ble_eq_true rfl, rfl, by decide⟩
theorem k70_10 : cm_at ins_70 10 = some (.bipush 40, 2) := by decide +kernel
theorem g70_10 : Go 70 10 ls st G M Q ↔ Go 70 12 ls ((0, 40) :: st) G M Q := go_bipush hq70 k70_10 (by decide)
theorem k70_12 : cm_at ins_70 12 = some (.newarray .int, 2) := by decide +kernel
theorem g70_12 : Go 70 12 ls ((0, x) :: st) G M Q ↔ (0 ≤ x ∧ x ≤ 1000) ∧ Go 70 14 ls ((2, (G.1.length : Int)) :: st) (G.1 ++ [(1, x.toNat)], G.2) (cm_row M (G.1.length : Int) 0) Q := go_newarr hq70 k70_12 rfl
theorem k70_14 : cm_at ins_70 14 = some (.astore 4, 2) := by decide +kernel
theorem g70_14 : Go 70 14 [l0, l1, l2, l3, l4, l5, l6, l7, l8, l9, l10, l11, l12, l13, l14, l15] ((2, x) :: st) G M Q ↔ x ≠ -1 ∧ Go 70 16 [l0, l1, l2, l3, some (2, x), l5, l6, l7, l8, l9, l10, l11, l12, l13, l14, l15] st G M Q := go_astore hq70 k70_14 ⟨Nat.le_of_ble_eq_true rfl, rfl, by decide⟩
theorem k70_16 : cm_at ins_70 16 = some (.bipush 40, 2) := by decide +kernel
theorem g70_16 : Go 70 16 ls st G M Q ↔ Go 70 18 ls ((0, 40) :: st) G M Q := go_bipush hq70 k70_16 (by decide)
theorem k70_18 : cm_at ins_70 18 = some (.newarray .int, 2) := by decide +kernel
theorem g70_18 : Go 70 18 ls ((0, x) :: st) G M Q ↔ (0 ≤ x ∧ x ≤ 1000) ∧ Go 70 20 ls ((2, (G.1.length : Int)) :: st) (G.1 ++ [(1, x.toNat)], G.2) (cm_row M (G.1.length : Int) 0) Q := go_newarr hq70 k70_18 rfl
theorem k70_20 : cm_at ins_70 20 = some (.astore 5, 2) := by decide +kernel
theorem g70_20 : Go 70 20 [l0, l1, l2, l3, l4, l5, l6, l7, l8, l9, l10, l11, l12, l13, l14, l15] ((2, x) :: st) G M Q ↔ x ≠ -1 ∧ Go 70 22 [l0, l1, l2, l3, l4, some (2, x), l6, l7, l8, l9, l10, l11, l12, l13, l14, l15] st G M Q := go_astore hq70 k70_20 ⟨Nat.le_of_ble_eq_true rfl, rfl, by decide⟩
theorem k70_22 : cm_at ins_70 22 = some (.bipush 40, 2) := by decide +kernel
theorem g70_22 : Go 70 22 ls st G M Q ↔ Go 70 24 ls ((0, 40) :: st) G M Q := go_bipush hq70 k70_22 (by decide)
theorem k70_24 : cm_at ins_70 24 = some (.newarray .int, 2) := by decide +kernel
theorem g70_24 : Go 70 24 ls ((0, x) :: st) G M Q ↔ (0 ≤ x ∧ x ≤ 1000) ∧ Go 70 26 ls ((2, (G.1.length : Int)) :: st) (G.1 ++ [(1, x.toNat)], G.2) (cm_row M (G.1.length : Int) 0) Q := go_newarr hq70 k70_24 rfl
theorem k70_26 : cm_at ins_70 26 = some (.astore 6, 2) := by decide +kernel
theorem g70_26 : Go 70 26 [l0, l1, l2, l3, l4, l5, l6, l7, l8, l9, l10, l11, l12, l13, l14, l15] ((2, x) :: st) G M Q ↔ x ≠ -1 ∧ Go 70 28 [l0, l1, l2, l3, l4, l5, some (2, x), l7, l8, l9, l10, l11, l12, l13, l14, l15] st G M Q := go_astore hq70 k70_26 ⟨Nat.le_of_ble_eq_true rfl, rfl, by decide⟩
theorem k70_28 : cm_at ins_70 28 = some (.bipush 40, 2) := by decide +kernel
theorem g70_28 : Go 70 28 ls st G M Q ↔ Go 70 30 ls ((0, 40) :: st) G M Q := go_bipush hq70 k70_28 (by decide)
theorem k70_30 : cm_at ins_70 30 = some (.newarray .int, 2) := by decide +kernel
theorem g70_30 : Go 70 30 ls ((0, x) :: st) G M Q ↔ (0 ≤ x ∧ x ≤ 1000) ∧ Go 70 32 ls ((2, (G.1.length : Int)) :: st) (G.1 ++ [(1, x.toNat)], G.2) (cm_row M (G.1.length : Int) 0) Q := go_newarr hq70 k70_30 rfl
theorem k70_32 : cm_at ins_70 32 = some (.astore 7, 2) := by decide +kernel
theorem g70_32 : Go 70 32 [l0, l1, l2, l3, l4, l5, l6, l7, l8, l9, l10, l11, l12, l13, l14, l15] ((2, x) :: st) G M Q ↔ x ≠ -1 ∧ Go 70 34 [l0, l1, l2, l3, l4, l5, l6, some (2, x), l8, l9, l10, l11, l12, l13, l14, l15] st G M Q := go_astore hq70 k70_32 ⟨Nat.le_of_ble_eq_true rfl, rfl, by decide⟩
theorem k70_34 : cm_at ins_70 34 = some (.bipush 40, 2) := by decide +kernel
theorem g70_34 : Go 70 34 ls st G M Q ↔ Go 70 36 ls ((0, 40) :: st) G M Q := go_bipush hq70 k70_34 (by decide)
theorem k70_36 : cm_at ins_70 36 = some (.newarray .int, 2) := by decide +kernel
theorem g70_36 : Go 70 36 ls ((0, x) :: st) G M Q ↔ (0 ≤ x ∧ x ≤ 1000) ∧ Go 70 38 ls ((2, (G.1.length : Int)) :: st) (G.1 ++ [(1, x.toNat)], G.2) (cm_row M (G.1.length : Int) 0) Q := go_newarr hq70 k70_36 rfl
theorem k70_38 : cm_at ins_70 38 = some (.astore 8, 2) := by decide +kernel
theorem g70_38 : Go 70 38 [l0, l1, l2, l3, l4, l5, l6, l7, l8, l9, l10, l11, l12, l13, l14, l15] ((2, x) :: st) G M Q ↔ x ≠ -1 ∧ Go 70 40 [l0, l1, l2, l3, l4, l5, l6, l7, some (2, x), l9, l10, l11, l12, l13, l14, l15] st G M Q := go_astore hq70 k70_38 ⟨Nat.le_of_ble_eq_true rfl, rfl, by decide⟩
theorem k70_40 : cm_at ins_70 40 = some (.aload_n 0, 1) := by decide +kernel
theorem g70_40 : Go 70 40 [some (2, x), l1, l2, l3, l4, l5, l6, l7, l8, l9, l10, l11, l12, l13, l14, l15] st G M Q ↔ Go 70 41 [some (2, x), l1, l2, l3, l4, l5, l6, l7, l8, l9, l10, l11, l12, l13, l14, l15] ((2, x) :: st) G M Q := go_aload_n hq70 k70_40 rfl
theorem k70_41 : cm_at ins_70 41 = some (.iconst 0, 1) := by decide +kernel
theorem g70_41 : Go 70 41 ls st G M Q ↔ Go 70 42 ls ((0, 0) :: st) G M Q := go_iconst hq70 k70_41
theorem k70_42 : cm_at ins_70 42 = some (.invokevirtual 10, 3) := by decide +kernel
theorem c70_42 (h8 : cm_sum st ≤ 8) (hk : cm_sh G k = some (0, 5)) (K : Go 55 0 [some (2, k), some (0, y)] [] G M (fun r G' M' => Go 70 45 ls (r.toList ++ st) G' M' Q)) : Go 70 42 ls ((0, y) :: (2, k) :: st) G M Q := go_callV hq70 k70_42 fc7_10 hq55 rfl (as := [(0, y), (2, k)]) rfl rfl (Nat.le_of_ble_eq_true rfl) rfl h8 hk K
theorem k70_45 : cm_at ins_70 45 = some (.istore 9, 2) := by decide +kernel
theorem g70_45 : Go 70 45 [l0, l1, l2, l3, l4, l5, l6, l7, l8, l9, l10, l11, l12, l13, l14, l15] ((0, x) :: st) G M Q ↔ Go 70 47 [l0, l1, l2, l3, l4, l5, l6, l7, l8, some (0, x), l10, l11, l12, l13, l14, l15] st G M Q := go_istore hq70 k70_45 ⟨Nat.le_of_ble_eq_true rfl, rfl, by decide⟩
theorem k70_47 : cm_at ins_70 47 = some (.aload_n 0, 1) := by decide +kernel
theorem g70_47 : Go 70 47 [some (2, x), l1, l2, l3, l4, l5, l6, l7, l8, l9, l10, l11, l12, l13, l14, l15] st G M Q ↔ Go 70 48 [some (2, x), l1, l2, l3, l4, l5, l6, l7, l8, l9, l10, l11, l12, l13, l14, l15] ((2, x) :: st) G M Q := go_aload_n hq70 k70_47 rfl
theorem k70_48 : cm_at ins_70 48 = some (.aload_n 2, 1) := by decide +kernel
theorem g70_48 : Go 70 48 [l0, l1, some (2, x), l3, l4, l5, l6, l7, l8, l9, l10, l11, l12, l13, l14, l15] st G M Q ↔ Go 70 49 [l0, l1, some (2, x), l3, l4, l5, l6, l7, l8, l9, l10, l11, l12, l13, l14, l15] ((2, x) :: st) G M Q := go_aload_n hq70 k70_48 rfl
theorem k70_49 : cm_at ins_70 49 = some (.aload_n 3, 1) := by decide +kernel
theorem g70_49 : Go 70 49 [l0, l1, l2, some (2, x), l4, l5, l6, l7, l8, l9, l10, l11, l12, l13, l14, l15] st G M Q ↔ Go 70 50 [l0, l1, l2, some (2, x), l4, l5, l6, l7, l8, l9, l10, l11, l12, l13, l14, l15] ((2, x) :: st) G M Q := go_aload_n hq70 k70_49 rfl
theorem k70_50 : cm_at ins_70 50 = some (.aload 4, 2) := by decide +kernel
theorem g70_50 : Go 70 50 [l0, l1, l2, l3, some (2, x), l5, l6, l7, l8, l9, l10, l11, l12, l13, l14, l15] st G M Q ↔ Go 70 52 [l0, l1, l2, l3, some (2, x), l5, l6, l7, l8, l9, l10, l11, l12, l13, l14, l15] ((2, x) :: st) G M Q := go_aload hq70 k70_50 rfl
theorem k70_52 : cm_at ins_70 52 = some (.aload 8, 2) := by decide +kernel
theorem g70_52 : Go 70 52 [l0, l1, l2, l3, l4, l5, l6, l7, some (2, x), l9, l10, l11, l12, l13, l14, l15] st G M Q ↔ Go 70 54 [l0, l1, l2, l3, l4, l5, l6, l7, some (2, x), l9, l10, l11, l12, l13, l14, l15] ((2, x) :: st) G M Q := go_aload hq70 k70_52 rfl
theorem k70_54 : cm_at ins_70 54 = some (.invokestatic 37, 3) := by decide +kernel
theorem c70_54 (h8 : cm_sum st ≤ 8) (K : Go 69 0 [some (2, x), some (2, y), some (2, z), some (2, u), some (2, w), none, none, none] [] G M (fun r G' M' => Go 70 57 ls (r.toList ++ st) G' M' Q)) : Go 70 54 ls ((2, w) :: (2, u) :: (2, z) :: (2, y) :: (2, x) :: st) G M Q := go_callS hq70 k70_54 fc7_37 ⟨by decide, by decide⟩ hq69 rfl (as := [(2, w), (2, u), (2, z), (2, y), (2, x)]) rfl rfl (Nat.le_of_ble_eq_true rfl) h8 K
theorem k70_57 : cm_at ins_70 57 = some (.aload_n 2, 1) := by decide +kernel
theorem g70_57 : Go 70 57 [l0, l1, some (2, x), l3, l4, l5, l6, l7, l8, l9, l10, l11, l12, l13, l14, l15] st G M Q ↔ Go 70 58 [l0, l1, some (2, x), l3, l4, l5, l6, l7, l8, l9, l10, l11, l12, l13, l14, l15] ((2, x) :: st) G M Q := go_aload_n hq70 k70_57 rfl
theorem k70_58 : cm_at ins_70 58 = some (.aload_n 3, 1) := by decide +kernel
theorem g70_58 : Go 70 58 [l0, l1, l2, some (2, x), l4, l5, l6, l7, l8, l9, l10, l11, l12, l13, l14, l15] st G M Q ↔ Go 70 59 [l0, l1, l2, some (2, x), l4, l5, l6, l7, l8, l9, l10, l11, l12, l13, l14, l15] ((2, x) :: st) G M Q := go_aload_n hq70 k70_58 rfl
theorem k70_59 : cm_at ins_70 59 = some (.aload 4, 2) := by decide +kernel
theorem g70_59 : Go 70 59 [l0, l1, l2, l3, some (2, x), l5, l6, l7, l8, l9, l10, l11, l12, l13, l14, l15] st G M Q ↔ Go 70 61 [l0, l1, l2, l3, some (2, x), l5, l6, l7, l8, l9, l10, l11, l12, l13, l14, l15] ((2, x) :: st) G M Q := go_aload hq70 k70_59 rfl
theorem k70_61 : cm_at ins_70 61 = some (.iload 9, 2) := by decide +kernel
theorem g70_61 : Go 70 61 [l0, l1, l2, l3, l4, l5, l6, l7, l8, some (0, x), l10, l11, l12, l13, l14, l15] st G M Q ↔ Go 70 63 [l0, l1, l2, l3, l4, l5, l6, l7, l8, some (0, x), l10, l11, l12, l13, l14, l15] ((0, x) :: st) G M Q := go_iload hq70 k70_61 rfl
theorem k70_63 : cm_at ins_70 63 = some (.aload_n 0, 1) := by decide +kernel
theorem g70_63 : Go 70 63 [some (2, x), l1, l2, l3, l4, l5, l6, l7, l8, l9, l10, l11, l12, l13, l14, l15] st G M Q ↔ Go 70 64 [some (2, x), l1, l2, l3, l4, l5, l6, l7, l8, l9, l10, l11, l12, l13, l14, l15] ((2, x) :: st) G M Q := go_aload_n hq70 k70_63 rfl
theorem k70_64 : cm_at ins_70 64 = some (.bipush 7, 2) := by decide +kernel
theorem g70_64 : Go 70 64 ls st G M Q ↔ Go 70 66 ls ((0, 7) :: st) G M Q := go_bipush hq70 k70_64 (by decide)
theorem k70_66 : cm_at ins_70 66 = some (.invokevirtual 10, 3) := by decide +kernel
theorem c70_66 (h8 : cm_sum st ≤ 8) (hk : cm_sh G k = some (0, 5)) (K : Go 55 0 [some (2, k), some (0, y)] [] G M (fun r G' M' => Go 70 69 ls (r.toList ++ st) G' M' Q)) : Go 70 66 ls ((0, y) :: (2, k) :: st) G M Q := go_callV hq70 k70_66 fc7_10 hq55 rfl (as := [(0, y), (2, k)]) rfl rfl (Nat.le_of_ble_eq_true rfl) rfl h8 hk K
theorem k70_69 : cm_at ins_70 69 = some (.aload_n 0, 1) := by decide +kernel
theorem g70_69 : Go 70 69 [some (2, x), l1, l2, l3, l4, l5, l6, l7, l8, l9, l10, l11, l12, l13, l14, l15] st G M Q ↔ Go 70 70 [some (2, x), l1, l2, l3, l4, l5, l6, l7, l8, l9, l10, l11, l12, l13, l14, l15] ((2, x) :: st) G M Q := go_aload_n hq70 k70_69 rfl
theorem k70_70 : cm_at ins_70 70 = some (.bipush 8, 2) := by decide +kernel
theorem g70_70 : Go 70 70 ls st G M Q ↔ Go 70 72 ls ((0, 8) :: st) G M Q := go_bipush hq70 k70_70 (by decide)
theorem k70_72 : cm_at ins_70 72 = some (.invokevirtual 10, 3) := by decide +kernel
theorem c70_72 (h8 : cm_sum st ≤ 8) (hk : cm_sh G k = some (0, 5)) (K : Go 55 0 [some (2, k), some (0, y)] [] G M (fun r G' M' => Go 70 75 ls (r.toList ++ st) G' M' Q)) : Go 70 72 ls ((0, y) :: (2, k) :: st) G M Q := go_callV hq70 k70_72 fc7_10 hq55 rfl (as := [(0, y), (2, k)]) rfl rfl (Nat.le_of_ble_eq_true rfl) rfl h8 hk K
theorem k70_75 : cm_at ins_70 75 = some (.aload 5, 2) := by decide +kernel
theorem g70_75 : Go 70 75 [l0, l1, l2, l3, l4, some (2, x), l6, l7, l8, l9, l10, l11, l12, l13, l14, l15] st G M Q ↔ Go 70 77 [l0, l1, l2, l3, l4, some (2, x), l6, l7, l8, l9, l10, l11, l12, l13, l14, l15] ((2, x) :: st) G M Q := go_aload hq70 k70_75 rfl
theorem k70_77 : cm_at ins_70 77 = some (.aload 6, 2) := by decide +kernel
theorem g70_77 : Go 70 77 [l0, l1, l2, l3, l4, l5, some (2, x), l7, l8, l9, l10, l11, l12, l13, l14, l15] st G M Q ↔ Go 70 79 [l0, l1, l2, l3, l4, l5, some (2, x), l7, l8, l9, l10, l11, l12, l13, l14, l15] ((2, x) :: st) G M Q := go_aload hq70 k70_77 rfl
theorem k70_79 : cm_at ins_70 79 = some (.aload 7, 2) := by decide +kernel
theorem g70_79 : Go 70 79 [l0, l1, l2, l3, l4, l5, l6, some (2, x), l8, l9, l10, l11, l12, l13, l14, l15] st G M Q ↔ Go 70 81 [l0, l1, l2, l3, l4, l5, l6, some (2, x), l8, l9, l10, l11, l12, l13, l14, l15] ((2, x) :: st) G M Q := go_aload hq70 k70_79 rfl
theorem k70_81 : cm_at ins_70 81 = some (.invokestatic 41, 3) := by decide +kernel
theorem c70_81 (h8 : cm_sum st ≤ 8) (K : Go 68 0 [some (2, x), some (2, y), some (2, z), some (0, u), some (0, w), some (0, v), some (2, i), some (2, a), some (2, b), none, none, none, none, none, none] [] G M (fun r G' M' => Go 70 84 ls (r.toList ++ st) G' M' Q)) : Go 70 81 ls ((2, b) :: (2, a) :: (2, i) :: (0, v) :: (0, w) :: (0, u) :: (2, z) :: (2, y) :: (2, x) :: st) G M Q := go_callS hq70 k70_81 fc7_41 ⟨by decide, by decide⟩ hq68 rfl (as := [(2, b), (2, a), (2, i), (0, v), (0, w), (0, u), (2, z), (2, y), (2, x)]) rfl rfl (Nat.le_of_ble_eq_true rfl) h8 K
theorem k70_84 : cm_at ins_70 84 = some (.istore 10, 2) := by decide +kernel
theorem g70_84 : Go 70 84 [l0, l1, l2, l3, l4, l5, l6, l7, l8, l9, l10, l11, l12, l13, l14, l15] ((0, x) :: st) G M Q ↔ Go 70 86 [l0, l1, l2, l3, l4, l5, l6, l7, l8, l9, some (0, x), l11, l12, l13, l14, l15] st G M Q := go_istore hq70 k70_84 ⟨Nat.le_of_ble_eq_true rfl, rfl, by decide⟩
theorem k70_86 : cm_at ins_70 86 = some (.iconst 0, 1) := by decide +kernel
theorem g70_86 : Go 70 86 ls st G M Q ↔ Go 70 87 ls ((0, 0) :: st) G M Q := go_iconst hq70 k70_86
theorem k70_87 : cm_at ins_70 87 = some (.istore 11, 2) := by decide +kernel
theorem g70_87 : Go 70 87 [l0, l1, l2, l3, l4, l5, l6, l7, l8, l9, l10, l11, l12, l13, l14, l15] ((0, x) :: st) G M Q ↔ Go 70 89 [l0, l1, l2, l3, l4, l5, l6, l7, l8, l9, l10, some (0, x), l12, l13, l14, l15] st G M Q := go_istore hq70 k70_87 ⟨Nat.le_of_ble_eq_true rfl, rfl, by decide⟩
theorem k70_89 : cm_at ins_70 89 = some (.iconst 0, 1) := by decide +kernel
theorem g70_89 : Go 70 89 ls st G M Q ↔ Go 70 90 ls ((0, 0) :: st) G M Q := go_iconst hq70 k70_89
theorem k70_90 : cm_at ins_70 90 = some (.istore 12, 2) := by decide +kernel
theorem g70_90 : Go 70 90 [l0, l1, l2, l3, l4, l5, l6, l7, l8, l9, l10, l11, l12, l13, l14, l15] ((0, x) :: st) G M Q ↔ Go 70 92 [l0, l1, l2, l3, l4, l5, l6, l7, l8, l9, l10, l11, some (0, x), l13, l14, l15] st G M Q := go_istore hq70 k70_90 ⟨Nat.le_of_ble_eq_true rfl, rfl, by decide⟩
theorem k70_92 : cm_at ins_70 92 = some (.iconst 0, 1) := by decide +kernel
theorem g70_92 : Go 70 92 ls st G M Q ↔ Go 70 93 ls ((0, 0) :: st) G M Q := go_iconst hq70 k70_92
theorem k70_93 : cm_at ins_70 93 = some (.istore 13, 2) := by decide +kernel
theorem g70_93 : Go 70 93 [l0, l1, l2, l3, l4, l5, l6, l7, l8, l9, l10, l11, l12, l13, l14, l15] ((0, x) :: st) G M Q ↔ Go 70 95 [l0, l1, l2, l3, l4, l5, l6, l7, l8, l9, l10, l11, l12, some (0, x), l14, l15] st G M Q := go_istore hq70 k70_93 ⟨Nat.le_of_ble_eq_true rfl, rfl, by decide⟩
theorem k70_95 : cm_at ins_70 95 = some (.iconst 0, 1) := by decide +kernel
theorem g70_95 : Go 70 95 ls st G M Q ↔ Go 70 96 ls ((0, 0) :: st) G M Q := go_iconst hq70 k70_95
theorem k70_96 : cm_at ins_70 96 = some (.istore 14, 2) := by decide +kernel
theorem g70_96 : Go 70 96 [l0, l1, l2, l3, l4, l5, l6, l7, l8, l9, l10, l11, l12, l13, l14, l15] ((0, x) :: st) G M Q ↔ Go 70 98 [l0, l1, l2, l3, l4, l5, l6, l7, l8, l9, l10, l11, l12, l13, some (0, x), l15] st G M Q := go_istore hq70 k70_96 ⟨Nat.le_of_ble_eq_true rfl, rfl, by decide⟩
theorem k70_98 : cm_at ins_70 98 = some (.iload 14, 2) := by decide +kernel
theorem g70_98 : Go 70 98 [l0, l1, l2, l3, l4, l5, l6, l7, l8, l9, l10, l11, l12, l13, some (0, x), l15] st G M Q ↔ Go 70 100 [l0, l1, l2, l3, l4, l5, l6, l7, l8, l9, l10, l11, l12, l13, some (0, x), l15] ((0, x) :: st) G M Q := go_iload hq70 k70_98 rfl
theorem k70_100 : cm_at ins_70 100 = some (.iload 9, 2) := by decide +kernel
theorem g70_100 : Go 70 100 [l0, l1, l2, l3, l4, l5, l6, l7, l8, some (0, x), l10, l11, l12, l13, l14, l15] st G M Q ↔ Go 70 102 [l0, l1, l2, l3, l4, l5, l6, l7, l8, some (0, x), l10, l11, l12, l13, l14, l15] ((0, x) :: st) G M Q := go_iload hq70 k70_100 rfl
theorem k70_102 : cm_at ins_70 102 = some (.if_icmp .ge 173, 3) := by decide +kernel
theorem g70_102 : Go 70 102 ls ((0, b) :: (0, a) :: st) G M Q ↔ (cm_in a ∧ cm_in b) ∧ (¬ a < b → Go 70 275 ls st G M Q) ∧ (a < b → Go 70 105 ls st G M Q) := go_icmp_ge hq70 k70_102 (by decide)
theorem k70_105 : cm_at ins_70 105 = some (.aload_n 0, 1) := by decide +kernel
theorem g70_105 : Go 70 105 [some (2, x), l1, l2, l3, l4, l5, l6, l7, l8, l9, l10, l11, l12, l13, l14, l15] st G M Q ↔ Go 70 106 [some (2, x), l1, l2, l3, l4, l5, l6, l7, l8, l9, l10, l11, l12, l13, l14, l15] ((2, x) :: st) G M Q := go_aload_n hq70 k70_105 rfl
theorem k70_106 : cm_at ins_70 106 = some (.iload 14, 2) := by decide +kernel
theorem g70_106 : Go 70 106 [l0, l1, l2, l3, l4, l5, l6, l7, l8, l9, l10, l11, l12, l13, some (0, x), l15] st G M Q ↔ Go 70 108 [l0, l1, l2, l3, l4, l5, l6, l7, l8, l9, l10, l11, l12, l13, some (0, x), l15] ((0, x) :: st) G M Q := go_iload hq70 k70_106 rfl
theorem k70_108 : cm_at ins_70 108 = some (.iconst 4, 1) := by decide +kernel
theorem g70_108 : Go 70 108 ls st G M Q ↔ Go 70 109 ls ((0, 4) :: st) G M Q := go_iconst hq70 k70_108
theorem k70_109 : cm_at ins_70 109 = some (.invokevirtual 28, 3) := by decide +kernel
theorem c70_109 (h8 : cm_sum st ≤ 8) (hk : cm_sh G k = some (0, 5)) (K : Go 52 0 [some (2, k), some (0, y), some (0, z)] [] G M (fun r G' M' => Go 70 112 ls (r.toList ++ st) G' M' Q)) : Go 70 109 ls ((0, z) :: (0, y) :: (2, k) :: st) G M Q := go_callV hq70 k70_109 fc7_28 hq52 rfl (as := [(0, z), (0, y), (2, k)]) rfl rfl (Nat.le_of_ble_eq_true rfl) rfl h8 hk K
theorem k70_112 : cm_at ins_70 112 = some (.aload_n 2, 1) := by decide +kernel
theorem g70_112 : Go 70 112 [l0, l1, some (2, x), l3, l4, l5, l6, l7, l8, l9, l10, l11, l12, l13, l14, l15] st G M Q ↔ Go 70 113 [l0, l1, some (2, x), l3, l4, l5, l6, l7, l8, l9, l10, l11, l12, l13, l14, l15] ((2, x) :: st) G M Q := go_aload_n hq70 k70_112 rfl
theorem k70_113 : cm_at ins_70 113 = some (.iload 14, 2) := by decide +kernel
theorem g70_113 : Go 70 113 [l0, l1, l2, l3, l4, l5, l6, l7, l8, l9, l10, l11, l12, l13, some (0, x), l15] st G M Q ↔ Go 70 115 [l0, l1, l2, l3, l4, l5, l6, l7, l8, l9, l10, l11, l12, l13, some (0, x), l15] ((0, x) :: st) G M Q := go_iload hq70 k70_113 rfl
theorem k70_115 : cm_at ins_70 115 = some (.iaload, 1) := by decide +kernel
theorem g70_115 : Go 70 115 ls ((0, i) :: (2, k) :: st) G M Q ↔ (0 ≤ i ∧ i < cm_al 1 G M k) ∧ Go 70 116 ls ((0, M k i) :: st) G M Q := go_iald hq70 k70_115
theorem k70_116 : cm_at ins_70 116 = some (.if_icmp .ne 81, 3) := by decide +kernel
theorem g70_116 : Go 70 116 ls ((0, b) :: (0, a) :: st) G M Q ↔ (cm_in a ∧ cm_in b) ∧ (¬ a = b → Go 70 197 ls st G M Q) ∧ (a = b → Go 70 119 ls st G M Q) := go_icmp_ne hq70 k70_116 (by decide)
theorem k70_119 : cm_at ins_70 119 = some (.aload_n 0, 1) := by decide +kernel
theorem g70_119 : Go 70 119 [some (2, x), l1, l2, l3, l4, l5, l6, l7, l8, l9, l10, l11, l12, l13, l14, l15] st G M Q ↔ Go 70 120 [some (2, x), l1, l2, l3, l4, l5, l6, l7, l8, l9, l10, l11, l12, l13, l14, l15] ((2, x) :: st) G M Q := go_aload_n hq70 k70_119 rfl
theorem k70_120 : cm_at ins_70 120 = some (.iload 14, 2) := by decide +kernel
theorem g70_120 : Go 70 120 [l0, l1, l2, l3, l4, l5, l6, l7, l8, l9, l10, l11, l12, l13, some (0, x), l15] st G M Q ↔ Go 70 122 [l0, l1, l2, l3, l4, l5, l6, l7, l8, l9, l10, l11, l12, l13, some (0, x), l15] ((0, x) :: st) G M Q := go_iload hq70 k70_120 rfl
theorem k70_122 : cm_at ins_70 122 = some (.iconst 5, 1) := by decide +kernel
theorem g70_122 : Go 70 122 ls st G M Q ↔ Go 70 123 ls ((0, 5) :: st) G M Q := go_iconst hq70 k70_122
theorem k70_123 : cm_at ins_70 123 = some (.invokevirtual 28, 3) := by decide +kernel
theorem c70_123 (h8 : cm_sum st ≤ 8) (hk : cm_sh G k = some (0, 5)) (K : Go 52 0 [some (2, k), some (0, y), some (0, z)] [] G M (fun r G' M' => Go 70 126 ls (r.toList ++ st) G' M' Q)) : Go 70 123 ls ((0, z) :: (0, y) :: (2, k) :: st) G M Q := go_callV hq70 k70_123 fc7_28 hq52 rfl (as := [(0, z), (0, y), (2, k)]) rfl rfl (Nat.le_of_ble_eq_true rfl) rfl h8 hk K
theorem k70_126 : cm_at ins_70 126 = some (.aload_n 3, 1) := by decide +kernel
theorem g70_126 : Go 70 126 [l0, l1, l2, some (2, x), l4, l5, l6, l7, l8, l9, l10, l11, l12, l13, l14, l15] st G M Q ↔ Go 70 127 [l0, l1, l2, some (2, x), l4, l5, l6, l7, l8, l9, l10, l11, l12, l13, l14, l15] ((2, x) :: st) G M Q := go_aload_n hq70 k70_126 rfl
theorem k70_127 : cm_at ins_70 127 = some (.iload 14, 2) := by decide +kernel
theorem g70_127 : Go 70 127 [l0, l1, l2, l3, l4, l5, l6, l7, l8, l9, l10, l11, l12, l13, some (0, x), l15] st G M Q ↔ Go 70 129 [l0, l1, l2, l3, l4, l5, l6, l7, l8, l9, l10, l11, l12, l13, some (0, x), l15] ((0, x) :: st) G M Q := go_iload hq70 k70_127 rfl
theorem k70_129 : cm_at ins_70 129 = some (.iaload, 1) := by decide +kernel
theorem g70_129 : Go 70 129 ls ((0, i) :: (2, k) :: st) G M Q ↔ (0 ≤ i ∧ i < cm_al 1 G M k) ∧ Go 70 130 ls ((0, M k i) :: st) G M Q := go_iald hq70 k70_129
theorem k70_130 : cm_at ins_70 130 = some (.if_icmp .ne 67, 3) := by decide +kernel
theorem g70_130 : Go 70 130 ls ((0, b) :: (0, a) :: st) G M Q ↔ (cm_in a ∧ cm_in b) ∧ (¬ a = b → Go 70 197 ls st G M Q) ∧ (a = b → Go 70 133 ls st G M Q) := go_icmp_ne hq70 k70_130 (by decide)
theorem k70_133 : cm_at ins_70 133 = some (.aload_n 0, 1) := by decide +kernel
theorem g70_133 : Go 70 133 [some (2, x), l1, l2, l3, l4, l5, l6, l7, l8, l9, l10, l11, l12, l13, l14, l15] st G M Q ↔ Go 70 134 [some (2, x), l1, l2, l3, l4, l5, l6, l7, l8, l9, l10, l11, l12, l13, l14, l15] ((2, x) :: st) G M Q := go_aload_n hq70 k70_133 rfl
theorem k70_134 : cm_at ins_70 134 = some (.iload 14, 2) := by decide +kernel
theorem g70_134 : Go 70 134 [l0, l1, l2, l3, l4, l5, l6, l7, l8, l9, l10, l11, l12, l13, some (0, x), l15] st G M Q ↔ Go 70 136 [l0, l1, l2, l3, l4, l5, l6, l7, l8, l9, l10, l11, l12, l13, some (0, x), l15] ((0, x) :: st) G M Q := go_iload hq70 k70_134 rfl
theorem k70_136 : cm_at ins_70 136 = some (.bipush 6, 2) := by decide +kernel
theorem g70_136 : Go 70 136 ls st G M Q ↔ Go 70 138 ls ((0, 6) :: st) G M Q := go_bipush hq70 k70_136 (by decide)
theorem k70_138 : cm_at ins_70 138 = some (.invokevirtual 28, 3) := by decide +kernel
theorem c70_138 (h8 : cm_sum st ≤ 8) (hk : cm_sh G k = some (0, 5)) (K : Go 52 0 [some (2, k), some (0, y), some (0, z)] [] G M (fun r G' M' => Go 70 141 ls (r.toList ++ st) G' M' Q)) : Go 70 138 ls ((0, z) :: (0, y) :: (2, k) :: st) G M Q := go_callV hq70 k70_138 fc7_28 hq52 rfl (as := [(0, z), (0, y), (2, k)]) rfl rfl (Nat.le_of_ble_eq_true rfl) rfl h8 hk K
theorem k70_141 : cm_at ins_70 141 = some (.aload 5, 2) := by decide +kernel
theorem g70_141 : Go 70 141 [l0, l1, l2, l3, l4, some (2, x), l6, l7, l8, l9, l10, l11, l12, l13, l14, l15] st G M Q ↔ Go 70 143 [l0, l1, l2, l3, l4, some (2, x), l6, l7, l8, l9, l10, l11, l12, l13, l14, l15] ((2, x) :: st) G M Q := go_aload hq70 k70_141 rfl
theorem k70_143 : cm_at ins_70 143 = some (.iload 14, 2) := by decide +kernel
theorem g70_143 : Go 70 143 [l0, l1, l2, l3, l4, l5, l6, l7, l8, l9, l10, l11, l12, l13, some (0, x), l15] st G M Q ↔ Go 70 145 [l0, l1, l2, l3, l4, l5, l6, l7, l8, l9, l10, l11, l12, l13, some (0, x), l15] ((0, x) :: st) G M Q := go_iload hq70 k70_143 rfl
theorem k70_145 : cm_at ins_70 145 = some (.iaload, 1) := by decide +kernel
theorem g70_145 : Go 70 145 ls ((0, i) :: (2, k) :: st) G M Q ↔ (0 ≤ i ∧ i < cm_al 1 G M k) ∧ Go 70 146 ls ((0, M k i) :: st) G M Q := go_iald hq70 k70_145
theorem k70_146 : cm_at ins_70 146 = some (.if_icmp .ne 51, 3) := by decide +kernel
theorem g70_146 : Go 70 146 ls ((0, b) :: (0, a) :: st) G M Q ↔ (cm_in a ∧ cm_in b) ∧ (¬ a = b → Go 70 197 ls st G M Q) ∧ (a = b → Go 70 149 ls st G M Q) := go_icmp_ne hq70 k70_146 (by decide)
theorem k70_149 : cm_at ins_70 149 = some (.iload 14, 2) := by decide +kernel
theorem g70_149 : Go 70 149 [l0, l1, l2, l3, l4, l5, l6, l7, l8, l9, l10, l11, l12, l13, some (0, x), l15] st G M Q ↔ Go 70 151 [l0, l1, l2, l3, l4, l5, l6, l7, l8, l9, l10, l11, l12, l13, some (0, x), l15] ((0, x) :: st) G M Q := go_iload hq70 k70_149 rfl
theorem k70_151 : cm_at ins_70 151 = some (.iconst 5, 1) := by decide +kernel
theorem g70_151 : Go 70 151 ls st G M Q ↔ Go 70 152 ls ((0, 5) :: st) G M Q := go_iconst hq70 k70_151
theorem k70_152 : cm_at ins_70 152 = some (.irem, 1) := by decide +kernel
theorem g70_152 : Go 70 152 ls ((0, b) :: (0, a) :: st) G M Q ↔ (cm_in a ∧ cm_in b ∧ 0 < b) ∧ Go 70 153 ls ((0, a.tmod b) :: st) G M Q := go_irem hq70 k70_152
theorem k70_153 : cm_at ins_70 153 = some (.iload_n 1, 1) := by decide +kernel
theorem g70_153 : Go 70 153 [l0, some (0, x), l2, l3, l4, l5, l6, l7, l8, l9, l10, l11, l12, l13, l14, l15] st G M Q ↔ Go 70 154 [l0, some (0, x), l2, l3, l4, l5, l6, l7, l8, l9, l10, l11, l12, l13, l14, l15] ((0, x) :: st) G M Q := go_iload_n hq70 k70_153 rfl
theorem k70_154 : cm_at ins_70 154 = some (.iconst 5, 1) := by decide +kernel
theorem g70_154 : Go 70 154 ls st G M Q ↔ Go 70 155 ls ((0, 5) :: st) G M Q := go_iconst hq70 k70_154
theorem k70_155 : cm_at ins_70 155 = some (.invokestatic 16, 3) := by decide +kernel
theorem c70_155 (h8 : cm_sum st ≤ 8) (K : Go 65 0 [some (0, x), some (0, y)] [] G M (fun r G' M' => Go 70 158 ls (r.toList ++ st) G' M' Q)) : Go 70 155 ls ((0, y) :: (0, x) :: st) G M Q := go_callS hq70 k70_155 fc7_16 ⟨by decide, by decide⟩ hq65 rfl (as := [(0, y), (0, x)]) rfl rfl (Nat.le_of_ble_eq_true rfl) h8 K
theorem k70_158 : cm_at ins_70 158 = some (.if_icmp .ne 35, 3) := by decide +kernel
theorem g70_158 : Go 70 158 ls ((0, b) :: (0, a) :: st) G M Q ↔ (cm_in a ∧ cm_in b) ∧ (¬ a = b → Go 70 193 ls st G M Q) ∧ (a = b → Go 70 161 ls st G M Q) := go_icmp_ne hq70 k70_158 (by decide)
theorem k70_161 : cm_at ins_70 161 = some (.aload_n 0, 1) := by decide +kernel
theorem g70_161 : Go 70 161 [some (2, x), l1, l2, l3, l4, l5, l6, l7, l8, l9, l10, l11, l12, l13, l14, l15] st G M Q ↔ Go 70 162 [some (2, x), l1, l2, l3, l4, l5, l6, l7, l8, l9, l10, l11, l12, l13, l14, l15] ((2, x) :: st) G M Q := go_aload_n hq70 k70_161 rfl
theorem k70_162 : cm_at ins_70 162 = some (.iload 14, 2) := by decide +kernel
theorem g70_162 : Go 70 162 [l0, l1, l2, l3, l4, l5, l6, l7, l8, l9, l10, l11, l12, l13, some (0, x), l15] st G M Q ↔ Go 70 164 [l0, l1, l2, l3, l4, l5, l6, l7, l8, l9, l10, l11, l12, l13, some (0, x), l15] ((0, x) :: st) G M Q := go_iload hq70 k70_162 rfl
theorem k70_164 : cm_at ins_70 164 = some (.bipush 7, 2) := by decide +kernel
theorem g70_164 : Go 70 164 ls st G M Q ↔ Go 70 166 ls ((0, 7) :: st) G M Q := go_bipush hq70 k70_164 (by decide)
theorem k70_166 : cm_at ins_70 166 = some (.invokevirtual 28, 3) := by decide +kernel
theorem c70_166 (h8 : cm_sum st ≤ 8) (hk : cm_sh G k = some (0, 5)) (K : Go 52 0 [some (2, k), some (0, y), some (0, z)] [] G M (fun r G' M' => Go 70 169 ls (r.toList ++ st) G' M' Q)) : Go 70 166 ls ((0, z) :: (0, y) :: (2, k) :: st) G M Q := go_callV hq70 k70_166 fc7_28 hq52 rfl (as := [(0, z), (0, y), (2, k)]) rfl rfl (Nat.le_of_ble_eq_true rfl) rfl h8 hk K
theorem k70_169 : cm_at ins_70 169 = some (.aload 6, 2) := by decide +kernel
theorem g70_169 : Go 70 169 [l0, l1, l2, l3, l4, l5, some (2, x), l7, l8, l9, l10, l11, l12, l13, l14, l15] st G M Q ↔ Go 70 171 [l0, l1, l2, l3, l4, l5, some (2, x), l7, l8, l9, l10, l11, l12, l13, l14, l15] ((2, x) :: st) G M Q := go_aload hq70 k70_169 rfl
theorem k70_171 : cm_at ins_70 171 = some (.iload 14, 2) := by decide +kernel
theorem g70_171 : Go 70 171 [l0, l1, l2, l3, l4, l5, l6, l7, l8, l9, l10, l11, l12, l13, some (0, x), l15] st G M Q ↔ Go 70 173 [l0, l1, l2, l3, l4, l5, l6, l7, l8, l9, l10, l11, l12, l13, some (0, x), l15] ((0, x) :: st) G M Q := go_iload hq70 k70_171 rfl
theorem k70_173 : cm_at ins_70 173 = some (.iaload, 1) := by decide +kernel
theorem g70_173 : Go 70 173 ls ((0, i) :: (2, k) :: st) G M Q ↔ (0 ≤ i ∧ i < cm_al 1 G M k) ∧ Go 70 174 ls ((0, M k i) :: st) G M Q := go_iald hq70 k70_173
theorem k70_174 : cm_at ins_70 174 = some (.if_icmp .ne 23, 3) := by decide +kernel
theorem g70_174 : Go 70 174 ls ((0, b) :: (0, a) :: st) G M Q ↔ (cm_in a ∧ cm_in b) ∧ (¬ a = b → Go 70 197 ls st G M Q) ∧ (a = b → Go 70 177 ls st G M Q) := go_icmp_ne hq70 k70_174 (by decide)
theorem k70_177 : cm_at ins_70 177 = some (.aload_n 0, 1) := by decide +kernel
theorem g70_177 : Go 70 177 [some (2, x), l1, l2, l3, l4, l5, l6, l7, l8, l9, l10, l11, l12, l13, l14, l15] st G M Q ↔ Go 70 178 [some (2, x), l1, l2, l3, l4, l5, l6, l7, l8, l9, l10, l11, l12, l13, l14, l15] ((2, x) :: st) G M Q := go_aload_n hq70 k70_177 rfl
theorem k70_178 : cm_at ins_70 178 = some (.iload 14, 2) := by decide +kernel
theorem g70_178 : Go 70 178 [l0, l1, l2, l3, l4, l5, l6, l7, l8, l9, l10, l11, l12, l13, some (0, x), l15] st G M Q ↔ Go 70 180 [l0, l1, l2, l3, l4, l5, l6, l7, l8, l9, l10, l11, l12, l13, some (0, x), l15] ((0, x) :: st) G M Q := go_iload hq70 k70_178 rfl
theorem k70_180 : cm_at ins_70 180 = some (.bipush 8, 2) := by decide +kernel
theorem g70_180 : Go 70 180 ls st G M Q ↔ Go 70 182 ls ((0, 8) :: st) G M Q := go_bipush hq70 k70_180 (by decide)
theorem k70_182 : cm_at ins_70 182 = some (.invokevirtual 28, 3) := by decide +kernel
theorem c70_182 (h8 : cm_sum st ≤ 8) (hk : cm_sh G k = some (0, 5)) (K : Go 52 0 [some (2, k), some (0, y), some (0, z)] [] G M (fun r G' M' => Go 70 185 ls (r.toList ++ st) G' M' Q)) : Go 70 182 ls ((0, z) :: (0, y) :: (2, k) :: st) G M Q := go_callV hq70 k70_182 fc7_28 hq52 rfl (as := [(0, z), (0, y), (2, k)]) rfl rfl (Nat.le_of_ble_eq_true rfl) rfl h8 hk K
theorem k70_185 : cm_at ins_70 185 = some (.aload 7, 2) := by decide +kernel
theorem g70_185 : Go 70 185 [l0, l1, l2, l3, l4, l5, l6, some (2, x), l8, l9, l10, l11, l12, l13, l14, l15] st G M Q ↔ Go 70 187 [l0, l1, l2, l3, l4, l5, l6, some (2, x), l8, l9, l10, l11, l12, l13, l14, l15] ((2, x) :: st) G M Q := go_aload hq70 k70_185 rfl
theorem k70_187 : cm_at ins_70 187 = some (.iload 14, 2) := by decide +kernel
theorem g70_187 : Go 70 187 [l0, l1, l2, l3, l4, l5, l6, l7, l8, l9, l10, l11, l12, l13, some (0, x), l15] st G M Q ↔ Go 70 189 [l0, l1, l2, l3, l4, l5, l6, l7, l8, l9, l10, l11, l12, l13, some (0, x), l15] ((0, x) :: st) G M Q := go_iload hq70 k70_187 rfl
theorem k70_189 : cm_at ins_70 189 = some (.iaload, 1) := by decide +kernel
theorem g70_189 : Go 70 189 ls ((0, i) :: (2, k) :: st) G M Q ↔ (0 ≤ i ∧ i < cm_al 1 G M k) ∧ Go 70 190 ls ((0, M k i) :: st) G M Q := go_iald hq70 k70_189
theorem k70_190 : cm_at ins_70 190 = some (.if_icmp .ne 7, 3) := by decide +kernel
theorem g70_190 : Go 70 190 ls ((0, b) :: (0, a) :: st) G M Q ↔ (cm_in a ∧ cm_in b) ∧ (¬ a = b → Go 70 197 ls st G M Q) ∧ (a = b → Go 70 193 ls st G M Q) := go_icmp_ne hq70 k70_190 (by decide)
theorem k70_193 : cm_at ins_70 193 = some (.iconst 1, 1) := by decide +kernel
theorem g70_193 : Go 70 193 ls st G M Q ↔ Go 70 194 ls ((0, 1) :: st) G M Q := go_iconst hq70 k70_193
theorem k70_194 : cm_at ins_70 194 = some (.goto 4, 3) := by decide +kernel
theorem g70_194 : Go 70 194 ls st G M Q ↔ Go 70 198 ls st G M Q := go_goto hq70 k70_194 (by decide)
theorem k70_197 : cm_at ins_70 197 = some (.iconst 0, 1) := by decide +kernel
theorem g70_197 : Go 70 197 ls st G M Q ↔ Go 70 198 ls ((0, 0) :: st) G M Q := go_iconst hq70 k70_197
theorem k70_198 : cm_at ins_70 198 = some (.istore 15, 2) := by decide +kernel
theorem g70_198 : Go 70 198 [l0, l1, l2, l3, l4, l5, l6, l7, l8, l9, l10, l11, l12, l13, l14, l15] ((0, x) :: st) G M Q ↔ Go 70 200 [l0, l1, l2, l3, l4, l5, l6, l7, l8, l9, l10, l11, l12, l13, l14, some (0, x)] st G M Q := go_istore hq70 k70_198 ⟨Nat.le_of_ble_eq_true rfl, rfl, by decide⟩
theorem k70_200 : cm_at ins_70 200 = some (.iload 15, 2) := by decide +kernel
theorem g70_200 : Go 70 200 [l0, l1, l2, l3, l4, l5, l6, l7, l8, l9, l10, l11, l12, l13, l14, some (0, x)] st G M Q ↔ Go 70 202 [l0, l1, l2, l3, l4, l5, l6, l7, l8, l9, l10, l11, l12, l13, l14, some (0, x)] ((0, x) :: st) G M Q := go_iload hq70 k70_200 rfl
theorem k70_202 : cm_at ins_70 202 = some (.ifCond .ne 5, 3) := by decide +kernel
theorem g70_202 : Go 70 202 ls ((0, a) :: st) G M Q ↔ cm_in a ∧ (¬ a = 0 → Go 70 207 ls st G M Q) ∧ (a = 0 → Go 70 205 ls st G M Q) := go_if_ne hq70 k70_202 (by decide)
theorem k70_205 : cm_at ins_70 205 = some (.iconst 0, 1) := by decide +kernel
theorem g70_205 : Go 70 205 ls st G M Q ↔ Go 70 206 ls ((0, 0) :: st) G M Q := go_iconst hq70 k70_205
theorem k70_206 : cm_at ins_70 206 = some (.ireturn, 1) := by decide +kernel
theorem g70_206 : Go 70 206 ls [(0, v)] G M Q ↔ (v = 0 ∨ v = 1) ∧ Q (some (0, v)) G M := go_zreturn hq70 k70_206 rfl
theorem k70_207 : cm_at ins_70 207 = some (.iload 11, 2) := by decide +kernel
theorem g70_207 : Go 70 207 [l0, l1, l2, l3, l4, l5, l6, l7, l8, l9, l10, some (0, x), l12, l13, l14, l15] st G M Q ↔ Go 70 209 [l0, l1, l2, l3, l4, l5, l6, l7, l8, l9, l10, some (0, x), l12, l13, l14, l15] ((0, x) :: st) G M Q := go_iload hq70 k70_207 rfl
theorem k70_209 : cm_at ins_70 209 = some (.aload 4, 2) := by decide +kernel
theorem g70_209 : Go 70 209 [l0, l1, l2, l3, some (2, x), l5, l6, l7, l8, l9, l10, l11, l12, l13, l14, l15] st G M Q ↔ Go 70 211 [l0, l1, l2, l3, some (2, x), l5, l6, l7, l8, l9, l10, l11, l12, l13, l14, l15] ((2, x) :: st) G M Q := go_aload hq70 k70_209 rfl
theorem k70_211 : cm_at ins_70 211 = some (.iload 14, 2) := by decide +kernel
theorem g70_211 : Go 70 211 [l0, l1, l2, l3, l4, l5, l6, l7, l8, l9, l10, l11, l12, l13, some (0, x), l15] st G M Q ↔ Go 70 213 [l0, l1, l2, l3, l4, l5, l6, l7, l8, l9, l10, l11, l12, l13, some (0, x), l15] ((0, x) :: st) G M Q := go_iload hq70 k70_211 rfl
theorem k70_213 : cm_at ins_70 213 = some (.iaload, 1) := by decide +kernel
theorem g70_213 : Go 70 213 ls ((0, i) :: (2, k) :: st) G M Q ↔ (0 ≤ i ∧ i < cm_al 1 G M k) ∧ Go 70 214 ls ((0, M k i) :: st) G M Q := go_iald hq70 k70_213
theorem k70_214 : cm_at ins_70 214 = some (.ifCond .le 7, 3) := by decide +kernel
theorem g70_214 : Go 70 214 ls ((0, a) :: st) G M Q ↔ cm_in a ∧ (¬ 0 < a → Go 70 221 ls st G M Q) ∧ (0 < a → Go 70 217 ls st G M Q) := go_if_le hq70 k70_214 (by decide)
theorem k70_217 : cm_at ins_70 217 = some (.iconst 1, 1) := by decide +kernel
theorem g70_217 : Go 70 217 ls st G M Q ↔ Go 70 218 ls ((0, 1) :: st) G M Q := go_iconst hq70 k70_217
theorem k70_218 : cm_at ins_70 218 = some (.goto 4, 3) := by decide +kernel
theorem g70_218 : Go 70 218 ls st G M Q ↔ Go 70 222 ls st G M Q := go_goto hq70 k70_218 (by decide)
theorem k70_221 : cm_at ins_70 221 = some (.iconst 0, 1) := by decide +kernel
theorem g70_221 : Go 70 221 ls st G M Q ↔ Go 70 222 ls ((0, 0) :: st) G M Q := go_iconst hq70 k70_221
theorem k70_222 : cm_at ins_70 222 = some (.iadd, 1) := by decide +kernel
theorem g70_222 : Go 70 222 ls ((0, b) :: (0, a) :: st) G M Q ↔ Go 70 223 ls ((0, a + b) :: st) G M Q := go_iadd hq70 k70_222
theorem k70_223 : cm_at ins_70 223 = some (.istore 11, 2) := by decide +kernel
theorem g70_223 : Go 70 223 [l0, l1, l2, l3, l4, l5, l6, l7, l8, l9, l10, l11, l12, l13, l14, l15] ((0, x) :: st) G M Q ↔ Go 70 225 [l0, l1, l2, l3, l4, l5, l6, l7, l8, l9, l10, some (0, x), l12, l13, l14, l15] st G M Q := go_istore hq70 k70_223 ⟨Nat.le_of_ble_eq_true rfl, rfl, by decide⟩
theorem k70_225 : cm_at ins_70 225 = some (.iload 12, 2) := by decide +kernel
theorem g70_225 : Go 70 225 [l0, l1, l2, l3, l4, l5, l6, l7, l8, l9, l10, l11, some (0, x), l13, l14, l15] st G M Q ↔ Go 70 227 [l0, l1, l2, l3, l4, l5, l6, l7, l8, l9, l10, l11, some (0, x), l13, l14, l15] ((0, x) :: st) G M Q := go_iload hq70 k70_225 rfl
theorem k70_227 : cm_at ins_70 227 = some (.aload 8, 2) := by decide +kernel
theorem g70_227 : Go 70 227 [l0, l1, l2, l3, l4, l5, l6, l7, some (2, x), l9, l10, l11, l12, l13, l14, l15] st G M Q ↔ Go 70 229 [l0, l1, l2, l3, l4, l5, l6, l7, some (2, x), l9, l10, l11, l12, l13, l14, l15] ((2, x) :: st) G M Q := go_aload hq70 k70_227 rfl
theorem k70_229 : cm_at ins_70 229 = some (.iload 14, 2) := by decide +kernel
theorem g70_229 : Go 70 229 [l0, l1, l2, l3, l4, l5, l6, l7, l8, l9, l10, l11, l12, l13, some (0, x), l15] st G M Q ↔ Go 70 231 [l0, l1, l2, l3, l4, l5, l6, l7, l8, l9, l10, l11, l12, l13, some (0, x), l15] ((0, x) :: st) G M Q := go_iload hq70 k70_229 rfl
theorem k70_231 : cm_at ins_70 231 = some (.iaload, 1) := by decide +kernel
theorem g70_231 : Go 70 231 ls ((0, i) :: (2, k) :: st) G M Q ↔ (0 ≤ i ∧ i < cm_al 1 G M k) ∧ Go 70 232 ls ((0, M k i) :: st) G M Q := go_iald hq70 k70_231
theorem k70_232 : cm_at ins_70 232 = some (.ifCond .lt 7, 3) := by decide +kernel
theorem g70_232 : Go 70 232 ls ((0, a) :: st) G M Q ↔ cm_in a ∧ (a < 0 → Go 70 239 ls st G M Q) ∧ (¬ a < 0 → Go 70 235 ls st G M Q) := go_if_lt hq70 k70_232 (by decide)
theorem k70_235 : cm_at ins_70 235 = some (.iconst 1, 1) := by decide +kernel
theorem g70_235 : Go 70 235 ls st G M Q ↔ Go 70 236 ls ((0, 1) :: st) G M Q := go_iconst hq70 k70_235
theorem k70_236 : cm_at ins_70 236 = some (.goto 4, 3) := by decide +kernel
theorem g70_236 : Go 70 236 ls st G M Q ↔ Go 70 240 ls st G M Q := go_goto hq70 k70_236 (by decide)
theorem k70_239 : cm_at ins_70 239 = some (.iconst 0, 1) := by decide +kernel
theorem g70_239 : Go 70 239 ls st G M Q ↔ Go 70 240 ls ((0, 0) :: st) G M Q := go_iconst hq70 k70_239
theorem k70_240 : cm_at ins_70 240 = some (.iadd, 1) := by decide +kernel
theorem g70_240 : Go 70 240 ls ((0, b) :: (0, a) :: st) G M Q ↔ Go 70 241 ls ((0, a + b) :: st) G M Q := go_iadd hq70 k70_240
theorem k70_241 : cm_at ins_70 241 = some (.istore 12, 2) := by decide +kernel
theorem g70_241 : Go 70 241 [l0, l1, l2, l3, l4, l5, l6, l7, l8, l9, l10, l11, l12, l13, l14, l15] ((0, x) :: st) G M Q ↔ Go 70 243 [l0, l1, l2, l3, l4, l5, l6, l7, l8, l9, l10, l11, some (0, x), l13, l14, l15] st G M Q := go_istore hq70 k70_241 ⟨Nat.le_of_ble_eq_true rfl, rfl, by decide⟩
theorem k70_243 : cm_at ins_70 243 = some (.iload 13, 2) := by decide +kernel
theorem g70_243 : Go 70 243 [l0, l1, l2, l3, l4, l5, l6, l7, l8, l9, l10, l11, l12, some (0, x), l14, l15] st G M Q ↔ Go 70 245 [l0, l1, l2, l3, l4, l5, l6, l7, l8, l9, l10, l11, l12, some (0, x), l14, l15] ((0, x) :: st) G M Q := go_iload hq70 k70_243 rfl
theorem k70_245 : cm_at ins_70 245 = some (.aload 8, 2) := by decide +kernel
theorem g70_245 : Go 70 245 [l0, l1, l2, l3, l4, l5, l6, l7, some (2, x), l9, l10, l11, l12, l13, l14, l15] st G M Q ↔ Go 70 247 [l0, l1, l2, l3, l4, l5, l6, l7, some (2, x), l9, l10, l11, l12, l13, l14, l15] ((2, x) :: st) G M Q := go_aload hq70 k70_245 rfl
theorem k70_247 : cm_at ins_70 247 = some (.iload 14, 2) := by decide +kernel
theorem g70_247 : Go 70 247 [l0, l1, l2, l3, l4, l5, l6, l7, l8, l9, l10, l11, l12, l13, some (0, x), l15] st G M Q ↔ Go 70 249 [l0, l1, l2, l3, l4, l5, l6, l7, l8, l9, l10, l11, l12, l13, some (0, x), l15] ((0, x) :: st) G M Q := go_iload hq70 k70_247 rfl
theorem k70_249 : cm_at ins_70 249 = some (.iaload, 1) := by decide +kernel
theorem g70_249 : Go 70 249 ls ((0, i) :: (2, k) :: st) G M Q ↔ (0 ≤ i ∧ i < cm_al 1 G M k) ∧ Go 70 250 ls ((0, M k i) :: st) G M Q := go_iald hq70 k70_249
theorem k70_250 : cm_at ins_70 250 = some (.ifCond .lt 15, 3) := by decide +kernel
theorem g70_250 : Go 70 250 ls ((0, a) :: st) G M Q ↔ cm_in a ∧ (a < 0 → Go 70 265 ls st G M Q) ∧ (¬ a < 0 → Go 70 253 ls st G M Q) := go_if_lt hq70 k70_250 (by decide)
theorem k70_253 : cm_at ins_70 253 = some (.aload 5, 2) := by decide +kernel
theorem g70_253 : Go 70 253 [l0, l1, l2, l3, l4, some (2, x), l6, l7, l8, l9, l10, l11, l12, l13, l14, l15] st G M Q ↔ Go 70 255 [l0, l1, l2, l3, l4, some (2, x), l6, l7, l8, l9, l10, l11, l12, l13, l14, l15] ((2, x) :: st) G M Q := go_aload hq70 k70_253 rfl
theorem k70_255 : cm_at ins_70 255 = some (.iload 14, 2) := by decide +kernel
theorem g70_255 : Go 70 255 [l0, l1, l2, l3, l4, l5, l6, l7, l8, l9, l10, l11, l12, l13, some (0, x), l15] st G M Q ↔ Go 70 257 [l0, l1, l2, l3, l4, l5, l6, l7, l8, l9, l10, l11, l12, l13, some (0, x), l15] ((0, x) :: st) G M Q := go_iload hq70 k70_255 rfl
theorem k70_257 : cm_at ins_70 257 = some (.iaload, 1) := by decide +kernel
theorem g70_257 : Go 70 257 ls ((0, i) :: (2, k) :: st) G M Q ↔ (0 ≤ i ∧ i < cm_al 1 G M k) ∧ Go 70 258 ls ((0, M k i) :: st) G M Q := go_iald hq70 k70_257
theorem k70_258 : cm_at ins_70 258 = some (.ifCond .ne 7, 3) := by decide +kernel
theorem g70_258 : Go 70 258 ls ((0, a) :: st) G M Q ↔ cm_in a ∧ (¬ a = 0 → Go 70 265 ls st G M Q) ∧ (a = 0 → Go 70 261 ls st G M Q) := go_if_ne hq70 k70_258 (by decide)
theorem k70_261 : cm_at ins_70 261 = some (.iconst 1, 1) := by decide +kernel
theorem g70_261 : Go 70 261 ls st G M Q ↔ Go 70 262 ls ((0, 1) :: st) G M Q := go_iconst hq70 k70_261
theorem k70_262 : cm_at ins_70 262 = some (.goto 4, 3) := by decide +kernel
theorem g70_262 : Go 70 262 ls st G M Q ↔ Go 70 266 ls st G M Q := go_goto hq70 k70_262 (by decide)
theorem k70_265 : cm_at ins_70 265 = some (.iconst 0, 1) := by decide +kernel
theorem g70_265 : Go 70 265 ls st G M Q ↔ Go 70 266 ls ((0, 0) :: st) G M Q := go_iconst hq70 k70_265
theorem k70_266 : cm_at ins_70 266 = some (.iadd, 1) := by decide +kernel
theorem g70_266 : Go 70 266 ls ((0, b) :: (0, a) :: st) G M Q ↔ Go 70 267 ls ((0, a + b) :: st) G M Q := go_iadd hq70 k70_266
theorem k70_267 : cm_at ins_70 267 = some (.istore 13, 2) := by decide +kernel
theorem g70_267 : Go 70 267 [l0, l1, l2, l3, l4, l5, l6, l7, l8, l9, l10, l11, l12, l13, l14, l15] ((0, x) :: st) G M Q ↔ Go 70 269 [l0, l1, l2, l3, l4, l5, l6, l7, l8, l9, l10, l11, l12, some (0, x), l14, l15] st G M Q := go_istore hq70 k70_267 ⟨Nat.le_of_ble_eq_true rfl, rfl, by decide⟩
theorem k70_269 : cm_at ins_70 269 = some (.iinc 14 1, 3) := by decide +kernel
theorem g70_269 : Go 70 269 [l0, l1, l2, l3, l4, l5, l6, l7, l8, l9, l10, l11, l12, l13, some (0, x), l15] st G M Q ↔ Go 70 272 [l0, l1, l2, l3, l4, l5, l6, l7, l8, l9, l10, l11, l12, l13, some (0, x + 1), l15] st G M Q := go_iinc hq70 k70_269 rfl ⟨rfl, by decide⟩
theorem k70_272 : cm_at ins_70 272 = some (.goto (-174), 3) := by decide +kernel
theorem g70_272 : Go 70 272 ls st G M Q ↔ Go 70 98 ls st G M Q := go_goto hq70 k70_272 (by decide)
theorem k70_275 : cm_at ins_70 275 = some (.aload_n 0, 1) := by decide +kernel
theorem g70_275 : Go 70 275 [some (2, x), l1, l2, l3, l4, l5, l6, l7, l8, l9, l10, l11, l12, l13, l14, l15] st G M Q ↔ Go 70 276 [some (2, x), l1, l2, l3, l4, l5, l6, l7, l8, l9, l10, l11, l12, l13, l14, l15] ((2, x) :: st) G M Q := go_aload_n hq70 k70_275 rfl
theorem k70_276 : cm_at ins_70 276 = some (.iconst 1, 1) := by decide +kernel
theorem g70_276 : Go 70 276 ls st G M Q ↔ Go 70 277 ls ((0, 1) :: st) G M Q := go_iconst hq70 k70_276
theorem k70_277 : cm_at ins_70 277 = some (.invokevirtual 10, 3) := by decide +kernel
theorem c70_277 (h8 : cm_sum st ≤ 8) (hk : cm_sh G k = some (0, 5)) (K : Go 55 0 [some (2, k), some (0, y)] [] G M (fun r G' M' => Go 70 280 ls (r.toList ++ st) G' M' Q)) : Go 70 277 ls ((0, y) :: (2, k) :: st) G M Q := go_callV hq70 k70_277 fc7_10 hq55 rfl (as := [(0, y), (2, k)]) rfl rfl (Nat.le_of_ble_eq_true rfl) rfl h8 hk K
theorem k70_280 : cm_at ins_70 280 = some (.iload 12, 2) := by decide +kernel
theorem g70_280 : Go 70 280 [l0, l1, l2, l3, l4, l5, l6, l7, l8, l9, l10, l11, some (0, x), l13, l14, l15] st G M Q ↔ Go 70 282 [l0, l1, l2, l3, l4, l5, l6, l7, l8, l9, l10, l11, some (0, x), l13, l14, l15] ((0, x) :: st) G M Q := go_iload hq70 k70_280 rfl
theorem k70_282 : cm_at ins_70 282 = some (.if_icmp .ne 50, 3) := by decide +kernel
theorem g70_282 : Go 70 282 ls ((0, b) :: (0, a) :: st) G M Q ↔ (cm_in a ∧ cm_in b) ∧ (¬ a = b → Go 70 332 ls st G M Q) ∧ (a = b → Go 70 285 ls st G M Q) := go_icmp_ne hq70 k70_282 (by decide)
theorem k70_285 : cm_at ins_70 285 = some (.aload_n 0, 1) := by decide +kernel
theorem g70_285 : Go 70 285 [some (2, x), l1, l2, l3, l4, l5, l6, l7, l8, l9, l10, l11, l12, l13, l14, l15] st G M Q ↔ Go 70 286 [some (2, x), l1, l2, l3, l4, l5, l6, l7, l8, l9, l10, l11, l12, l13, l14, l15] ((2, x) :: st) G M Q := go_aload_n hq70 k70_285 rfl
theorem k70_286 : cm_at ins_70 286 = some (.iconst 2, 1) := by decide +kernel
theorem g70_286 : Go 70 286 ls st G M Q ↔ Go 70 287 ls ((0, 2) :: st) G M Q := go_iconst hq70 k70_286
theorem k70_287 : cm_at ins_70 287 = some (.invokevirtual 10, 3) := by decide +kernel
theorem c70_287 (h8 : cm_sum st ≤ 8) (hk : cm_sh G k = some (0, 5)) (K : Go 55 0 [some (2, k), some (0, y)] [] G M (fun r G' M' => Go 70 290 ls (r.toList ++ st) G' M' Q)) : Go 70 287 ls ((0, y) :: (2, k) :: st) G M Q := go_callV hq70 k70_287 fc7_10 hq55 rfl (as := [(0, y), (2, k)]) rfl rfl (Nat.le_of_ble_eq_true rfl) rfl h8 hk K
theorem k70_290 : cm_at ins_70 290 = some (.aload_n 2, 1) := by decide +kernel
theorem g70_290 : Go 70 290 [l0, l1, some (2, x), l3, l4, l5, l6, l7, l8, l9, l10, l11, l12, l13, l14, l15] st G M Q ↔ Go 70 291 [l0, l1, some (2, x), l3, l4, l5, l6, l7, l8, l9, l10, l11, l12, l13, l14, l15] ((2, x) :: st) G M Q := go_aload_n hq70 k70_290 rfl
theorem k70_291 : cm_at ins_70 291 = some (.iload 9, 2) := by decide +kernel
theorem g70_291 : Go 70 291 [l0, l1, l2, l3, l4, l5, l6, l7, l8, some (0, x), l10, l11, l12, l13, l14, l15] st G M Q ↔ Go 70 293 [l0, l1, l2, l3, l4, l5, l6, l7, l8, some (0, x), l10, l11, l12, l13, l14, l15] ((0, x) :: st) G M Q := go_iload hq70 k70_291 rfl
theorem k70_293 : cm_at ins_70 293 = some (.iaload, 1) := by decide +kernel
theorem g70_293 : Go 70 293 ls ((0, i) :: (2, k) :: st) G M Q ↔ (0 ≤ i ∧ i < cm_al 1 G M k) ∧ Go 70 294 ls ((0, M k i) :: st) G M Q := go_iald hq70 k70_293
theorem k70_294 : cm_at ins_70 294 = some (.if_icmp .ne 38, 3) := by decide +kernel
theorem g70_294 : Go 70 294 ls ((0, b) :: (0, a) :: st) G M Q ↔ (cm_in a ∧ cm_in b) ∧ (¬ a = b → Go 70 332 ls st G M Q) ∧ (a = b → Go 70 297 ls st G M Q) := go_icmp_ne hq70 k70_294 (by decide)
theorem k70_297 : cm_at ins_70 297 = some (.aload_n 0, 1) := by decide +kernel
theorem g70_297 : Go 70 297 [some (2, x), l1, l2, l3, l4, l5, l6, l7, l8, l9, l10, l11, l12, l13, l14, l15] st G M Q ↔ Go 70 298 [some (2, x), l1, l2, l3, l4, l5, l6, l7, l8, l9, l10, l11, l12, l13, l14, l15] ((2, x) :: st) G M Q := go_aload_n hq70 k70_297 rfl
theorem k70_298 : cm_at ins_70 298 = some (.iconst 3, 1) := by decide +kernel
theorem g70_298 : Go 70 298 ls st G M Q ↔ Go 70 299 ls ((0, 3) :: st) G M Q := go_iconst hq70 k70_298
theorem k70_299 : cm_at ins_70 299 = some (.invokevirtual 10, 3) := by decide +kernel
theorem c70_299 (h8 : cm_sum st ≤ 8) (hk : cm_sh G k = some (0, 5)) (K : Go 55 0 [some (2, k), some (0, y)] [] G M (fun r G' M' => Go 70 302 ls (r.toList ++ st) G' M' Q)) : Go 70 299 ls ((0, y) :: (2, k) :: st) G M Q := go_callV hq70 k70_299 fc7_10 hq55 rfl (as := [(0, y), (2, k)]) rfl rfl (Nat.le_of_ble_eq_true rfl) rfl h8 hk K
theorem k70_302 : cm_at ins_70 302 = some (.iload 10, 2) := by decide +kernel
theorem g70_302 : Go 70 302 [l0, l1, l2, l3, l4, l5, l6, l7, l8, l9, some (0, x), l11, l12, l13, l14, l15] st G M Q ↔ Go 70 304 [l0, l1, l2, l3, l4, l5, l6, l7, l8, l9, some (0, x), l11, l12, l13, l14, l15] ((0, x) :: st) G M Q := go_iload hq70 k70_302 rfl
theorem k70_304 : cm_at ins_70 304 = some (.if_icmp .ne 28, 3) := by decide +kernel
theorem g70_304 : Go 70 304 ls ((0, b) :: (0, a) :: st) G M Q ↔ (cm_in a ∧ cm_in b) ∧ (¬ a = b → Go 70 332 ls st G M Q) ∧ (a = b → Go 70 307 ls st G M Q) := go_icmp_ne hq70 k70_304 (by decide)
theorem k70_307 : cm_at ins_70 307 = some (.aload_n 0, 1) := by decide +kernel
theorem g70_307 : Go 70 307 [some (2, x), l1, l2, l3, l4, l5, l6, l7, l8, l9, l10, l11, l12, l13, l14, l15] st G M Q ↔ Go 70 308 [some (2, x), l1, l2, l3, l4, l5, l6, l7, l8, l9, l10, l11, l12, l13, l14, l15] ((2, x) :: st) G M Q := go_aload_n hq70 k70_307 rfl
theorem k70_308 : cm_at ins_70 308 = some (.iconst 5, 1) := by decide +kernel
theorem g70_308 : Go 70 308 ls st G M Q ↔ Go 70 309 ls ((0, 5) :: st) G M Q := go_iconst hq70 k70_308
theorem k70_309 : cm_at ins_70 309 = some (.invokevirtual 10, 3) := by decide +kernel
theorem c70_309 (h8 : cm_sum st ≤ 8) (hk : cm_sh G k = some (0, 5)) (K : Go 55 0 [some (2, k), some (0, y)] [] G M (fun r G' M' => Go 70 312 ls (r.toList ++ st) G' M' Q)) : Go 70 309 ls ((0, y) :: (2, k) :: st) G M Q := go_callV hq70 k70_309 fc7_10 hq55 rfl (as := [(0, y), (2, k)]) rfl rfl (Nat.le_of_ble_eq_true rfl) rfl h8 hk K
theorem k70_312 : cm_at ins_70 312 = some (.iload 11, 2) := by decide +kernel
theorem g70_312 : Go 70 312 [l0, l1, l2, l3, l4, l5, l6, l7, l8, l9, l10, some (0, x), l12, l13, l14, l15] st G M Q ↔ Go 70 314 [l0, l1, l2, l3, l4, l5, l6, l7, l8, l9, l10, some (0, x), l12, l13, l14, l15] ((0, x) :: st) G M Q := go_iload hq70 k70_312 rfl
theorem k70_314 : cm_at ins_70 314 = some (.if_icmp .ne 18, 3) := by decide +kernel
theorem g70_314 : Go 70 314 ls ((0, b) :: (0, a) :: st) G M Q ↔ (cm_in a ∧ cm_in b) ∧ (¬ a = b → Go 70 332 ls st G M Q) ∧ (a = b → Go 70 317 ls st G M Q) := go_icmp_ne hq70 k70_314 (by decide)
theorem k70_317 : cm_at ins_70 317 = some (.aload_n 0, 1) := by decide +kernel
theorem g70_317 : Go 70 317 [some (2, x), l1, l2, l3, l4, l5, l6, l7, l8, l9, l10, l11, l12, l13, l14, l15] st G M Q ↔ Go 70 318 [some (2, x), l1, l2, l3, l4, l5, l6, l7, l8, l9, l10, l11, l12, l13, l14, l15] ((2, x) :: st) G M Q := go_aload_n hq70 k70_317 rfl
theorem k70_318 : cm_at ins_70 318 = some (.bipush 6, 2) := by decide +kernel
theorem g70_318 : Go 70 318 ls st G M Q ↔ Go 70 320 ls ((0, 6) :: st) G M Q := go_bipush hq70 k70_318 (by decide)
theorem k70_320 : cm_at ins_70 320 = some (.invokevirtual 10, 3) := by decide +kernel
theorem c70_320 (h8 : cm_sum st ≤ 8) (hk : cm_sh G k = some (0, 5)) (K : Go 55 0 [some (2, k), some (0, y)] [] G M (fun r G' M' => Go 70 323 ls (r.toList ++ st) G' M' Q)) : Go 70 320 ls ((0, y) :: (2, k) :: st) G M Q := go_callV hq70 k70_320 fc7_10 hq55 rfl (as := [(0, y), (2, k)]) rfl rfl (Nat.le_of_ble_eq_true rfl) rfl h8 hk K
theorem k70_323 : cm_at ins_70 323 = some (.iload 13, 2) := by decide +kernel
theorem g70_323 : Go 70 323 [l0, l1, l2, l3, l4, l5, l6, l7, l8, l9, l10, l11, l12, some (0, x), l14, l15] st G M Q ↔ Go 70 325 [l0, l1, l2, l3, l4, l5, l6, l7, l8, l9, l10, l11, l12, some (0, x), l14, l15] ((0, x) :: st) G M Q := go_iload hq70 k70_323 rfl
theorem k70_325 : cm_at ins_70 325 = some (.if_icmp .ne 7, 3) := by decide +kernel
theorem g70_325 : Go 70 325 ls ((0, b) :: (0, a) :: st) G M Q ↔ (cm_in a ∧ cm_in b) ∧ (¬ a = b → Go 70 332 ls st G M Q) ∧ (a = b → Go 70 328 ls st G M Q) := go_icmp_ne hq70 k70_325 (by decide)
theorem k70_328 : cm_at ins_70 328 = some (.iconst 1, 1) := by decide +kernel
theorem g70_328 : Go 70 328 ls st G M Q ↔ Go 70 329 ls ((0, 1) :: st) G M Q := go_iconst hq70 k70_328
theorem k70_329 : cm_at ins_70 329 = some (.goto 4, 3) := by decide +kernel
theorem g70_329 : Go 70 329 ls st G M Q ↔ Go 70 333 ls st G M Q := go_goto hq70 k70_329 (by decide)
theorem k70_332 : cm_at ins_70 332 = some (.iconst 0, 1) := by decide +kernel
theorem g70_332 : Go 70 332 ls st G M Q ↔ Go 70 333 ls ((0, 0) :: st) G M Q := go_iconst hq70 k70_332
theorem k70_333 : cm_at ins_70 333 = some (.istore 14, 2) := by decide +kernel
theorem g70_333 : Go 70 333 [l0, l1, l2, l3, l4, l5, l6, l7, l8, l9, l10, l11, l12, l13, l14, l15] ((0, x) :: st) G M Q ↔ Go 70 335 [l0, l1, l2, l3, l4, l5, l6, l7, l8, l9, l10, l11, l12, l13, some (0, x), l15] st G M Q := go_istore hq70 k70_333 ⟨Nat.le_of_ble_eq_true rfl, rfl, by decide⟩
theorem k70_335 : cm_at ins_70 335 = some (.iload 14, 2) := by decide +kernel
theorem g70_335 : Go 70 335 [l0, l1, l2, l3, l4, l5, l6, l7, l8, l9, l10, l11, l12, l13, some (0, x), l15] st G M Q ↔ Go 70 337 [l0, l1, l2, l3, l4, l5, l6, l7, l8, l9, l10, l11, l12, l13, some (0, x), l15] ((0, x) :: st) G M Q := go_iload hq70 k70_335 rfl
theorem k70_337 : cm_at ins_70 337 = some (.ifCond .eq 75, 3) := by decide +kernel
theorem g70_337 : Go 70 337 ls ((0, a) :: st) G M Q ↔ cm_in a ∧ (a = 0 → Go 70 412 ls st G M Q) ∧ (¬ a = 0 → Go 70 340 ls st G M Q) := go_if_eq hq70 k70_337 (by decide)
theorem k70_340 : cm_at ins_70 340 = some (.aload_n 0, 1) := by decide +kernel
theorem g70_340 : Go 70 340 [some (2, x), l1, l2, l3, l4, l5, l6, l7, l8, l9, l10, l11, l12, l13, l14, l15] st G M Q ↔ Go 70 341 [some (2, x), l1, l2, l3, l4, l5, l6, l7, l8, l9, l10, l11, l12, l13, l14, l15] ((2, x) :: st) G M Q := go_aload_n hq70 k70_340 rfl
theorem k70_341 : cm_at ins_70 341 = some (.aload 5, 2) := by decide +kernel
theorem g70_341 : Go 70 341 [l0, l1, l2, l3, l4, some (2, x), l6, l7, l8, l9, l10, l11, l12, l13, l14, l15] st G M Q ↔ Go 70 343 [l0, l1, l2, l3, l4, some (2, x), l6, l7, l8, l9, l10, l11, l12, l13, l14, l15] ((2, x) :: st) G M Q := go_aload hq70 k70_341 rfl
theorem k70_343 : cm_at ins_70 343 = some (.aload 8, 2) := by decide +kernel
theorem g70_343 : Go 70 343 [l0, l1, l2, l3, l4, l5, l6, l7, some (2, x), l9, l10, l11, l12, l13, l14, l15] st G M Q ↔ Go 70 345 [l0, l1, l2, l3, l4, l5, l6, l7, some (2, x), l9, l10, l11, l12, l13, l14, l15] ((2, x) :: st) G M Q := go_aload hq70 k70_343 rfl
theorem k70_345 : cm_at ins_70 345 = some (.iload 9, 2) := by decide +kernel
theorem g70_345 : Go 70 345 [l0, l1, l2, l3, l4, l5, l6, l7, l8, some (0, x), l10, l11, l12, l13, l14, l15] st G M Q ↔ Go 70 347 [l0, l1, l2, l3, l4, l5, l6, l7, l8, some (0, x), l10, l11, l12, l13, l14, l15] ((0, x) :: st) G M Q := go_iload hq70 k70_345 rfl
theorem k70_347 : cm_at ins_70 347 = some (.invokestatic 45, 3) := by decide +kernel
theorem c70_347 (h8 : cm_sum st ≤ 8) (K : Go 71 0 [some (2, x), some (2, y), some (2, z), some (0, u), none, none, none, none, none, none, none, none] [] G M (fun r G' M' => Go 70 350 ls (r.toList ++ st) G' M' Q)) : Go 70 347 ls ((0, u) :: (2, z) :: (2, y) :: (2, x) :: st) G M Q := go_callS hq70 k70_347 fc7_45 ⟨by decide, by decide⟩ hq71 rfl (as := [(0, u), (2, z), (2, y), (2, x)]) rfl rfl (Nat.le_of_ble_eq_true rfl) h8 K
theorem k70_350 : cm_at ins_70 350 = some (.ifCond .eq 62, 3) := by decide +kernel
theorem g70_350 : Go 70 350 ls ((0, a) :: st) G M Q ↔ cm_in a ∧ (a = 0 → Go 70 412 ls st G M Q) ∧ (¬ a = 0 → Go 70 353 ls st G M Q) := go_if_eq hq70 k70_350 (by decide)
theorem k70_353 : cm_at ins_70 353 = some (.aload_n 0, 1) := by decide +kernel
theorem g70_353 : Go 70 353 [some (2, x), l1, l2, l3, l4, l5, l6, l7, l8, l9, l10, l11, l12, l13, l14, l15] st G M Q ↔ Go 70 354 [some (2, x), l1, l2, l3, l4, l5, l6, l7, l8, l9, l10, l11, l12, l13, l14, l15] ((2, x) :: st) G M Q := go_aload_n hq70 k70_353 rfl
theorem k70_354 : cm_at ins_70 354 = some (.aload_n 2, 1) := by decide +kernel
theorem g70_354 : Go 70 354 [l0, l1, some (2, x), l3, l4, l5, l6, l7, l8, l9, l10, l11, l12, l13, l14, l15] st G M Q ↔ Go 70 355 [l0, l1, some (2, x), l3, l4, l5, l6, l7, l8, l9, l10, l11, l12, l13, l14, l15] ((2, x) :: st) G M Q := go_aload_n hq70 k70_354 rfl
theorem k70_355 : cm_at ins_70 355 = some (.aload_n 3, 1) := by decide +kernel
theorem g70_355 : Go 70 355 [l0, l1, l2, some (2, x), l4, l5, l6, l7, l8, l9, l10, l11, l12, l13, l14, l15] st G M Q ↔ Go 70 356 [l0, l1, l2, some (2, x), l4, l5, l6, l7, l8, l9, l10, l11, l12, l13, l14, l15] ((2, x) :: st) G M Q := go_aload_n hq70 k70_355 rfl
theorem k70_356 : cm_at ins_70 356 = some (.aload 4, 2) := by decide +kernel
theorem g70_356 : Go 70 356 [l0, l1, l2, l3, some (2, x), l5, l6, l7, l8, l9, l10, l11, l12, l13, l14, l15] st G M Q ↔ Go 70 358 [l0, l1, l2, l3, some (2, x), l5, l6, l7, l8, l9, l10, l11, l12, l13, l14, l15] ((2, x) :: st) G M Q := go_aload hq70 k70_356 rfl
theorem k70_358 : cm_at ins_70 358 = some (.iload_n 1, 1) := by decide +kernel
theorem g70_358 : Go 70 358 [l0, some (0, x), l2, l3, l4, l5, l6, l7, l8, l9, l10, l11, l12, l13, l14, l15] st G M Q ↔ Go 70 359 [l0, some (0, x), l2, l3, l4, l5, l6, l7, l8, l9, l10, l11, l12, l13, l14, l15] ((0, x) :: st) G M Q := go_iload_n hq70 k70_358 rfl
theorem k70_359 : cm_at ins_70 359 = some (.iload 10, 2) := by decide +kernel
theorem g70_359 : Go 70 359 [l0, l1, l2, l3, l4, l5, l6, l7, l8, l9, some (0, x), l11, l12, l13, l14, l15] st G M Q ↔ Go 70 361 [l0, l1, l2, l3, l4, l5, l6, l7, l8, l9, some (0, x), l11, l12, l13, l14, l15] ((0, x) :: st) G M Q := go_iload hq70 k70_359 rfl
theorem k70_361 : cm_at ins_70 361 = some (.bipush 20, 2) := by decide +kernel
theorem g70_361 : Go 70 361 ls st G M Q ↔ Go 70 363 ls ((0, 20) :: st) G M Q := go_bipush hq70 k70_361 (by decide)
theorem k70_363 : cm_at ins_70 363 = some (.iadd, 1) := by decide +kernel
theorem g70_363 : Go 70 363 ls ((0, b) :: (0, a) :: st) G M Q ↔ Go 70 364 ls ((0, a + b) :: st) G M Q := go_iadd hq70 k70_363
theorem k70_364 : cm_at ins_70 364 = some (.invokestatic 16, 3) := by decide +kernel
theorem c70_364 (h8 : cm_sum st ≤ 8) (K : Go 65 0 [some (0, x), some (0, y)] [] G M (fun r G' M' => Go 70 367 ls (r.toList ++ st) G' M' Q)) : Go 70 364 ls ((0, y) :: (0, x) :: st) G M Q := go_callS hq70 k70_364 fc7_16 ⟨by decide, by decide⟩ hq65 rfl (as := [(0, y), (0, x)]) rfl rfl (Nat.le_of_ble_eq_true rfl) h8 K
theorem k70_367 : cm_at ins_70 367 = some (.invokestatic 49, 3) := by decide +kernel
theorem c70_367 (h8 : cm_sum st ≤ 8) (K : Go 72 0 [some (2, x), some (2, y), some (2, z), some (2, u), some (0, w), none, none, none, none, none, none, none, none, none] [] G M (fun r G' M' => Go 70 370 ls (r.toList ++ st) G' M' Q)) : Go 70 367 ls ((0, w) :: (2, u) :: (2, z) :: (2, y) :: (2, x) :: st) G M Q := go_callS hq70 k70_367 fc7_49 ⟨by decide, by decide⟩ hq72 rfl (as := [(0, w), (2, u), (2, z), (2, y), (2, x)]) rfl rfl (Nat.le_of_ble_eq_true rfl) h8 K
theorem k70_370 : cm_at ins_70 370 = some (.ifCond .eq 42, 3) := by decide +kernel
theorem g70_370 : Go 70 370 ls ((0, a) :: st) G M Q ↔ cm_in a ∧ (a = 0 → Go 70 412 ls st G M Q) ∧ (¬ a = 0 → Go 70 373 ls st G M Q) := go_if_eq hq70 k70_370 (by decide)
theorem k70_373 : cm_at ins_70 373 = some (.aload_n 0, 1) := by decide +kernel
theorem g70_373 : Go 70 373 [some (2, x), l1, l2, l3, l4, l5, l6, l7, l8, l9, l10, l11, l12, l13, l14, l15] st G M Q ↔ Go 70 374 [some (2, x), l1, l2, l3, l4, l5, l6, l7, l8, l9, l10, l11, l12, l13, l14, l15] ((2, x) :: st) G M Q := go_aload_n hq70 k70_373 rfl
theorem k70_374 : cm_at ins_70 374 = some (.aload_n 2, 1) := by decide +kernel
theorem g70_374 : Go 70 374 [l0, l1, some (2, x), l3, l4, l5, l6, l7, l8, l9, l10, l11, l12, l13, l14, l15] st G M Q ↔ Go 70 375 [l0, l1, some (2, x), l3, l4, l5, l6, l7, l8, l9, l10, l11, l12, l13, l14, l15] ((2, x) :: st) G M Q := go_aload_n hq70 k70_374 rfl
theorem k70_375 : cm_at ins_70 375 = some (.aload_n 3, 1) := by decide +kernel
theorem g70_375 : Go 70 375 [l0, l1, l2, some (2, x), l4, l5, l6, l7, l8, l9, l10, l11, l12, l13, l14, l15] st G M Q ↔ Go 70 376 [l0, l1, l2, some (2, x), l4, l5, l6, l7, l8, l9, l10, l11, l12, l13, l14, l15] ((2, x) :: st) G M Q := go_aload_n hq70 k70_375 rfl
theorem k70_376 : cm_at ins_70 376 = some (.aload 4, 2) := by decide +kernel
theorem g70_376 : Go 70 376 [l0, l1, l2, l3, some (2, x), l5, l6, l7, l8, l9, l10, l11, l12, l13, l14, l15] st G M Q ↔ Go 70 378 [l0, l1, l2, l3, some (2, x), l5, l6, l7, l8, l9, l10, l11, l12, l13, l14, l15] ((2, x) :: st) G M Q := go_aload hq70 k70_376 rfl
theorem k70_378 : cm_at ins_70 378 = some (.iload_n 1, 1) := by decide +kernel
theorem g70_378 : Go 70 378 [l0, some (0, x), l2, l3, l4, l5, l6, l7, l8, l9, l10, l11, l12, l13, l14, l15] st G M Q ↔ Go 70 379 [l0, some (0, x), l2, l3, l4, l5, l6, l7, l8, l9, l10, l11, l12, l13, l14, l15] ((0, x) :: st) G M Q := go_iload_n hq70 k70_378 rfl
theorem k70_379 : cm_at ins_70 379 = some (.bipush 8, 2) := by decide +kernel
theorem g70_379 : Go 70 379 ls st G M Q ↔ Go 70 381 ls ((0, 8) :: st) G M Q := go_bipush hq70 k70_379 (by decide)
theorem k70_381 : cm_at ins_70 381 = some (.ishr, 1) := by decide +kernel
theorem g70_381 : Go 70 381 ls ((0, b) :: (0, a) :: st) G M Q ↔ Go 70 382 ls ((0, cm_ishr a b) :: st) G M Q := go_ishr hq70 k70_381
theorem k70_382 : cm_at ins_70 382 = some (.sipush 200, 3) := by decide +kernel
theorem g70_382 : Go 70 382 ls st G M Q ↔ Go 70 385 ls ((0, 200) :: st) G M Q := go_sipush hq70 k70_382 (by decide)
theorem k70_385 : cm_at ins_70 385 = some (.invokestatic 16, 3) := by decide +kernel
theorem c70_385 (h8 : cm_sum st ≤ 8) (K : Go 65 0 [some (0, x), some (0, y)] [] G M (fun r G' M' => Go 70 388 ls (r.toList ++ st) G' M' Q)) : Go 70 385 ls ((0, y) :: (0, x) :: st) G M Q := go_callS hq70 k70_385 fc7_16 ⟨by decide, by decide⟩ hq65 rfl (as := [(0, y), (0, x)]) rfl rfl (Nat.le_of_ble_eq_true rfl) h8 K
theorem k70_388 : cm_at ins_70 388 = some (.invokestatic 49, 3) := by decide +kernel
theorem c70_388 (h8 : cm_sum st ≤ 8) (K : Go 72 0 [some (2, x), some (2, y), some (2, z), some (2, u), some (0, w), none, none, none, none, none, none, none, none, none] [] G M (fun r G' M' => Go 70 391 ls (r.toList ++ st) G' M' Q)) : Go 70 388 ls ((0, w) :: (2, u) :: (2, z) :: (2, y) :: (2, x) :: st) G M Q := go_callS hq70 k70_388 fc7_49 ⟨by decide, by decide⟩ hq72 rfl (as := [(0, w), (2, u), (2, z), (2, y), (2, x)]) rfl rfl (Nat.le_of_ble_eq_true rfl) h8 K
theorem k70_391 : cm_at ins_70 391 = some (.ifCond .eq 21, 3) := by decide +kernel
theorem g70_391 : Go 70 391 ls ((0, a) :: st) G M Q ↔ cm_in a ∧ (a = 0 → Go 70 412 ls st G M Q) ∧ (¬ a = 0 → Go 70 394 ls st G M Q) := go_if_eq hq70 k70_391 (by decide)
theorem k70_394 : cm_at ins_70 394 = some (.aload_n 0, 1) := by decide +kernel
theorem g70_394 : Go 70 394 [some (2, x), l1, l2, l3, l4, l5, l6, l7, l8, l9, l10, l11, l12, l13, l14, l15] st G M Q ↔ Go 70 395 [some (2, x), l1, l2, l3, l4, l5, l6, l7, l8, l9, l10, l11, l12, l13, l14, l15] ((2, x) :: st) G M Q := go_aload_n hq70 k70_394 rfl
theorem k70_395 : cm_at ins_70 395 = some (.aload_n 2, 1) := by decide +kernel
theorem g70_395 : Go 70 395 [l0, l1, some (2, x), l3, l4, l5, l6, l7, l8, l9, l10, l11, l12, l13, l14, l15] st G M Q ↔ Go 70 396 [l0, l1, some (2, x), l3, l4, l5, l6, l7, l8, l9, l10, l11, l12, l13, l14, l15] ((2, x) :: st) G M Q := go_aload_n hq70 k70_395 rfl
theorem k70_396 : cm_at ins_70 396 = some (.aload_n 3, 1) := by decide +kernel
theorem g70_396 : Go 70 396 [l0, l1, l2, some (2, x), l4, l5, l6, l7, l8, l9, l10, l11, l12, l13, l14, l15] st G M Q ↔ Go 70 397 [l0, l1, l2, some (2, x), l4, l5, l6, l7, l8, l9, l10, l11, l12, l13, l14, l15] ((2, x) :: st) G M Q := go_aload_n hq70 k70_396 rfl
theorem k70_397 : cm_at ins_70 397 = some (.aload 4, 2) := by decide +kernel
theorem g70_397 : Go 70 397 [l0, l1, l2, l3, some (2, x), l5, l6, l7, l8, l9, l10, l11, l12, l13, l14, l15] st G M Q ↔ Go 70 399 [l0, l1, l2, l3, some (2, x), l5, l6, l7, l8, l9, l10, l11, l12, l13, l14, l15] ((2, x) :: st) G M Q := go_aload hq70 k70_397 rfl
theorem k70_399 : cm_at ins_70 399 = some (.aload 8, 2) := by decide +kernel
theorem g70_399 : Go 70 399 [l0, l1, l2, l3, l4, l5, l6, l7, some (2, x), l9, l10, l11, l12, l13, l14, l15] st G M Q ↔ Go 70 401 [l0, l1, l2, l3, l4, l5, l6, l7, some (2, x), l9, l10, l11, l12, l13, l14, l15] ((2, x) :: st) G M Q := go_aload hq70 k70_399 rfl
theorem k70_401 : cm_at ins_70 401 = some (.iload_n 1, 1) := by decide +kernel
theorem g70_401 : Go 70 401 [l0, some (0, x), l2, l3, l4, l5, l6, l7, l8, l9, l10, l11, l12, l13, l14, l15] st G M Q ↔ Go 70 402 [l0, some (0, x), l2, l3, l4, l5, l6, l7, l8, l9, l10, l11, l12, l13, l14, l15] ((0, x) :: st) G M Q := go_iload_n hq70 k70_401 rfl
theorem k70_402 : cm_at ins_70 402 = some (.invokestatic 53, 3) := by decide +kernel
theorem c70_402 (h8 : cm_sum st ≤ 8) (K : Go 73 0 [some (2, x), some (2, y), some (2, z), some (2, u), some (2, w), some (0, v), none, none, none, none, none, none, none, none, none, none, none, none, none] [] G M (fun r G' M' => Go 70 405 ls (r.toList ++ st) G' M' Q)) : Go 70 402 ls ((0, v) :: (2, w) :: (2, u) :: (2, z) :: (2, y) :: (2, x) :: st) G M Q := go_callS hq70 k70_402 fc7_53 ⟨by decide, by decide⟩ hq73 rfl (as := [(0, v), (2, w), (2, u), (2, z), (2, y), (2, x)]) rfl rfl (Nat.le_of_ble_eq_true rfl) h8 K
theorem k70_405 : cm_at ins_70 405 = some (.ifCond .eq 7, 3) := by decide +kernel
theorem g70_405 : Go 70 405 ls ((0, a) :: st) G M Q ↔ cm_in a ∧ (a = 0 → Go 70 412 ls st G M Q) ∧ (¬ a = 0 → Go 70 408 ls st G M Q) := go_if_eq hq70 k70_405 (by decide)
theorem k70_408 : cm_at ins_70 408 = some (.iconst 1, 1) := by decide +kernel
theorem g70_408 : Go 70 408 ls st G M Q ↔ Go 70 409 ls ((0, 1) :: st) G M Q := go_iconst hq70 k70_408
theorem k70_409 : cm_at ins_70 409 = some (.goto 4, 3) := by decide +kernel
theorem g70_409 : Go 70 409 ls st G M Q ↔ Go 70 413 ls st G M Q := go_goto hq70 k70_409 (by decide)
theorem k70_412 : cm_at ins_70 412 = some (.iconst 0, 1) := by decide +kernel
theorem g70_412 : Go 70 412 ls st G M Q ↔ Go 70 413 ls ((0, 0) :: st) G M Q := go_iconst hq70 k70_412
theorem k70_413 : cm_at ins_70 413 = some (.ireturn, 1) := by decide +kernel
theorem g70_413 : Go 70 413 ls [(0, v)] G M Q ↔ (v = 0 ∨ v = 1) ∧ Q (some (0, v)) G M := go_zreturn hq70 k70_413 rfl
theorem k71_0 : cm_at ins_71 0 = some (.iconst 0, 1) := by decide +kernel
theorem g71_0 : Go 71 0 ls st G M Q ↔ Go 71 1 ls ((0, 0) :: st) G M Q := go_iconst hq71 k71_0
theorem k71_1 : cm_at ins_71 1 = some (.istore 4, 2) := by decide +kernel
theorem g71_1 : Go 71 1 [l0, l1, l2, l3, l4, l5, l6, l7, l8, l9, l10, l11] ((0, x) :: st) G M Q ↔ Go 71 3 [l0, l1, l2, l3, some (0, x), l5, l6, l7, l8, l9, l10, l11] st G M Q := go_istore hq71 k71_1 ⟨Nat.le_of_ble_eq_true rfl, rfl, by decide⟩
theorem k71_3 : cm_at ins_71 3 = some (.iconst 0, 1) := by decide +kernel
theorem g71_3 : Go 71 3 ls st G M Q ↔ Go 71 4 ls ((0, 0) :: st) G M Q := go_iconst hq71 k71_3
theorem k71_4 : cm_at ins_71 4 = some (.istore 5, 2) := by decide +kernel
theorem g71_4 : Go 71 4 [l0, l1, l2, l3, l4, l5, l6, l7, l8, l9, l10, l11] ((0, x) :: st) G M Q ↔ Go 71 6 [l0, l1, l2, l3, l4, some (0, x), l6, l7, l8, l9, l10, l11] st G M Q := go_istore hq71 k71_4 ⟨Nat.le_of_ble_eq_true rfl, rfl, by decide⟩
theorem k71_6 : cm_at ins_71 6 = some (.iload 5, 2) := by decide +kernel
theorem g71_6 : Go 71 6 [l0, l1, l2, l3, l4, some (0, x), l6, l7, l8, l9, l10, l11] st G M Q ↔ Go 71 8 [l0, l1, l2, l3, l4, some (0, x), l6, l7, l8, l9, l10, l11] ((0, x) :: st) G M Q := go_iload hq71 k71_6 rfl
theorem k71_8 : cm_at ins_71 8 = some (.bipush 8, 2) := by decide +kernel
theorem g71_8 : Go 71 8 ls st G M Q ↔ Go 71 10 ls ((0, 8) :: st) G M Q := go_bipush hq71 k71_8 (by decide)
theorem k71_10 : cm_at ins_71 10 = some (.if_icmp .ge 242, 3) := by decide +kernel
theorem g71_10 : Go 71 10 ls ((0, b) :: (0, a) :: st) G M Q ↔ (cm_in a ∧ cm_in b) ∧ (¬ a < b → Go 71 252 ls st G M Q) ∧ (a < b → Go 71 13 ls st G M Q) := go_icmp_ge hq71 k71_10 (by decide)
theorem k71_13 : cm_at ins_71 13 = some (.iconst 0, 1) := by decide +kernel
theorem g71_13 : Go 71 13 ls st G M Q ↔ Go 71 14 ls ((0, 0) :: st) G M Q := go_iconst hq71 k71_13
theorem k71_14 : cm_at ins_71 14 = some (.istore 6, 2) := by decide +kernel
theorem g71_14 : Go 71 14 [l0, l1, l2, l3, l4, l5, l6, l7, l8, l9, l10, l11] ((0, x) :: st) G M Q ↔ Go 71 16 [l0, l1, l2, l3, l4, l5, some (0, x), l7, l8, l9, l10, l11] st G M Q := go_istore hq71 k71_14 ⟨Nat.le_of_ble_eq_true rfl, rfl, by decide⟩
theorem k71_16 : cm_at ins_71 16 = some (.iconst 0, 1) := by decide +kernel
theorem g71_16 : Go 71 16 ls st G M Q ↔ Go 71 17 ls ((0, 0) :: st) G M Q := go_iconst hq71 k71_16
theorem k71_17 : cm_at ins_71 17 = some (.istore 7, 2) := by decide +kernel
theorem g71_17 : Go 71 17 [l0, l1, l2, l3, l4, l5, l6, l7, l8, l9, l10, l11] ((0, x) :: st) G M Q ↔ Go 71 19 [l0, l1, l2, l3, l4, l5, l6, some (0, x), l8, l9, l10, l11] st G M Q := go_istore hq71 k71_17 ⟨Nat.le_of_ble_eq_true rfl, rfl, by decide⟩
theorem k71_19 : cm_at ins_71 19 = some (.iconst (-1), 1) := by decide +kernel
theorem g71_19 : Go 71 19 ls st G M Q ↔ Go 71 20 ls ((0, (-1)) :: st) G M Q := go_iconst hq71 k71_19
theorem k71_20 : cm_at ins_71 20 = some (.istore 8, 2) := by decide +kernel
theorem g71_20 : Go 71 20 [l0, l1, l2, l3, l4, l5, l6, l7, l8, l9, l10, l11] ((0, x) :: st) G M Q ↔ Go 71 22 [l0, l1, l2, l3, l4, l5, l6, l7, some (0, x), l9, l10, l11] st G M Q := go_istore hq71 k71_20 ⟨Nat.le_of_ble_eq_true rfl, rfl, by decide⟩
theorem k71_22 : cm_at ins_71 22 = some (.iconst (-1), 1) := by decide +kernel
theorem g71_22 : Go 71 22 ls st G M Q ↔ Go 71 23 ls ((0, (-1)) :: st) G M Q := go_iconst hq71 k71_22
theorem k71_23 : cm_at ins_71 23 = some (.istore 9, 2) := by decide +kernel
theorem g71_23 : Go 71 23 [l0, l1, l2, l3, l4, l5, l6, l7, l8, l9, l10, l11] ((0, x) :: st) G M Q ↔ Go 71 25 [l0, l1, l2, l3, l4, l5, l6, l7, l8, some (0, x), l10, l11] st G M Q := go_istore hq71 k71_23 ⟨Nat.le_of_ble_eq_true rfl, rfl, by decide⟩
theorem k71_25 : cm_at ins_71 25 = some (.iload_n 3, 1) := by decide +kernel
theorem g71_25 : Go 71 25 [l0, l1, l2, some (0, x), l4, l5, l6, l7, l8, l9, l10, l11] st G M Q ↔ Go 71 26 [l0, l1, l2, some (0, x), l4, l5, l6, l7, l8, l9, l10, l11] ((0, x) :: st) G M Q := go_iload_n hq71 k71_25 rfl
theorem k71_26 : cm_at ins_71 26 = some (.iconst 1, 1) := by decide +kernel
theorem g71_26 : Go 71 26 ls st G M Q ↔ Go 71 27 ls ((0, 1) :: st) G M Q := go_iconst hq71 k71_26
theorem k71_27 : cm_at ins_71 27 = some (.isub, 1) := by decide +kernel
theorem g71_27 : Go 71 27 ls ((0, b) :: (0, a) :: st) G M Q ↔ Go 71 28 ls ((0, a - b) :: st) G M Q := go_isub hq71 k71_27
theorem k71_28 : cm_at ins_71 28 = some (.istore 10, 2) := by decide +kernel
theorem g71_28 : Go 71 28 [l0, l1, l2, l3, l4, l5, l6, l7, l8, l9, l10, l11] ((0, x) :: st) G M Q ↔ Go 71 30 [l0, l1, l2, l3, l4, l5, l6, l7, l8, l9, some (0, x), l11] st G M Q := go_istore hq71 k71_28 ⟨Nat.le_of_ble_eq_true rfl, rfl, by decide⟩
theorem k71_30 : cm_at ins_71 30 = some (.iload 10, 2) := by decide +kernel
theorem g71_30 : Go 71 30 [l0, l1, l2, l3, l4, l5, l6, l7, l8, l9, some (0, x), l11] st G M Q ↔ Go 71 32 [l0, l1, l2, l3, l4, l5, l6, l7, l8, l9, some (0, x), l11] ((0, x) :: st) G M Q := go_iload hq71 k71_30 rfl
theorem k71_32 : cm_at ins_71 32 = some (.ifCond .lt 70, 3) := by decide +kernel
theorem g71_32 : Go 71 32 ls ((0, a) :: st) G M Q ↔ cm_in a ∧ (a < 0 → Go 71 102 ls st G M Q) ∧ (¬ a < 0 → Go 71 35 ls st G M Q) := go_if_lt hq71 k71_32 (by decide)
theorem k71_35 : cm_at ins_71 35 = some (.aload_n 2, 1) := by decide +kernel
theorem g71_35 : Go 71 35 [l0, l1, some (2, x), l3, l4, l5, l6, l7, l8, l9, l10, l11] st G M Q ↔ Go 71 36 [l0, l1, some (2, x), l3, l4, l5, l6, l7, l8, l9, l10, l11] ((2, x) :: st) G M Q := go_aload_n hq71 k71_35 rfl
theorem k71_36 : cm_at ins_71 36 = some (.iload 10, 2) := by decide +kernel
theorem g71_36 : Go 71 36 [l0, l1, l2, l3, l4, l5, l6, l7, l8, l9, some (0, x), l11] st G M Q ↔ Go 71 38 [l0, l1, l2, l3, l4, l5, l6, l7, l8, l9, some (0, x), l11] ((0, x) :: st) G M Q := go_iload hq71 k71_36 rfl
theorem k71_38 : cm_at ins_71 38 = some (.iaload, 1) := by decide +kernel
theorem g71_38 : Go 71 38 ls ((0, i) :: (2, k) :: st) G M Q ↔ (0 ≤ i ∧ i < cm_al 1 G M k) ∧ Go 71 39 ls ((0, M k i) :: st) G M Q := go_iald hq71 k71_38
theorem k71_39 : cm_at ins_71 39 = some (.iload 5, 2) := by decide +kernel
theorem g71_39 : Go 71 39 [l0, l1, l2, l3, l4, some (0, x), l6, l7, l8, l9, l10, l11] st G M Q ↔ Go 71 41 [l0, l1, l2, l3, l4, some (0, x), l6, l7, l8, l9, l10, l11] ((0, x) :: st) G M Q := go_iload hq71 k71_39 rfl
theorem k71_41 : cm_at ins_71 41 = some (.if_icmp .ne 55, 3) := by decide +kernel
theorem g71_41 : Go 71 41 ls ((0, b) :: (0, a) :: st) G M Q ↔ (cm_in a ∧ cm_in b) ∧ (¬ a = b → Go 71 96 ls st G M Q) ∧ (a = b → Go 71 44 ls st G M Q) := go_icmp_ne hq71 k71_41 (by decide)
theorem k71_44 : cm_at ins_71 44 = some (.iinc 6 1, 3) := by decide +kernel
theorem g71_44 : Go 71 44 [l0, l1, l2, l3, l4, l5, some (0, x), l7, l8, l9, l10, l11] st G M Q ↔ Go 71 47 [l0, l1, l2, l3, l4, l5, some (0, x + 1), l7, l8, l9, l10, l11] st G M Q := go_iinc hq71 k71_44 rfl ⟨rfl, by decide⟩
theorem k71_47 : cm_at ins_71 47 = some (.aload_n 1, 1) := by decide +kernel
theorem g71_47 : Go 71 47 [l0, some (2, x), l2, l3, l4, l5, l6, l7, l8, l9, l10, l11] st G M Q ↔ Go 71 48 [l0, some (2, x), l2, l3, l4, l5, l6, l7, l8, l9, l10, l11] ((2, x) :: st) G M Q := go_aload_n hq71 k71_47 rfl
theorem k71_48 : cm_at ins_71 48 = some (.iload 10, 2) := by decide +kernel
theorem g71_48 : Go 71 48 [l0, l1, l2, l3, l4, l5, l6, l7, l8, l9, some (0, x), l11] st G M Q ↔ Go 71 50 [l0, l1, l2, l3, l4, l5, l6, l7, l8, l9, some (0, x), l11] ((0, x) :: st) G M Q := go_iload hq71 k71_48 rfl
theorem k71_50 : cm_at ins_71 50 = some (.iaload, 1) := by decide +kernel
theorem g71_50 : Go 71 50 ls ((0, i) :: (2, k) :: st) G M Q ↔ (0 ≤ i ∧ i < cm_al 1 G M k) ∧ Go 71 51 ls ((0, M k i) :: st) G M Q := go_iald hq71 k71_50
theorem k71_51 : cm_at ins_71 51 = some (.iload 7, 2) := by decide +kernel
theorem g71_51 : Go 71 51 [l0, l1, l2, l3, l4, l5, l6, some (0, x), l8, l9, l10, l11] st G M Q ↔ Go 71 53 [l0, l1, l2, l3, l4, l5, l6, some (0, x), l8, l9, l10, l11] ((0, x) :: st) G M Q := go_iload hq71 k71_51 rfl
theorem k71_53 : cm_at ins_71 53 = some (.if_icmp .le 10, 3) := by decide +kernel
theorem g71_53 : Go 71 53 ls ((0, b) :: (0, a) :: st) G M Q ↔ (cm_in a ∧ cm_in b) ∧ (¬ b < a → Go 71 63 ls st G M Q) ∧ (b < a → Go 71 56 ls st G M Q) := go_icmp_le hq71 k71_53 (by decide)
theorem k71_56 : cm_at ins_71 56 = some (.aload_n 1, 1) := by decide +kernel
theorem g71_56 : Go 71 56 [l0, some (2, x), l2, l3, l4, l5, l6, l7, l8, l9, l10, l11] st G M Q ↔ Go 71 57 [l0, some (2, x), l2, l3, l4, l5, l6, l7, l8, l9, l10, l11] ((2, x) :: st) G M Q := go_aload_n hq71 k71_56 rfl
theorem k71_57 : cm_at ins_71 57 = some (.iload 10, 2) := by decide +kernel
theorem g71_57 : Go 71 57 [l0, l1, l2, l3, l4, l5, l6, l7, l8, l9, some (0, x), l11] st G M Q ↔ Go 71 59 [l0, l1, l2, l3, l4, l5, l6, l7, l8, l9, some (0, x), l11] ((0, x) :: st) G M Q := go_iload hq71 k71_57 rfl
theorem k71_59 : cm_at ins_71 59 = some (.iaload, 1) := by decide +kernel
theorem g71_59 : Go 71 59 ls ((0, i) :: (2, k) :: st) G M Q ↔ (0 ≤ i ∧ i < cm_al 1 G M k) ∧ Go 71 60 ls ((0, M k i) :: st) G M Q := go_iald hq71 k71_59
theorem k71_60 : cm_at ins_71 60 = some (.goto 5, 3) := by decide +kernel
theorem g71_60 : Go 71 60 ls st G M Q ↔ Go 71 65 ls st G M Q := go_goto hq71 k71_60 (by decide)
theorem k71_63 : cm_at ins_71 63 = some (.iload 7, 2) := by decide +kernel
theorem g71_63 : Go 71 63 [l0, l1, l2, l3, l4, l5, l6, some (0, x), l8, l9, l10, l11] st G M Q ↔ Go 71 65 [l0, l1, l2, l3, l4, l5, l6, some (0, x), l8, l9, l10, l11] ((0, x) :: st) G M Q := go_iload hq71 k71_63 rfl
theorem k71_65 : cm_at ins_71 65 = some (.istore 7, 2) := by decide +kernel
theorem g71_65 : Go 71 65 [l0, l1, l2, l3, l4, l5, l6, l7, l8, l9, l10, l11] ((0, x) :: st) G M Q ↔ Go 71 67 [l0, l1, l2, l3, l4, l5, l6, some (0, x), l8, l9, l10, l11] st G M Q := go_istore hq71 k71_65 ⟨Nat.le_of_ble_eq_true rfl, rfl, by decide⟩
theorem k71_67 : cm_at ins_71 67 = some (.iload 8, 2) := by decide +kernel
theorem g71_67 : Go 71 67 [l0, l1, l2, l3, l4, l5, l6, l7, some (0, x), l9, l10, l11] st G M Q ↔ Go 71 69 [l0, l1, l2, l3, l4, l5, l6, l7, some (0, x), l9, l10, l11] ((0, x) :: st) G M Q := go_iload hq71 k71_67 rfl
theorem k71_69 : cm_at ins_71 69 = some (.ifCond .lt 14, 3) := by decide +kernel
theorem g71_69 : Go 71 69 ls ((0, a) :: st) G M Q ↔ cm_in a ∧ (a < 0 → Go 71 83 ls st G M Q) ∧ (¬ a < 0 → Go 71 72 ls st G M Q) := go_if_lt hq71 k71_69 (by decide)
theorem k71_72 : cm_at ins_71 72 = some (.aload_n 1, 1) := by decide +kernel
theorem g71_72 : Go 71 72 [l0, some (2, x), l2, l3, l4, l5, l6, l7, l8, l9, l10, l11] st G M Q ↔ Go 71 73 [l0, some (2, x), l2, l3, l4, l5, l6, l7, l8, l9, l10, l11] ((2, x) :: st) G M Q := go_aload_n hq71 k71_72 rfl
theorem k71_73 : cm_at ins_71 73 = some (.iload 10, 2) := by decide +kernel
theorem g71_73 : Go 71 73 [l0, l1, l2, l3, l4, l5, l6, l7, l8, l9, some (0, x), l11] st G M Q ↔ Go 71 75 [l0, l1, l2, l3, l4, l5, l6, l7, l8, l9, some (0, x), l11] ((0, x) :: st) G M Q := go_iload hq71 k71_73 rfl
theorem k71_75 : cm_at ins_71 75 = some (.iaload, 1) := by decide +kernel
theorem g71_75 : Go 71 75 ls ((0, i) :: (2, k) :: st) G M Q ↔ (0 ≤ i ∧ i < cm_al 1 G M k) ∧ Go 71 76 ls ((0, M k i) :: st) G M Q := go_iald hq71 k71_75
theorem k71_76 : cm_at ins_71 76 = some (.aload_n 1, 1) := by decide +kernel
theorem g71_76 : Go 71 76 [l0, some (2, x), l2, l3, l4, l5, l6, l7, l8, l9, l10, l11] st G M Q ↔ Go 71 77 [l0, some (2, x), l2, l3, l4, l5, l6, l7, l8, l9, l10, l11] ((2, x) :: st) G M Q := go_aload_n hq71 k71_76 rfl
theorem k71_77 : cm_at ins_71 77 = some (.iload 8, 2) := by decide +kernel
theorem g71_77 : Go 71 77 [l0, l1, l2, l3, l4, l5, l6, l7, some (0, x), l9, l10, l11] st G M Q ↔ Go 71 79 [l0, l1, l2, l3, l4, l5, l6, l7, some (0, x), l9, l10, l11] ((0, x) :: st) G M Q := go_iload hq71 k71_77 rfl
theorem k71_79 : cm_at ins_71 79 = some (.iaload, 1) := by decide +kernel
theorem g71_79 : Go 71 79 ls ((0, i) :: (2, k) :: st) G M Q ↔ (0 ≤ i ∧ i < cm_al 1 G M k) ∧ Go 71 80 ls ((0, M k i) :: st) G M Q := go_iald hq71 k71_79
theorem k71_80 : cm_at ins_71 80 = some (.if_icmp .gt 8, 3) := by decide +kernel
theorem g71_80 : Go 71 80 ls ((0, b) :: (0, a) :: st) G M Q ↔ (cm_in a ∧ cm_in b) ∧ (b < a → Go 71 88 ls st G M Q) ∧ (¬ b < a → Go 71 83 ls st G M Q) := go_icmp_gt hq71 k71_80 (by decide)
theorem k71_83 : cm_at ins_71 83 = some (.iload 10, 2) := by decide +kernel
theorem g71_83 : Go 71 83 [l0, l1, l2, l3, l4, l5, l6, l7, l8, l9, some (0, x), l11] st G M Q ↔ Go 71 85 [l0, l1, l2, l3, l4, l5, l6, l7, l8, l9, some (0, x), l11] ((0, x) :: st) G M Q := go_iload hq71 k71_83 rfl
theorem k71_85 : cm_at ins_71 85 = some (.goto 5, 3) := by decide +kernel
theorem g71_85 : Go 71 85 ls st G M Q ↔ Go 71 90 ls st G M Q := go_goto hq71 k71_85 (by decide)
theorem k71_88 : cm_at ins_71 88 = some (.iload 8, 2) := by decide +kernel
theorem g71_88 : Go 71 88 [l0, l1, l2, l3, l4, l5, l6, l7, some (0, x), l9, l10, l11] st G M Q ↔ Go 71 90 [l0, l1, l2, l3, l4, l5, l6, l7, some (0, x), l9, l10, l11] ((0, x) :: st) G M Q := go_iload hq71 k71_88 rfl
theorem k71_90 : cm_at ins_71 90 = some (.istore 8, 2) := by decide +kernel
theorem g71_90 : Go 71 90 [l0, l1, l2, l3, l4, l5, l6, l7, l8, l9, l10, l11] ((0, x) :: st) G M Q ↔ Go 71 92 [l0, l1, l2, l3, l4, l5, l6, l7, some (0, x), l9, l10, l11] st G M Q := go_istore hq71 k71_90 ⟨Nat.le_of_ble_eq_true rfl, rfl, by decide⟩
theorem k71_92 : cm_at ins_71 92 = some (.iload 10, 2) := by decide +kernel
theorem g71_92 : Go 71 92 [l0, l1, l2, l3, l4, l5, l6, l7, l8, l9, some (0, x), l11] st G M Q ↔ Go 71 94 [l0, l1, l2, l3, l4, l5, l6, l7, l8, l9, some (0, x), l11] ((0, x) :: st) G M Q := go_iload hq71 k71_92 rfl
theorem k71_94 : cm_at ins_71 94 = some (.istore 9, 2) := by decide +kernel
theorem g71_94 : Go 71 94 [l0, l1, l2, l3, l4, l5, l6, l7, l8, l9, l10, l11] ((0, x) :: st) G M Q ↔ Go 71 96 [l0, l1, l2, l3, l4, l5, l6, l7, l8, some (0, x), l10, l11] st G M Q := go_istore hq71 k71_94 ⟨Nat.le_of_ble_eq_true rfl, rfl, by decide⟩
theorem k71_96 : cm_at ins_71 96 = some (.iinc 10 (-1), 3) := by decide +kernel
theorem g71_96 : Go 71 96 [l0, l1, l2, l3, l4, l5, l6, l7, l8, l9, some (0, x), l11] st G M Q ↔ Go 71 99 [l0, l1, l2, l3, l4, l5, l6, l7, l8, l9, some (0, x + (-1)), l11] st G M Q := go_iinc hq71 k71_96 rfl ⟨rfl, by decide⟩
theorem k71_99 : cm_at ins_71 99 = some (.goto (-69), 3) := by decide +kernel
theorem g71_99 : Go 71 99 ls st G M Q ↔ Go 71 30 ls st G M Q := go_goto hq71 k71_99 (by decide)
theorem k71_102 : cm_at ins_71 102 = some (.iload 6, 2) := by decide +kernel
theorem g71_102 : Go 71 102 [l0, l1, l2, l3, l4, l5, some (0, x), l7, l8, l9, l10, l11] st G M Q ↔ Go 71 104 [l0, l1, l2, l3, l4, l5, some (0, x), l7, l8, l9, l10, l11] ((0, x) :: st) G M Q := go_iload hq71 k71_102 rfl
theorem k71_104 : cm_at ins_71 104 = some (.ifCond .ne 7, 3) := by decide +kernel
theorem g71_104 : Go 71 104 ls ((0, a) :: st) G M Q ↔ cm_in a ∧ (¬ a = 0 → Go 71 111 ls st G M Q) ∧ (a = 0 → Go 71 107 ls st G M Q) := go_if_ne hq71 k71_104 (by decide)
theorem k71_107 : cm_at ins_71 107 = some (.iconst 0, 1) := by decide +kernel
theorem g71_107 : Go 71 107 ls st G M Q ↔ Go 71 108 ls ((0, 0) :: st) G M Q := go_iconst hq71 k71_107
theorem k71_108 : cm_at ins_71 108 = some (.goto 10, 3) := by decide +kernel
theorem g71_108 : Go 71 108 ls st G M Q ↔ Go 71 118 ls st G M Q := go_goto hq71 k71_108 (by decide)
theorem k71_111 : cm_at ins_71 111 = some (.iload 7, 2) := by decide +kernel
theorem g71_111 : Go 71 111 [l0, l1, l2, l3, l4, l5, l6, some (0, x), l8, l9, l10, l11] st G M Q ↔ Go 71 113 [l0, l1, l2, l3, l4, l5, l6, some (0, x), l8, l9, l10, l11] ((0, x) :: st) G M Q := go_iload hq71 k71_111 rfl
theorem k71_113 : cm_at ins_71 113 = some (.aload_n 1, 1) := by decide +kernel
theorem g71_113 : Go 71 113 [l0, some (2, x), l2, l3, l4, l5, l6, l7, l8, l9, l10, l11] st G M Q ↔ Go 71 114 [l0, some (2, x), l2, l3, l4, l5, l6, l7, l8, l9, l10, l11] ((2, x) :: st) G M Q := go_aload_n hq71 k71_113 rfl
theorem k71_114 : cm_at ins_71 114 = some (.iload 8, 2) := by decide +kernel
theorem g71_114 : Go 71 114 [l0, l1, l2, l3, l4, l5, l6, l7, some (0, x), l9, l10, l11] st G M Q ↔ Go 71 116 [l0, l1, l2, l3, l4, l5, l6, l7, some (0, x), l9, l10, l11] ((0, x) :: st) G M Q := go_iload hq71 k71_114 rfl
theorem k71_116 : cm_at ins_71 116 = some (.iaload, 1) := by decide +kernel
theorem g71_116 : Go 71 116 ls ((0, i) :: (2, k) :: st) G M Q ↔ (0 ≤ i ∧ i < cm_al 1 G M k) ∧ Go 71 117 ls ((0, M k i) :: st) G M Q := go_iald hq71 k71_116
theorem k71_117 : cm_at ins_71 117 = some (.isub, 1) := by decide +kernel
theorem g71_117 : Go 71 117 ls ((0, b) :: (0, a) :: st) G M Q ↔ Go 71 118 ls ((0, a - b) :: st) G M Q := go_isub hq71 k71_117
theorem k71_118 : cm_at ins_71 118 = some (.istore 10, 2) := by decide +kernel
theorem g71_118 : Go 71 118 [l0, l1, l2, l3, l4, l5, l6, l7, l8, l9, l10, l11] ((0, x) :: st) G M Q ↔ Go 71 120 [l0, l1, l2, l3, l4, l5, l6, l7, l8, l9, some (0, x), l11] st G M Q := go_istore hq71 k71_118 ⟨Nat.le_of_ble_eq_true rfl, rfl, by decide⟩
theorem k71_120 : cm_at ins_71 120 = some (.iload 4, 2) := by decide +kernel
theorem g71_120 : Go 71 120 [l0, l1, l2, l3, some (0, x), l5, l6, l7, l8, l9, l10, l11] st G M Q ↔ Go 71 122 [l0, l1, l2, l3, some (0, x), l5, l6, l7, l8, l9, l10, l11] ((0, x) :: st) G M Q := go_iload hq71 k71_120 rfl
theorem k71_122 : cm_at ins_71 122 = some (.iload 10, 2) := by decide +kernel
theorem g71_122 : Go 71 122 [l0, l1, l2, l3, l4, l5, l6, l7, l8, l9, some (0, x), l11] st G M Q ↔ Go 71 124 [l0, l1, l2, l3, l4, l5, l6, l7, l8, l9, some (0, x), l11] ((0, x) :: st) G M Q := go_iload hq71 k71_122 rfl
theorem k71_124 : cm_at ins_71 124 = some (.ifCond .le 7, 3) := by decide +kernel
theorem g71_124 : Go 71 124 ls ((0, a) :: st) G M Q ↔ cm_in a ∧ (¬ 0 < a → Go 71 131 ls st G M Q) ∧ (0 < a → Go 71 127 ls st G M Q) := go_if_le hq71 k71_124 (by decide)
theorem k71_127 : cm_at ins_71 127 = some (.iconst 1, 1) := by decide +kernel
theorem g71_127 : Go 71 127 ls st G M Q ↔ Go 71 128 ls ((0, 1) :: st) G M Q := go_iconst hq71 k71_127
theorem k71_128 : cm_at ins_71 128 = some (.goto 4, 3) := by decide +kernel
theorem g71_128 : Go 71 128 ls st G M Q ↔ Go 71 132 ls st G M Q := go_goto hq71 k71_128 (by decide)
theorem k71_131 : cm_at ins_71 131 = some (.iconst 0, 1) := by decide +kernel
theorem g71_131 : Go 71 131 ls st G M Q ↔ Go 71 132 ls ((0, 0) :: st) G M Q := go_iconst hq71 k71_131
theorem k71_132 : cm_at ins_71 132 = some (.iadd, 1) := by decide +kernel
theorem g71_132 : Go 71 132 ls ((0, b) :: (0, a) :: st) G M Q ↔ Go 71 133 ls ((0, a + b) :: st) G M Q := go_iadd hq71 k71_132
theorem k71_133 : cm_at ins_71 133 = some (.istore 4, 2) := by decide +kernel
theorem g71_133 : Go 71 133 [l0, l1, l2, l3, l4, l5, l6, l7, l8, l9, l10, l11] ((0, x) :: st) G M Q ↔ Go 71 135 [l0, l1, l2, l3, some (0, x), l5, l6, l7, l8, l9, l10, l11] st G M Q := go_istore hq71 k71_133 ⟨Nat.le_of_ble_eq_true rfl, rfl, by decide⟩
theorem k71_135 : cm_at ins_71 135 = some (.aload_n 0, 1) := by decide +kernel
theorem g71_135 : Go 71 135 [some (2, x), l1, l2, l3, l4, l5, l6, l7, l8, l9, l10, l11] st G M Q ↔ Go 71 136 [some (2, x), l1, l2, l3, l4, l5, l6, l7, l8, l9, l10, l11] ((2, x) :: st) G M Q := go_aload_n hq71 k71_135 rfl
theorem k71_136 : cm_at ins_71 136 = some (.iload 5, 2) := by decide +kernel
theorem g71_136 : Go 71 136 [l0, l1, l2, l3, l4, some (0, x), l6, l7, l8, l9, l10, l11] st G M Q ↔ Go 71 138 [l0, l1, l2, l3, l4, some (0, x), l6, l7, l8, l9, l10, l11] ((0, x) :: st) G M Q := go_iload hq71 k71_136 rfl
theorem k71_138 : cm_at ins_71 138 = some (.iconst 0, 1) := by decide +kernel
theorem g71_138 : Go 71 138 ls st G M Q ↔ Go 71 139 ls ((0, 0) :: st) G M Q := go_iconst hq71 k71_138
theorem k71_139 : cm_at ins_71 139 = some (.invokevirtual 57, 3) := by decide +kernel
theorem c71_139 (h8 : cm_sum st ≤ 8) (hk : cm_sh G k = some (0, 5)) (K : Go 53 0 [some (2, k), some (0, y), some (0, z)] [] G M (fun r G' M' => Go 71 142 ls (r.toList ++ st) G' M' Q)) : Go 71 139 ls ((0, z) :: (0, y) :: (2, k) :: st) G M Q := go_callV hq71 k71_139 fc7_57 hq53 rfl (as := [(0, z), (0, y), (2, k)]) rfl rfl (Nat.le_of_ble_eq_true rfl) rfl h8 hk K
theorem k71_142 : cm_at ins_71 142 = some (.iload 6, 2) := by decide +kernel
theorem g71_142 : Go 71 142 [l0, l1, l2, l3, l4, l5, some (0, x), l7, l8, l9, l10, l11] st G M Q ↔ Go 71 144 [l0, l1, l2, l3, l4, l5, some (0, x), l7, l8, l9, l10, l11] ((0, x) :: st) G M Q := go_iload hq71 k71_142 rfl
theorem k71_144 : cm_at ins_71 144 = some (.if_icmp .ne 92, 3) := by decide +kernel
theorem g71_144 : Go 71 144 ls ((0, b) :: (0, a) :: st) G M Q ↔ (cm_in a ∧ cm_in b) ∧ (¬ a = b → Go 71 236 ls st G M Q) ∧ (a = b → Go 71 147 ls st G M Q) := go_icmp_ne hq71 k71_144 (by decide)
theorem k71_147 : cm_at ins_71 147 = some (.aload_n 0, 1) := by decide +kernel
theorem g71_147 : Go 71 147 [some (2, x), l1, l2, l3, l4, l5, l6, l7, l8, l9, l10, l11] st G M Q ↔ Go 71 148 [some (2, x), l1, l2, l3, l4, l5, l6, l7, l8, l9, l10, l11] ((2, x) :: st) G M Q := go_aload_n hq71 k71_147 rfl
theorem k71_148 : cm_at ins_71 148 = some (.iload 5, 2) := by decide +kernel
theorem g71_148 : Go 71 148 [l0, l1, l2, l3, l4, some (0, x), l6, l7, l8, l9, l10, l11] st G M Q ↔ Go 71 150 [l0, l1, l2, l3, l4, some (0, x), l6, l7, l8, l9, l10, l11] ((0, x) :: st) G M Q := go_iload hq71 k71_148 rfl
theorem k71_150 : cm_at ins_71 150 = some (.iconst 1, 1) := by decide +kernel
theorem g71_150 : Go 71 150 ls st G M Q ↔ Go 71 151 ls ((0, 1) :: st) G M Q := go_iconst hq71 k71_150
theorem k71_151 : cm_at ins_71 151 = some (.invokevirtual 57, 3) := by decide +kernel
theorem c71_151 (h8 : cm_sum st ≤ 8) (hk : cm_sh G k = some (0, 5)) (K : Go 53 0 [some (2, k), some (0, y), some (0, z)] [] G M (fun r G' M' => Go 71 154 ls (r.toList ++ st) G' M' Q)) : Go 71 151 ls ((0, z) :: (0, y) :: (2, k) :: st) G M Q := go_callV hq71 k71_151 fc7_57 hq53 rfl (as := [(0, z), (0, y), (2, k)]) rfl rfl (Nat.le_of_ble_eq_true rfl) rfl h8 hk K
theorem k71_154 : cm_at ins_71 154 = some (.iload 10, 2) := by decide +kernel
theorem g71_154 : Go 71 154 [l0, l1, l2, l3, l4, l5, l6, l7, l8, l9, some (0, x), l11] st G M Q ↔ Go 71 156 [l0, l1, l2, l3, l4, l5, l6, l7, l8, l9, some (0, x), l11] ((0, x) :: st) G M Q := go_iload hq71 k71_154 rfl
theorem k71_156 : cm_at ins_71 156 = some (.if_icmp .ne 80, 3) := by decide +kernel
theorem g71_156 : Go 71 156 ls ((0, b) :: (0, a) :: st) G M Q ↔ (cm_in a ∧ cm_in b) ∧ (¬ a = b → Go 71 236 ls st G M Q) ∧ (a = b → Go 71 159 ls st G M Q) := go_icmp_ne hq71 k71_156 (by decide)
theorem k71_159 : cm_at ins_71 159 = some (.aload_n 0, 1) := by decide +kernel
theorem g71_159 : Go 71 159 [some (2, x), l1, l2, l3, l4, l5, l6, l7, l8, l9, l10, l11] st G M Q ↔ Go 71 160 [some (2, x), l1, l2, l3, l4, l5, l6, l7, l8, l9, l10, l11] ((2, x) :: st) G M Q := go_aload_n hq71 k71_159 rfl
theorem k71_160 : cm_at ins_71 160 = some (.iload 5, 2) := by decide +kernel
theorem g71_160 : Go 71 160 [l0, l1, l2, l3, l4, some (0, x), l6, l7, l8, l9, l10, l11] st G M Q ↔ Go 71 162 [l0, l1, l2, l3, l4, some (0, x), l6, l7, l8, l9, l10, l11] ((0, x) :: st) G M Q := go_iload hq71 k71_160 rfl
theorem k71_162 : cm_at ins_71 162 = some (.iconst 2, 1) := by decide +kernel
theorem g71_162 : Go 71 162 ls st G M Q ↔ Go 71 163 ls ((0, 2) :: st) G M Q := go_iconst hq71 k71_162
theorem k71_163 : cm_at ins_71 163 = some (.invokevirtual 57, 3) := by decide +kernel
theorem c71_163 (h8 : cm_sum st ≤ 8) (hk : cm_sh G k = some (0, 5)) (K : Go 53 0 [some (2, k), some (0, y), some (0, z)] [] G M (fun r G' M' => Go 71 166 ls (r.toList ++ st) G' M' Q)) : Go 71 163 ls ((0, z) :: (0, y) :: (2, k) :: st) G M Q := go_callV hq71 k71_163 fc7_57 hq53 rfl (as := [(0, z), (0, y), (2, k)]) rfl rfl (Nat.le_of_ble_eq_true rfl) rfl h8 hk K
theorem k71_166 : cm_at ins_71 166 = some (.iload 6, 2) := by decide +kernel
theorem g71_166 : Go 71 166 [l0, l1, l2, l3, l4, l5, some (0, x), l7, l8, l9, l10, l11] st G M Q ↔ Go 71 168 [l0, l1, l2, l3, l4, l5, some (0, x), l7, l8, l9, l10, l11] ((0, x) :: st) G M Q := go_iload hq71 k71_166 rfl
theorem k71_168 : cm_at ins_71 168 = some (.ifCond .ne 8, 3) := by decide +kernel
theorem g71_168 : Go 71 168 ls ((0, a) :: st) G M Q ↔ cm_in a ∧ (¬ a = 0 → Go 71 176 ls st G M Q) ∧ (a = 0 → Go 71 171 ls st G M Q) := go_if_ne hq71 k71_168 (by decide)
theorem k71_171 : cm_at ins_71 171 = some (.bipush (-6), 2) := by decide +kernel
theorem g71_171 : Go 71 171 ls st G M Q ↔ Go 71 173 ls ((0, (-6)) :: st) G M Q := go_bipush hq71 k71_171 (by decide)
theorem k71_173 : cm_at ins_71 173 = some (.goto 7, 3) := by decide +kernel
theorem g71_173 : Go 71 173 ls st G M Q ↔ Go 71 180 ls st G M Q := go_goto hq71 k71_173 (by decide)
theorem k71_176 : cm_at ins_71 176 = some (.aload_n 1, 1) := by decide +kernel
theorem g71_176 : Go 71 176 [l0, some (2, x), l2, l3, l4, l5, l6, l7, l8, l9, l10, l11] st G M Q ↔ Go 71 177 [l0, some (2, x), l2, l3, l4, l5, l6, l7, l8, l9, l10, l11] ((2, x) :: st) G M Q := go_aload_n hq71 k71_176 rfl
theorem k71_177 : cm_at ins_71 177 = some (.iload 8, 2) := by decide +kernel
theorem g71_177 : Go 71 177 [l0, l1, l2, l3, l4, l5, l6, l7, some (0, x), l9, l10, l11] st G M Q ↔ Go 71 179 [l0, l1, l2, l3, l4, l5, l6, l7, some (0, x), l9, l10, l11] ((0, x) :: st) G M Q := go_iload hq71 k71_177 rfl
theorem k71_179 : cm_at ins_71 179 = some (.iaload, 1) := by decide +kernel
theorem g71_179 : Go 71 179 ls ((0, i) :: (2, k) :: st) G M Q ↔ (0 ≤ i ∧ i < cm_al 1 G M k) ∧ Go 71 180 ls ((0, M k i) :: st) G M Q := go_iald hq71 k71_179
theorem k71_180 : cm_at ins_71 180 = some (.if_icmp .ne 56, 3) := by decide +kernel
theorem g71_180 : Go 71 180 ls ((0, b) :: (0, a) :: st) G M Q ↔ (cm_in a ∧ cm_in b) ∧ (¬ a = b → Go 71 236 ls st G M Q) ∧ (a = b → Go 71 183 ls st G M Q) := go_icmp_ne hq71 k71_180 (by decide)
theorem k71_183 : cm_at ins_71 183 = some (.aload_n 0, 1) := by decide +kernel
theorem g71_183 : Go 71 183 [some (2, x), l1, l2, l3, l4, l5, l6, l7, l8, l9, l10, l11] st G M Q ↔ Go 71 184 [some (2, x), l1, l2, l3, l4, l5, l6, l7, l8, l9, l10, l11] ((2, x) :: st) G M Q := go_aload_n hq71 k71_183 rfl
theorem k71_184 : cm_at ins_71 184 = some (.iload 5, 2) := by decide +kernel
theorem g71_184 : Go 71 184 [l0, l1, l2, l3, l4, some (0, x), l6, l7, l8, l9, l10, l11] st G M Q ↔ Go 71 186 [l0, l1, l2, l3, l4, some (0, x), l6, l7, l8, l9, l10, l11] ((0, x) :: st) G M Q := go_iload hq71 k71_184 rfl
theorem k71_186 : cm_at ins_71 186 = some (.iconst 3, 1) := by decide +kernel
theorem g71_186 : Go 71 186 ls st G M Q ↔ Go 71 187 ls ((0, 3) :: st) G M Q := go_iconst hq71 k71_186
theorem k71_187 : cm_at ins_71 187 = some (.invokevirtual 57, 3) := by decide +kernel
theorem c71_187 (h8 : cm_sum st ≤ 8) (hk : cm_sh G k = some (0, 5)) (K : Go 53 0 [some (2, k), some (0, y), some (0, z)] [] G M (fun r G' M' => Go 71 190 ls (r.toList ++ st) G' M' Q)) : Go 71 187 ls ((0, z) :: (0, y) :: (2, k) :: st) G M Q := go_callV hq71 k71_187 fc7_57 hq53 rfl (as := [(0, z), (0, y), (2, k)]) rfl rfl (Nat.le_of_ble_eq_true rfl) rfl h8 hk K
theorem k71_190 : cm_at ins_71 190 = some (.iload 6, 2) := by decide +kernel
theorem g71_190 : Go 71 190 [l0, l1, l2, l3, l4, l5, some (0, x), l7, l8, l9, l10, l11] st G M Q ↔ Go 71 192 [l0, l1, l2, l3, l4, l5, some (0, x), l7, l8, l9, l10, l11] ((0, x) :: st) G M Q := go_iload hq71 k71_190 rfl
theorem k71_192 : cm_at ins_71 192 = some (.ifCond .ne 8, 3) := by decide +kernel
theorem g71_192 : Go 71 192 ls ((0, a) :: st) G M Q ↔ cm_in a ∧ (¬ a = 0 → Go 71 200 ls st G M Q) ∧ (a = 0 → Go 71 195 ls st G M Q) := go_if_ne hq71 k71_192 (by decide)
theorem k71_195 : cm_at ins_71 195 = some (.bipush (-6), 2) := by decide +kernel
theorem g71_195 : Go 71 195 ls st G M Q ↔ Go 71 197 ls ((0, (-6)) :: st) G M Q := go_bipush hq71 k71_195 (by decide)
theorem k71_197 : cm_at ins_71 197 = some (.goto 5, 3) := by decide +kernel
theorem g71_197 : Go 71 197 ls st G M Q ↔ Go 71 202 ls st G M Q := go_goto hq71 k71_197 (by decide)
theorem k71_200 : cm_at ins_71 200 = some (.iload 8, 2) := by decide +kernel
theorem g71_200 : Go 71 200 [l0, l1, l2, l3, l4, l5, l6, l7, some (0, x), l9, l10, l11] st G M Q ↔ Go 71 202 [l0, l1, l2, l3, l4, l5, l6, l7, some (0, x), l9, l10, l11] ((0, x) :: st) G M Q := go_iload hq71 k71_200 rfl
theorem k71_202 : cm_at ins_71 202 = some (.if_icmp .ne 34, 3) := by decide +kernel
theorem g71_202 : Go 71 202 ls ((0, b) :: (0, a) :: st) G M Q ↔ (cm_in a ∧ cm_in b) ∧ (¬ a = b → Go 71 236 ls st G M Q) ∧ (a = b → Go 71 205 ls st G M Q) := go_icmp_ne hq71 k71_202 (by decide)
theorem k71_205 : cm_at ins_71 205 = some (.aload_n 0, 1) := by decide +kernel
theorem g71_205 : Go 71 205 [some (2, x), l1, l2, l3, l4, l5, l6, l7, l8, l9, l10, l11] st G M Q ↔ Go 71 206 [some (2, x), l1, l2, l3, l4, l5, l6, l7, l8, l9, l10, l11] ((2, x) :: st) G M Q := go_aload_n hq71 k71_205 rfl
theorem k71_206 : cm_at ins_71 206 = some (.iload 5, 2) := by decide +kernel
theorem g71_206 : Go 71 206 [l0, l1, l2, l3, l4, some (0, x), l6, l7, l8, l9, l10, l11] st G M Q ↔ Go 71 208 [l0, l1, l2, l3, l4, some (0, x), l6, l7, l8, l9, l10, l11] ((0, x) :: st) G M Q := go_iload hq71 k71_206 rfl
theorem k71_208 : cm_at ins_71 208 = some (.iconst 4, 1) := by decide +kernel
theorem g71_208 : Go 71 208 ls st G M Q ↔ Go 71 209 ls ((0, 4) :: st) G M Q := go_iconst hq71 k71_208
theorem k71_209 : cm_at ins_71 209 = some (.invokevirtual 57, 3) := by decide +kernel
theorem c71_209 (h8 : cm_sum st ≤ 8) (hk : cm_sh G k = some (0, 5)) (K : Go 53 0 [some (2, k), some (0, y), some (0, z)] [] G M (fun r G' M' => Go 71 212 ls (r.toList ++ st) G' M' Q)) : Go 71 209 ls ((0, z) :: (0, y) :: (2, k) :: st) G M Q := go_callV hq71 k71_209 fc7_57 hq53 rfl (as := [(0, z), (0, y), (2, k)]) rfl rfl (Nat.le_of_ble_eq_true rfl) rfl h8 hk K
theorem k71_212 : cm_at ins_71 212 = some (.iload 6, 2) := by decide +kernel
theorem g71_212 : Go 71 212 [l0, l1, l2, l3, l4, l5, some (0, x), l7, l8, l9, l10, l11] st G M Q ↔ Go 71 214 [l0, l1, l2, l3, l4, l5, some (0, x), l7, l8, l9, l10, l11] ((0, x) :: st) G M Q := go_iload hq71 k71_212 rfl
theorem k71_214 : cm_at ins_71 214 = some (.ifCond .ne 8, 3) := by decide +kernel
theorem g71_214 : Go 71 214 ls ((0, a) :: st) G M Q ↔ cm_in a ∧ (¬ a = 0 → Go 71 222 ls st G M Q) ∧ (a = 0 → Go 71 217 ls st G M Q) := go_if_ne hq71 k71_214 (by decide)
theorem k71_217 : cm_at ins_71 217 = some (.bipush (-6), 2) := by decide +kernel
theorem g71_217 : Go 71 217 ls st G M Q ↔ Go 71 219 ls ((0, (-6)) :: st) G M Q := go_bipush hq71 k71_217 (by decide)
theorem k71_219 : cm_at ins_71 219 = some (.goto 10, 3) := by decide +kernel
theorem g71_219 : Go 71 219 ls st G M Q ↔ Go 71 229 ls st G M Q := go_goto hq71 k71_219 (by decide)
theorem k71_222 : cm_at ins_71 222 = some (.aload_n 0, 1) := by decide +kernel
theorem g71_222 : Go 71 222 [some (2, x), l1, l2, l3, l4, l5, l6, l7, l8, l9, l10, l11] st G M Q ↔ Go 71 223 [some (2, x), l1, l2, l3, l4, l5, l6, l7, l8, l9, l10, l11] ((2, x) :: st) G M Q := go_aload_n hq71 k71_222 rfl
theorem k71_223 : cm_at ins_71 223 = some (.iload 9, 2) := by decide +kernel
theorem g71_223 : Go 71 223 [l0, l1, l2, l3, l4, l5, l6, l7, l8, some (0, x), l10, l11] st G M Q ↔ Go 71 225 [l0, l1, l2, l3, l4, l5, l6, l7, l8, some (0, x), l10, l11] ((0, x) :: st) G M Q := go_iload hq71 k71_223 rfl
theorem k71_225 : cm_at ins_71 225 = some (.iconst 2, 1) := by decide +kernel
theorem g71_225 : Go 71 225 ls st G M Q ↔ Go 71 226 ls ((0, 2) :: st) G M Q := go_iconst hq71 k71_225
theorem k71_226 : cm_at ins_71 226 = some (.invokevirtual 28, 3) := by decide +kernel
theorem c71_226 (h8 : cm_sum st ≤ 8) (hk : cm_sh G k = some (0, 5)) (K : Go 52 0 [some (2, k), some (0, y), some (0, z)] [] G M (fun r G' M' => Go 71 229 ls (r.toList ++ st) G' M' Q)) : Go 71 226 ls ((0, z) :: (0, y) :: (2, k) :: st) G M Q := go_callV hq71 k71_226 fc7_28 hq52 rfl (as := [(0, z), (0, y), (2, k)]) rfl rfl (Nat.le_of_ble_eq_true rfl) rfl h8 hk K
theorem k71_229 : cm_at ins_71 229 = some (.if_icmp .ne 7, 3) := by decide +kernel
theorem g71_229 : Go 71 229 ls ((0, b) :: (0, a) :: st) G M Q ↔ (cm_in a ∧ cm_in b) ∧ (¬ a = b → Go 71 236 ls st G M Q) ∧ (a = b → Go 71 232 ls st G M Q) := go_icmp_ne hq71 k71_229 (by decide)
theorem k71_232 : cm_at ins_71 232 = some (.iconst 1, 1) := by decide +kernel
theorem g71_232 : Go 71 232 ls st G M Q ↔ Go 71 233 ls ((0, 1) :: st) G M Q := go_iconst hq71 k71_232
theorem k71_233 : cm_at ins_71 233 = some (.goto 4, 3) := by decide +kernel
theorem g71_233 : Go 71 233 ls st G M Q ↔ Go 71 237 ls st G M Q := go_goto hq71 k71_233 (by decide)
theorem k71_236 : cm_at ins_71 236 = some (.iconst 0, 1) := by decide +kernel
theorem g71_236 : Go 71 236 ls st G M Q ↔ Go 71 237 ls ((0, 0) :: st) G M Q := go_iconst hq71 k71_236
theorem k71_237 : cm_at ins_71 237 = some (.istore 11, 2) := by decide +kernel
theorem g71_237 : Go 71 237 [l0, l1, l2, l3, l4, l5, l6, l7, l8, l9, l10, l11] ((0, x) :: st) G M Q ↔ Go 71 239 [l0, l1, l2, l3, l4, l5, l6, l7, l8, l9, l10, some (0, x)] st G M Q := go_istore hq71 k71_237 ⟨Nat.le_of_ble_eq_true rfl, rfl, by decide⟩
theorem k71_239 : cm_at ins_71 239 = some (.iload 11, 2) := by decide +kernel
theorem g71_239 : Go 71 239 [l0, l1, l2, l3, l4, l5, l6, l7, l8, l9, l10, some (0, x)] st G M Q ↔ Go 71 241 [l0, l1, l2, l3, l4, l5, l6, l7, l8, l9, l10, some (0, x)] ((0, x) :: st) G M Q := go_iload hq71 k71_239 rfl
theorem k71_241 : cm_at ins_71 241 = some (.ifCond .ne 5, 3) := by decide +kernel
theorem g71_241 : Go 71 241 ls ((0, a) :: st) G M Q ↔ cm_in a ∧ (¬ a = 0 → Go 71 246 ls st G M Q) ∧ (a = 0 → Go 71 244 ls st G M Q) := go_if_ne hq71 k71_241 (by decide)
theorem k71_244 : cm_at ins_71 244 = some (.iconst 0, 1) := by decide +kernel
theorem g71_244 : Go 71 244 ls st G M Q ↔ Go 71 245 ls ((0, 0) :: st) G M Q := go_iconst hq71 k71_244
theorem k71_245 : cm_at ins_71 245 = some (.ireturn, 1) := by decide +kernel
theorem g71_245 : Go 71 245 ls [(0, v)] G M Q ↔ (v = 0 ∨ v = 1) ∧ Q (some (0, v)) G M := go_zreturn hq71 k71_245 rfl
theorem k71_246 : cm_at ins_71 246 = some (.iinc 5 1, 3) := by decide +kernel
theorem g71_246 : Go 71 246 [l0, l1, l2, l3, l4, some (0, x), l6, l7, l8, l9, l10, l11] st G M Q ↔ Go 71 249 [l0, l1, l2, l3, l4, some (0, x + 1), l6, l7, l8, l9, l10, l11] st G M Q := go_iinc hq71 k71_246 rfl ⟨rfl, by decide⟩
theorem k71_249 : cm_at ins_71 249 = some (.goto (-243), 3) := by decide +kernel
theorem g71_249 : Go 71 249 ls st G M Q ↔ Go 71 6 ls st G M Q := go_goto hq71 k71_249 (by decide)
theorem k71_252 : cm_at ins_71 252 = some (.aload_n 0, 1) := by decide +kernel
theorem g71_252 : Go 71 252 [some (2, x), l1, l2, l3, l4, l5, l6, l7, l8, l9, l10, l11] st G M Q ↔ Go 71 253 [some (2, x), l1, l2, l3, l4, l5, l6, l7, l8, l9, l10, l11] ((2, x) :: st) G M Q := go_aload_n hq71 k71_252 rfl
theorem k71_253 : cm_at ins_71 253 = some (.iconst 4, 1) := by decide +kernel
theorem g71_253 : Go 71 253 ls st G M Q ↔ Go 71 254 ls ((0, 4) :: st) G M Q := go_iconst hq71 k71_253
theorem k71_254 : cm_at ins_71 254 = some (.invokevirtual 10, 3) := by decide +kernel
theorem c71_254 (h8 : cm_sum st ≤ 8) (hk : cm_sh G k = some (0, 5)) (K : Go 55 0 [some (2, k), some (0, y)] [] G M (fun r G' M' => Go 71 257 ls (r.toList ++ st) G' M' Q)) : Go 71 254 ls ((0, y) :: (2, k) :: st) G M Q := go_callV hq71 k71_254 fc7_10 hq55 rfl (as := [(0, y), (2, k)]) rfl rfl (Nat.le_of_ble_eq_true rfl) rfl h8 hk K
theorem k71_257 : cm_at ins_71 257 = some (.iload 4, 2) := by decide +kernel
theorem g71_257 : Go 71 257 [l0, l1, l2, l3, some (0, x), l5, l6, l7, l8, l9, l10, l11] st G M Q ↔ Go 71 259 [l0, l1, l2, l3, some (0, x), l5, l6, l7, l8, l9, l10, l11] ((0, x) :: st) G M Q := go_iload hq71 k71_257 rfl
theorem k71_259 : cm_at ins_71 259 = some (.if_icmp .ne 19, 3) := by decide +kernel
theorem g71_259 : Go 71 259 ls ((0, b) :: (0, a) :: st) G M Q ↔ (cm_in a ∧ cm_in b) ∧ (¬ a = b → Go 71 278 ls st G M Q) ∧ (a = b → Go 71 262 ls st G M Q) := go_icmp_ne hq71 k71_259 (by decide)
theorem k71_262 : cm_at ins_71 262 = some (.aload_n 0, 1) := by decide +kernel
theorem g71_262 : Go 71 262 [some (2, x), l1, l2, l3, l4, l5, l6, l7, l8, l9, l10, l11] st G M Q ↔ Go 71 263 [some (2, x), l1, l2, l3, l4, l5, l6, l7, l8, l9, l10, l11] ((2, x) :: st) G M Q := go_aload_n hq71 k71_262 rfl
theorem k71_263 : cm_at ins_71 263 = some (.bipush 8, 2) := by decide +kernel
theorem g71_263 : Go 71 263 ls st G M Q ↔ Go 71 265 ls ((0, 8) :: st) G M Q := go_bipush hq71 k71_263 (by decide)
theorem k71_265 : cm_at ins_71 265 = some (.iconst 0, 1) := by decide +kernel
theorem g71_265 : Go 71 265 ls st G M Q ↔ Go 71 266 ls ((0, 0) :: st) G M Q := go_iconst hq71 k71_265
theorem k71_266 : cm_at ins_71 266 = some (.invokevirtual 57, 3) := by decide +kernel
theorem c71_266 (h8 : cm_sum st ≤ 8) (hk : cm_sh G k = some (0, 5)) (K : Go 53 0 [some (2, k), some (0, y), some (0, z)] [] G M (fun r G' M' => Go 71 269 ls (r.toList ++ st) G' M' Q)) : Go 71 266 ls ((0, z) :: (0, y) :: (2, k) :: st) G M Q := go_callV hq71 k71_266 fc7_57 hq53 rfl (as := [(0, z), (0, y), (2, k)]) rfl rfl (Nat.le_of_ble_eq_true rfl) rfl h8 hk K
theorem k71_269 : cm_at ins_71 269 = some (.bipush (-2), 2) := by decide +kernel
theorem g71_269 : Go 71 269 ls st G M Q ↔ Go 71 271 ls ((0, (-2)) :: st) G M Q := go_bipush hq71 k71_269 (by decide)
theorem k71_271 : cm_at ins_71 271 = some (.if_icmp .ne 7, 3) := by decide +kernel
theorem g71_271 : Go 71 271 ls ((0, b) :: (0, a) :: st) G M Q ↔ (cm_in a ∧ cm_in b) ∧ (¬ a = b → Go 71 278 ls st G M Q) ∧ (a = b → Go 71 274 ls st G M Q) := go_icmp_ne hq71 k71_271 (by decide)
theorem k71_274 : cm_at ins_71 274 = some (.iconst 1, 1) := by decide +kernel
theorem g71_274 : Go 71 274 ls st G M Q ↔ Go 71 275 ls ((0, 1) :: st) G M Q := go_iconst hq71 k71_274
theorem k71_275 : cm_at ins_71 275 = some (.goto 4, 3) := by decide +kernel
theorem g71_275 : Go 71 275 ls st G M Q ↔ Go 71 279 ls st G M Q := go_goto hq71 k71_275 (by decide)
theorem k71_278 : cm_at ins_71 278 = some (.iconst 0, 1) := by decide +kernel
theorem g71_278 : Go 71 278 ls st G M Q ↔ Go 71 279 ls ((0, 0) :: st) G M Q := go_iconst hq71 k71_278
theorem k71_279 : cm_at ins_71 279 = some (.ireturn, 1) := by decide +kernel
theorem g71_279 : Go 71 279 ls [(0, v)] G M Q ↔ (v = 0 ∨ v = 1) ∧ Q (some (0, v)) G M := go_zreturn hq71 k71_279 rfl
theorem k72_0 : cm_at ins_72 0 = some (.aload_n 0, 1) := by decide +kernel
theorem g72_0 : Go 72 0 [some (2, x), l1, l2, l3, l4, l5, l6, l7, l8, l9, l10, l11, l12, l13] st G M Q ↔ Go 72 1 [some (2, x), l1, l2, l3, l4, l5, l6, l7, l8, l9, l10, l11, l12, l13] ((2, x) :: st) G M Q := go_aload_n hq72 k72_0 rfl
theorem k72_1 : cm_at ins_72 1 = some (.iconst 0, 1) := by decide +kernel
theorem g72_1 : Go 72 1 ls st G M Q ↔ Go 72 2 ls ((0, 0) :: st) G M Q := go_iconst hq72 k72_1
theorem k72_2 : cm_at ins_72 2 = some (.invokevirtual 10, 3) := by decide +kernel
theorem c72_2 (h8 : cm_sum st ≤ 8) (hk : cm_sh G k = some (0, 5)) (K : Go 55 0 [some (2, k), some (0, y)] [] G M (fun r G' M' => Go 72 5 ls (r.toList ++ st) G' M' Q)) : Go 72 2 ls ((0, y) :: (2, k) :: st) G M Q := go_callV hq72 k72_2 fc7_10 hq55 rfl (as := [(0, y), (2, k)]) rfl rfl (Nat.le_of_ble_eq_true rfl) rfl h8 hk K
theorem k72_5 : cm_at ins_72 5 = some (.istore 5, 2) := by decide +kernel
theorem g72_5 : Go 72 5 [l0, l1, l2, l3, l4, l5, l6, l7, l8, l9, l10, l11, l12, l13] ((0, x) :: st) G M Q ↔ Go 72 7 [l0, l1, l2, l3, l4, some (0, x), l6, l7, l8, l9, l10, l11, l12, l13] st G M Q := go_istore hq72 k72_5 ⟨Nat.le_of_ble_eq_true rfl, rfl, by decide⟩
theorem k72_7 : cm_at ins_72 7 = some (.aload_n 0, 1) := by decide +kernel
theorem g72_7 : Go 72 7 [some (2, x), l1, l2, l3, l4, l5, l6, l7, l8, l9, l10, l11, l12, l13] st G M Q ↔ Go 72 8 [some (2, x), l1, l2, l3, l4, l5, l6, l7, l8, l9, l10, l11, l12, l13] ((2, x) :: st) G M Q := go_aload_n hq72 k72_7 rfl
theorem k72_8 : cm_at ins_72 8 = some (.iload 4, 2) := by decide +kernel
theorem g72_8 : Go 72 8 [l0, l1, l2, l3, some (0, x), l5, l6, l7, l8, l9, l10, l11, l12, l13] st G M Q ↔ Go 72 10 [l0, l1, l2, l3, some (0, x), l5, l6, l7, l8, l9, l10, l11, l12, l13] ((0, x) :: st) G M Q := go_iload hq72 k72_8 rfl
theorem k72_10 : cm_at ins_72 10 = some (.iconst 4, 1) := by decide +kernel
theorem g72_10 : Go 72 10 ls st G M Q ↔ Go 72 11 ls ((0, 4) :: st) G M Q := go_iconst hq72 k72_10
theorem k72_11 : cm_at ins_72 11 = some (.invokevirtual 60, 3) := by decide +kernel
theorem c72_11 (h8 : cm_sum st ≤ 8) (hk : cm_sh G k = some (0, 5)) (K : Go 54 0 [some (2, k), some (0, y), some (0, z)] [] G M (fun r G' M' => Go 72 14 ls (r.toList ++ st) G' M' Q)) : Go 72 11 ls ((0, z) :: (0, y) :: (2, k) :: st) G M Q := go_callV hq72 k72_11 fc7_60 hq54 rfl (as := [(0, z), (0, y), (2, k)]) rfl rfl (Nat.le_of_ble_eq_true rfl) rfl h8 hk K
theorem k72_14 : cm_at ins_72 14 = some (.istore 6, 2) := by decide +kernel
theorem g72_14 : Go 72 14 [l0, l1, l2, l3, l4, l5, l6, l7, l8, l9, l10, l11, l12, l13] ((0, x) :: st) G M Q ↔ Go 72 16 [l0, l1, l2, l3, l4, l5, some (0, x), l7, l8, l9, l10, l11, l12, l13] st G M Q := go_istore hq72 k72_14 ⟨Nat.le_of_ble_eq_true rfl, rfl, by decide⟩
theorem k72_16 : cm_at ins_72 16 = some (.bipush (-6), 2) := by decide +kernel
theorem g72_16 : Go 72 16 ls st G M Q ↔ Go 72 18 ls ((0, (-6)) :: st) G M Q := go_bipush hq72 k72_16 (by decide)
theorem k72_18 : cm_at ins_72 18 = some (.istore 7, 2) := by decide +kernel
theorem g72_18 : Go 72 18 [l0, l1, l2, l3, l4, l5, l6, l7, l8, l9, l10, l11, l12, l13] ((0, x) :: st) G M Q ↔ Go 72 20 [l0, l1, l2, l3, l4, l5, l6, some (0, x), l8, l9, l10, l11, l12, l13] st G M Q := go_istore hq72 k72_18 ⟨Nat.le_of_ble_eq_true rfl, rfl, by decide⟩
theorem k72_20 : cm_at ins_72 20 = some (.bipush (-6), 2) := by decide +kernel
theorem g72_20 : Go 72 20 ls st G M Q ↔ Go 72 22 ls ((0, (-6)) :: st) G M Q := go_bipush hq72 k72_20 (by decide)
theorem k72_22 : cm_at ins_72 22 = some (.istore 8, 2) := by decide +kernel
theorem g72_22 : Go 72 22 [l0, l1, l2, l3, l4, l5, l6, l7, l8, l9, l10, l11, l12, l13] ((0, x) :: st) G M Q ↔ Go 72 24 [l0, l1, l2, l3, l4, l5, l6, l7, some (0, x), l9, l10, l11, l12, l13] st G M Q := go_istore hq72 k72_22 ⟨Nat.le_of_ble_eq_true rfl, rfl, by decide⟩
theorem k72_24 : cm_at ins_72 24 = some (.iconst 0, 1) := by decide +kernel
theorem g72_24 : Go 72 24 ls st G M Q ↔ Go 72 25 ls ((0, 0) :: st) G M Q := go_iconst hq72 k72_24
theorem k72_25 : cm_at ins_72 25 = some (.istore 9, 2) := by decide +kernel
theorem g72_25 : Go 72 25 [l0, l1, l2, l3, l4, l5, l6, l7, l8, l9, l10, l11, l12, l13] ((0, x) :: st) G M Q ↔ Go 72 27 [l0, l1, l2, l3, l4, l5, l6, l7, l8, some (0, x), l10, l11, l12, l13] st G M Q := go_istore hq72 k72_25 ⟨Nat.le_of_ble_eq_true rfl, rfl, by decide⟩
theorem k72_27 : cm_at ins_72 27 = some (.aload_n 0, 1) := by decide +kernel
theorem g72_27 : Go 72 27 [some (2, x), l1, l2, l3, l4, l5, l6, l7, l8, l9, l10, l11, l12, l13] st G M Q ↔ Go 72 28 [some (2, x), l1, l2, l3, l4, l5, l6, l7, l8, l9, l10, l11, l12, l13] ((2, x) :: st) G M Q := go_aload_n hq72 k72_27 rfl
theorem k72_28 : cm_at ins_72 28 = some (.bipush 8, 2) := by decide +kernel
theorem g72_28 : Go 72 28 ls st G M Q ↔ Go 72 30 ls ((0, 8) :: st) G M Q := go_bipush hq72 k72_28 (by decide)
theorem k72_30 : cm_at ins_72 30 = some (.invokevirtual 10, 3) := by decide +kernel
theorem c72_30 (h8 : cm_sum st ≤ 8) (hk : cm_sh G k = some (0, 5)) (K : Go 55 0 [some (2, k), some (0, y)] [] G M (fun r G' M' => Go 72 33 ls (r.toList ++ st) G' M' Q)) : Go 72 30 ls ((0, y) :: (2, k) :: st) G M Q := go_callV hq72 k72_30 fc7_10 hq55 rfl (as := [(0, y), (2, k)]) rfl rfl (Nat.le_of_ble_eq_true rfl) rfl h8 hk K
theorem k72_33 : cm_at ins_72 33 = some (.istore 10, 2) := by decide +kernel
theorem g72_33 : Go 72 33 [l0, l1, l2, l3, l4, l5, l6, l7, l8, l9, l10, l11, l12, l13] ((0, x) :: st) G M Q ↔ Go 72 35 [l0, l1, l2, l3, l4, l5, l6, l7, l8, l9, some (0, x), l11, l12, l13] st G M Q := go_istore hq72 k72_33 ⟨Nat.le_of_ble_eq_true rfl, rfl, by decide⟩
theorem k72_35 : cm_at ins_72 35 = some (.aload_n 0, 1) := by decide +kernel
theorem g72_35 : Go 72 35 [some (2, x), l1, l2, l3, l4, l5, l6, l7, l8, l9, l10, l11, l12, l13] st G M Q ↔ Go 72 36 [some (2, x), l1, l2, l3, l4, l5, l6, l7, l8, l9, l10, l11, l12, l13] ((2, x) :: st) G M Q := go_aload_n hq72 k72_35 rfl
theorem k72_36 : cm_at ins_72 36 = some (.bipush 7, 2) := by decide +kernel
theorem g72_36 : Go 72 36 ls st G M Q ↔ Go 72 38 ls ((0, 7) :: st) G M Q := go_bipush hq72 k72_36 (by decide)
theorem k72_38 : cm_at ins_72 38 = some (.invokevirtual 10, 3) := by decide +kernel
theorem c72_38 (h8 : cm_sum st ≤ 8) (hk : cm_sh G k = some (0, 5)) (K : Go 55 0 [some (2, k), some (0, y)] [] G M (fun r G' M' => Go 72 41 ls (r.toList ++ st) G' M' Q)) : Go 72 38 ls ((0, y) :: (2, k) :: st) G M Q := go_callV hq72 k72_38 fc7_10 hq55 rfl (as := [(0, y), (2, k)]) rfl rfl (Nat.le_of_ble_eq_true rfl) rfl h8 hk K
theorem k72_41 : cm_at ins_72 41 = some (.istore 11, 2) := by decide +kernel
theorem g72_41 : Go 72 41 [l0, l1, l2, l3, l4, l5, l6, l7, l8, l9, l10, l11, l12, l13] ((0, x) :: st) G M Q ↔ Go 72 43 [l0, l1, l2, l3, l4, l5, l6, l7, l8, l9, l10, some (0, x), l12, l13] st G M Q := go_istore hq72 k72_41 ⟨Nat.le_of_ble_eq_true rfl, rfl, by decide⟩
theorem k72_43 : cm_at ins_72 43 = some (.iconst 0, 1) := by decide +kernel
theorem g72_43 : Go 72 43 ls st G M Q ↔ Go 72 44 ls ((0, 0) :: st) G M Q := go_iconst hq72 k72_43
theorem k72_44 : cm_at ins_72 44 = some (.istore 12, 2) := by decide +kernel
theorem g72_44 : Go 72 44 [l0, l1, l2, l3, l4, l5, l6, l7, l8, l9, l10, l11, l12, l13] ((0, x) :: st) G M Q ↔ Go 72 46 [l0, l1, l2, l3, l4, l5, l6, l7, l8, l9, l10, l11, some (0, x), l13] st G M Q := go_istore hq72 k72_44 ⟨Nat.le_of_ble_eq_true rfl, rfl, by decide⟩
theorem k72_46 : cm_at ins_72 46 = some (.iload 12, 2) := by decide +kernel
theorem g72_46 : Go 72 46 [l0, l1, l2, l3, l4, l5, l6, l7, l8, l9, l10, l11, some (0, x), l13] st G M Q ↔ Go 72 48 [l0, l1, l2, l3, l4, l5, l6, l7, l8, l9, l10, l11, some (0, x), l13] ((0, x) :: st) G M Q := go_iload hq72 k72_46 rfl
theorem k72_48 : cm_at ins_72 48 = some (.iload 5, 2) := by decide +kernel
theorem g72_48 : Go 72 48 [l0, l1, l2, l3, l4, some (0, x), l6, l7, l8, l9, l10, l11, l12, l13] st G M Q ↔ Go 72 50 [l0, l1, l2, l3, l4, some (0, x), l6, l7, l8, l9, l10, l11, l12, l13] ((0, x) :: st) G M Q := go_iload hq72 k72_48 rfl
theorem k72_50 : cm_at ins_72 50 = some (.if_icmp .ge 126, 3) := by decide +kernel
theorem g72_50 : Go 72 50 ls ((0, b) :: (0, a) :: st) G M Q ↔ (cm_in a ∧ cm_in b) ∧ (¬ a < b → Go 72 176 ls st G M Q) ∧ (a < b → Go 72 53 ls st G M Q) := go_icmp_ge hq72 k72_50 (by decide)
theorem k72_53 : cm_at ins_72 53 = some (.iload 6, 2) := by decide +kernel
theorem g72_53 : Go 72 53 [l0, l1, l2, l3, l4, l5, some (0, x), l7, l8, l9, l10, l11, l12, l13] st G M Q ↔ Go 72 55 [l0, l1, l2, l3, l4, l5, some (0, x), l7, l8, l9, l10, l11, l12, l13] ((0, x) :: st) G M Q := go_iload hq72 k72_53 rfl
theorem k72_55 : cm_at ins_72 55 = some (.bipush 10, 2) := by decide +kernel
theorem g72_55 : Go 72 55 ls st G M Q ↔ Go 72 57 ls ((0, 10) :: st) G M Q := go_bipush hq72 k72_55 (by decide)
theorem k72_57 : cm_at ins_72 57 = some (.aload_n 1, 1) := by decide +kernel
theorem g72_57 : Go 72 57 [l0, some (2, x), l2, l3, l4, l5, l6, l7, l8, l9, l10, l11, l12, l13] st G M Q ↔ Go 72 58 [l0, some (2, x), l2, l3, l4, l5, l6, l7, l8, l9, l10, l11, l12, l13] ((2, x) :: st) G M Q := go_aload_n hq72 k72_57 rfl
theorem k72_58 : cm_at ins_72 58 = some (.iload 12, 2) := by decide +kernel
theorem g72_58 : Go 72 58 [l0, l1, l2, l3, l4, l5, l6, l7, l8, l9, l10, l11, some (0, x), l13] st G M Q ↔ Go 72 60 [l0, l1, l2, l3, l4, l5, l6, l7, l8, l9, l10, l11, some (0, x), l13] ((0, x) :: st) G M Q := go_iload hq72 k72_58 rfl
theorem k72_60 : cm_at ins_72 60 = some (.iaload, 1) := by decide +kernel
theorem g72_60 : Go 72 60 ls ((0, i) :: (2, k) :: st) G M Q ↔ (0 ≤ i ∧ i < cm_al 1 G M k) ∧ Go 72 61 ls ((0, M k i) :: st) G M Q := go_iald hq72 k72_60
theorem k72_61 : cm_at ins_72 61 = some (.aload_n 2, 1) := by decide +kernel
theorem g72_61 : Go 72 61 [l0, l1, some (2, x), l3, l4, l5, l6, l7, l8, l9, l10, l11, l12, l13] st G M Q ↔ Go 72 62 [l0, l1, some (2, x), l3, l4, l5, l6, l7, l8, l9, l10, l11, l12, l13] ((2, x) :: st) G M Q := go_aload_n hq72 k72_61 rfl
theorem k72_62 : cm_at ins_72 62 = some (.iload 12, 2) := by decide +kernel
theorem g72_62 : Go 72 62 [l0, l1, l2, l3, l4, l5, l6, l7, l8, l9, l10, l11, some (0, x), l13] st G M Q ↔ Go 72 64 [l0, l1, l2, l3, l4, l5, l6, l7, l8, l9, l10, l11, some (0, x), l13] ((0, x) :: st) G M Q := go_iload hq72 k72_62 rfl
theorem k72_64 : cm_at ins_72 64 = some (.iaload, 1) := by decide +kernel
theorem g72_64 : Go 72 64 ls ((0, i) :: (2, k) :: st) G M Q ↔ (0 ≤ i ∧ i < cm_al 1 G M k) ∧ Go 72 65 ls ((0, M k i) :: st) G M Q := go_iald hq72 k72_64
theorem k72_65 : cm_at ins_72 65 = some (.iadd, 1) := by decide +kernel
theorem g72_65 : Go 72 65 ls ((0, b) :: (0, a) :: st) G M Q ↔ Go 72 66 ls ((0, a + b) :: st) G M Q := go_iadd hq72 k72_65
theorem k72_66 : cm_at ins_72 66 = some (.imul, 1) := by decide +kernel
theorem g72_66 : Go 72 66 ls ((0, b) :: (0, a) :: st) G M Q ↔ Go 72 67 ls ((0, a * b) :: st) G M Q := go_imul hq72 k72_66
theorem k72_67 : cm_at ins_72 67 = some (.if_icmp .lt 22, 3) := by decide +kernel
theorem g72_67 : Go 72 67 ls ((0, b) :: (0, a) :: st) G M Q ↔ (cm_in a ∧ cm_in b) ∧ (a < b → Go 72 89 ls st G M Q) ∧ (¬ a < b → Go 72 70 ls st G M Q) := go_icmp_lt hq72 k72_67 (by decide)
theorem k72_70 : cm_at ins_72 70 = some (.iload 6, 2) := by decide +kernel
theorem g72_70 : Go 72 70 [l0, l1, l2, l3, l4, l5, some (0, x), l7, l8, l9, l10, l11, l12, l13] st G M Q ↔ Go 72 72 [l0, l1, l2, l3, l4, l5, some (0, x), l7, l8, l9, l10, l11, l12, l13] ((0, x) :: st) G M Q := go_iload hq72 k72_70 rfl
theorem k72_72 : cm_at ins_72 72 = some (.bipush 10, 2) := by decide +kernel
theorem g72_72 : Go 72 72 ls st G M Q ↔ Go 72 74 ls ((0, 10) :: st) G M Q := go_bipush hq72 k72_72 (by decide)
theorem k72_74 : cm_at ins_72 74 = some (.aload_n 1, 1) := by decide +kernel
theorem g72_74 : Go 72 74 [l0, some (2, x), l2, l3, l4, l5, l6, l7, l8, l9, l10, l11, l12, l13] st G M Q ↔ Go 72 75 [l0, some (2, x), l2, l3, l4, l5, l6, l7, l8, l9, l10, l11, l12, l13] ((2, x) :: st) G M Q := go_aload_n hq72 k72_74 rfl
theorem k72_75 : cm_at ins_72 75 = some (.iload 12, 2) := by decide +kernel
theorem g72_75 : Go 72 75 [l0, l1, l2, l3, l4, l5, l6, l7, l8, l9, l10, l11, some (0, x), l13] st G M Q ↔ Go 72 77 [l0, l1, l2, l3, l4, l5, l6, l7, l8, l9, l10, l11, some (0, x), l13] ((0, x) :: st) G M Q := go_iload hq72 k72_75 rfl
theorem k72_77 : cm_at ins_72 77 = some (.iaload, 1) := by decide +kernel
theorem g72_77 : Go 72 77 ls ((0, i) :: (2, k) :: st) G M Q ↔ (0 ≤ i ∧ i < cm_al 1 G M k) ∧ Go 72 78 ls ((0, M k i) :: st) G M Q := go_iald hq72 k72_77
theorem k72_78 : cm_at ins_72 78 = some (.iload 11, 2) := by decide +kernel
theorem g72_78 : Go 72 78 [l0, l1, l2, l3, l4, l5, l6, l7, l8, l9, l10, some (0, x), l12, l13] st G M Q ↔ Go 72 80 [l0, l1, l2, l3, l4, l5, l6, l7, l8, l9, l10, some (0, x), l12, l13] ((0, x) :: st) G M Q := go_iload hq72 k72_78 rfl
theorem k72_80 : cm_at ins_72 80 = some (.iadd, 1) := by decide +kernel
theorem g72_80 : Go 72 80 ls ((0, b) :: (0, a) :: st) G M Q ↔ Go 72 81 ls ((0, a + b) :: st) G M Q := go_iadd hq72 k72_80
theorem k72_81 : cm_at ins_72 81 = some (.imul, 1) := by decide +kernel
theorem g72_81 : Go 72 81 ls ((0, b) :: (0, a) :: st) G M Q ↔ Go 72 82 ls ((0, a * b) :: st) G M Q := go_imul hq72 k72_81
theorem k72_82 : cm_at ins_72 82 = some (.if_icmp .gt 7, 3) := by decide +kernel
theorem g72_82 : Go 72 82 ls ((0, b) :: (0, a) :: st) G M Q ↔ (cm_in a ∧ cm_in b) ∧ (b < a → Go 72 89 ls st G M Q) ∧ (¬ b < a → Go 72 85 ls st G M Q) := go_icmp_gt hq72 k72_82 (by decide)
theorem k72_85 : cm_at ins_72 85 = some (.iconst 1, 1) := by decide +kernel
theorem g72_85 : Go 72 85 ls st G M Q ↔ Go 72 86 ls ((0, 1) :: st) G M Q := go_iconst hq72 k72_85
theorem k72_86 : cm_at ins_72 86 = some (.goto 4, 3) := by decide +kernel
theorem g72_86 : Go 72 86 ls st G M Q ↔ Go 72 90 ls st G M Q := go_goto hq72 k72_86 (by decide)
theorem k72_89 : cm_at ins_72 89 = some (.iconst 0, 1) := by decide +kernel
theorem g72_89 : Go 72 89 ls st G M Q ↔ Go 72 90 ls ((0, 0) :: st) G M Q := go_iconst hq72 k72_89
theorem k72_90 : cm_at ins_72 90 = some (.istore 13, 2) := by decide +kernel
theorem g72_90 : Go 72 90 [l0, l1, l2, l3, l4, l5, l6, l7, l8, l9, l10, l11, l12, l13] ((0, x) :: st) G M Q ↔ Go 72 92 [l0, l1, l2, l3, l4, l5, l6, l7, l8, l9, l10, l11, l12, some (0, x)] st G M Q := go_istore hq72 k72_90 ⟨Nat.le_of_ble_eq_true rfl, rfl, by decide⟩
theorem k72_92 : cm_at ins_72 92 = some (.iload 13, 2) := by decide +kernel
theorem g72_92 : Go 72 92 [l0, l1, l2, l3, l4, l5, l6, l7, l8, l9, l10, l11, l12, some (0, x)] st G M Q ↔ Go 72 94 [l0, l1, l2, l3, l4, l5, l6, l7, l8, l9, l10, l11, l12, some (0, x)] ((0, x) :: st) G M Q := go_iload hq72 k72_92 rfl
theorem k72_94 : cm_at ins_72 94 = some (.ifCond .eq 13, 3) := by decide +kernel
theorem g72_94 : Go 72 94 ls ((0, a) :: st) G M Q ↔ cm_in a ∧ (a = 0 → Go 72 107 ls st G M Q) ∧ (¬ a = 0 → Go 72 97 ls st G M Q) := go_if_eq hq72 k72_94 (by decide)
theorem k72_97 : cm_at ins_72 97 = some (.iload 7, 2) := by decide +kernel
theorem g72_97 : Go 72 97 [l0, l1, l2, l3, l4, l5, l6, some (0, x), l8, l9, l10, l11, l12, l13] st G M Q ↔ Go 72 99 [l0, l1, l2, l3, l4, l5, l6, some (0, x), l8, l9, l10, l11, l12, l13] ((0, x) :: st) G M Q := go_iload hq72 k72_97 rfl
theorem k72_99 : cm_at ins_72 99 = some (.ifCond .ge 8, 3) := by decide +kernel
theorem g72_99 : Go 72 99 ls ((0, a) :: st) G M Q ↔ cm_in a ∧ (¬ a < 0 → Go 72 107 ls st G M Q) ∧ (a < 0 → Go 72 102 ls st G M Q) := go_if_ge hq72 k72_99 (by decide)
theorem k72_102 : cm_at ins_72 102 = some (.iload 12, 2) := by decide +kernel
theorem g72_102 : Go 72 102 [l0, l1, l2, l3, l4, l5, l6, l7, l8, l9, l10, l11, some (0, x), l13] st G M Q ↔ Go 72 104 [l0, l1, l2, l3, l4, l5, l6, l7, l8, l9, l10, l11, some (0, x), l13] ((0, x) :: st) G M Q := go_iload hq72 k72_102 rfl
theorem k72_104 : cm_at ins_72 104 = some (.goto 5, 3) := by decide +kernel
theorem g72_104 : Go 72 104 ls st G M Q ↔ Go 72 109 ls st G M Q := go_goto hq72 k72_104 (by decide)
theorem k72_107 : cm_at ins_72 107 = some (.iload 7, 2) := by decide +kernel
theorem g72_107 : Go 72 107 [l0, l1, l2, l3, l4, l5, l6, some (0, x), l8, l9, l10, l11, l12, l13] st G M Q ↔ Go 72 109 [l0, l1, l2, l3, l4, l5, l6, some (0, x), l8, l9, l10, l11, l12, l13] ((0, x) :: st) G M Q := go_iload hq72 k72_107 rfl
theorem k72_109 : cm_at ins_72 109 = some (.istore 7, 2) := by decide +kernel
theorem g72_109 : Go 72 109 [l0, l1, l2, l3, l4, l5, l6, l7, l8, l9, l10, l11, l12, l13] ((0, x) :: st) G M Q ↔ Go 72 111 [l0, l1, l2, l3, l4, l5, l6, some (0, x), l8, l9, l10, l11, l12, l13] st G M Q := go_istore hq72 k72_109 ⟨Nat.le_of_ble_eq_true rfl, rfl, by decide⟩
theorem k72_111 : cm_at ins_72 111 = some (.iload 13, 2) := by decide +kernel
theorem g72_111 : Go 72 111 [l0, l1, l2, l3, l4, l5, l6, l7, l8, l9, l10, l11, l12, some (0, x)] st G M Q ↔ Go 72 113 [l0, l1, l2, l3, l4, l5, l6, l7, l8, l9, l10, l11, l12, some (0, x)] ((0, x) :: st) G M Q := go_iload hq72 k72_111 rfl
theorem k72_113 : cm_at ins_72 113 = some (.ifCond .eq 8, 3) := by decide +kernel
theorem g72_113 : Go 72 113 ls ((0, a) :: st) G M Q ↔ cm_in a ∧ (a = 0 → Go 72 121 ls st G M Q) ∧ (¬ a = 0 → Go 72 116 ls st G M Q) := go_if_eq hq72 k72_113 (by decide)
theorem k72_116 : cm_at ins_72 116 = some (.iload 12, 2) := by decide +kernel
theorem g72_116 : Go 72 116 [l0, l1, l2, l3, l4, l5, l6, l7, l8, l9, l10, l11, some (0, x), l13] st G M Q ↔ Go 72 118 [l0, l1, l2, l3, l4, l5, l6, l7, l8, l9, l10, l11, some (0, x), l13] ((0, x) :: st) G M Q := go_iload hq72 k72_116 rfl
theorem k72_118 : cm_at ins_72 118 = some (.goto 5, 3) := by decide +kernel
theorem g72_118 : Go 72 118 ls st G M Q ↔ Go 72 123 ls st G M Q := go_goto hq72 k72_118 (by decide)
theorem k72_121 : cm_at ins_72 121 = some (.iload 8, 2) := by decide +kernel
theorem g72_121 : Go 72 121 [l0, l1, l2, l3, l4, l5, l6, l7, some (0, x), l9, l10, l11, l12, l13] st G M Q ↔ Go 72 123 [l0, l1, l2, l3, l4, l5, l6, l7, some (0, x), l9, l10, l11, l12, l13] ((0, x) :: st) G M Q := go_iload hq72 k72_121 rfl
theorem k72_123 : cm_at ins_72 123 = some (.istore 8, 2) := by decide +kernel
theorem g72_123 : Go 72 123 [l0, l1, l2, l3, l4, l5, l6, l7, l8, l9, l10, l11, l12, l13] ((0, x) :: st) G M Q ↔ Go 72 125 [l0, l1, l2, l3, l4, l5, l6, l7, some (0, x), l9, l10, l11, l12, l13] st G M Q := go_istore hq72 k72_123 ⟨Nat.le_of_ble_eq_true rfl, rfl, by decide⟩
theorem k72_125 : cm_at ins_72 125 = some (.iload 9, 2) := by decide +kernel
theorem g72_125 : Go 72 125 [l0, l1, l2, l3, l4, l5, l6, l7, l8, some (0, x), l10, l11, l12, l13] st G M Q ↔ Go 72 127 [l0, l1, l2, l3, l4, l5, l6, l7, l8, some (0, x), l10, l11, l12, l13] ((0, x) :: st) G M Q := go_iload hq72 k72_125 rfl
theorem k72_127 : cm_at ins_72 127 = some (.iload 13, 2) := by decide +kernel
theorem g72_127 : Go 72 127 [l0, l1, l2, l3, l4, l5, l6, l7, l8, l9, l10, l11, l12, some (0, x)] st G M Q ↔ Go 72 129 [l0, l1, l2, l3, l4, l5, l6, l7, l8, l9, l10, l11, l12, some (0, x)] ((0, x) :: st) G M Q := go_iload hq72 k72_127 rfl
theorem k72_129 : cm_at ins_72 129 = some (.ifCond .eq 7, 3) := by decide +kernel
theorem g72_129 : Go 72 129 ls ((0, a) :: st) G M Q ↔ cm_in a ∧ (a = 0 → Go 72 136 ls st G M Q) ∧ (¬ a = 0 → Go 72 132 ls st G M Q) := go_if_eq hq72 k72_129 (by decide)
theorem k72_132 : cm_at ins_72 132 = some (.iconst 1, 1) := by decide +kernel
theorem g72_132 : Go 72 132 ls st G M Q ↔ Go 72 133 ls ((0, 1) :: st) G M Q := go_iconst hq72 k72_132
theorem k72_133 : cm_at ins_72 133 = some (.goto 4, 3) := by decide +kernel
theorem g72_133 : Go 72 133 ls st G M Q ↔ Go 72 137 ls st G M Q := go_goto hq72 k72_133 (by decide)
theorem k72_136 : cm_at ins_72 136 = some (.iconst 0, 1) := by decide +kernel
theorem g72_136 : Go 72 136 ls st G M Q ↔ Go 72 137 ls ((0, 0) :: st) G M Q := go_iconst hq72 k72_136
theorem k72_137 : cm_at ins_72 137 = some (.iadd, 1) := by decide +kernel
theorem g72_137 : Go 72 137 ls ((0, b) :: (0, a) :: st) G M Q ↔ Go 72 138 ls ((0, a + b) :: st) G M Q := go_iadd hq72 k72_137
theorem k72_138 : cm_at ins_72 138 = some (.istore 9, 2) := by decide +kernel
theorem g72_138 : Go 72 138 [l0, l1, l2, l3, l4, l5, l6, l7, l8, l9, l10, l11, l12, l13] ((0, x) :: st) G M Q ↔ Go 72 140 [l0, l1, l2, l3, l4, l5, l6, l7, l8, some (0, x), l10, l11, l12, l13] st G M Q := go_istore hq72 k72_138 ⟨Nat.le_of_ble_eq_true rfl, rfl, by decide⟩
theorem k72_140 : cm_at ins_72 140 = some (.aload_n 3, 1) := by decide +kernel
theorem g72_140 : Go 72 140 [l0, l1, l2, some (2, x), l4, l5, l6, l7, l8, l9, l10, l11, l12, l13] st G M Q ↔ Go 72 141 [l0, l1, l2, some (2, x), l4, l5, l6, l7, l8, l9, l10, l11, l12, l13] ((2, x) :: st) G M Q := go_aload_n hq72 k72_140 rfl
theorem k72_141 : cm_at ins_72 141 = some (.iload 12, 2) := by decide +kernel
theorem g72_141 : Go 72 141 [l0, l1, l2, l3, l4, l5, l6, l7, l8, l9, l10, l11, some (0, x), l13] st G M Q ↔ Go 72 143 [l0, l1, l2, l3, l4, l5, l6, l7, l8, l9, l10, l11, some (0, x), l13] ((0, x) :: st) G M Q := go_iload hq72 k72_141 rfl
theorem k72_143 : cm_at ins_72 143 = some (.iaload, 1) := by decide +kernel
theorem g72_143 : Go 72 143 ls ((0, i) :: (2, k) :: st) G M Q ↔ (0 ≤ i ∧ i < cm_al 1 G M k) ∧ Go 72 144 ls ((0, M k i) :: st) G M Q := go_iald hq72 k72_143
theorem k72_144 : cm_at ins_72 144 = some (.ifCond .le 22, 3) := by decide +kernel
theorem g72_144 : Go 72 144 ls ((0, a) :: st) G M Q ↔ cm_in a ∧ (¬ 0 < a → Go 72 166 ls st G M Q) ∧ (0 < a → Go 72 147 ls st G M Q) := go_if_le hq72 k72_144 (by decide)
theorem k72_147 : cm_at ins_72 147 = some (.iload 6, 2) := by decide +kernel
theorem g72_147 : Go 72 147 [l0, l1, l2, l3, l4, l5, some (0, x), l7, l8, l9, l10, l11, l12, l13] st G M Q ↔ Go 72 149 [l0, l1, l2, l3, l4, l5, some (0, x), l7, l8, l9, l10, l11, l12, l13] ((0, x) :: st) G M Q := go_iload hq72 k72_147 rfl
theorem k72_149 : cm_at ins_72 149 = some (.bipush 10, 2) := by decide +kernel
theorem g72_149 : Go 72 149 ls st G M Q ↔ Go 72 151 ls ((0, 10) :: st) G M Q := go_bipush hq72 k72_149 (by decide)
theorem k72_151 : cm_at ins_72 151 = some (.aload_n 1, 1) := by decide +kernel
theorem g72_151 : Go 72 151 [l0, some (2, x), l2, l3, l4, l5, l6, l7, l8, l9, l10, l11, l12, l13] st G M Q ↔ Go 72 152 [l0, some (2, x), l2, l3, l4, l5, l6, l7, l8, l9, l10, l11, l12, l13] ((2, x) :: st) G M Q := go_aload_n hq72 k72_151 rfl
theorem k72_152 : cm_at ins_72 152 = some (.iload 12, 2) := by decide +kernel
theorem g72_152 : Go 72 152 [l0, l1, l2, l3, l4, l5, l6, l7, l8, l9, l10, l11, some (0, x), l13] st G M Q ↔ Go 72 154 [l0, l1, l2, l3, l4, l5, l6, l7, l8, l9, l10, l11, some (0, x), l13] ((0, x) :: st) G M Q := go_iload hq72 k72_152 rfl
theorem k72_154 : cm_at ins_72 154 = some (.iaload, 1) := by decide +kernel
theorem g72_154 : Go 72 154 ls ((0, i) :: (2, k) :: st) G M Q ↔ (0 ≤ i ∧ i < cm_al 1 G M k) ∧ Go 72 155 ls ((0, M k i) :: st) G M Q := go_iald hq72 k72_154
theorem k72_155 : cm_at ins_72 155 = some (.imul, 1) := by decide +kernel
theorem g72_155 : Go 72 155 ls ((0, b) :: (0, a) :: st) G M Q ↔ Go 72 156 ls ((0, a * b) :: st) G M Q := go_imul hq72 k72_155
theorem k72_156 : cm_at ins_72 156 = some (.if_icmp .lt 10, 3) := by decide +kernel
theorem g72_156 : Go 72 156 ls ((0, b) :: (0, a) :: st) G M Q ↔ (cm_in a ∧ cm_in b) ∧ (a < b → Go 72 166 ls st G M Q) ∧ (¬ a < b → Go 72 159 ls st G M Q) := go_icmp_lt hq72 k72_156 (by decide)
theorem k72_159 : cm_at ins_72 159 = some (.aload_n 3, 1) := by decide +kernel
theorem g72_159 : Go 72 159 [l0, l1, l2, some (2, x), l4, l5, l6, l7, l8, l9, l10, l11, l12, l13] st G M Q ↔ Go 72 160 [l0, l1, l2, some (2, x), l4, l5, l6, l7, l8, l9, l10, l11, l12, l13] ((2, x) :: st) G M Q := go_aload_n hq72 k72_159 rfl
theorem k72_160 : cm_at ins_72 160 = some (.iload 12, 2) := by decide +kernel
theorem g72_160 : Go 72 160 [l0, l1, l2, l3, l4, l5, l6, l7, l8, l9, l10, l11, some (0, x), l13] st G M Q ↔ Go 72 162 [l0, l1, l2, l3, l4, l5, l6, l7, l8, l9, l10, l11, some (0, x), l13] ((0, x) :: st) G M Q := go_iload hq72 k72_160 rfl
theorem k72_162 : cm_at ins_72 162 = some (.iaload, 1) := by decide +kernel
theorem g72_162 : Go 72 162 ls ((0, i) :: (2, k) :: st) G M Q ↔ (0 ≤ i ∧ i < cm_al 1 G M k) ∧ Go 72 163 ls ((0, M k i) :: st) G M Q := go_iald hq72 k72_162
theorem k72_163 : cm_at ins_72 163 = some (.goto 5, 3) := by decide +kernel
theorem g72_163 : Go 72 163 ls st G M Q ↔ Go 72 168 ls st G M Q := go_goto hq72 k72_163 (by decide)
theorem k72_166 : cm_at ins_72 166 = some (.iload 10, 2) := by decide +kernel
theorem g72_166 : Go 72 166 [l0, l1, l2, l3, l4, l5, l6, l7, l8, l9, some (0, x), l11, l12, l13] st G M Q ↔ Go 72 168 [l0, l1, l2, l3, l4, l5, l6, l7, l8, l9, some (0, x), l11, l12, l13] ((0, x) :: st) G M Q := go_iload hq72 k72_166 rfl
theorem k72_168 : cm_at ins_72 168 = some (.istore 10, 2) := by decide +kernel
theorem g72_168 : Go 72 168 [l0, l1, l2, l3, l4, l5, l6, l7, l8, l9, l10, l11, l12, l13] ((0, x) :: st) G M Q ↔ Go 72 170 [l0, l1, l2, l3, l4, l5, l6, l7, l8, l9, some (0, x), l11, l12, l13] st G M Q := go_istore hq72 k72_168 ⟨Nat.le_of_ble_eq_true rfl, rfl, by decide⟩
theorem k72_170 : cm_at ins_72 170 = some (.iinc 12 1, 3) := by decide +kernel
theorem g72_170 : Go 72 170 [l0, l1, l2, l3, l4, l5, l6, l7, l8, l9, l10, l11, some (0, x), l13] st G M Q ↔ Go 72 173 [l0, l1, l2, l3, l4, l5, l6, l7, l8, l9, l10, l11, some (0, x + 1), l13] st G M Q := go_iinc hq72 k72_170 rfl ⟨rfl, by decide⟩
theorem k72_173 : cm_at ins_72 173 = some (.goto (-127), 3) := by decide +kernel
theorem g72_173 : Go 72 173 ls st G M Q ↔ Go 72 46 ls st G M Q := go_goto hq72 k72_173 (by decide)
theorem k72_176 : cm_at ins_72 176 = some (.aload_n 0, 1) := by decide +kernel
theorem g72_176 : Go 72 176 [some (2, x), l1, l2, l3, l4, l5, l6, l7, l8, l9, l10, l11, l12, l13] st G M Q ↔ Go 72 177 [some (2, x), l1, l2, l3, l4, l5, l6, l7, l8, l9, l10, l11, l12, l13] ((2, x) :: st) G M Q := go_aload_n hq72 k72_176 rfl
theorem k72_177 : cm_at ins_72 177 = some (.iload 4, 2) := by decide +kernel
theorem g72_177 : Go 72 177 [l0, l1, l2, l3, some (0, x), l5, l6, l7, l8, l9, l10, l11, l12, l13] st G M Q ↔ Go 72 179 [l0, l1, l2, l3, some (0, x), l5, l6, l7, l8, l9, l10, l11, l12, l13] ((0, x) :: st) G M Q := go_iload hq72 k72_177 rfl
theorem k72_179 : cm_at ins_72 179 = some (.iconst 0, 1) := by decide +kernel
theorem g72_179 : Go 72 179 ls st G M Q ↔ Go 72 180 ls ((0, 0) :: st) G M Q := go_iconst hq72 k72_179
theorem k72_180 : cm_at ins_72 180 = some (.invokevirtual 60, 3) := by decide +kernel
theorem c72_180 (h8 : cm_sum st ≤ 8) (hk : cm_sh G k = some (0, 5)) (K : Go 54 0 [some (2, k), some (0, y), some (0, z)] [] G M (fun r G' M' => Go 72 183 ls (r.toList ++ st) G' M' Q)) : Go 72 180 ls ((0, z) :: (0, y) :: (2, k) :: st) G M Q := go_callV hq72 k72_180 fc7_60 hq54 rfl (as := [(0, z), (0, y), (2, k)]) rfl rfl (Nat.le_of_ble_eq_true rfl) rfl h8 hk K
theorem k72_183 : cm_at ins_72 183 = some (.iload 7, 2) := by decide +kernel
theorem g72_183 : Go 72 183 [l0, l1, l2, l3, l4, l5, l6, some (0, x), l8, l9, l10, l11, l12, l13] st G M Q ↔ Go 72 185 [l0, l1, l2, l3, l4, l5, l6, some (0, x), l8, l9, l10, l11, l12, l13] ((0, x) :: st) G M Q := go_iload hq72 k72_183 rfl
theorem k72_185 : cm_at ins_72 185 = some (.if_icmp .ne 69, 3) := by decide +kernel
theorem g72_185 : Go 72 185 ls ((0, b) :: (0, a) :: st) G M Q ↔ (cm_in a ∧ cm_in b) ∧ (¬ a = b → Go 72 254 ls st G M Q) ∧ (a = b → Go 72 188 ls st G M Q) := go_icmp_ne hq72 k72_185 (by decide)
theorem k72_188 : cm_at ins_72 188 = some (.aload_n 0, 1) := by decide +kernel
theorem g72_188 : Go 72 188 [some (2, x), l1, l2, l3, l4, l5, l6, l7, l8, l9, l10, l11, l12, l13] st G M Q ↔ Go 72 189 [some (2, x), l1, l2, l3, l4, l5, l6, l7, l8, l9, l10, l11, l12, l13] ((2, x) :: st) G M Q := go_aload_n hq72 k72_188 rfl
theorem k72_189 : cm_at ins_72 189 = some (.iload 4, 2) := by decide +kernel
theorem g72_189 : Go 72 189 [l0, l1, l2, l3, some (0, x), l5, l6, l7, l8, l9, l10, l11, l12, l13] st G M Q ↔ Go 72 191 [l0, l1, l2, l3, some (0, x), l5, l6, l7, l8, l9, l10, l11, l12, l13] ((0, x) :: st) G M Q := go_iload hq72 k72_189 rfl
theorem k72_191 : cm_at ins_72 191 = some (.iconst 1, 1) := by decide +kernel
theorem g72_191 : Go 72 191 ls st G M Q ↔ Go 72 192 ls ((0, 1) :: st) G M Q := go_iconst hq72 k72_191
theorem k72_192 : cm_at ins_72 192 = some (.invokevirtual 60, 3) := by decide +kernel
theorem c72_192 (h8 : cm_sum st ≤ 8) (hk : cm_sh G k = some (0, 5)) (K : Go 54 0 [some (2, k), some (0, y), some (0, z)] [] G M (fun r G' M' => Go 72 195 ls (r.toList ++ st) G' M' Q)) : Go 72 192 ls ((0, z) :: (0, y) :: (2, k) :: st) G M Q := go_callV hq72 k72_192 fc7_60 hq54 rfl (as := [(0, z), (0, y), (2, k)]) rfl rfl (Nat.le_of_ble_eq_true rfl) rfl h8 hk K
theorem k72_195 : cm_at ins_72 195 = some (.iload 8, 2) := by decide +kernel
theorem g72_195 : Go 72 195 [l0, l1, l2, l3, l4, l5, l6, l7, some (0, x), l9, l10, l11, l12, l13] st G M Q ↔ Go 72 197 [l0, l1, l2, l3, l4, l5, l6, l7, some (0, x), l9, l10, l11, l12, l13] ((0, x) :: st) G M Q := go_iload hq72 k72_195 rfl
theorem k72_197 : cm_at ins_72 197 = some (.if_icmp .ne 57, 3) := by decide +kernel
theorem g72_197 : Go 72 197 ls ((0, b) :: (0, a) :: st) G M Q ↔ (cm_in a ∧ cm_in b) ∧ (¬ a = b → Go 72 254 ls st G M Q) ∧ (a = b → Go 72 200 ls st G M Q) := go_icmp_ne hq72 k72_197 (by decide)
theorem k72_200 : cm_at ins_72 200 = some (.aload_n 0, 1) := by decide +kernel
theorem g72_200 : Go 72 200 [some (2, x), l1, l2, l3, l4, l5, l6, l7, l8, l9, l10, l11, l12, l13] st G M Q ↔ Go 72 201 [some (2, x), l1, l2, l3, l4, l5, l6, l7, l8, l9, l10, l11, l12, l13] ((2, x) :: st) G M Q := go_aload_n hq72 k72_200 rfl
theorem k72_201 : cm_at ins_72 201 = some (.iload 4, 2) := by decide +kernel
theorem g72_201 : Go 72 201 [l0, l1, l2, l3, some (0, x), l5, l6, l7, l8, l9, l10, l11, l12, l13] st G M Q ↔ Go 72 203 [l0, l1, l2, l3, some (0, x), l5, l6, l7, l8, l9, l10, l11, l12, l13] ((0, x) :: st) G M Q := go_iload hq72 k72_201 rfl
theorem k72_203 : cm_at ins_72 203 = some (.iconst 2, 1) := by decide +kernel
theorem g72_203 : Go 72 203 ls st G M Q ↔ Go 72 204 ls ((0, 2) :: st) G M Q := go_iconst hq72 k72_203
theorem k72_204 : cm_at ins_72 204 = some (.invokevirtual 60, 3) := by decide +kernel
theorem c72_204 (h8 : cm_sum st ≤ 8) (hk : cm_sh G k = some (0, 5)) (K : Go 54 0 [some (2, k), some (0, y), some (0, z)] [] G M (fun r G' M' => Go 72 207 ls (r.toList ++ st) G' M' Q)) : Go 72 204 ls ((0, z) :: (0, y) :: (2, k) :: st) G M Q := go_callV hq72 k72_204 fc7_60 hq54 rfl (as := [(0, z), (0, y), (2, k)]) rfl rfl (Nat.le_of_ble_eq_true rfl) rfl h8 hk K
theorem k72_207 : cm_at ins_72 207 = some (.iload 9, 2) := by decide +kernel
theorem g72_207 : Go 72 207 [l0, l1, l2, l3, l4, l5, l6, l7, l8, some (0, x), l10, l11, l12, l13] st G M Q ↔ Go 72 209 [l0, l1, l2, l3, l4, l5, l6, l7, l8, some (0, x), l10, l11, l12, l13] ((0, x) :: st) G M Q := go_iload hq72 k72_207 rfl
theorem k72_209 : cm_at ins_72 209 = some (.if_icmp .ne 45, 3) := by decide +kernel
theorem g72_209 : Go 72 209 ls ((0, b) :: (0, a) :: st) G M Q ↔ (cm_in a ∧ cm_in b) ∧ (¬ a = b → Go 72 254 ls st G M Q) ∧ (a = b → Go 72 212 ls st G M Q) := go_icmp_ne hq72 k72_209 (by decide)
theorem k72_212 : cm_at ins_72 212 = some (.aload_n 0, 1) := by decide +kernel
theorem g72_212 : Go 72 212 [some (2, x), l1, l2, l3, l4, l5, l6, l7, l8, l9, l10, l11, l12, l13] st G M Q ↔ Go 72 213 [some (2, x), l1, l2, l3, l4, l5, l6, l7, l8, l9, l10, l11, l12, l13] ((2, x) :: st) G M Q := go_aload_n hq72 k72_212 rfl
theorem k72_213 : cm_at ins_72 213 = some (.iload 4, 2) := by decide +kernel
theorem g72_213 : Go 72 213 [l0, l1, l2, l3, some (0, x), l5, l6, l7, l8, l9, l10, l11, l12, l13] st G M Q ↔ Go 72 215 [l0, l1, l2, l3, some (0, x), l5, l6, l7, l8, l9, l10, l11, l12, l13] ((0, x) :: st) G M Q := go_iload hq72 k72_213 rfl
theorem k72_215 : cm_at ins_72 215 = some (.iconst 3, 1) := by decide +kernel
theorem g72_215 : Go 72 215 ls st G M Q ↔ Go 72 216 ls ((0, 3) :: st) G M Q := go_iconst hq72 k72_215
theorem k72_216 : cm_at ins_72 216 = some (.invokevirtual 60, 3) := by decide +kernel
theorem c72_216 (h8 : cm_sum st ≤ 8) (hk : cm_sh G k = some (0, 5)) (K : Go 54 0 [some (2, k), some (0, y), some (0, z)] [] G M (fun r G' M' => Go 72 219 ls (r.toList ++ st) G' M' Q)) : Go 72 216 ls ((0, z) :: (0, y) :: (2, k) :: st) G M Q := go_callV hq72 k72_216 fc7_60 hq54 rfl (as := [(0, z), (0, y), (2, k)]) rfl rfl (Nat.le_of_ble_eq_true rfl) rfl h8 hk K
theorem k72_219 : cm_at ins_72 219 = some (.iload 10, 2) := by decide +kernel
theorem g72_219 : Go 72 219 [l0, l1, l2, l3, l4, l5, l6, l7, l8, l9, some (0, x), l11, l12, l13] st G M Q ↔ Go 72 221 [l0, l1, l2, l3, l4, l5, l6, l7, l8, l9, some (0, x), l11, l12, l13] ((0, x) :: st) G M Q := go_iload hq72 k72_219 rfl
theorem k72_221 : cm_at ins_72 221 = some (.if_icmp .ne 33, 3) := by decide +kernel
theorem g72_221 : Go 72 221 ls ((0, b) :: (0, a) :: st) G M Q ↔ (cm_in a ∧ cm_in b) ∧ (¬ a = b → Go 72 254 ls st G M Q) ∧ (a = b → Go 72 224 ls st G M Q) := go_icmp_ne hq72 k72_221 (by decide)
theorem k72_224 : cm_at ins_72 224 = some (.aload_n 0, 1) := by decide +kernel
theorem g72_224 : Go 72 224 [some (2, x), l1, l2, l3, l4, l5, l6, l7, l8, l9, l10, l11, l12, l13] st G M Q ↔ Go 72 225 [some (2, x), l1, l2, l3, l4, l5, l6, l7, l8, l9, l10, l11, l12, l13] ((2, x) :: st) G M Q := go_aload_n hq72 k72_224 rfl
theorem k72_225 : cm_at ins_72 225 = some (.iload 4, 2) := by decide +kernel
theorem g72_225 : Go 72 225 [l0, l1, l2, l3, some (0, x), l5, l6, l7, l8, l9, l10, l11, l12, l13] st G M Q ↔ Go 72 227 [l0, l1, l2, l3, some (0, x), l5, l6, l7, l8, l9, l10, l11, l12, l13] ((0, x) :: st) G M Q := go_iload hq72 k72_225 rfl
theorem k72_227 : cm_at ins_72 227 = some (.iconst 1, 1) := by decide +kernel
theorem g72_227 : Go 72 227 ls st G M Q ↔ Go 72 228 ls ((0, 1) :: st) G M Q := go_iconst hq72 k72_227
theorem k72_228 : cm_at ins_72 228 = some (.iadd, 1) := by decide +kernel
theorem g72_228 : Go 72 228 ls ((0, b) :: (0, a) :: st) G M Q ↔ Go 72 229 ls ((0, a + b) :: st) G M Q := go_iadd hq72 k72_228
theorem k72_229 : cm_at ins_72 229 = some (.iconst 4, 1) := by decide +kernel
theorem g72_229 : Go 72 229 ls st G M Q ↔ Go 72 230 ls ((0, 4) :: st) G M Q := go_iconst hq72 k72_229
theorem k72_230 : cm_at ins_72 230 = some (.invokevirtual 60, 3) := by decide +kernel
theorem c72_230 (h8 : cm_sum st ≤ 8) (hk : cm_sh G k = some (0, 5)) (K : Go 54 0 [some (2, k), some (0, y), some (0, z)] [] G M (fun r G' M' => Go 72 233 ls (r.toList ++ st) G' M' Q)) : Go 72 230 ls ((0, z) :: (0, y) :: (2, k) :: st) G M Q := go_callV hq72 k72_230 fc7_60 hq54 rfl (as := [(0, z), (0, y), (2, k)]) rfl rfl (Nat.le_of_ble_eq_true rfl) rfl h8 hk K
theorem k72_233 : cm_at ins_72 233 = some (.iload 6, 2) := by decide +kernel
theorem g72_233 : Go 72 233 [l0, l1, l2, l3, l4, l5, some (0, x), l7, l8, l9, l10, l11, l12, l13] st G M Q ↔ Go 72 235 [l0, l1, l2, l3, l4, l5, some (0, x), l7, l8, l9, l10, l11, l12, l13] ((0, x) :: st) G M Q := go_iload hq72 k72_233 rfl
theorem k72_235 : cm_at ins_72 235 = some (.iload 10, 2) := by decide +kernel
theorem g72_235 : Go 72 235 [l0, l1, l2, l3, l4, l5, l6, l7, l8, l9, some (0, x), l11, l12, l13] st G M Q ↔ Go 72 237 [l0, l1, l2, l3, l4, l5, l6, l7, l8, l9, some (0, x), l11, l12, l13] ((0, x) :: st) G M Q := go_iload hq72 k72_235 rfl
theorem k72_237 : cm_at ins_72 237 = some (.iadd, 1) := by decide +kernel
theorem g72_237 : Go 72 237 ls ((0, b) :: (0, a) :: st) G M Q ↔ Go 72 238 ls ((0, a + b) :: st) G M Q := go_iadd hq72 k72_237
theorem k72_238 : cm_at ins_72 238 = some (.if_icmp .ne 16, 3) := by decide +kernel
theorem g72_238 : Go 72 238 ls ((0, b) :: (0, a) :: st) G M Q ↔ (cm_in a ∧ cm_in b) ∧ (¬ a = b → Go 72 254 ls st G M Q) ∧ (a = b → Go 72 241 ls st G M Q) := go_icmp_ne hq72 k72_238 (by decide)
theorem k72_241 : cm_at ins_72 241 = some (.aload_n 0, 1) := by decide +kernel
theorem g72_241 : Go 72 241 [some (2, x), l1, l2, l3, l4, l5, l6, l7, l8, l9, l10, l11, l12, l13] st G M Q ↔ Go 72 242 [some (2, x), l1, l2, l3, l4, l5, l6, l7, l8, l9, l10, l11, l12, l13] ((2, x) :: st) G M Q := go_aload_n hq72 k72_241 rfl
theorem k72_242 : cm_at ins_72 242 = some (.iconst 0, 1) := by decide +kernel
theorem g72_242 : Go 72 242 ls st G M Q ↔ Go 72 243 ls ((0, 0) :: st) G M Q := go_iconst hq72 k72_242
theorem k72_243 : cm_at ins_72 243 = some (.iconst 4, 1) := by decide +kernel
theorem g72_243 : Go 72 243 ls st G M Q ↔ Go 72 244 ls ((0, 4) :: st) G M Q := go_iconst hq72 k72_243
theorem k72_244 : cm_at ins_72 244 = some (.invokevirtual 60, 3) := by decide +kernel
theorem c72_244 (h8 : cm_sum st ≤ 8) (hk : cm_sh G k = some (0, 5)) (K : Go 54 0 [some (2, k), some (0, y), some (0, z)] [] G M (fun r G' M' => Go 72 247 ls (r.toList ++ st) G' M' Q)) : Go 72 244 ls ((0, z) :: (0, y) :: (2, k) :: st) G M Q := go_callV hq72 k72_244 fc7_60 hq54 rfl (as := [(0, z), (0, y), (2, k)]) rfl rfl (Nat.le_of_ble_eq_true rfl) rfl h8 hk K
theorem k72_247 : cm_at ins_72 247 = some (.ifCond .ne 7, 3) := by decide +kernel
theorem g72_247 : Go 72 247 ls ((0, a) :: st) G M Q ↔ cm_in a ∧ (¬ a = 0 → Go 72 254 ls st G M Q) ∧ (a = 0 → Go 72 250 ls st G M Q) := go_if_ne hq72 k72_247 (by decide)
theorem k72_250 : cm_at ins_72 250 = some (.iconst 1, 1) := by decide +kernel
theorem g72_250 : Go 72 250 ls st G M Q ↔ Go 72 251 ls ((0, 1) :: st) G M Q := go_iconst hq72 k72_250
theorem k72_251 : cm_at ins_72 251 = some (.goto 4, 3) := by decide +kernel
theorem g72_251 : Go 72 251 ls st G M Q ↔ Go 72 255 ls st G M Q := go_goto hq72 k72_251 (by decide)
theorem k72_254 : cm_at ins_72 254 = some (.iconst 0, 1) := by decide +kernel
theorem g72_254 : Go 72 254 ls st G M Q ↔ Go 72 255 ls ((0, 0) :: st) G M Q := go_iconst hq72 k72_254
theorem k72_255 : cm_at ins_72 255 = some (.ireturn, 1) := by decide +kernel
theorem g72_255 : Go 72 255 ls [(0, v)] G M Q ↔ (v = 0 ∨ v = 1) ∧ Q (some (0, v)) G M := go_zreturn hq72 k72_255 rfl
theorem k73_0 : cm_at ins_73 0 = some (.aload_n 0, 1) := by decide +kernel
theorem g73_0 : Go 73 0 [some (2, x), l1, l2, l3, l4, l5, l6, l7, l8, l9, l10, l11, l12, l13, l14, l15, l16, l17, l18] st G M Q ↔ Go 73 1 [some (2, x), l1, l2, l3, l4, l5, l6, l7, l8, l9, l10, l11, l12, l13, l14, l15, l16, l17, l18] ((2, x) :: st) G M Q := go_aload_n hq73 k73_0 rfl
theorem k73_1 : cm_at ins_73 1 = some (.iconst 0, 1) := by decide +kernel
theorem g73_1 : Go 73 1 ls st G M Q ↔ Go 73 2 ls ((0, 0) :: st) G M Q := go_iconst hq73 k73_1
theorem k73_2 : cm_at ins_73 2 = some (.invokevirtual 10, 3) := by decide +kernel
theorem c73_2 (h8 : cm_sum st ≤ 8) (hk : cm_sh G k = some (0, 5)) (K : Go 55 0 [some (2, k), some (0, y)] [] G M (fun r G' M' => Go 73 5 ls (r.toList ++ st) G' M' Q)) : Go 73 2 ls ((0, y) :: (2, k) :: st) G M Q := go_callV hq73 k73_2 fc7_10 hq55 rfl (as := [(0, y), (2, k)]) rfl rfl (Nat.le_of_ble_eq_true rfl) rfl h8 hk K
theorem k73_5 : cm_at ins_73 5 = some (.istore 6, 2) := by decide +kernel
theorem g73_5 : Go 73 5 [l0, l1, l2, l3, l4, l5, l6, l7, l8, l9, l10, l11, l12, l13, l14, l15, l16, l17, l18] ((0, x) :: st) G M Q ↔ Go 73 7 [l0, l1, l2, l3, l4, l5, some (0, x), l7, l8, l9, l10, l11, l12, l13, l14, l15, l16, l17, l18] st G M Q := go_istore hq73 k73_5 ⟨Nat.le_of_ble_eq_true rfl, rfl, by decide⟩
theorem k73_7 : cm_at ins_73 7 = some (.bipush 40, 2) := by decide +kernel
theorem g73_7 : Go 73 7 ls st G M Q ↔ Go 73 9 ls ((0, 40) :: st) G M Q := go_bipush hq73 k73_7 (by decide)
theorem k73_9 : cm_at ins_73 9 = some (.newarray .int, 2) := by decide +kernel
theorem g73_9 : Go 73 9 ls ((0, x) :: st) G M Q ↔ (0 ≤ x ∧ x ≤ 1000) ∧ Go 73 11 ls ((2, (G.1.length : Int)) :: st) (G.1 ++ [(1, x.toNat)], G.2) (cm_row M (G.1.length : Int) 0) Q := go_newarr hq73 k73_9 rfl
theorem k73_11 : cm_at ins_73 11 = some (.astore 7, 2) := by decide +kernel
theorem g73_11 : Go 73 11 [l0, l1, l2, l3, l4, l5, l6, l7, l8, l9, l10, l11, l12, l13, l14, l15, l16, l17, l18] ((2, x) :: st) G M Q ↔ x ≠ -1 ∧ Go 73 13 [l0, l1, l2, l3, l4, l5, l6, some (2, x), l8, l9, l10, l11, l12, l13, l14, l15, l16, l17, l18] st G M Q := go_astore hq73 k73_11 ⟨Nat.le_of_ble_eq_true rfl, rfl, by decide⟩
theorem k73_13 : cm_at ins_73 13 = some (.bipush 40, 2) := by decide +kernel
theorem g73_13 : Go 73 13 ls st G M Q ↔ Go 73 15 ls ((0, 40) :: st) G M Q := go_bipush hq73 k73_13 (by decide)
theorem k73_15 : cm_at ins_73 15 = some (.newarray .int, 2) := by decide +kernel
theorem g73_15 : Go 73 15 ls ((0, x) :: st) G M Q ↔ (0 ≤ x ∧ x ≤ 1000) ∧ Go 73 17 ls ((2, (G.1.length : Int)) :: st) (G.1 ++ [(1, x.toNat)], G.2) (cm_row M (G.1.length : Int) 0) Q := go_newarr hq73 k73_15 rfl
theorem k73_17 : cm_at ins_73 17 = some (.astore 8, 2) := by decide +kernel
theorem g73_17 : Go 73 17 [l0, l1, l2, l3, l4, l5, l6, l7, l8, l9, l10, l11, l12, l13, l14, l15, l16, l17, l18] ((2, x) :: st) G M Q ↔ x ≠ -1 ∧ Go 73 19 [l0, l1, l2, l3, l4, l5, l6, l7, some (2, x), l9, l10, l11, l12, l13, l14, l15, l16, l17, l18] st G M Q := go_astore hq73 k73_17 ⟨Nat.le_of_ble_eq_true rfl, rfl, by decide⟩
theorem k73_19 : cm_at ins_73 19 = some (.bipush 40, 2) := by decide +kernel
theorem g73_19 : Go 73 19 ls st G M Q ↔ Go 73 21 ls ((0, 40) :: st) G M Q := go_bipush hq73 k73_19 (by decide)
theorem k73_21 : cm_at ins_73 21 = some (.newarray .int, 2) := by decide +kernel
theorem g73_21 : Go 73 21 ls ((0, x) :: st) G M Q ↔ (0 ≤ x ∧ x ≤ 1000) ∧ Go 73 23 ls ((2, (G.1.length : Int)) :: st) (G.1 ++ [(1, x.toNat)], G.2) (cm_row M (G.1.length : Int) 0) Q := go_newarr hq73 k73_21 rfl
theorem k73_23 : cm_at ins_73 23 = some (.astore 9, 2) := by decide +kernel
theorem g73_23 : Go 73 23 [l0, l1, l2, l3, l4, l5, l6, l7, l8, l9, l10, l11, l12, l13, l14, l15, l16, l17, l18] ((2, x) :: st) G M Q ↔ x ≠ -1 ∧ Go 73 25 [l0, l1, l2, l3, l4, l5, l6, l7, l8, some (2, x), l10, l11, l12, l13, l14, l15, l16, l17, l18] st G M Q := go_astore hq73 k73_23 ⟨Nat.le_of_ble_eq_true rfl, rfl, by decide⟩
theorem k73_25 : cm_at ins_73 25 = some (.iload 6, 2) := by decide +kernel
theorem g73_25 : Go 73 25 [l0, l1, l2, l3, l4, l5, some (0, x), l7, l8, l9, l10, l11, l12, l13, l14, l15, l16, l17, l18] st G M Q ↔ Go 73 27 [l0, l1, l2, l3, l4, l5, some (0, x), l7, l8, l9, l10, l11, l12, l13, l14, l15, l16, l17, l18] ((0, x) :: st) G M Q := go_iload hq73 k73_25 rfl
theorem k73_27 : cm_at ins_73 27 = some (.ifCond .ne 39, 3) := by decide +kernel
theorem g73_27 : Go 73 27 ls ((0, a) :: st) G M Q ↔ cm_in a ∧ (¬ a = 0 → Go 73 66 ls st G M Q) ∧ (a = 0 → Go 73 30 ls st G M Q) := go_if_ne hq73 k73_27 (by decide)
theorem k73_30 : cm_at ins_73 30 = some (.aload_n 0, 1) := by decide +kernel
theorem g73_30 : Go 73 30 [some (2, x), l1, l2, l3, l4, l5, l6, l7, l8, l9, l10, l11, l12, l13, l14, l15, l16, l17, l18] st G M Q ↔ Go 73 31 [some (2, x), l1, l2, l3, l4, l5, l6, l7, l8, l9, l10, l11, l12, l13, l14, l15, l16, l17, l18] ((2, x) :: st) G M Q := go_aload_n hq73 k73_30 rfl
theorem k73_31 : cm_at ins_73 31 = some (.iconst 0, 1) := by decide +kernel
theorem g73_31 : Go 73 31 ls st G M Q ↔ Go 73 32 ls ((0, 0) :: st) G M Q := go_iconst hq73 k73_31
theorem k73_32 : cm_at ins_73 32 = some (.invokevirtual 63, 3) := by decide +kernel
theorem c73_32 (h8 : cm_sum st ≤ 8) (hk : cm_sh G k = some (0, 5)) (K : Go 56 0 [some (2, k), some (0, y), none, none, none, none, none] [] G M (fun r G' M' => Go 73 35 ls (r.toList ++ st) G' M' Q)) : Go 73 32 ls ((0, y) :: (2, k) :: st) G M Q := go_callV hq73 k73_32 fc7_63 hq56 rfl (as := [(0, y), (2, k)]) rfl rfl (Nat.le_of_ble_eq_true rfl) rfl h8 hk K
theorem k73_35 : cm_at ins_73 35 = some (.bipush (-6), 2) := by decide +kernel
theorem g73_35 : Go 73 35 ls st G M Q ↔ Go 73 37 ls ((0, (-6)) :: st) G M Q := go_bipush hq73 k73_35 (by decide)
theorem k73_37 : cm_at ins_73 37 = some (.if_icmp .ne 27, 3) := by decide +kernel
theorem g73_37 : Go 73 37 ls ((0, b) :: (0, a) :: st) G M Q ↔ (cm_in a ∧ cm_in b) ∧ (¬ a = b → Go 73 64 ls st G M Q) ∧ (a = b → Go 73 40 ls st G M Q) := go_icmp_ne hq73 k73_37 (by decide)
theorem k73_40 : cm_at ins_73 40 = some (.aload_n 0, 1) := by decide +kernel
theorem g73_40 : Go 73 40 [some (2, x), l1, l2, l3, l4, l5, l6, l7, l8, l9, l10, l11, l12, l13, l14, l15, l16, l17, l18] st G M Q ↔ Go 73 41 [some (2, x), l1, l2, l3, l4, l5, l6, l7, l8, l9, l10, l11, l12, l13, l14, l15, l16, l17, l18] ((2, x) :: st) G M Q := go_aload_n hq73 k73_40 rfl
theorem k73_41 : cm_at ins_73 41 = some (.iconst 1, 1) := by decide +kernel
theorem g73_41 : Go 73 41 ls st G M Q ↔ Go 73 42 ls ((0, 1) :: st) G M Q := go_iconst hq73 k73_41
theorem k73_42 : cm_at ins_73 42 = some (.invokevirtual 66, 3) := by decide +kernel
theorem c73_42 (h8 : cm_sum st ≤ 8) (hk : cm_sh G k = some (0, 5)) (K : Go 57 0 [some (2, k), some (0, y), none] [] G M (fun r G' M' => Go 73 45 ls (r.toList ++ st) G' M' Q)) : Go 73 42 ls ((0, y) :: (2, k) :: st) G M Q := go_callV hq73 k73_42 fc7_66 hq57 rfl (as := [(0, y), (2, k)]) rfl rfl (Nat.le_of_ble_eq_true rfl) rfl h8 hk K
theorem k73_45 : cm_at ins_73 45 = some (.bipush 30, 2) := by decide +kernel
theorem g73_45 : Go 73 45 ls st G M Q ↔ Go 73 47 ls ((0, 30) :: st) G M Q := go_bipush hq73 k73_45 (by decide)
theorem k73_47 : cm_at ins_73 47 = some (.if_icmp .ne 17, 3) := by decide +kernel
theorem g73_47 : Go 73 47 ls ((0, b) :: (0, a) :: st) G M Q ↔ (cm_in a ∧ cm_in b) ∧ (¬ a = b → Go 73 64 ls st G M Q) ∧ (a = b → Go 73 50 ls st G M Q) := go_icmp_ne hq73 k73_47 (by decide)
theorem k73_50 : cm_at ins_73 50 = some (.aload_n 0, 1) := by decide +kernel
theorem g73_50 : Go 73 50 [some (2, x), l1, l2, l3, l4, l5, l6, l7, l8, l9, l10, l11, l12, l13, l14, l15, l16, l17, l18] st G M Q ↔ Go 73 51 [some (2, x), l1, l2, l3, l4, l5, l6, l7, l8, l9, l10, l11, l12, l13, l14, l15, l16, l17, l18] ((2, x) :: st) G M Q := go_aload_n hq73 k73_50 rfl
theorem k73_51 : cm_at ins_73 51 = some (.iconst 0, 1) := by decide +kernel
theorem g73_51 : Go 73 51 ls st G M Q ↔ Go 73 52 ls ((0, 0) :: st) G M Q := go_iconst hq73 k73_51
theorem k73_52 : cm_at ins_73 52 = some (.iconst 1, 1) := by decide +kernel
theorem g73_52 : Go 73 52 ls st G M Q ↔ Go 73 53 ls ((0, 1) :: st) G M Q := go_iconst hq73 k73_52
theorem k73_53 : cm_at ins_73 53 = some (.invokevirtual 69, 3) := by decide +kernel
theorem c73_53 (h8 : cm_sum st ≤ 8) (hk : cm_sh G k = some (0, 5)) (K : Go 58 0 [some (2, k), some (0, y), some (0, z)] [] G M (fun r G' M' => Go 73 56 ls (r.toList ++ st) G' M' Q)) : Go 73 53 ls ((0, z) :: (0, y) :: (2, k) :: st) G M Q := go_callV hq73 k73_53 fc7_69 hq58 rfl (as := [(0, z), (0, y), (2, k)]) rfl rfl (Nat.le_of_ble_eq_true rfl) rfl h8 hk K
theorem k73_56 : cm_at ins_73 56 = some (.iconst (-1), 1) := by decide +kernel
theorem g73_56 : Go 73 56 ls st G M Q ↔ Go 73 57 ls ((0, (-1)) :: st) G M Q := go_iconst hq73 k73_56
theorem k73_57 : cm_at ins_73 57 = some (.if_icmp .ne 7, 3) := by decide +kernel
theorem g73_57 : Go 73 57 ls ((0, b) :: (0, a) :: st) G M Q ↔ (cm_in a ∧ cm_in b) ∧ (¬ a = b → Go 73 64 ls st G M Q) ∧ (a = b → Go 73 60 ls st G M Q) := go_icmp_ne hq73 k73_57 (by decide)
theorem k73_60 : cm_at ins_73 60 = some (.iconst 1, 1) := by decide +kernel
theorem g73_60 : Go 73 60 ls st G M Q ↔ Go 73 61 ls ((0, 1) :: st) G M Q := go_iconst hq73 k73_60
theorem k73_61 : cm_at ins_73 61 = some (.goto 4, 3) := by decide +kernel
theorem g73_61 : Go 73 61 ls st G M Q ↔ Go 73 65 ls st G M Q := go_goto hq73 k73_61 (by decide)
theorem k73_64 : cm_at ins_73 64 = some (.iconst 0, 1) := by decide +kernel
theorem g73_64 : Go 73 64 ls st G M Q ↔ Go 73 65 ls ((0, 0) :: st) G M Q := go_iconst hq73 k73_64
theorem k73_65 : cm_at ins_73 65 = some (.ireturn, 1) := by decide +kernel
theorem g73_65 : Go 73 65 ls [(0, v)] G M Q ↔ (v = 0 ∨ v = 1) ∧ Q (some (0, v)) G M := go_zreturn hq73 k73_65 rfl
theorem k73_66 : cm_at ins_73 66 = some (.iload 5, 2) := by decide +kernel
theorem g73_66 : Go 73 66 [l0, l1, l2, l3, l4, some (0, x), l6, l7, l8, l9, l10, l11, l12, l13, l14, l15, l16, l17, l18] st G M Q ↔ Go 73 68 [l0, l1, l2, l3, l4, some (0, x), l6, l7, l8, l9, l10, l11, l12, l13, l14, l15, l16, l17, l18] ((0, x) :: st) G M Q := go_iload hq73 k73_66 rfl
theorem k73_68 : cm_at ins_73 68 = some (.iconst 3, 1) := by decide +kernel
theorem g73_68 : Go 73 68 ls st G M Q ↔ Go 73 69 ls ((0, 3) :: st) G M Q := go_iconst hq73 k73_68
theorem k73_69 : cm_at ins_73 69 = some (.ishr, 1) := by decide +kernel
theorem g73_69 : Go 73 69 ls ((0, b) :: (0, a) :: st) G M Q ↔ Go 73 70 ls ((0, cm_ishr a b) :: st) G M Q := go_ishr hq73 k73_69
theorem k73_70 : cm_at ins_73 70 = some (.iload 6, 2) := by decide +kernel
theorem g73_70 : Go 73 70 [l0, l1, l2, l3, l4, l5, some (0, x), l7, l8, l9, l10, l11, l12, l13, l14, l15, l16, l17, l18] st G M Q ↔ Go 73 72 [l0, l1, l2, l3, l4, l5, some (0, x), l7, l8, l9, l10, l11, l12, l13, l14, l15, l16, l17, l18] ((0, x) :: st) G M Q := go_iload hq73 k73_70 rfl
theorem k73_72 : cm_at ins_73 72 = some (.invokestatic 16, 3) := by decide +kernel
theorem c73_72 (h8 : cm_sum st ≤ 8) (K : Go 65 0 [some (0, x), some (0, y)] [] G M (fun r G' M' => Go 73 75 ls (r.toList ++ st) G' M' Q)) : Go 73 72 ls ((0, y) :: (0, x) :: st) G M Q := go_callS hq73 k73_72 fc7_16 ⟨by decide, by decide⟩ hq65 rfl (as := [(0, y), (0, x)]) rfl rfl (Nat.le_of_ble_eq_true rfl) h8 K
theorem k73_75 : cm_at ins_73 75 = some (.istore 10, 2) := by decide +kernel
theorem g73_75 : Go 73 75 [l0, l1, l2, l3, l4, l5, l6, l7, l8, l9, l10, l11, l12, l13, l14, l15, l16, l17, l18] ((0, x) :: st) G M Q ↔ Go 73 77 [l0, l1, l2, l3, l4, l5, l6, l7, l8, l9, some (0, x), l11, l12, l13, l14, l15, l16, l17, l18] st G M Q := go_istore hq73 k73_75 ⟨Nat.le_of_ble_eq_true rfl, rfl, by decide⟩
theorem k73_77 : cm_at ins_73 77 = some (.iconst 1, 1) := by decide +kernel
theorem g73_77 : Go 73 77 ls st G M Q ↔ Go 73 78 ls ((0, 1) :: st) G M Q := go_iconst hq73 k73_77
theorem k73_78 : cm_at ins_73 78 = some (.iload 5, 2) := by decide +kernel
theorem g73_78 : Go 73 78 [l0, l1, l2, l3, l4, some (0, x), l6, l7, l8, l9, l10, l11, l12, l13, l14, l15, l16, l17, l18] st G M Q ↔ Go 73 80 [l0, l1, l2, l3, l4, some (0, x), l6, l7, l8, l9, l10, l11, l12, l13, l14, l15, l16, l17, l18] ((0, x) :: st) G M Q := go_iload hq73 k73_78 rfl
theorem k73_80 : cm_at ins_73 80 = some (.bipush 9, 2) := by decide +kernel
theorem g73_80 : Go 73 80 ls st G M Q ↔ Go 73 82 ls ((0, 9) :: st) G M Q := go_bipush hq73 k73_80 (by decide)
theorem k73_82 : cm_at ins_73 82 = some (.ishr, 1) := by decide +kernel
theorem g73_82 : Go 73 82 ls ((0, b) :: (0, a) :: st) G M Q ↔ Go 73 83 ls ((0, cm_ishr a b) :: st) G M Q := go_ishr hq73 k73_82
theorem k73_83 : cm_at ins_73 83 = some (.bipush 30, 2) := by decide +kernel
theorem g73_83 : Go 73 83 ls st G M Q ↔ Go 73 85 ls ((0, 30) :: st) G M Q := go_bipush hq73 k73_83 (by decide)
theorem k73_85 : cm_at ins_73 85 = some (.invokestatic 16, 3) := by decide +kernel
theorem c73_85 (h8 : cm_sum st ≤ 8) (K : Go 65 0 [some (0, x), some (0, y)] [] G M (fun r G' M' => Go 73 88 ls (r.toList ++ st) G' M' Q)) : Go 73 85 ls ((0, y) :: (0, x) :: st) G M Q := go_callS hq73 k73_85 fc7_16 ⟨by decide, by decide⟩ hq65 rfl (as := [(0, y), (0, x)]) rfl rfl (Nat.le_of_ble_eq_true rfl) h8 K
theorem k73_88 : cm_at ins_73 88 = some (.iadd, 1) := by decide +kernel
theorem g73_88 : Go 73 88 ls ((0, b) :: (0, a) :: st) G M Q ↔ Go 73 89 ls ((0, a + b) :: st) G M Q := go_iadd hq73 k73_88
theorem k73_89 : cm_at ins_73 89 = some (.istore 11, 2) := by decide +kernel
theorem g73_89 : Go 73 89 [l0, l1, l2, l3, l4, l5, l6, l7, l8, l9, l10, l11, l12, l13, l14, l15, l16, l17, l18] ((0, x) :: st) G M Q ↔ Go 73 91 [l0, l1, l2, l3, l4, l5, l6, l7, l8, l9, l10, some (0, x), l12, l13, l14, l15, l16, l17, l18] st G M Q := go_istore hq73 k73_89 ⟨Nat.le_of_ble_eq_true rfl, rfl, by decide⟩
theorem k73_91 : cm_at ins_73 91 = some (.aload_n 1, 1) := by decide +kernel
theorem g73_91 : Go 73 91 [l0, some (2, x), l2, l3, l4, l5, l6, l7, l8, l9, l10, l11, l12, l13, l14, l15, l16, l17, l18] st G M Q ↔ Go 73 92 [l0, some (2, x), l2, l3, l4, l5, l6, l7, l8, l9, l10, l11, l12, l13, l14, l15, l16, l17, l18] ((2, x) :: st) G M Q := go_aload_n hq73 k73_91 rfl
theorem k73_92 : cm_at ins_73 92 = some (.aload_n 2, 1) := by decide +kernel
theorem g73_92 : Go 73 92 [l0, l1, some (2, x), l3, l4, l5, l6, l7, l8, l9, l10, l11, l12, l13, l14, l15, l16, l17, l18] st G M Q ↔ Go 73 93 [l0, l1, some (2, x), l3, l4, l5, l6, l7, l8, l9, l10, l11, l12, l13, l14, l15, l16, l17, l18] ((2, x) :: st) G M Q := go_aload_n hq73 k73_92 rfl
theorem k73_93 : cm_at ins_73 93 = some (.aload_n 3, 1) := by decide +kernel
theorem g73_93 : Go 73 93 [l0, l1, l2, some (2, x), l4, l5, l6, l7, l8, l9, l10, l11, l12, l13, l14, l15, l16, l17, l18] st G M Q ↔ Go 73 94 [l0, l1, l2, some (2, x), l4, l5, l6, l7, l8, l9, l10, l11, l12, l13, l14, l15, l16, l17, l18] ((2, x) :: st) G M Q := go_aload_n hq73 k73_93 rfl
theorem k73_94 : cm_at ins_73 94 = some (.iload 6, 2) := by decide +kernel
theorem g73_94 : Go 73 94 [l0, l1, l2, l3, l4, l5, some (0, x), l7, l8, l9, l10, l11, l12, l13, l14, l15, l16, l17, l18] st G M Q ↔ Go 73 96 [l0, l1, l2, l3, l4, l5, some (0, x), l7, l8, l9, l10, l11, l12, l13, l14, l15, l16, l17, l18] ((0, x) :: st) G M Q := go_iload hq73 k73_94 rfl
theorem k73_96 : cm_at ins_73 96 = some (.aload_n 0, 1) := by decide +kernel
theorem g73_96 : Go 73 96 [some (2, x), l1, l2, l3, l4, l5, l6, l7, l8, l9, l10, l11, l12, l13, l14, l15, l16, l17, l18] st G M Q ↔ Go 73 97 [some (2, x), l1, l2, l3, l4, l5, l6, l7, l8, l9, l10, l11, l12, l13, l14, l15, l16, l17, l18] ((2, x) :: st) G M Q := go_aload_n hq73 k73_96 rfl
theorem k73_97 : cm_at ins_73 97 = some (.bipush 7, 2) := by decide +kernel
theorem g73_97 : Go 73 97 ls st G M Q ↔ Go 73 99 ls ((0, 7) :: st) G M Q := go_bipush hq73 k73_97 (by decide)
theorem k73_99 : cm_at ins_73 99 = some (.invokevirtual 10, 3) := by decide +kernel
theorem c73_99 (h8 : cm_sum st ≤ 8) (hk : cm_sh G k = some (0, 5)) (K : Go 55 0 [some (2, k), some (0, y)] [] G M (fun r G' M' => Go 73 102 ls (r.toList ++ st) G' M' Q)) : Go 73 99 ls ((0, y) :: (2, k) :: st) G M Q := go_callV hq73 k73_99 fc7_10 hq55 rfl (as := [(0, y), (2, k)]) rfl rfl (Nat.le_of_ble_eq_true rfl) rfl h8 hk K
theorem k73_102 : cm_at ins_73 102 = some (.iload 11, 2) := by decide +kernel
theorem g73_102 : Go 73 102 [l0, l1, l2, l3, l4, l5, l6, l7, l8, l9, l10, some (0, x), l12, l13, l14, l15, l16, l17, l18] st G M Q ↔ Go 73 104 [l0, l1, l2, l3, l4, l5, l6, l7, l8, l9, l10, some (0, x), l12, l13, l14, l15, l16, l17, l18] ((0, x) :: st) G M Q := go_iload hq73 k73_102 rfl
theorem k73_104 : cm_at ins_73 104 = some (.aload 7, 2) := by decide +kernel
theorem g73_104 : Go 73 104 [l0, l1, l2, l3, l4, l5, l6, some (2, x), l8, l9, l10, l11, l12, l13, l14, l15, l16, l17, l18] st G M Q ↔ Go 73 106 [l0, l1, l2, l3, l4, l5, l6, some (2, x), l8, l9, l10, l11, l12, l13, l14, l15, l16, l17, l18] ((2, x) :: st) G M Q := go_aload hq73 k73_104 rfl
theorem k73_106 : cm_at ins_73 106 = some (.aload 8, 2) := by decide +kernel
theorem g73_106 : Go 73 106 [l0, l1, l2, l3, l4, l5, l6, l7, some (2, x), l9, l10, l11, l12, l13, l14, l15, l16, l17, l18] st G M Q ↔ Go 73 108 [l0, l1, l2, l3, l4, l5, l6, l7, some (2, x), l9, l10, l11, l12, l13, l14, l15, l16, l17, l18] ((2, x) :: st) G M Q := go_aload hq73 k73_106 rfl
theorem k73_108 : cm_at ins_73 108 = some (.aload 9, 2) := by decide +kernel
theorem g73_108 : Go 73 108 [l0, l1, l2, l3, l4, l5, l6, l7, l8, some (2, x), l10, l11, l12, l13, l14, l15, l16, l17, l18] st G M Q ↔ Go 73 110 [l0, l1, l2, l3, l4, l5, l6, l7, l8, some (2, x), l10, l11, l12, l13, l14, l15, l16, l17, l18] ((2, x) :: st) G M Q := go_aload hq73 k73_108 rfl
theorem k73_110 : cm_at ins_73 110 = some (.invokestatic 41, 3) := by decide +kernel
theorem c73_110 (h8 : cm_sum st ≤ 8) (K : Go 68 0 [some (2, x), some (2, y), some (2, z), some (0, u), some (0, w), some (0, v), some (2, i), some (2, a), some (2, b), none, none, none, none, none, none] [] G M (fun r G' M' => Go 73 113 ls (r.toList ++ st) G' M' Q)) : Go 73 110 ls ((2, b) :: (2, a) :: (2, i) :: (0, v) :: (0, w) :: (0, u) :: (2, z) :: (2, y) :: (2, x) :: st) G M Q := go_callS hq73 k73_110 fc7_41 ⟨by decide, by decide⟩ hq68 rfl (as := [(2, b), (2, a), (2, i), (0, v), (0, w), (0, u), (2, z), (2, y), (2, x)]) rfl rfl (Nat.le_of_ble_eq_true rfl) h8 K
theorem k73_113 : cm_at ins_73 113 = some (.pop, 1) := by decide +kernel
theorem g73_113 : Go 73 113 ls ((0, x) :: st) G M Q ↔ Go 73 114 ls st G M Q := go_pop0 hq73 k73_113
theorem k73_114 : cm_at ins_73 114 = some (.aload_n 0, 1) := by decide +kernel
theorem g73_114 : Go 73 114 [some (2, x), l1, l2, l3, l4, l5, l6, l7, l8, l9, l10, l11, l12, l13, l14, l15, l16, l17, l18] st G M Q ↔ Go 73 115 [some (2, x), l1, l2, l3, l4, l5, l6, l7, l8, l9, l10, l11, l12, l13, l14, l15, l16, l17, l18] ((2, x) :: st) G M Q := go_aload_n hq73 k73_114 rfl
theorem k73_115 : cm_at ins_73 115 = some (.iload 10, 2) := by decide +kernel
theorem g73_115 : Go 73 115 [l0, l1, l2, l3, l4, l5, l6, l7, l8, l9, some (0, x), l11, l12, l13, l14, l15, l16, l17, l18] st G M Q ↔ Go 73 117 [l0, l1, l2, l3, l4, l5, l6, l7, l8, l9, some (0, x), l11, l12, l13, l14, l15, l16, l17, l18] ((0, x) :: st) G M Q := go_iload hq73 k73_115 rfl
theorem k73_117 : cm_at ins_73 117 = some (.iload 11, 2) := by decide +kernel
theorem g73_117 : Go 73 117 [l0, l1, l2, l3, l4, l5, l6, l7, l8, l9, l10, some (0, x), l12, l13, l14, l15, l16, l17, l18] st G M Q ↔ Go 73 119 [l0, l1, l2, l3, l4, l5, l6, l7, l8, l9, l10, some (0, x), l12, l13, l14, l15, l16, l17, l18] ((0, x) :: st) G M Q := go_iload hq73 k73_117 rfl
theorem k73_119 : cm_at ins_73 119 = some (.invokevirtual 69, 3) := by decide +kernel
theorem c73_119 (h8 : cm_sum st ≤ 8) (hk : cm_sh G k = some (0, 5)) (K : Go 58 0 [some (2, k), some (0, y), some (0, z)] [] G M (fun r G' M' => Go 73 122 ls (r.toList ++ st) G' M' Q)) : Go 73 119 ls ((0, z) :: (0, y) :: (2, k) :: st) G M Q := go_callV hq73 k73_119 fc7_69 hq58 rfl (as := [(0, z), (0, y), (2, k)]) rfl rfl (Nat.le_of_ble_eq_true rfl) rfl h8 hk K
theorem k73_122 : cm_at ins_73 122 = some (.aload 7, 2) := by decide +kernel
theorem g73_122 : Go 73 122 [l0, l1, l2, l3, l4, l5, l6, some (2, x), l8, l9, l10, l11, l12, l13, l14, l15, l16, l17, l18] st G M Q ↔ Go 73 124 [l0, l1, l2, l3, l4, l5, l6, some (2, x), l8, l9, l10, l11, l12, l13, l14, l15, l16, l17, l18] ((2, x) :: st) G M Q := go_aload hq73 k73_122 rfl
theorem k73_124 : cm_at ins_73 124 = some (.iload 10, 2) := by decide +kernel
theorem g73_124 : Go 73 124 [l0, l1, l2, l3, l4, l5, l6, l7, l8, l9, some (0, x), l11, l12, l13, l14, l15, l16, l17, l18] st G M Q ↔ Go 73 126 [l0, l1, l2, l3, l4, l5, l6, l7, l8, l9, some (0, x), l11, l12, l13, l14, l15, l16, l17, l18] ((0, x) :: st) G M Q := go_iload hq73 k73_124 rfl
theorem k73_126 : cm_at ins_73 126 = some (.iaload, 1) := by decide +kernel
theorem g73_126 : Go 73 126 ls ((0, i) :: (2, k) :: st) G M Q ↔ (0 ≤ i ∧ i < cm_al 1 G M k) ∧ Go 73 127 ls ((0, M k i) :: st) G M Q := go_iald hq73 k73_126
theorem k73_127 : cm_at ins_73 127 = some (.if_icmp .eq 5, 3) := by decide +kernel
theorem g73_127 : Go 73 127 ls ((0, b) :: (0, a) :: st) G M Q ↔ (cm_in a ∧ cm_in b) ∧ (a = b → Go 73 132 ls st G M Q) ∧ (¬ a = b → Go 73 130 ls st G M Q) := go_icmp_eq hq73 k73_127 (by decide)
theorem k73_130 : cm_at ins_73 130 = some (.iconst 0, 1) := by decide +kernel
theorem g73_130 : Go 73 130 ls st G M Q ↔ Go 73 131 ls ((0, 0) :: st) G M Q := go_iconst hq73 k73_130
theorem k73_131 : cm_at ins_73 131 = some (.ireturn, 1) := by decide +kernel
theorem g73_131 : Go 73 131 ls [(0, v)] G M Q ↔ (v = 0 ∨ v = 1) ∧ Q (some (0, v)) G M := go_zreturn hq73 k73_131 rfl
theorem k73_132 : cm_at ins_73 132 = some (.bipush 40, 2) := by decide +kernel
theorem g73_132 : Go 73 132 ls st G M Q ↔ Go 73 134 ls ((0, 40) :: st) G M Q := go_bipush hq73 k73_132 (by decide)
theorem k73_134 : cm_at ins_73 134 = some (.newarray .int, 2) := by decide +kernel
theorem g73_134 : Go 73 134 ls ((0, x) :: st) G M Q ↔ (0 ≤ x ∧ x ≤ 1000) ∧ Go 73 136 ls ((2, (G.1.length : Int)) :: st) (G.1 ++ [(1, x.toNat)], G.2) (cm_row M (G.1.length : Int) 0) Q := go_newarr hq73 k73_134 rfl
theorem k73_136 : cm_at ins_73 136 = some (.astore 12, 2) := by decide +kernel
theorem g73_136 : Go 73 136 [l0, l1, l2, l3, l4, l5, l6, l7, l8, l9, l10, l11, l12, l13, l14, l15, l16, l17, l18] ((2, x) :: st) G M Q ↔ x ≠ -1 ∧ Go 73 138 [l0, l1, l2, l3, l4, l5, l6, l7, l8, l9, l10, l11, some (2, x), l13, l14, l15, l16, l17, l18] st G M Q := go_astore hq73 k73_136 ⟨Nat.le_of_ble_eq_true rfl, rfl, by decide⟩
theorem k73_138 : cm_at ins_73 138 = some (.aload_n 0, 1) := by decide +kernel
theorem g73_138 : Go 73 138 [some (2, x), l1, l2, l3, l4, l5, l6, l7, l8, l9, l10, l11, l12, l13, l14, l15, l16, l17, l18] st G M Q ↔ Go 73 139 [some (2, x), l1, l2, l3, l4, l5, l6, l7, l8, l9, l10, l11, l12, l13, l14, l15, l16, l17, l18] ((2, x) :: st) G M Q := go_aload_n hq73 k73_138 rfl
theorem k73_139 : cm_at ins_73 139 = some (.bipush 7, 2) := by decide +kernel
theorem g73_139 : Go 73 139 ls st G M Q ↔ Go 73 141 ls ((0, 7) :: st) G M Q := go_bipush hq73 k73_139 (by decide)
theorem k73_141 : cm_at ins_73 141 = some (.invokevirtual 10, 3) := by decide +kernel
theorem c73_141 (h8 : cm_sum st ≤ 8) (hk : cm_sh G k = some (0, 5)) (K : Go 55 0 [some (2, k), some (0, y)] [] G M (fun r G' M' => Go 73 144 ls (r.toList ++ st) G' M' Q)) : Go 73 141 ls ((0, y) :: (2, k) :: st) G M Q := go_callV hq73 k73_141 fc7_10 hq55 rfl (as := [(0, y), (2, k)]) rfl rfl (Nat.le_of_ble_eq_true rfl) rfl h8 hk K
theorem k73_144 : cm_at ins_73 144 = some (.istore 13, 2) := by decide +kernel
theorem g73_144 : Go 73 144 [l0, l1, l2, l3, l4, l5, l6, l7, l8, l9, l10, l11, l12, l13, l14, l15, l16, l17, l18] ((0, x) :: st) G M Q ↔ Go 73 146 [l0, l1, l2, l3, l4, l5, l6, l7, l8, l9, l10, l11, l12, some (0, x), l14, l15, l16, l17, l18] st G M Q := go_istore hq73 k73_144 ⟨Nat.le_of_ble_eq_true rfl, rfl, by decide⟩
theorem k73_146 : cm_at ins_73 146 = some (.iconst 1, 1) := by decide +kernel
theorem g73_146 : Go 73 146 ls st G M Q ↔ Go 73 147 ls ((0, 1) :: st) G M Q := go_iconst hq73 k73_146
theorem k73_147 : cm_at ins_73 147 = some (.iload 5, 2) := by decide +kernel
theorem g73_147 : Go 73 147 [l0, l1, l2, l3, l4, some (0, x), l6, l7, l8, l9, l10, l11, l12, l13, l14, l15, l16, l17, l18] st G M Q ↔ Go 73 149 [l0, l1, l2, l3, l4, some (0, x), l6, l7, l8, l9, l10, l11, l12, l13, l14, l15, l16, l17, l18] ((0, x) :: st) G M Q := go_iload hq73 k73_147 rfl
theorem k73_149 : cm_at ins_73 149 = some (.bipush 13, 2) := by decide +kernel
theorem g73_149 : Go 73 149 ls st G M Q ↔ Go 73 151 ls ((0, 13) :: st) G M Q := go_bipush hq73 k73_149 (by decide)
theorem k73_151 : cm_at ins_73 151 = some (.ishr, 1) := by decide +kernel
theorem g73_151 : Go 73 151 ls ((0, b) :: (0, a) :: st) G M Q ↔ Go 73 152 ls ((0, cm_ishr a b) :: st) G M Q := go_ishr hq73 k73_151
theorem k73_152 : cm_at ins_73 152 = some (.bipush 20, 2) := by decide +kernel
theorem g73_152 : Go 73 152 ls st G M Q ↔ Go 73 154 ls ((0, 20) :: st) G M Q := go_bipush hq73 k73_152 (by decide)
theorem k73_154 : cm_at ins_73 154 = some (.invokestatic 16, 3) := by decide +kernel
theorem c73_154 (h8 : cm_sum st ≤ 8) (K : Go 65 0 [some (0, x), some (0, y)] [] G M (fun r G' M' => Go 73 157 ls (r.toList ++ st) G' M' Q)) : Go 73 154 ls ((0, y) :: (0, x) :: st) G M Q := go_callS hq73 k73_154 fc7_16 ⟨by decide, by decide⟩ hq65 rfl (as := [(0, y), (0, x)]) rfl rfl (Nat.le_of_ble_eq_true rfl) h8 K
theorem k73_157 : cm_at ins_73 157 = some (.iadd, 1) := by decide +kernel
theorem g73_157 : Go 73 157 ls ((0, b) :: (0, a) :: st) G M Q ↔ Go 73 158 ls ((0, a + b) :: st) G M Q := go_iadd hq73 k73_157
theorem k73_158 : cm_at ins_73 158 = some (.istore 14, 2) := by decide +kernel
theorem g73_158 : Go 73 158 [l0, l1, l2, l3, l4, l5, l6, l7, l8, l9, l10, l11, l12, l13, l14, l15, l16, l17, l18] ((0, x) :: st) G M Q ↔ Go 73 160 [l0, l1, l2, l3, l4, l5, l6, l7, l8, l9, l10, l11, l12, l13, some (0, x), l15, l16, l17, l18] st G M Q := go_istore hq73 k73_158 ⟨Nat.le_of_ble_eq_true rfl, rfl, by decide⟩
theorem k73_160 : cm_at ins_73 160 = some (.bipush (-6), 2) := by decide +kernel
theorem g73_160 : Go 73 160 ls st G M Q ↔ Go 73 162 ls ((0, (-6)) :: st) G M Q := go_bipush hq73 k73_160 (by decide)
theorem k73_162 : cm_at ins_73 162 = some (.istore 15, 2) := by decide +kernel
theorem g73_162 : Go 73 162 [l0, l1, l2, l3, l4, l5, l6, l7, l8, l9, l10, l11, l12, l13, l14, l15, l16, l17, l18] ((0, x) :: st) G M Q ↔ Go 73 164 [l0, l1, l2, l3, l4, l5, l6, l7, l8, l9, l10, l11, l12, l13, l14, some (0, x), l16, l17, l18] st G M Q := go_istore hq73 k73_162 ⟨Nat.le_of_ble_eq_true rfl, rfl, by decide⟩
theorem k73_164 : cm_at ins_73 164 = some (.iconst 1, 1) := by decide +kernel
theorem g73_164 : Go 73 164 ls st G M Q ↔ Go 73 165 ls ((0, 1) :: st) G M Q := go_iconst hq73 k73_164
theorem k73_165 : cm_at ins_73 165 = some (.istore 16, 2) := by decide +kernel
theorem g73_165 : Go 73 165 [l0, l1, l2, l3, l4, l5, l6, l7, l8, l9, l10, l11, l12, l13, l14, l15, l16, l17, l18] ((0, x) :: st) G M Q ↔ Go 73 167 [l0, l1, l2, l3, l4, l5, l6, l7, l8, l9, l10, l11, l12, l13, l14, l15, some (0, x), l17, l18] st G M Q := go_istore hq73 k73_165 ⟨Nat.le_of_ble_eq_true rfl, rfl, by decide⟩
theorem k73_167 : cm_at ins_73 167 = some (.iload 16, 2) := by decide +kernel
theorem g73_167 : Go 73 167 [l0, l1, l2, l3, l4, l5, l6, l7, l8, l9, l10, l11, l12, l13, l14, l15, some (0, x), l17, l18] st G M Q ↔ Go 73 169 [l0, l1, l2, l3, l4, l5, l6, l7, l8, l9, l10, l11, l12, l13, l14, l15, some (0, x), l17, l18] ((0, x) :: st) G M Q := go_iload hq73 k73_167 rfl
theorem k73_169 : cm_at ins_73 169 = some (.bipush 30, 2) := by decide +kernel
theorem g73_169 : Go 73 169 ls st G M Q ↔ Go 73 171 ls ((0, 30) :: st) G M Q := go_bipush hq73 k73_169 (by decide)
theorem k73_171 : cm_at ins_73 171 = some (.if_icmp .gt 92, 3) := by decide +kernel
theorem g73_171 : Go 73 171 ls ((0, b) :: (0, a) :: st) G M Q ↔ (cm_in a ∧ cm_in b) ∧ (b < a → Go 73 263 ls st G M Q) ∧ (¬ b < a → Go 73 174 ls st G M Q) := go_icmp_gt hq73 k73_171 (by decide)
theorem k73_174 : cm_at ins_73 174 = some (.aload_n 1, 1) := by decide +kernel
theorem g73_174 : Go 73 174 [l0, some (2, x), l2, l3, l4, l5, l6, l7, l8, l9, l10, l11, l12, l13, l14, l15, l16, l17, l18] st G M Q ↔ Go 73 175 [l0, some (2, x), l2, l3, l4, l5, l6, l7, l8, l9, l10, l11, l12, l13, l14, l15, l16, l17, l18] ((2, x) :: st) G M Q := go_aload_n hq73 k73_174 rfl
theorem k73_175 : cm_at ins_73 175 = some (.aload_n 2, 1) := by decide +kernel
theorem g73_175 : Go 73 175 [l0, l1, some (2, x), l3, l4, l5, l6, l7, l8, l9, l10, l11, l12, l13, l14, l15, l16, l17, l18] st G M Q ↔ Go 73 176 [l0, l1, some (2, x), l3, l4, l5, l6, l7, l8, l9, l10, l11, l12, l13, l14, l15, l16, l17, l18] ((2, x) :: st) G M Q := go_aload_n hq73 k73_175 rfl
theorem k73_176 : cm_at ins_73 176 = some (.aload 12, 2) := by decide +kernel
theorem g73_176 : Go 73 176 [l0, l1, l2, l3, l4, l5, l6, l7, l8, l9, l10, l11, some (2, x), l13, l14, l15, l16, l17, l18] st G M Q ↔ Go 73 178 [l0, l1, l2, l3, l4, l5, l6, l7, l8, l9, l10, l11, some (2, x), l13, l14, l15, l16, l17, l18] ((2, x) :: st) G M Q := go_aload hq73 k73_176 rfl
theorem k73_178 : cm_at ins_73 178 = some (.iload 6, 2) := by decide +kernel
theorem g73_178 : Go 73 178 [l0, l1, l2, l3, l4, l5, some (0, x), l7, l8, l9, l10, l11, l12, l13, l14, l15, l16, l17, l18] st G M Q ↔ Go 73 180 [l0, l1, l2, l3, l4, l5, some (0, x), l7, l8, l9, l10, l11, l12, l13, l14, l15, l16, l17, l18] ((0, x) :: st) G M Q := go_iload hq73 k73_178 rfl
theorem k73_180 : cm_at ins_73 180 = some (.iload 13, 2) := by decide +kernel
theorem g73_180 : Go 73 180 [l0, l1, l2, l3, l4, l5, l6, l7, l8, l9, l10, l11, l12, some (0, x), l14, l15, l16, l17, l18] st G M Q ↔ Go 73 182 [l0, l1, l2, l3, l4, l5, l6, l7, l8, l9, l10, l11, l12, some (0, x), l14, l15, l16, l17, l18] ((0, x) :: st) G M Q := go_iload hq73 k73_180 rfl
theorem k73_182 : cm_at ins_73 182 = some (.iload 16, 2) := by decide +kernel
theorem g73_182 : Go 73 182 [l0, l1, l2, l3, l4, l5, l6, l7, l8, l9, l10, l11, l12, l13, l14, l15, some (0, x), l17, l18] st G M Q ↔ Go 73 184 [l0, l1, l2, l3, l4, l5, l6, l7, l8, l9, l10, l11, l12, l13, l14, l15, some (0, x), l17, l18] ((0, x) :: st) G M Q := go_iload hq73 k73_182 rfl
theorem k73_184 : cm_at ins_73 184 = some (.aload 7, 2) := by decide +kernel
theorem g73_184 : Go 73 184 [l0, l1, l2, l3, l4, l5, l6, some (2, x), l8, l9, l10, l11, l12, l13, l14, l15, l16, l17, l18] st G M Q ↔ Go 73 186 [l0, l1, l2, l3, l4, l5, l6, some (2, x), l8, l9, l10, l11, l12, l13, l14, l15, l16, l17, l18] ((2, x) :: st) G M Q := go_aload hq73 k73_184 rfl
theorem k73_186 : cm_at ins_73 186 = some (.aload 8, 2) := by decide +kernel
theorem g73_186 : Go 73 186 [l0, l1, l2, l3, l4, l5, l6, l7, some (2, x), l9, l10, l11, l12, l13, l14, l15, l16, l17, l18] st G M Q ↔ Go 73 188 [l0, l1, l2, l3, l4, l5, l6, l7, some (2, x), l9, l10, l11, l12, l13, l14, l15, l16, l17, l18] ((2, x) :: st) G M Q := go_aload hq73 k73_186 rfl
theorem k73_188 : cm_at ins_73 188 = some (.aload 9, 2) := by decide +kernel
theorem g73_188 : Go 73 188 [l0, l1, l2, l3, l4, l5, l6, l7, l8, some (2, x), l10, l11, l12, l13, l14, l15, l16, l17, l18] st G M Q ↔ Go 73 190 [l0, l1, l2, l3, l4, l5, l6, l7, l8, some (2, x), l10, l11, l12, l13, l14, l15, l16, l17, l18] ((2, x) :: st) G M Q := go_aload hq73 k73_188 rfl
theorem k73_190 : cm_at ins_73 190 = some (.invokestatic 41, 3) := by decide +kernel
theorem c73_190 (h8 : cm_sum st ≤ 8) (K : Go 68 0 [some (2, x), some (2, y), some (2, z), some (0, u), some (0, w), some (0, v), some (2, i), some (2, a), some (2, b), none, none, none, none, none, none] [] G M (fun r G' M' => Go 73 193 ls (r.toList ++ st) G' M' Q)) : Go 73 190 ls ((2, b) :: (2, a) :: (2, i) :: (0, v) :: (0, w) :: (0, u) :: (2, z) :: (2, y) :: (2, x) :: st) G M Q := go_callS hq73 k73_190 fc7_41 ⟨by decide, by decide⟩ hq68 rfl (as := [(2, b), (2, a), (2, i), (0, v), (0, w), (0, u), (2, z), (2, y), (2, x)]) rfl rfl (Nat.le_of_ble_eq_true rfl) h8 K
theorem k73_193 : cm_at ins_73 193 = some (.pop, 1) := by decide +kernel
theorem g73_193 : Go 73 193 ls ((0, x) :: st) G M Q ↔ Go 73 194 ls st G M Q := go_pop0 hq73 k73_193
theorem k73_194 : cm_at ins_73 194 = some (.iconst 1, 1) := by decide +kernel
theorem g73_194 : Go 73 194 ls st G M Q ↔ Go 73 195 ls ((0, 1) :: st) G M Q := go_iconst hq73 k73_194
theorem k73_195 : cm_at ins_73 195 = some (.istore 17, 2) := by decide +kernel
theorem g73_195 : Go 73 195 [l0, l1, l2, l3, l4, l5, l6, l7, l8, l9, l10, l11, l12, l13, l14, l15, l16, l17, l18] ((0, x) :: st) G M Q ↔ Go 73 197 [l0, l1, l2, l3, l4, l5, l6, l7, l8, l9, l10, l11, l12, l13, l14, l15, l16, some (0, x), l18] st G M Q := go_istore hq73 k73_195 ⟨Nat.le_of_ble_eq_true rfl, rfl, by decide⟩
theorem k73_197 : cm_at ins_73 197 = some (.iconst 0, 1) := by decide +kernel
theorem g73_197 : Go 73 197 ls st G M Q ↔ Go 73 198 ls ((0, 0) :: st) G M Q := go_iconst hq73 k73_197
theorem k73_198 : cm_at ins_73 198 = some (.istore 18, 2) := by decide +kernel
theorem g73_198 : Go 73 198 [l0, l1, l2, l3, l4, l5, l6, l7, l8, l9, l10, l11, l12, l13, l14, l15, l16, l17, l18] ((0, x) :: st) G M Q ↔ Go 73 200 [l0, l1, l2, l3, l4, l5, l6, l7, l8, l9, l10, l11, l12, l13, l14, l15, l16, l17, some (0, x)] st G M Q := go_istore hq73 k73_198 ⟨Nat.le_of_ble_eq_true rfl, rfl, by decide⟩
theorem k73_200 : cm_at ins_73 200 = some (.iload 18, 2) := by decide +kernel
theorem g73_200 : Go 73 200 [l0, l1, l2, l3, l4, l5, l6, l7, l8, l9, l10, l11, l12, l13, l14, l15, l16, l17, some (0, x)] st G M Q ↔ Go 73 202 [l0, l1, l2, l3, l4, l5, l6, l7, l8, l9, l10, l11, l12, l13, l14, l15, l16, l17, some (0, x)] ((0, x) :: st) G M Q := go_iload hq73 k73_200 rfl
theorem k73_202 : cm_at ins_73 202 = some (.iload 6, 2) := by decide +kernel
theorem g73_202 : Go 73 202 [l0, l1, l2, l3, l4, l5, some (0, x), l7, l8, l9, l10, l11, l12, l13, l14, l15, l16, l17, l18] st G M Q ↔ Go 73 204 [l0, l1, l2, l3, l4, l5, some (0, x), l7, l8, l9, l10, l11, l12, l13, l14, l15, l16, l17, l18] ((0, x) :: st) G M Q := go_iload hq73 k73_202 rfl
theorem k73_204 : cm_at ins_73 204 = some (.if_icmp .ge 39, 3) := by decide +kernel
theorem g73_204 : Go 73 204 ls ((0, b) :: (0, a) :: st) G M Q ↔ (cm_in a ∧ cm_in b) ∧ (¬ a < b → Go 73 243 ls st G M Q) ∧ (a < b → Go 73 207 ls st G M Q) := go_icmp_ge hq73 k73_204 (by decide)
theorem k73_207 : cm_at ins_73 207 = some (.iload 17, 2) := by decide +kernel
theorem g73_207 : Go 73 207 [l0, l1, l2, l3, l4, l5, l6, l7, l8, l9, l10, l11, l12, l13, l14, l15, l16, some (0, x), l18] st G M Q ↔ Go 73 209 [l0, l1, l2, l3, l4, l5, l6, l7, l8, l9, l10, l11, l12, l13, l14, l15, l16, some (0, x), l18] ((0, x) :: st) G M Q := go_iload hq73 k73_207 rfl
theorem k73_209 : cm_at ins_73 209 = some (.ifCond .eq 25, 3) := by decide +kernel
theorem g73_209 : Go 73 209 ls ((0, a) :: st) G M Q ↔ cm_in a ∧ (a = 0 → Go 73 234 ls st G M Q) ∧ (¬ a = 0 → Go 73 212 ls st G M Q) := go_if_eq hq73 k73_209 (by decide)
theorem k73_212 : cm_at ins_73 212 = some (.aload 4, 2) := by decide +kernel
theorem g73_212 : Go 73 212 [l0, l1, l2, l3, some (2, x), l5, l6, l7, l8, l9, l10, l11, l12, l13, l14, l15, l16, l17, l18] st G M Q ↔ Go 73 214 [l0, l1, l2, l3, some (2, x), l5, l6, l7, l8, l9, l10, l11, l12, l13, l14, l15, l16, l17, l18] ((2, x) :: st) G M Q := go_aload hq73 k73_212 rfl
theorem k73_214 : cm_at ins_73 214 = some (.iload 18, 2) := by decide +kernel
theorem g73_214 : Go 73 214 [l0, l1, l2, l3, l4, l5, l6, l7, l8, l9, l10, l11, l12, l13, l14, l15, l16, l17, some (0, x)] st G M Q ↔ Go 73 216 [l0, l1, l2, l3, l4, l5, l6, l7, l8, l9, l10, l11, l12, l13, l14, l15, l16, l17, some (0, x)] ((0, x) :: st) G M Q := go_iload hq73 k73_214 rfl
theorem k73_216 : cm_at ins_73 216 = some (.iaload, 1) := by decide +kernel
theorem g73_216 : Go 73 216 ls ((0, i) :: (2, k) :: st) G M Q ↔ (0 ≤ i ∧ i < cm_al 1 G M k) ∧ Go 73 217 ls ((0, M k i) :: st) G M Q := go_iald hq73 k73_216
theorem k73_217 : cm_at ins_73 217 = some (.ifCond .lt 13, 3) := by decide +kernel
theorem g73_217 : Go 73 217 ls ((0, a) :: st) G M Q ↔ cm_in a ∧ (a < 0 → Go 73 230 ls st G M Q) ∧ (¬ a < 0 → Go 73 220 ls st G M Q) := go_if_lt hq73 k73_217 (by decide)
theorem k73_220 : cm_at ins_73 220 = some (.aload 7, 2) := by decide +kernel
theorem g73_220 : Go 73 220 [l0, l1, l2, l3, l4, l5, l6, some (2, x), l8, l9, l10, l11, l12, l13, l14, l15, l16, l17, l18] st G M Q ↔ Go 73 222 [l0, l1, l2, l3, l4, l5, l6, some (2, x), l8, l9, l10, l11, l12, l13, l14, l15, l16, l17, l18] ((2, x) :: st) G M Q := go_aload hq73 k73_220 rfl
theorem k73_222 : cm_at ins_73 222 = some (.iload 18, 2) := by decide +kernel
theorem g73_222 : Go 73 222 [l0, l1, l2, l3, l4, l5, l6, l7, l8, l9, l10, l11, l12, l13, l14, l15, l16, l17, some (0, x)] st G M Q ↔ Go 73 224 [l0, l1, l2, l3, l4, l5, l6, l7, l8, l9, l10, l11, l12, l13, l14, l15, l16, l17, some (0, x)] ((0, x) :: st) G M Q := go_iload hq73 k73_222 rfl
theorem k73_224 : cm_at ins_73 224 = some (.iaload, 1) := by decide +kernel
theorem g73_224 : Go 73 224 ls ((0, i) :: (2, k) :: st) G M Q ↔ (0 ≤ i ∧ i < cm_al 1 G M k) ∧ Go 73 225 ls ((0, M k i) :: st) G M Q := go_iald hq73 k73_224
theorem k73_225 : cm_at ins_73 225 = some (.iload 14, 2) := by decide +kernel
theorem g73_225 : Go 73 225 [l0, l1, l2, l3, l4, l5, l6, l7, l8, l9, l10, l11, l12, l13, some (0, x), l15, l16, l17, l18] st G M Q ↔ Go 73 227 [l0, l1, l2, l3, l4, l5, l6, l7, l8, l9, l10, l11, l12, l13, some (0, x), l15, l16, l17, l18] ((0, x) :: st) G M Q := go_iload hq73 k73_225 rfl
theorem k73_227 : cm_at ins_73 227 = some (.if_icmp .lt 7, 3) := by decide +kernel
theorem g73_227 : Go 73 227 ls ((0, b) :: (0, a) :: st) G M Q ↔ (cm_in a ∧ cm_in b) ∧ (a < b → Go 73 234 ls st G M Q) ∧ (¬ a < b → Go 73 230 ls st G M Q) := go_icmp_lt hq73 k73_227 (by decide)
theorem k73_230 : cm_at ins_73 230 = some (.iconst 1, 1) := by decide +kernel
theorem g73_230 : Go 73 230 ls st G M Q ↔ Go 73 231 ls ((0, 1) :: st) G M Q := go_iconst hq73 k73_230
theorem k73_231 : cm_at ins_73 231 = some (.goto 4, 3) := by decide +kernel
theorem g73_231 : Go 73 231 ls st G M Q ↔ Go 73 235 ls st G M Q := go_goto hq73 k73_231 (by decide)
theorem k73_234 : cm_at ins_73 234 = some (.iconst 0, 1) := by decide +kernel
theorem g73_234 : Go 73 234 ls st G M Q ↔ Go 73 235 ls ((0, 0) :: st) G M Q := go_iconst hq73 k73_234
theorem k73_235 : cm_at ins_73 235 = some (.istore 17, 2) := by decide +kernel
theorem g73_235 : Go 73 235 [l0, l1, l2, l3, l4, l5, l6, l7, l8, l9, l10, l11, l12, l13, l14, l15, l16, l17, l18] ((0, x) :: st) G M Q ↔ Go 73 237 [l0, l1, l2, l3, l4, l5, l6, l7, l8, l9, l10, l11, l12, l13, l14, l15, l16, some (0, x), l18] st G M Q := go_istore hq73 k73_235 ⟨Nat.le_of_ble_eq_true rfl, rfl, by decide⟩
theorem k73_237 : cm_at ins_73 237 = some (.iinc 18 1, 3) := by decide +kernel
theorem g73_237 : Go 73 237 [l0, l1, l2, l3, l4, l5, l6, l7, l8, l9, l10, l11, l12, l13, l14, l15, l16, l17, some (0, x)] st G M Q ↔ Go 73 240 [l0, l1, l2, l3, l4, l5, l6, l7, l8, l9, l10, l11, l12, l13, l14, l15, l16, l17, some (0, x + 1)] st G M Q := go_iinc hq73 k73_237 rfl ⟨rfl, by decide⟩
theorem k73_240 : cm_at ins_73 240 = some (.goto (-40), 3) := by decide +kernel
theorem g73_240 : Go 73 240 ls st G M Q ↔ Go 73 200 ls st G M Q := go_goto hq73 k73_240 (by decide)
theorem k73_243 : cm_at ins_73 243 = some (.iload 17, 2) := by decide +kernel
theorem g73_243 : Go 73 243 [l0, l1, l2, l3, l4, l5, l6, l7, l8, l9, l10, l11, l12, l13, l14, l15, l16, some (0, x), l18] st G M Q ↔ Go 73 245 [l0, l1, l2, l3, l4, l5, l6, l7, l8, l9, l10, l11, l12, l13, l14, l15, l16, some (0, x), l18] ((0, x) :: st) G M Q := go_iload hq73 k73_243 rfl
theorem k73_245 : cm_at ins_73 245 = some (.ifCond .eq 8, 3) := by decide +kernel
theorem g73_245 : Go 73 245 ls ((0, a) :: st) G M Q ↔ cm_in a ∧ (a = 0 → Go 73 253 ls st G M Q) ∧ (¬ a = 0 → Go 73 248 ls st G M Q) := go_if_eq hq73 k73_245 (by decide)
theorem k73_248 : cm_at ins_73 248 = some (.iload 16, 2) := by decide +kernel
theorem g73_248 : Go 73 248 [l0, l1, l2, l3, l4, l5, l6, l7, l8, l9, l10, l11, l12, l13, l14, l15, some (0, x), l17, l18] st G M Q ↔ Go 73 250 [l0, l1, l2, l3, l4, l5, l6, l7, l8, l9, l10, l11, l12, l13, l14, l15, some (0, x), l17, l18] ((0, x) :: st) G M Q := go_iload hq73 k73_248 rfl
theorem k73_250 : cm_at ins_73 250 = some (.goto 5, 3) := by decide +kernel
theorem g73_250 : Go 73 250 ls st G M Q ↔ Go 73 255 ls st G M Q := go_goto hq73 k73_250 (by decide)
theorem k73_253 : cm_at ins_73 253 = some (.iload 15, 2) := by decide +kernel
theorem g73_253 : Go 73 253 [l0, l1, l2, l3, l4, l5, l6, l7, l8, l9, l10, l11, l12, l13, l14, some (0, x), l16, l17, l18] st G M Q ↔ Go 73 255 [l0, l1, l2, l3, l4, l5, l6, l7, l8, l9, l10, l11, l12, l13, l14, some (0, x), l16, l17, l18] ((0, x) :: st) G M Q := go_iload hq73 k73_253 rfl
theorem k73_255 : cm_at ins_73 255 = some (.istore 15, 2) := by decide +kernel
theorem g73_255 : Go 73 255 [l0, l1, l2, l3, l4, l5, l6, l7, l8, l9, l10, l11, l12, l13, l14, l15, l16, l17, l18] ((0, x) :: st) G M Q ↔ Go 73 257 [l0, l1, l2, l3, l4, l5, l6, l7, l8, l9, l10, l11, l12, l13, l14, some (0, x), l16, l17, l18] st G M Q := go_istore hq73 k73_255 ⟨Nat.le_of_ble_eq_true rfl, rfl, by decide⟩
theorem k73_257 : cm_at ins_73 257 = some (.iinc 16 1, 3) := by decide +kernel
theorem g73_257 : Go 73 257 [l0, l1, l2, l3, l4, l5, l6, l7, l8, l9, l10, l11, l12, l13, l14, l15, some (0, x), l17, l18] st G M Q ↔ Go 73 260 [l0, l1, l2, l3, l4, l5, l6, l7, l8, l9, l10, l11, l12, l13, l14, l15, some (0, x + 1), l17, l18] st G M Q := go_iinc hq73 k73_257 rfl ⟨rfl, by decide⟩
theorem k73_260 : cm_at ins_73 260 = some (.goto (-93), 3) := by decide +kernel
theorem g73_260 : Go 73 260 ls st G M Q ↔ Go 73 167 ls st G M Q := go_goto hq73 k73_260 (by decide)
theorem k73_263 : cm_at ins_73 263 = some (.aload_n 0, 1) := by decide +kernel
theorem g73_263 : Go 73 263 [some (2, x), l1, l2, l3, l4, l5, l6, l7, l8, l9, l10, l11, l12, l13, l14, l15, l16, l17, l18] st G M Q ↔ Go 73 264 [some (2, x), l1, l2, l3, l4, l5, l6, l7, l8, l9, l10, l11, l12, l13, l14, l15, l16, l17, l18] ((2, x) :: st) G M Q := go_aload_n hq73 k73_263 rfl
theorem k73_264 : cm_at ins_73 264 = some (.iload 14, 2) := by decide +kernel
theorem g73_264 : Go 73 264 [l0, l1, l2, l3, l4, l5, l6, l7, l8, l9, l10, l11, l12, l13, some (0, x), l15, l16, l17, l18] st G M Q ↔ Go 73 266 [l0, l1, l2, l3, l4, l5, l6, l7, l8, l9, l10, l11, l12, l13, some (0, x), l15, l16, l17, l18] ((0, x) :: st) G M Q := go_iload hq73 k73_264 rfl
theorem k73_266 : cm_at ins_73 266 = some (.invokevirtual 66, 3) := by decide +kernel
theorem c73_266 (h8 : cm_sum st ≤ 8) (hk : cm_sh G k = some (0, 5)) (K : Go 57 0 [some (2, k), some (0, y), none] [] G M (fun r G' M' => Go 73 269 ls (r.toList ++ st) G' M' Q)) : Go 73 266 ls ((0, y) :: (2, k) :: st) G M Q := go_callV hq73 k73_266 fc7_66 hq57 rfl (as := [(0, y), (2, k)]) rfl rfl (Nat.le_of_ble_eq_true rfl) rfl h8 hk K
theorem k73_269 : cm_at ins_73 269 = some (.iload 15, 2) := by decide +kernel
theorem g73_269 : Go 73 269 [l0, l1, l2, l3, l4, l5, l6, l7, l8, l9, l10, l11, l12, l13, l14, some (0, x), l16, l17, l18] st G M Q ↔ Go 73 271 [l0, l1, l2, l3, l4, l5, l6, l7, l8, l9, l10, l11, l12, l13, l14, some (0, x), l16, l17, l18] ((0, x) :: st) G M Q := go_iload hq73 k73_269 rfl
theorem k73_271 : cm_at ins_73 271 = some (.if_icmp .ne 7, 3) := by decide +kernel
theorem g73_271 : Go 73 271 ls ((0, b) :: (0, a) :: st) G M Q ↔ (cm_in a ∧ cm_in b) ∧ (¬ a = b → Go 73 278 ls st G M Q) ∧ (a = b → Go 73 274 ls st G M Q) := go_icmp_ne hq73 k73_271 (by decide)
theorem k73_274 : cm_at ins_73 274 = some (.iconst 1, 1) := by decide +kernel
theorem g73_274 : Go 73 274 ls st G M Q ↔ Go 73 275 ls ((0, 1) :: st) G M Q := go_iconst hq73 k73_274
theorem k73_275 : cm_at ins_73 275 = some (.goto 4, 3) := by decide +kernel
theorem g73_275 : Go 73 275 ls st G M Q ↔ Go 73 279 ls st G M Q := go_goto hq73 k73_275 (by decide)
theorem k73_278 : cm_at ins_73 278 = some (.iconst 0, 1) := by decide +kernel
theorem g73_278 : Go 73 278 ls st G M Q ↔ Go 73 279 ls ((0, 0) :: st) G M Q := go_iconst hq73 k73_278
theorem k73_279 : cm_at ins_73 279 = some (.ireturn, 1) := by decide +kernel
theorem g73_279 : Go 73 279 ls [(0, v)] G M Q ↔ (v = 0 ∨ v = 1) ∧ Q (some (0, v)) G M := go_zreturn hq73 k73_279 rfl
theorem k74_0 : cm_at ins_74 0 = some (.new 11, 3) := by decide +kernel
theorem g74_0 : Go 74 0 ls st G M Q ↔ Go 74 3 ls ((2, (G.1.length : Int)) :: st) (G.1 ++ [(0, 5)], cm_row G.2 (G.1.length : Int) (-1)) (cm_row M (G.1.length : Int) 0) Q := go_new hq74 k74_0 (by decide +kernel)
theorem k74_3 : cm_at ins_74 3 = some (.dup, 1) := by decide +kernel
theorem g74_3b : Go 74 3 ls ((0, x) :: st) G M Q ↔ Go 74 4 ls ((0, x) :: (0, x) :: st) G M Q := go_dup0 hq74 k74_3
theorem g74_3 : Go 74 3 ls ((2, x) :: st) G M Q ↔ Go 74 4 ls ((2, x) :: (2, x) :: st) G M Q := go_dup2 hq74 k74_3
theorem k74_4 : cm_at ins_74 4 = some (.invokespecial 72, 3) := by decide +kernel
theorem c74_4 (h8 : cm_sum st ≤ 8) (hk : cm_sh G k = some (0, 5)) (K : Go 45 0 [some (2, k)] [] G M (fun r G' M' => Go 74 7 ls (r.toList ++ st) G' M' Q)) : Go 74 4 ls ((2, k) :: st) G M Q := go_callI hq74 k74_4 fc7_72 (by decide) hq45 rfl (as := [(2, k)]) rfl rfl (Nat.le_of_ble_eq_true rfl) rfl h8 hk K
theorem k74_7 : cm_at ins_74 7 = some (.astore_n 1, 1) := by decide +kernel
theorem g74_7 : Go 74 7 [l0, l1, l2, l3, l4, l5, l6, l7, l8, l9, l10, l11, l12, l13] ((2, x) :: st) G M Q ↔ x ≠ -1 ∧ Go 74 8 [l0, some (2, x), l2, l3, l4, l5, l6, l7, l8, l9, l10, l11, l12, l13] st G M Q := go_astore_n hq74 k74_7 ⟨Nat.le_of_ble_eq_true rfl, rfl, by decide⟩
theorem k74_8 : cm_at ins_74 8 = some (.aload_n 0, 1) := by decide +kernel
theorem g74_8 : Go 74 8 [some (2, x), l1, l2, l3, l4, l5, l6, l7, l8, l9, l10, l11, l12, l13] st G M Q ↔ Go 74 9 [some (2, x), l1, l2, l3, l4, l5, l6, l7, l8, l9, l10, l11, l12, l13] ((2, x) :: st) G M Q := go_aload_n hq74 k74_8 rfl
theorem k74_9 : cm_at ins_74 9 = some (.iconst 0, 1) := by decide +kernel
theorem g74_9 : Go 74 9 ls st G M Q ↔ Go 74 10 ls ((0, 0) :: st) G M Q := go_iconst hq74 k74_9
theorem k74_10 : cm_at ins_74 10 = some (.invokestatic 73, 3) := by decide +kernel
theorem c74_10 (h8 : cm_sum st ≤ 8) (K : Go 64 0 [some (2, x), some (0, y)] [] G M (fun r G' M' => Go 74 13 ls (r.toList ++ st) G' M' Q)) : Go 74 10 ls ((0, y) :: (2, x) :: st) G M Q := go_callS hq74 k74_10 fc7_73 ⟨by decide, by decide⟩ hq64 rfl (as := [(0, y), (2, x)]) rfl rfl (Nat.le_of_ble_eq_true rfl) h8 K
theorem k74_13 : cm_at ins_74 13 = some (.istore_n 2, 1) := by decide +kernel
theorem g74_13 : Go 74 13 [l0, l1, l2, l3, l4, l5, l6, l7, l8, l9, l10, l11, l12, l13] ((0, x) :: st) G M Q ↔ Go 74 14 [l0, l1, some (0, x), l3, l4, l5, l6, l7, l8, l9, l10, l11, l12, l13] st G M Q := go_istore_n hq74 k74_13 ⟨Nat.le_of_ble_eq_true rfl, rfl, by decide⟩
theorem k74_14 : cm_at ins_74 14 = some (.aload_n 1, 1) := by decide +kernel
theorem g74_14 : Go 74 14 [l0, some (2, x), l2, l3, l4, l5, l6, l7, l8, l9, l10, l11, l12, l13] st G M Q ↔ Go 74 15 [l0, some (2, x), l2, l3, l4, l5, l6, l7, l8, l9, l10, l11, l12, l13] ((2, x) :: st) G M Q := go_aload_n hq74 k74_14 rfl
theorem k74_15 : cm_at ins_74 15 = some (.iload_n 2, 1) := by decide +kernel
theorem g74_15 : Go 74 15 [l0, l1, some (0, x), l3, l4, l5, l6, l7, l8, l9, l10, l11, l12, l13] st G M Q ↔ Go 74 16 [l0, l1, some (0, x), l3, l4, l5, l6, l7, l8, l9, l10, l11, l12, l13] ((0, x) :: st) G M Q := go_iload_n hq74 k74_15 rfl
theorem k74_16 : cm_at ins_74 16 = some (.invokestatic 77, 3) := by decide +kernel
theorem c74_16 (h8 : cm_sum st ≤ 8) (K : Go 70 0 [some (2, x), some (0, y), none, none, none, none, none, none, none, none, none, none, none, none, none, none] [] G M (fun r G' M' => Go 74 19 ls (r.toList ++ st) G' M' Q)) : Go 74 16 ls ((0, y) :: (2, x) :: st) G M Q := go_callS hq74 k74_16 fc7_77 ⟨by decide, by decide⟩ hq70 rfl (as := [(0, y), (2, x)]) rfl rfl (Nat.le_of_ble_eq_true rfl) h8 K
theorem k74_19 : cm_at ins_74 19 = some (.ifCond .eq 11, 3) := by decide +kernel
theorem g74_19 : Go 74 19 ls ((0, a) :: st) G M Q ↔ cm_in a ∧ (a = 0 → Go 74 30 ls st G M Q) ∧ (¬ a = 0 → Go 74 22 ls st G M Q) := go_if_eq hq74 k74_19 (by decide)
theorem k74_22 : cm_at ins_74 22 = some (.aload_n 1, 1) := by decide +kernel
theorem g74_22 : Go 74 22 [l0, some (2, x), l2, l3, l4, l5, l6, l7, l8, l9, l10, l11, l12, l13] st G M Q ↔ Go 74 23 [l0, some (2, x), l2, l3, l4, l5, l6, l7, l8, l9, l10, l11, l12, l13] ((2, x) :: st) G M Q := go_aload_n hq74 k74_22 rfl
theorem k74_23 : cm_at ins_74 23 = some (.iload_n 2, 1) := by decide +kernel
theorem g74_23 : Go 74 23 [l0, l1, some (0, x), l3, l4, l5, l6, l7, l8, l9, l10, l11, l12, l13] st G M Q ↔ Go 74 24 [l0, l1, some (0, x), l3, l4, l5, l6, l7, l8, l9, l10, l11, l12, l13] ((0, x) :: st) G M Q := go_iload_n hq74 k74_23 rfl
theorem k74_24 : cm_at ins_74 24 = some (.invokestatic 81, 3) := by decide +kernel
theorem c74_24 (h8 : cm_sum st ≤ 8) (K : Go 67 0 [some (2, x), some (0, y), none, none, none] [] G M (fun r G' M' => Go 74 27 ls (r.toList ++ st) G' M' Q)) : Go 74 24 ls ((0, y) :: (2, x) :: st) G M Q := go_callS hq74 k74_24 fc7_81 ⟨by decide, by decide⟩ hq67 rfl (as := [(0, y), (2, x)]) rfl rfl (Nat.le_of_ble_eq_true rfl) h8 K
theorem k74_27 : cm_at ins_74 27 = some (.ifCond .ne 5, 3) := by decide +kernel
theorem g74_27 : Go 74 27 ls ((0, a) :: st) G M Q ↔ cm_in a ∧ (¬ a = 0 → Go 74 32 ls st G M Q) ∧ (a = 0 → Go 74 30 ls st G M Q) := go_if_ne hq74 k74_27 (by decide)
theorem k74_30 : cm_at ins_74 30 = some (.iconst 0, 1) := by decide +kernel
theorem g74_30 : Go 74 30 ls st G M Q ↔ Go 74 31 ls ((0, 0) :: st) G M Q := go_iconst hq74 k74_30
theorem k74_31 : cm_at ins_74 31 = some (.ireturn, 1) := by decide +kernel
theorem g74_31 : Go 74 31 ls [(0, v)] G M Q ↔ (v = 0 ∨ v = 1) ∧ Q (some (0, v)) G M := go_zreturn hq74 k74_31 rfl
theorem k74_32 : cm_at ins_74 32 = some (.iload_n 2, 1) := by decide +kernel
theorem g74_32 : Go 74 32 [l0, l1, some (0, x), l3, l4, l5, l6, l7, l8, l9, l10, l11, l12, l13] st G M Q ↔ Go 74 33 [l0, l1, some (0, x), l3, l4, l5, l6, l7, l8, l9, l10, l11, l12, l13] ((0, x) :: st) G M Q := go_iload_n hq74 k74_32 rfl
theorem k74_33 : cm_at ins_74 33 = some (.bipush 13, 2) := by decide +kernel
theorem g74_33 : Go 74 33 ls st G M Q ↔ Go 74 35 ls ((0, 13) :: st) G M Q := go_bipush hq74 k74_33 (by decide)
theorem k74_35 : cm_at ins_74 35 = some (.ishr, 1) := by decide +kernel
theorem g74_35 : Go 74 35 ls ((0, b) :: (0, a) :: st) G M Q ↔ Go 74 36 ls ((0, cm_ishr a b) :: st) G M Q := go_ishr hq74 k74_35
theorem k74_36 : cm_at ins_74 36 = some (.bipush 41, 2) := by decide +kernel
theorem g74_36 : Go 74 36 ls st G M Q ↔ Go 74 38 ls ((0, 41) :: st) G M Q := go_bipush hq74 k74_36 (by decide)
theorem k74_38 : cm_at ins_74 38 = some (.invokestatic 16, 3) := by decide +kernel
theorem c74_38 (h8 : cm_sum st ≤ 8) (K : Go 65 0 [some (0, x), some (0, y)] [] G M (fun r G' M' => Go 74 41 ls (r.toList ++ st) G' M' Q)) : Go 74 38 ls ((0, y) :: (0, x) :: st) G M Q := go_callS hq74 k74_38 fc7_16 ⟨by decide, by decide⟩ hq65 rfl (as := [(0, y), (0, x)]) rfl rfl (Nat.le_of_ble_eq_true rfl) h8 K
theorem k74_41 : cm_at ins_74 41 = some (.istore_n 3, 1) := by decide +kernel
theorem g74_41 : Go 74 41 [l0, l1, l2, l3, l4, l5, l6, l7, l8, l9, l10, l11, l12, l13] ((0, x) :: st) G M Q ↔ Go 74 42 [l0, l1, l2, some (0, x), l4, l5, l6, l7, l8, l9, l10, l11, l12, l13] st G M Q := go_istore_n hq74 k74_41 ⟨Nat.le_of_ble_eq_true rfl, rfl, by decide⟩
theorem k74_42 : cm_at ins_74 42 = some (.iconst 0, 1) := by decide +kernel
theorem g74_42 : Go 74 42 ls st G M Q ↔ Go 74 43 ls ((0, 0) :: st) G M Q := go_iconst hq74 k74_42
theorem k74_43 : cm_at ins_74 43 = some (.istore 4, 2) := by decide +kernel
theorem g74_43 : Go 74 43 [l0, l1, l2, l3, l4, l5, l6, l7, l8, l9, l10, l11, l12, l13] ((0, x) :: st) G M Q ↔ Go 74 45 [l0, l1, l2, l3, some (0, x), l5, l6, l7, l8, l9, l10, l11, l12, l13] st G M Q := go_istore hq74 k74_43 ⟨Nat.le_of_ble_eq_true rfl, rfl, by decide⟩
theorem k74_45 : cm_at ins_74 45 = some (.iload 4, 2) := by decide +kernel
theorem g74_45 : Go 74 45 [l0, l1, l2, l3, some (0, x), l5, l6, l7, l8, l9, l10, l11, l12, l13] st G M Q ↔ Go 74 47 [l0, l1, l2, l3, some (0, x), l5, l6, l7, l8, l9, l10, l11, l12, l13] ((0, x) :: st) G M Q := go_iload hq74 k74_45 rfl
theorem k74_47 : cm_at ins_74 47 = some (.iload_n 3, 1) := by decide +kernel
theorem g74_47 : Go 74 47 [l0, l1, l2, some (0, x), l4, l5, l6, l7, l8, l9, l10, l11, l12, l13] st G M Q ↔ Go 74 48 [l0, l1, l2, some (0, x), l4, l5, l6, l7, l8, l9, l10, l11, l12, l13] ((0, x) :: st) G M Q := go_iload_n hq74 k74_47 rfl
theorem k74_48 : cm_at ins_74 48 = some (.if_icmp .ge 26, 3) := by decide +kernel
theorem g74_48 : Go 74 48 ls ((0, b) :: (0, a) :: st) G M Q ↔ (cm_in a ∧ cm_in b) ∧ (¬ a < b → Go 74 74 ls st G M Q) ∧ (a < b → Go 74 51 ls st G M Q) := go_icmp_ge hq74 k74_48 (by decide)
theorem k74_51 : cm_at ins_74 51 = some (.aload_n 1, 1) := by decide +kernel
theorem g74_51 : Go 74 51 [l0, some (2, x), l2, l3, l4, l5, l6, l7, l8, l9, l10, l11, l12, l13] st G M Q ↔ Go 74 52 [l0, some (2, x), l2, l3, l4, l5, l6, l7, l8, l9, l10, l11, l12, l13] ((2, x) :: st) G M Q := go_aload_n hq74 k74_51 rfl
theorem k74_52 : cm_at ins_74 52 = some (.aload_n 0, 1) := by decide +kernel
theorem g74_52 : Go 74 52 [some (2, x), l1, l2, l3, l4, l5, l6, l7, l8, l9, l10, l11, l12, l13] st G M Q ↔ Go 74 53 [some (2, x), l1, l2, l3, l4, l5, l6, l7, l8, l9, l10, l11, l12, l13] ((2, x) :: st) G M Q := go_aload_n hq74 k74_52 rfl
theorem k74_53 : cm_at ins_74 53 = some (.iconst 1, 1) := by decide +kernel
theorem g74_53 : Go 74 53 ls st G M Q ↔ Go 74 54 ls ((0, 1) :: st) G M Q := go_iconst hq74 k74_53
theorem k74_54 : cm_at ins_74 54 = some (.iload 4, 2) := by decide +kernel
theorem g74_54 : Go 74 54 [l0, l1, l2, l3, some (0, x), l5, l6, l7, l8, l9, l10, l11, l12, l13] st G M Q ↔ Go 74 56 [l0, l1, l2, l3, some (0, x), l5, l6, l7, l8, l9, l10, l11, l12, l13] ((0, x) :: st) G M Q := go_iload hq74 k74_54 rfl
theorem k74_56 : cm_at ins_74 56 = some (.iadd, 1) := by decide +kernel
theorem g74_56 : Go 74 56 ls ((0, b) :: (0, a) :: st) G M Q ↔ Go 74 57 ls ((0, a + b) :: st) G M Q := go_iadd hq74 k74_56
theorem k74_57 : cm_at ins_74 57 = some (.invokestatic 73, 3) := by decide +kernel
theorem c74_57 (h8 : cm_sum st ≤ 8) (K : Go 64 0 [some (2, x), some (0, y)] [] G M (fun r G' M' => Go 74 60 ls (r.toList ++ st) G' M' Q)) : Go 74 57 ls ((0, y) :: (2, x) :: st) G M Q := go_callS hq74 k74_57 fc7_73 ⟨by decide, by decide⟩ hq64 rfl (as := [(0, y), (2, x)]) rfl rfl (Nat.le_of_ble_eq_true rfl) h8 K
theorem k74_60 : cm_at ins_74 60 = some (.invokestatic 84, 3) := by decide +kernel
theorem c74_60 (h8 : cm_sum st ≤ 8) (K : Go 66 0 [some (2, x), some (0, y), none, none, none, none, none] [] G M (fun r G' M' => Go 74 63 ls (r.toList ++ st) G' M' Q)) : Go 74 60 ls ((0, y) :: (2, x) :: st) G M Q := go_callS hq74 k74_60 fc7_84 ⟨by decide, by decide⟩ hq66 rfl (as := [(0, y), (2, x)]) rfl rfl (Nat.le_of_ble_eq_true rfl) h8 K
theorem k74_63 : cm_at ins_74 63 = some (.ifCond .ne 5, 3) := by decide +kernel
theorem g74_63 : Go 74 63 ls ((0, a) :: st) G M Q ↔ cm_in a ∧ (¬ a = 0 → Go 74 68 ls st G M Q) ∧ (a = 0 → Go 74 66 ls st G M Q) := go_if_ne hq74 k74_63 (by decide)
theorem k74_66 : cm_at ins_74 66 = some (.iconst 0, 1) := by decide +kernel
theorem g74_66 : Go 74 66 ls st G M Q ↔ Go 74 67 ls ((0, 0) :: st) G M Q := go_iconst hq74 k74_66
theorem k74_67 : cm_at ins_74 67 = some (.ireturn, 1) := by decide +kernel
theorem g74_67 : Go 74 67 ls [(0, v)] G M Q ↔ (v = 0 ∨ v = 1) ∧ Q (some (0, v)) G M := go_zreturn hq74 k74_67 rfl
theorem k74_68 : cm_at ins_74 68 = some (.iinc 4 1, 3) := by decide +kernel
theorem g74_68 : Go 74 68 [l0, l1, l2, l3, some (0, x), l5, l6, l7, l8, l9, l10, l11, l12, l13] st G M Q ↔ Go 74 71 [l0, l1, l2, l3, some (0, x + 1), l5, l6, l7, l8, l9, l10, l11, l12, l13] st G M Q := go_iinc hq74 k74_68 rfl ⟨rfl, by decide⟩
theorem k74_71 : cm_at ins_74 71 = some (.goto (-26), 3) := by decide +kernel
theorem g74_71 : Go 74 71 ls st G M Q ↔ Go 74 45 ls st G M Q := go_goto hq74 k74_71 (by decide)
theorem k74_74 : cm_at ins_74 74 = some (.aload_n 1, 1) := by decide +kernel
theorem g74_74 : Go 74 74 [l0, some (2, x), l2, l3, l4, l5, l6, l7, l8, l9, l10, l11, l12, l13] st G M Q ↔ Go 74 75 [l0, some (2, x), l2, l3, l4, l5, l6, l7, l8, l9, l10, l11, l12, l13] ((2, x) :: st) G M Q := go_aload_n hq74 k74_74 rfl
theorem k74_75 : cm_at ins_74 75 = some (.aload_n 0, 1) := by decide +kernel
theorem g74_75 : Go 74 75 [some (2, x), l1, l2, l3, l4, l5, l6, l7, l8, l9, l10, l11, l12, l13] st G M Q ↔ Go 74 76 [some (2, x), l1, l2, l3, l4, l5, l6, l7, l8, l9, l10, l11, l12, l13] ((2, x) :: st) G M Q := go_aload_n hq74 k74_75 rfl
theorem k74_76 : cm_at ins_74 76 = some (.bipush 42, 2) := by decide +kernel
theorem g74_76 : Go 74 76 ls st G M Q ↔ Go 74 78 ls ((0, 42) :: st) G M Q := go_bipush hq74 k74_76 (by decide)
theorem k74_78 : cm_at ins_74 78 = some (.invokestatic 73, 3) := by decide +kernel
theorem c74_78 (h8 : cm_sum st ≤ 8) (K : Go 64 0 [some (2, x), some (0, y)] [] G M (fun r G' M' => Go 74 81 ls (r.toList ++ st) G' M' Q)) : Go 74 78 ls ((0, y) :: (2, x) :: st) G M Q := go_callS hq74 k74_78 fc7_73 ⟨by decide, by decide⟩ hq64 rfl (as := [(0, y), (2, x)]) rfl rfl (Nat.le_of_ble_eq_true rfl) h8 K
theorem k74_81 : cm_at ins_74 81 = some (.invokestatic 77, 3) := by decide +kernel
theorem c74_81 (h8 : cm_sum st ≤ 8) (K : Go 70 0 [some (2, x), some (0, y), none, none, none, none, none, none, none, none, none, none, none, none, none, none] [] G M (fun r G' M' => Go 74 84 ls (r.toList ++ st) G' M' Q)) : Go 74 81 ls ((0, y) :: (2, x) :: st) G M Q := go_callS hq74 k74_81 fc7_77 ⟨by decide, by decide⟩ hq70 rfl (as := [(0, y), (2, x)]) rfl rfl (Nat.le_of_ble_eq_true rfl) h8 K
theorem k74_84 : cm_at ins_74 84 = some (.ifCond .ne 5, 3) := by decide +kernel
theorem g74_84 : Go 74 84 ls ((0, a) :: st) G M Q ↔ cm_in a ∧ (¬ a = 0 → Go 74 89 ls st G M Q) ∧ (a = 0 → Go 74 87 ls st G M Q) := go_if_ne hq74 k74_84 (by decide)
theorem k74_87 : cm_at ins_74 87 = some (.iconst 0, 1) := by decide +kernel
theorem g74_87 : Go 74 87 ls st G M Q ↔ Go 74 88 ls ((0, 0) :: st) G M Q := go_iconst hq74 k74_87
theorem k74_88 : cm_at ins_74 88 = some (.ireturn, 1) := by decide +kernel
theorem g74_88 : Go 74 88 ls [(0, v)] G M Q ↔ (v = 0 ∨ v = 1) ∧ Q (some (0, v)) G M := go_zreturn hq74 k74_88 rfl
theorem k74_89 : cm_at ins_74 89 = some (.iconst 0, 1) := by decide +kernel
theorem g74_89 : Go 74 89 ls st G M Q ↔ Go 74 90 ls ((0, 0) :: st) G M Q := go_iconst hq74 k74_89
theorem k74_90 : cm_at ins_74 90 = some (.istore 4, 2) := by decide +kernel
theorem g74_90 : Go 74 90 [l0, l1, l2, l3, l4, l5, l6, l7, l8, l9, l10, l11, l12, l13] ((0, x) :: st) G M Q ↔ Go 74 92 [l0, l1, l2, l3, some (0, x), l5, l6, l7, l8, l9, l10, l11, l12, l13] st G M Q := go_istore hq74 k74_90 ⟨Nat.le_of_ble_eq_true rfl, rfl, by decide⟩
theorem k74_92 : cm_at ins_74 92 = some (.iload 4, 2) := by decide +kernel
theorem g74_92 : Go 74 92 [l0, l1, l2, l3, some (0, x), l5, l6, l7, l8, l9, l10, l11, l12, l13] st G M Q ↔ Go 74 94 [l0, l1, l2, l3, some (0, x), l5, l6, l7, l8, l9, l10, l11, l12, l13] ((0, x) :: st) G M Q := go_iload hq74 k74_92 rfl
theorem k74_94 : cm_at ins_74 94 = some (.bipush 6, 2) := by decide +kernel
theorem g74_94 : Go 74 94 ls st G M Q ↔ Go 74 96 ls ((0, 6) :: st) G M Q := go_bipush hq74 k74_94 (by decide)
theorem k74_96 : cm_at ins_74 96 = some (.if_icmp .ge 342, 3) := by decide +kernel
theorem g74_96 : Go 74 96 ls ((0, b) :: (0, a) :: st) G M Q ↔ (cm_in a ∧ cm_in b) ∧ (¬ a < b → Go 74 438 ls st G M Q) ∧ (a < b → Go 74 99 ls st G M Q) := go_icmp_ge hq74 k74_96 (by decide)
theorem k74_99 : cm_at ins_74 99 = some (.aload_n 0, 1) := by decide +kernel
theorem g74_99 : Go 74 99 [some (2, x), l1, l2, l3, l4, l5, l6, l7, l8, l9, l10, l11, l12, l13] st G M Q ↔ Go 74 100 [some (2, x), l1, l2, l3, l4, l5, l6, l7, l8, l9, l10, l11, l12, l13] ((2, x) :: st) G M Q := go_aload_n hq74 k74_99 rfl
theorem k74_100 : cm_at ins_74 100 = some (.bipush 43, 2) := by decide +kernel
theorem g74_100 : Go 74 100 ls st G M Q ↔ Go 74 102 ls ((0, 43) :: st) G M Q := go_bipush hq74 k74_100 (by decide)
theorem k74_102 : cm_at ins_74 102 = some (.iload 4, 2) := by decide +kernel
theorem g74_102 : Go 74 102 [l0, l1, l2, l3, some (0, x), l5, l6, l7, l8, l9, l10, l11, l12, l13] st G M Q ↔ Go 74 104 [l0, l1, l2, l3, some (0, x), l5, l6, l7, l8, l9, l10, l11, l12, l13] ((0, x) :: st) G M Q := go_iload hq74 k74_102 rfl
theorem k74_104 : cm_at ins_74 104 = some (.iadd, 1) := by decide +kernel
theorem g74_104 : Go 74 104 ls ((0, b) :: (0, a) :: st) G M Q ↔ Go 74 105 ls ((0, a + b) :: st) G M Q := go_iadd hq74 k74_104
theorem k74_105 : cm_at ins_74 105 = some (.invokestatic 73, 3) := by decide +kernel
theorem c74_105 (h8 : cm_sum st ≤ 8) (K : Go 64 0 [some (2, x), some (0, y)] [] G M (fun r G' M' => Go 74 108 ls (r.toList ++ st) G' M' Q)) : Go 74 105 ls ((0, y) :: (2, x) :: st) G M Q := go_callS hq74 k74_105 fc7_73 ⟨by decide, by decide⟩ hq64 rfl (as := [(0, y), (2, x)]) rfl rfl (Nat.le_of_ble_eq_true rfl) h8 K
theorem k74_108 : cm_at ins_74 108 = some (.istore 5, 2) := by decide +kernel
theorem g74_108 : Go 74 108 [l0, l1, l2, l3, l4, l5, l6, l7, l8, l9, l10, l11, l12, l13] ((0, x) :: st) G M Q ↔ Go 74 110 [l0, l1, l2, l3, l4, some (0, x), l6, l7, l8, l9, l10, l11, l12, l13] st G M Q := go_istore hq74 k74_108 ⟨Nat.le_of_ble_eq_true rfl, rfl, by decide⟩
theorem k74_110 : cm_at ins_74 110 = some (.aload_n 1, 1) := by decide +kernel
theorem g74_110 : Go 74 110 [l0, some (2, x), l2, l3, l4, l5, l6, l7, l8, l9, l10, l11, l12, l13] st G M Q ↔ Go 74 111 [l0, some (2, x), l2, l3, l4, l5, l6, l7, l8, l9, l10, l11, l12, l13] ((2, x) :: st) G M Q := go_aload_n hq74 k74_110 rfl
theorem k74_111 : cm_at ins_74 111 = some (.iconst 0, 1) := by decide +kernel
theorem g74_111 : Go 74 111 ls st G M Q ↔ Go 74 112 ls ((0, 0) :: st) G M Q := go_iconst hq74 k74_111
theorem k74_112 : cm_at ins_74 112 = some (.invokevirtual 10, 3) := by decide +kernel
theorem c74_112 (h8 : cm_sum st ≤ 8) (hk : cm_sh G k = some (0, 5)) (K : Go 55 0 [some (2, k), some (0, y)] [] G M (fun r G' M' => Go 74 115 ls (r.toList ++ st) G' M' Q)) : Go 74 112 ls ((0, y) :: (2, k) :: st) G M Q := go_callV hq74 k74_112 fc7_10 hq55 rfl (as := [(0, y), (2, k)]) rfl rfl (Nat.le_of_ble_eq_true rfl) rfl h8 hk K
theorem k74_115 : cm_at ins_74 115 = some (.istore 6, 2) := by decide +kernel
theorem g74_115 : Go 74 115 [l0, l1, l2, l3, l4, l5, l6, l7, l8, l9, l10, l11, l12, l13] ((0, x) :: st) G M Q ↔ Go 74 117 [l0, l1, l2, l3, l4, l5, some (0, x), l7, l8, l9, l10, l11, l12, l13] st G M Q := go_istore hq74 k74_115 ⟨Nat.le_of_ble_eq_true rfl, rfl, by decide⟩
theorem k74_117 : cm_at ins_74 117 = some (.iload 6, 2) := by decide +kernel
theorem g74_117 : Go 74 117 [l0, l1, l2, l3, l4, l5, some (0, x), l7, l8, l9, l10, l11, l12, l13] st G M Q ↔ Go 74 119 [l0, l1, l2, l3, l4, l5, some (0, x), l7, l8, l9, l10, l11, l12, l13] ((0, x) :: st) G M Q := go_iload hq74 k74_117 rfl
theorem k74_119 : cm_at ins_74 119 = some (.ifCond .ne 7, 3) := by decide +kernel
theorem g74_119 : Go 74 119 ls ((0, a) :: st) G M Q ↔ cm_in a ∧ (¬ a = 0 → Go 74 126 ls st G M Q) ∧ (a = 0 → Go 74 122 ls st G M Q) := go_if_ne hq74 k74_119 (by decide)
theorem k74_122 : cm_at ins_74 122 = some (.iconst 0, 1) := by decide +kernel
theorem g74_122 : Go 74 122 ls st G M Q ↔ Go 74 123 ls ((0, 0) :: st) G M Q := go_iconst hq74 k74_122
theorem k74_123 : cm_at ins_74 123 = some (.goto 12, 3) := by decide +kernel
theorem g74_123 : Go 74 123 ls st G M Q ↔ Go 74 135 ls st G M Q := go_goto hq74 k74_123 (by decide)
theorem k74_126 : cm_at ins_74 126 = some (.iload 5, 2) := by decide +kernel
theorem g74_126 : Go 74 126 [l0, l1, l2, l3, l4, some (0, x), l6, l7, l8, l9, l10, l11, l12, l13] st G M Q ↔ Go 74 128 [l0, l1, l2, l3, l4, some (0, x), l6, l7, l8, l9, l10, l11, l12, l13] ((0, x) :: st) G M Q := go_iload hq74 k74_126 rfl
theorem k74_128 : cm_at ins_74 128 = some (.iconst 3, 1) := by decide +kernel
theorem g74_128 : Go 74 128 ls st G M Q ↔ Go 74 129 ls ((0, 3) :: st) G M Q := go_iconst hq74 k74_128
theorem k74_129 : cm_at ins_74 129 = some (.ishr, 1) := by decide +kernel
theorem g74_129 : Go 74 129 ls ((0, b) :: (0, a) :: st) G M Q ↔ Go 74 130 ls ((0, cm_ishr a b) :: st) G M Q := go_ishr hq74 k74_129
theorem k74_130 : cm_at ins_74 130 = some (.iload 6, 2) := by decide +kernel
theorem g74_130 : Go 74 130 [l0, l1, l2, l3, l4, l5, some (0, x), l7, l8, l9, l10, l11, l12, l13] st G M Q ↔ Go 74 132 [l0, l1, l2, l3, l4, l5, some (0, x), l7, l8, l9, l10, l11, l12, l13] ((0, x) :: st) G M Q := go_iload hq74 k74_130 rfl
theorem k74_132 : cm_at ins_74 132 = some (.invokestatic 16, 3) := by decide +kernel
theorem c74_132 (h8 : cm_sum st ≤ 8) (K : Go 65 0 [some (0, x), some (0, y)] [] G M (fun r G' M' => Go 74 135 ls (r.toList ++ st) G' M' Q)) : Go 74 132 ls ((0, y) :: (0, x) :: st) G M Q := go_callS hq74 k74_132 fc7_16 ⟨by decide, by decide⟩ hq65 rfl (as := [(0, y), (0, x)]) rfl rfl (Nat.le_of_ble_eq_true rfl) h8 K
theorem k74_135 : cm_at ins_74 135 = some (.istore 7, 2) := by decide +kernel
theorem g74_135 : Go 74 135 [l0, l1, l2, l3, l4, l5, l6, l7, l8, l9, l10, l11, l12, l13] ((0, x) :: st) G M Q ↔ Go 74 137 [l0, l1, l2, l3, l4, l5, l6, some (0, x), l8, l9, l10, l11, l12, l13] st G M Q := go_istore hq74 k74_135 ⟨Nat.le_of_ble_eq_true rfl, rfl, by decide⟩
theorem k74_137 : cm_at ins_74 137 = some (.iload 5, 2) := by decide +kernel
theorem g74_137 : Go 74 137 [l0, l1, l2, l3, l4, some (0, x), l6, l7, l8, l9, l10, l11, l12, l13] st G M Q ↔ Go 74 139 [l0, l1, l2, l3, l4, some (0, x), l6, l7, l8, l9, l10, l11, l12, l13] ((0, x) :: st) G M Q := go_iload hq74 k74_137 rfl
theorem k74_139 : cm_at ins_74 139 = some (.iconst 5, 1) := by decide +kernel
theorem g74_139 : Go 74 139 ls st G M Q ↔ Go 74 140 ls ((0, 5) :: st) G M Q := go_iconst hq74 k74_139
theorem k74_140 : cm_at ins_74 140 = some (.invokestatic 16, 3) := by decide +kernel
theorem c74_140 (h8 : cm_sum st ≤ 8) (K : Go 65 0 [some (0, x), some (0, y)] [] G M (fun r G' M' => Go 74 143 ls (r.toList ++ st) G' M' Q)) : Go 74 140 ls ((0, y) :: (0, x) :: st) G M Q := go_callS hq74 k74_140 fc7_16 ⟨by decide, by decide⟩ hq65 rfl (as := [(0, y), (0, x)]) rfl rfl (Nat.le_of_ble_eq_true rfl) h8 K
theorem k74_143 : cm_at ins_74 143 = some (.istore 8, 2) := by decide +kernel
theorem g74_143 : Go 74 143 [l0, l1, l2, l3, l4, l5, l6, l7, l8, l9, l10, l11, l12, l13] ((0, x) :: st) G M Q ↔ Go 74 145 [l0, l1, l2, l3, l4, l5, l6, l7, some (0, x), l9, l10, l11, l12, l13] st G M Q := go_istore hq74 k74_143 ⟨Nat.le_of_ble_eq_true rfl, rfl, by decide⟩
theorem k74_145 : cm_at ins_74 145 = some (.iconst 1, 1) := by decide +kernel
theorem g74_145 : Go 74 145 ls st G M Q ↔ Go 74 146 ls ((0, 1) :: st) G M Q := go_iconst hq74 k74_145
theorem k74_146 : cm_at ins_74 146 = some (.istore 9, 2) := by decide +kernel
theorem g74_146 : Go 74 146 [l0, l1, l2, l3, l4, l5, l6, l7, l8, l9, l10, l11, l12, l13] ((0, x) :: st) G M Q ↔ Go 74 148 [l0, l1, l2, l3, l4, l5, l6, l7, l8, some (0, x), l10, l11, l12, l13] st G M Q := go_istore hq74 k74_146 ⟨Nat.le_of_ble_eq_true rfl, rfl, by decide⟩
theorem k74_148 : cm_at ins_74 148 = some (.iload 6, 2) := by decide +kernel
theorem g74_148 : Go 74 148 [l0, l1, l2, l3, l4, l5, some (0, x), l7, l8, l9, l10, l11, l12, l13] st G M Q ↔ Go 74 150 [l0, l1, l2, l3, l4, l5, some (0, x), l7, l8, l9, l10, l11, l12, l13] ((0, x) :: st) G M Q := go_iload hq74 k74_148 rfl
theorem k74_150 : cm_at ins_74 150 = some (.ifCond .le 68, 3) := by decide +kernel
theorem g74_150 : Go 74 150 ls ((0, a) :: st) G M Q ↔ cm_in a ∧ (¬ 0 < a → Go 74 218 ls st G M Q) ∧ (0 < a → Go 74 153 ls st G M Q) := go_if_le hq74 k74_150 (by decide)
theorem k74_153 : cm_at ins_74 153 = some (.iload 8, 2) := by decide +kernel
theorem g74_153 : Go 74 153 [l0, l1, l2, l3, l4, l5, l6, l7, some (0, x), l9, l10, l11, l12, l13] st G M Q ↔ Go 74 155 [l0, l1, l2, l3, l4, l5, l6, l7, some (0, x), l9, l10, l11, l12, l13] ((0, x) :: st) G M Q := go_iload hq74 k74_153 rfl
theorem k74_155 : cm_at ins_74 155 = some (.ifCond .ne 63, 3) := by decide +kernel
theorem g74_155 : Go 74 155 ls ((0, a) :: st) G M Q ↔ cm_in a ∧ (¬ a = 0 → Go 74 218 ls st G M Q) ∧ (a = 0 → Go 74 158 ls st G M Q) := go_if_ne hq74 k74_155 (by decide)
theorem k74_158 : cm_at ins_74 158 = some (.aload_n 1, 1) := by decide +kernel
theorem g74_158 : Go 74 158 [l0, some (2, x), l2, l3, l4, l5, l6, l7, l8, l9, l10, l11, l12, l13] st G M Q ↔ Go 74 159 [l0, some (2, x), l2, l3, l4, l5, l6, l7, l8, l9, l10, l11, l12, l13] ((2, x) :: st) G M Q := go_aload_n hq74 k74_158 rfl
theorem k74_159 : cm_at ins_74 159 = some (.iload 7, 2) := by decide +kernel
theorem g74_159 : Go 74 159 [l0, l1, l2, l3, l4, l5, l6, some (0, x), l8, l9, l10, l11, l12, l13] st G M Q ↔ Go 74 161 [l0, l1, l2, l3, l4, l5, l6, some (0, x), l8, l9, l10, l11, l12, l13] ((0, x) :: st) G M Q := go_iload hq74 k74_159 rfl
theorem k74_161 : cm_at ins_74 161 = some (.iconst 3, 1) := by decide +kernel
theorem g74_161 : Go 74 161 ls st G M Q ↔ Go 74 162 ls ((0, 3) :: st) G M Q := go_iconst hq74 k74_161
theorem k74_162 : cm_at ins_74 162 = some (.invokevirtual 28, 3) := by decide +kernel
theorem c74_162 (h8 : cm_sum st ≤ 8) (hk : cm_sh G k = some (0, 5)) (K : Go 52 0 [some (2, k), some (0, y), some (0, z)] [] G M (fun r G' M' => Go 74 165 ls (r.toList ++ st) G' M' Q)) : Go 74 162 ls ((0, z) :: (0, y) :: (2, k) :: st) G M Q := go_callV hq74 k74_162 fc7_28 hq52 rfl (as := [(0, z), (0, y), (2, k)]) rfl rfl (Nat.le_of_ble_eq_true rfl) rfl h8 hk K
theorem k74_165 : cm_at ins_74 165 = some (.istore 10, 2) := by decide +kernel
theorem g74_165 : Go 74 165 [l0, l1, l2, l3, l4, l5, l6, l7, l8, l9, l10, l11, l12, l13] ((0, x) :: st) G M Q ↔ Go 74 167 [l0, l1, l2, l3, l4, l5, l6, l7, l8, l9, some (0, x), l11, l12, l13] st G M Q := go_istore hq74 k74_165 ⟨Nat.le_of_ble_eq_true rfl, rfl, by decide⟩
theorem k74_167 : cm_at ins_74 167 = some (.aload_n 1, 1) := by decide +kernel
theorem g74_167 : Go 74 167 [l0, some (2, x), l2, l3, l4, l5, l6, l7, l8, l9, l10, l11, l12, l13] st G M Q ↔ Go 74 168 [l0, some (2, x), l2, l3, l4, l5, l6, l7, l8, l9, l10, l11, l12, l13] ((2, x) :: st) G M Q := go_aload_n hq74 k74_167 rfl
theorem k74_168 : cm_at ins_74 168 = some (.iload 7, 2) := by decide +kernel
theorem g74_168 : Go 74 168 [l0, l1, l2, l3, l4, l5, l6, some (0, x), l8, l9, l10, l11, l12, l13] st G M Q ↔ Go 74 170 [l0, l1, l2, l3, l4, l5, l6, some (0, x), l8, l9, l10, l11, l12, l13] ((0, x) :: st) G M Q := go_iload hq74 k74_168 rfl
theorem k74_170 : cm_at ins_74 170 = some (.iload 5, 2) := by decide +kernel
theorem g74_170 : Go 74 170 [l0, l1, l2, l3, l4, some (0, x), l6, l7, l8, l9, l10, l11, l12, l13] st G M Q ↔ Go 74 172 [l0, l1, l2, l3, l4, some (0, x), l6, l7, l8, l9, l10, l11, l12, l13] ((0, x) :: st) G M Q := go_iload hq74 k74_170 rfl
theorem k74_172 : cm_at ins_74 172 = some (.bipush 9, 2) := by decide +kernel
theorem g74_172 : Go 74 172 ls st G M Q ↔ Go 74 174 ls ((0, 9) :: st) G M Q := go_bipush hq74 k74_172 (by decide)
theorem k74_174 : cm_at ins_74 174 = some (.ishr, 1) := by decide +kernel
theorem g74_174 : Go 74 174 ls ((0, b) :: (0, a) :: st) G M Q ↔ Go 74 175 ls ((0, cm_ishr a b) :: st) G M Q := go_ishr hq74 k74_174
theorem k74_175 : cm_at ins_74 175 = some (.bipush 31, 2) := by decide +kernel
theorem g74_175 : Go 74 175 ls st G M Q ↔ Go 74 177 ls ((0, 31) :: st) G M Q := go_bipush hq74 k74_175 (by decide)
theorem k74_177 : cm_at ins_74 177 = some (.invokestatic 16, 3) := by decide +kernel
theorem c74_177 (h8 : cm_sum st ≤ 8) (K : Go 65 0 [some (0, x), some (0, y)] [] G M (fun r G' M' => Go 74 180 ls (r.toList ++ st) G' M' Q)) : Go 74 177 ls ((0, y) :: (0, x) :: st) G M Q := go_callS hq74 k74_177 fc7_16 ⟨by decide, by decide⟩ hq65 rfl (as := [(0, y), (0, x)]) rfl rfl (Nat.le_of_ble_eq_true rfl) h8 K
theorem k74_180 : cm_at ins_74 180 = some (.invokevirtual 31, 3) := by decide +kernel
theorem c74_180 (h8 : cm_sum st ≤ 8) (hk : cm_sh G k = some (0, 5)) (K : Go 49 0 [some (2, k), some (0, y), some (0, z), none] [] G M (fun r G' M' => Go 74 183 ls (r.toList ++ st) G' M' Q)) : Go 74 180 ls ((0, z) :: (0, y) :: (2, k) :: st) G M Q := go_callV hq74 k74_180 fc7_31 hq49 rfl (as := [(0, z), (0, y), (2, k)]) rfl rfl (Nat.le_of_ble_eq_true rfl) rfl h8 hk K
theorem k74_183 : cm_at ins_74 183 = some (.iload 10, 2) := by decide +kernel
theorem g74_183 : Go 74 183 [l0, l1, l2, l3, l4, l5, l6, l7, l8, l9, some (0, x), l11, l12, l13] st G M Q ↔ Go 74 185 [l0, l1, l2, l3, l4, l5, l6, l7, l8, l9, some (0, x), l11, l12, l13] ((0, x) :: st) G M Q := go_iload hq74 k74_183 rfl
theorem k74_185 : cm_at ins_74 185 = some (.if_icmp .ne 27, 3) := by decide +kernel
theorem g74_185 : Go 74 185 ls ((0, b) :: (0, a) :: st) G M Q ↔ (cm_in a ∧ cm_in b) ∧ (¬ a = b → Go 74 212 ls st G M Q) ∧ (a = b → Go 74 188 ls st G M Q) := go_icmp_ne hq74 k74_185 (by decide)
theorem k74_188 : cm_at ins_74 188 = some (.aload_n 1, 1) := by decide +kernel
theorem g74_188 : Go 74 188 [l0, some (2, x), l2, l3, l4, l5, l6, l7, l8, l9, l10, l11, l12, l13] st G M Q ↔ Go 74 189 [l0, some (2, x), l2, l3, l4, l5, l6, l7, l8, l9, l10, l11, l12, l13] ((2, x) :: st) G M Q := go_aload_n hq74 k74_188 rfl
theorem k74_189 : cm_at ins_74 189 = some (.iload 7, 2) := by decide +kernel
theorem g74_189 : Go 74 189 [l0, l1, l2, l3, l4, l5, l6, some (0, x), l8, l9, l10, l11, l12, l13] st G M Q ↔ Go 74 191 [l0, l1, l2, l3, l4, l5, l6, some (0, x), l8, l9, l10, l11, l12, l13] ((0, x) :: st) G M Q := go_iload hq74 k74_189 rfl
theorem k74_191 : cm_at ins_74 191 = some (.iconst 3, 1) := by decide +kernel
theorem g74_191 : Go 74 191 ls st G M Q ↔ Go 74 192 ls ((0, 3) :: st) G M Q := go_iconst hq74 k74_191
theorem k74_192 : cm_at ins_74 192 = some (.invokevirtual 28, 3) := by decide +kernel
theorem c74_192 (h8 : cm_sum st ≤ 8) (hk : cm_sh G k = some (0, 5)) (K : Go 52 0 [some (2, k), some (0, y), some (0, z)] [] G M (fun r G' M' => Go 74 195 ls (r.toList ++ st) G' M' Q)) : Go 74 192 ls ((0, z) :: (0, y) :: (2, k) :: st) G M Q := go_callV hq74 k74_192 fc7_28 hq52 rfl (as := [(0, z), (0, y), (2, k)]) rfl rfl (Nat.le_of_ble_eq_true rfl) rfl h8 hk K
theorem k74_195 : cm_at ins_74 195 = some (.iload 5, 2) := by decide +kernel
theorem g74_195 : Go 74 195 [l0, l1, l2, l3, l4, some (0, x), l6, l7, l8, l9, l10, l11, l12, l13] st G M Q ↔ Go 74 197 [l0, l1, l2, l3, l4, some (0, x), l6, l7, l8, l9, l10, l11, l12, l13] ((0, x) :: st) G M Q := go_iload hq74 k74_195 rfl
theorem k74_197 : cm_at ins_74 197 = some (.bipush 9, 2) := by decide +kernel
theorem g74_197 : Go 74 197 ls st G M Q ↔ Go 74 199 ls ((0, 9) :: st) G M Q := go_bipush hq74 k74_197 (by decide)
theorem k74_199 : cm_at ins_74 199 = some (.ishr, 1) := by decide +kernel
theorem g74_199 : Go 74 199 ls ((0, b) :: (0, a) :: st) G M Q ↔ Go 74 200 ls ((0, cm_ishr a b) :: st) G M Q := go_ishr hq74 k74_199
theorem k74_200 : cm_at ins_74 200 = some (.bipush 31, 2) := by decide +kernel
theorem g74_200 : Go 74 200 ls st G M Q ↔ Go 74 202 ls ((0, 31) :: st) G M Q := go_bipush hq74 k74_200 (by decide)
theorem k74_202 : cm_at ins_74 202 = some (.invokestatic 16, 3) := by decide +kernel
theorem c74_202 (h8 : cm_sum st ≤ 8) (K : Go 65 0 [some (0, x), some (0, y)] [] G M (fun r G' M' => Go 74 205 ls (r.toList ++ st) G' M' Q)) : Go 74 202 ls ((0, y) :: (0, x) :: st) G M Q := go_callS hq74 k74_202 fc7_16 ⟨by decide, by decide⟩ hq65 rfl (as := [(0, y), (0, x)]) rfl rfl (Nat.le_of_ble_eq_true rfl) h8 K
theorem k74_205 : cm_at ins_74 205 = some (.if_icmp .ne 7, 3) := by decide +kernel
theorem g74_205 : Go 74 205 ls ((0, b) :: (0, a) :: st) G M Q ↔ (cm_in a ∧ cm_in b) ∧ (¬ a = b → Go 74 212 ls st G M Q) ∧ (a = b → Go 74 208 ls st G M Q) := go_icmp_ne hq74 k74_205 (by decide)
theorem k74_208 : cm_at ins_74 208 = some (.iconst 1, 1) := by decide +kernel
theorem g74_208 : Go 74 208 ls st G M Q ↔ Go 74 209 ls ((0, 1) :: st) G M Q := go_iconst hq74 k74_208
theorem k74_209 : cm_at ins_74 209 = some (.goto 4, 3) := by decide +kernel
theorem g74_209 : Go 74 209 ls st G M Q ↔ Go 74 213 ls st G M Q := go_goto hq74 k74_209 (by decide)
theorem k74_212 : cm_at ins_74 212 = some (.iconst 0, 1) := by decide +kernel
theorem g74_212 : Go 74 212 ls st G M Q ↔ Go 74 213 ls ((0, 0) :: st) G M Q := go_iconst hq74 k74_212
theorem k74_213 : cm_at ins_74 213 = some (.istore 9, 2) := by decide +kernel
theorem g74_213 : Go 74 213 [l0, l1, l2, l3, l4, l5, l6, l7, l8, l9, l10, l11, l12, l13] ((0, x) :: st) G M Q ↔ Go 74 215 [l0, l1, l2, l3, l4, l5, l6, l7, l8, some (0, x), l10, l11, l12, l13] st G M Q := go_istore hq74 k74_213 ⟨Nat.le_of_ble_eq_true rfl, rfl, by decide⟩
theorem k74_215 : cm_at ins_74 215 = some (.goto 198, 3) := by decide +kernel
theorem g74_215 : Go 74 215 ls st G M Q ↔ Go 74 413 ls st G M Q := go_goto hq74 k74_215 (by decide)
theorem k74_218 : cm_at ins_74 218 = some (.iload 6, 2) := by decide +kernel
theorem g74_218 : Go 74 218 [l0, l1, l2, l3, l4, l5, some (0, x), l7, l8, l9, l10, l11, l12, l13] st G M Q ↔ Go 74 220 [l0, l1, l2, l3, l4, l5, some (0, x), l7, l8, l9, l10, l11, l12, l13] ((0, x) :: st) G M Q := go_iload hq74 k74_218 rfl
theorem k74_220 : cm_at ins_74 220 = some (.ifCond .le 32, 3) := by decide +kernel
theorem g74_220 : Go 74 220 ls ((0, a) :: st) G M Q ↔ cm_in a ∧ (¬ 0 < a → Go 74 252 ls st G M Q) ∧ (0 < a → Go 74 223 ls st G M Q) := go_if_le hq74 k74_220 (by decide)
theorem k74_223 : cm_at ins_74 223 = some (.iload 8, 2) := by decide +kernel
theorem g74_223 : Go 74 223 [l0, l1, l2, l3, l4, l5, l6, l7, some (0, x), l9, l10, l11, l12, l13] st G M Q ↔ Go 74 225 [l0, l1, l2, l3, l4, l5, l6, l7, some (0, x), l9, l10, l11, l12, l13] ((0, x) :: st) G M Q := go_iload hq74 k74_223 rfl
theorem k74_225 : cm_at ins_74 225 = some (.iconst 1, 1) := by decide +kernel
theorem g74_225 : Go 74 225 ls st G M Q ↔ Go 74 226 ls ((0, 1) :: st) G M Q := go_iconst hq74 k74_225
theorem k74_226 : cm_at ins_74 226 = some (.if_icmp .ne 26, 3) := by decide +kernel
theorem g74_226 : Go 74 226 ls ((0, b) :: (0, a) :: st) G M Q ↔ (cm_in a ∧ cm_in b) ∧ (¬ a = b → Go 74 252 ls st G M Q) ∧ (a = b → Go 74 229 ls st G M Q) := go_icmp_ne hq74 k74_226 (by decide)
theorem k74_229 : cm_at ins_74 229 = some (.aload_n 1, 1) := by decide +kernel
theorem g74_229 : Go 74 229 [l0, some (2, x), l2, l3, l4, l5, l6, l7, l8, l9, l10, l11, l12, l13] st G M Q ↔ Go 74 230 [l0, some (2, x), l2, l3, l4, l5, l6, l7, l8, l9, l10, l11, l12, l13] ((2, x) :: st) G M Q := go_aload_n hq74 k74_229 rfl
theorem k74_230 : cm_at ins_74 230 = some (.iload 7, 2) := by decide +kernel
theorem g74_230 : Go 74 230 [l0, l1, l2, l3, l4, l5, l6, some (0, x), l8, l9, l10, l11, l12, l13] st G M Q ↔ Go 74 232 [l0, l1, l2, l3, l4, l5, l6, some (0, x), l8, l9, l10, l11, l12, l13] ((0, x) :: st) G M Q := go_iload hq74 k74_230 rfl
theorem k74_232 : cm_at ins_74 232 = some (.invokevirtual 87, 3) := by decide +kernel
theorem c74_232 (h8 : cm_sum st ≤ 8) (hk : cm_sh G k = some (0, 5)) (K : Go 51 0 [some (2, k), some (0, y)] [] G M (fun r G' M' => Go 74 235 ls (r.toList ++ st) G' M' Q)) : Go 74 232 ls ((0, y) :: (2, k) :: st) G M Q := go_callV hq74 k74_232 fc7_87 hq51 rfl (as := [(0, y), (2, k)]) rfl rfl (Nat.le_of_ble_eq_true rfl) rfl h8 hk K
theorem k74_235 : cm_at ins_74 235 = some (.iload 6, 2) := by decide +kernel
theorem g74_235 : Go 74 235 [l0, l1, l2, l3, l4, l5, some (0, x), l7, l8, l9, l10, l11, l12, l13] st G M Q ↔ Go 74 237 [l0, l1, l2, l3, l4, l5, some (0, x), l7, l8, l9, l10, l11, l12, l13] ((0, x) :: st) G M Q := go_iload hq74 k74_235 rfl
theorem k74_237 : cm_at ins_74 237 = some (.iconst 1, 1) := by decide +kernel
theorem g74_237 : Go 74 237 ls st G M Q ↔ Go 74 238 ls ((0, 1) :: st) G M Q := go_iconst hq74 k74_237
theorem k74_238 : cm_at ins_74 238 = some (.isub, 1) := by decide +kernel
theorem g74_238 : Go 74 238 ls ((0, b) :: (0, a) :: st) G M Q ↔ Go 74 239 ls ((0, a - b) :: st) G M Q := go_isub hq74 k74_238
theorem k74_239 : cm_at ins_74 239 = some (.if_icmp .ne 7, 3) := by decide +kernel
theorem g74_239 : Go 74 239 ls ((0, b) :: (0, a) :: st) G M Q ↔ (cm_in a ∧ cm_in b) ∧ (¬ a = b → Go 74 246 ls st G M Q) ∧ (a = b → Go 74 242 ls st G M Q) := go_icmp_ne hq74 k74_239 (by decide)
theorem k74_242 : cm_at ins_74 242 = some (.iconst 1, 1) := by decide +kernel
theorem g74_242 : Go 74 242 ls st G M Q ↔ Go 74 243 ls ((0, 1) :: st) G M Q := go_iconst hq74 k74_242
theorem k74_243 : cm_at ins_74 243 = some (.goto 4, 3) := by decide +kernel
theorem g74_243 : Go 74 243 ls st G M Q ↔ Go 74 247 ls st G M Q := go_goto hq74 k74_243 (by decide)
theorem k74_246 : cm_at ins_74 246 = some (.iconst 0, 1) := by decide +kernel
theorem g74_246 : Go 74 246 ls st G M Q ↔ Go 74 247 ls ((0, 0) :: st) G M Q := go_iconst hq74 k74_246
theorem k74_247 : cm_at ins_74 247 = some (.istore 9, 2) := by decide +kernel
theorem g74_247 : Go 74 247 [l0, l1, l2, l3, l4, l5, l6, l7, l8, l9, l10, l11, l12, l13] ((0, x) :: st) G M Q ↔ Go 74 249 [l0, l1, l2, l3, l4, l5, l6, l7, l8, some (0, x), l10, l11, l12, l13] st G M Q := go_istore hq74 k74_247 ⟨Nat.le_of_ble_eq_true rfl, rfl, by decide⟩
theorem k74_249 : cm_at ins_74 249 = some (.goto 164, 3) := by decide +kernel
theorem g74_249 : Go 74 249 ls st G M Q ↔ Go 74 413 ls st G M Q := go_goto hq74 k74_249 (by decide)
theorem k74_252 : cm_at ins_74 252 = some (.iload 6, 2) := by decide +kernel
theorem g74_252 : Go 74 252 [l0, l1, l2, l3, l4, l5, some (0, x), l7, l8, l9, l10, l11, l12, l13] st G M Q ↔ Go 74 254 [l0, l1, l2, l3, l4, l5, some (0, x), l7, l8, l9, l10, l11, l12, l13] ((0, x) :: st) G M Q := go_iload hq74 k74_252 rfl
theorem k74_254 : cm_at ins_74 254 = some (.ifCond .le 103, 3) := by decide +kernel
theorem g74_254 : Go 74 254 ls ((0, a) :: st) G M Q ↔ cm_in a ∧ (¬ 0 < a → Go 74 357 ls st G M Q) ∧ (0 < a → Go 74 257 ls st G M Q) := go_if_le hq74 k74_254 (by decide)
theorem k74_257 : cm_at ins_74 257 = some (.iload 8, 2) := by decide +kernel
theorem g74_257 : Go 74 257 [l0, l1, l2, l3, l4, l5, l6, l7, some (0, x), l9, l10, l11, l12, l13] st G M Q ↔ Go 74 259 [l0, l1, l2, l3, l4, l5, l6, l7, some (0, x), l9, l10, l11, l12, l13] ((0, x) :: st) G M Q := go_iload hq74 k74_257 rfl
theorem k74_259 : cm_at ins_74 259 = some (.iconst 2, 1) := by decide +kernel
theorem g74_259 : Go 74 259 ls st G M Q ↔ Go 74 260 ls ((0, 2) :: st) G M Q := go_iconst hq74 k74_259
theorem k74_260 : cm_at ins_74 260 = some (.if_icmp .ne 97, 3) := by decide +kernel
theorem g74_260 : Go 74 260 ls ((0, b) :: (0, a) :: st) G M Q ↔ (cm_in a ∧ cm_in b) ∧ (¬ a = b → Go 74 357 ls st G M Q) ∧ (a = b → Go 74 263 ls st G M Q) := go_icmp_ne hq74 k74_260 (by decide)
theorem k74_263 : cm_at ins_74 263 = some (.aload_n 1, 1) := by decide +kernel
theorem g74_263 : Go 74 263 [l0, some (2, x), l2, l3, l4, l5, l6, l7, l8, l9, l10, l11, l12, l13] st G M Q ↔ Go 74 264 [l0, some (2, x), l2, l3, l4, l5, l6, l7, l8, l9, l10, l11, l12, l13] ((2, x) :: st) G M Q := go_aload_n hq74 k74_263 rfl
theorem k74_264 : cm_at ins_74 264 = some (.iconst 3, 1) := by decide +kernel
theorem g74_264 : Go 74 264 ls st G M Q ↔ Go 74 265 ls ((0, 3) :: st) G M Q := go_iconst hq74 k74_264
theorem k74_265 : cm_at ins_74 265 = some (.invokevirtual 10, 3) := by decide +kernel
theorem c74_265 (h8 : cm_sum st ≤ 8) (hk : cm_sh G k = some (0, 5)) (K : Go 55 0 [some (2, k), some (0, y)] [] G M (fun r G' M' => Go 74 268 ls (r.toList ++ st) G' M' Q)) : Go 74 265 ls ((0, y) :: (2, k) :: st) G M Q := go_callV hq74 k74_265 fc7_10 hq55 rfl (as := [(0, y), (2, k)]) rfl rfl (Nat.le_of_ble_eq_true rfl) rfl h8 hk K
theorem k74_268 : cm_at ins_74 268 = some (.istore 10, 2) := by decide +kernel
theorem g74_268 : Go 74 268 [l0, l1, l2, l3, l4, l5, l6, l7, l8, l9, l10, l11, l12, l13] ((0, x) :: st) G M Q ↔ Go 74 270 [l0, l1, l2, l3, l4, l5, l6, l7, l8, l9, some (0, x), l11, l12, l13] st G M Q := go_istore hq74 k74_268 ⟨Nat.le_of_ble_eq_true rfl, rfl, by decide⟩
theorem k74_270 : cm_at ins_74 270 = some (.aload_n 1, 1) := by decide +kernel
theorem g74_270 : Go 74 270 [l0, some (2, x), l2, l3, l4, l5, l6, l7, l8, l9, l10, l11, l12, l13] st G M Q ↔ Go 74 271 [l0, some (2, x), l2, l3, l4, l5, l6, l7, l8, l9, l10, l11, l12, l13] ((2, x) :: st) G M Q := go_aload_n hq74 k74_270 rfl
theorem k74_271 : cm_at ins_74 271 = some (.iload 7, 2) := by decide +kernel
theorem g74_271 : Go 74 271 [l0, l1, l2, l3, l4, l5, l6, some (0, x), l8, l9, l10, l11, l12, l13] st G M Q ↔ Go 74 273 [l0, l1, l2, l3, l4, l5, l6, some (0, x), l8, l9, l10, l11, l12, l13] ((0, x) :: st) G M Q := go_iload hq74 k74_271 rfl
theorem k74_273 : cm_at ins_74 273 = some (.iconst 2, 1) := by decide +kernel
theorem g74_273 : Go 74 273 ls st G M Q ↔ Go 74 274 ls ((0, 2) :: st) G M Q := go_iconst hq74 k74_273
theorem k74_274 : cm_at ins_74 274 = some (.invokevirtual 28, 3) := by decide +kernel
theorem c74_274 (h8 : cm_sum st ≤ 8) (hk : cm_sh G k = some (0, 5)) (K : Go 52 0 [some (2, k), some (0, y), some (0, z)] [] G M (fun r G' M' => Go 74 277 ls (r.toList ++ st) G' M' Q)) : Go 74 274 ls ((0, z) :: (0, y) :: (2, k) :: st) G M Q := go_callV hq74 k74_274 fc7_28 hq52 rfl (as := [(0, z), (0, y), (2, k)]) rfl rfl (Nat.le_of_ble_eq_true rfl) rfl h8 hk K
theorem k74_277 : cm_at ins_74 277 = some (.istore 11, 2) := by decide +kernel
theorem g74_277 : Go 74 277 [l0, l1, l2, l3, l4, l5, l6, l7, l8, l9, l10, l11, l12, l13] ((0, x) :: st) G M Q ↔ Go 74 279 [l0, l1, l2, l3, l4, l5, l6, l7, l8, l9, l10, some (0, x), l12, l13] st G M Q := go_istore hq74 k74_277 ⟨Nat.le_of_ble_eq_true rfl, rfl, by decide⟩
theorem k74_279 : cm_at ins_74 279 = some (.aload_n 1, 1) := by decide +kernel
theorem g74_279 : Go 74 279 [l0, some (2, x), l2, l3, l4, l5, l6, l7, l8, l9, l10, l11, l12, l13] st G M Q ↔ Go 74 280 [l0, some (2, x), l2, l3, l4, l5, l6, l7, l8, l9, l10, l11, l12, l13] ((2, x) :: st) G M Q := go_aload_n hq74 k74_279 rfl
theorem k74_280 : cm_at ins_74 280 = some (.iload 7, 2) := by decide +kernel
theorem g74_280 : Go 74 280 [l0, l1, l2, l3, l4, l5, l6, some (0, x), l8, l9, l10, l11, l12, l13] st G M Q ↔ Go 74 282 [l0, l1, l2, l3, l4, l5, l6, some (0, x), l8, l9, l10, l11, l12, l13] ((0, x) :: st) G M Q := go_iload hq74 k74_280 rfl
theorem k74_282 : cm_at ins_74 282 = some (.iconst 3, 1) := by decide +kernel
theorem g74_282 : Go 74 282 ls st G M Q ↔ Go 74 283 ls ((0, 3) :: st) G M Q := go_iconst hq74 k74_282
theorem k74_283 : cm_at ins_74 283 = some (.invokevirtual 28, 3) := by decide +kernel
theorem c74_283 (h8 : cm_sum st ≤ 8) (hk : cm_sh G k = some (0, 5)) (K : Go 52 0 [some (2, k), some (0, y), some (0, z)] [] G M (fun r G' M' => Go 74 286 ls (r.toList ++ st) G' M' Q)) : Go 74 283 ls ((0, z) :: (0, y) :: (2, k) :: st) G M Q := go_callV hq74 k74_283 fc7_28 hq52 rfl (as := [(0, z), (0, y), (2, k)]) rfl rfl (Nat.le_of_ble_eq_true rfl) rfl h8 hk K
theorem k74_286 : cm_at ins_74 286 = some (.istore 12, 2) := by decide +kernel
theorem g74_286 : Go 74 286 [l0, l1, l2, l3, l4, l5, l6, l7, l8, l9, l10, l11, l12, l13] ((0, x) :: st) G M Q ↔ Go 74 288 [l0, l1, l2, l3, l4, l5, l6, l7, l8, l9, l10, l11, some (0, x), l13] st G M Q := go_istore hq74 k74_286 ⟨Nat.le_of_ble_eq_true rfl, rfl, by decide⟩
theorem k74_288 : cm_at ins_74 288 = some (.iload 5, 2) := by decide +kernel
theorem g74_288 : Go 74 288 [l0, l1, l2, l3, l4, some (0, x), l6, l7, l8, l9, l10, l11, l12, l13] st G M Q ↔ Go 74 290 [l0, l1, l2, l3, l4, some (0, x), l6, l7, l8, l9, l10, l11, l12, l13] ((0, x) :: st) G M Q := go_iload hq74 k74_288 rfl
theorem k74_290 : cm_at ins_74 290 = some (.bipush 9, 2) := by decide +kernel
theorem g74_290 : Go 74 290 ls st G M Q ↔ Go 74 292 ls ((0, 9) :: st) G M Q := go_bipush hq74 k74_290 (by decide)
theorem k74_292 : cm_at ins_74 292 = some (.ishr, 1) := by decide +kernel
theorem g74_292 : Go 74 292 ls ((0, b) :: (0, a) :: st) G M Q ↔ Go 74 293 ls ((0, cm_ishr a b) :: st) G M Q := go_ishr hq74 k74_292
theorem k74_293 : cm_at ins_74 293 = some (.iload 6, 2) := by decide +kernel
theorem g74_293 : Go 74 293 [l0, l1, l2, l3, l4, l5, some (0, x), l7, l8, l9, l10, l11, l12, l13] st G M Q ↔ Go 74 295 [l0, l1, l2, l3, l4, l5, some (0, x), l7, l8, l9, l10, l11, l12, l13] ((0, x) :: st) G M Q := go_iload hq74 k74_293 rfl
theorem k74_295 : cm_at ins_74 295 = some (.invokestatic 16, 3) := by decide +kernel
theorem c74_295 (h8 : cm_sum st ≤ 8) (K : Go 65 0 [some (0, x), some (0, y)] [] G M (fun r G' M' => Go 74 298 ls (r.toList ++ st) G' M' Q)) : Go 74 295 ls ((0, y) :: (0, x) :: st) G M Q := go_callS hq74 k74_295 fc7_16 ⟨by decide, by decide⟩ hq65 rfl (as := [(0, y), (0, x)]) rfl rfl (Nat.le_of_ble_eq_true rfl) h8 K
theorem k74_298 : cm_at ins_74 298 = some (.istore 13, 2) := by decide +kernel
theorem g74_298 : Go 74 298 [l0, l1, l2, l3, l4, l5, l6, l7, l8, l9, l10, l11, l12, l13] ((0, x) :: st) G M Q ↔ Go 74 300 [l0, l1, l2, l3, l4, l5, l6, l7, l8, l9, l10, l11, l12, some (0, x)] st G M Q := go_istore hq74 k74_298 ⟨Nat.le_of_ble_eq_true rfl, rfl, by decide⟩
theorem k74_300 : cm_at ins_74 300 = some (.aload_n 1, 1) := by decide +kernel
theorem g74_300 : Go 74 300 [l0, some (2, x), l2, l3, l4, l5, l6, l7, l8, l9, l10, l11, l12, l13] st G M Q ↔ Go 74 301 [l0, some (2, x), l2, l3, l4, l5, l6, l7, l8, l9, l10, l11, l12, l13] ((2, x) :: st) G M Q := go_aload_n hq74 k74_300 rfl
theorem k74_301 : cm_at ins_74 301 = some (.iload 7, 2) := by decide +kernel
theorem g74_301 : Go 74 301 [l0, l1, l2, l3, l4, l5, l6, some (0, x), l8, l9, l10, l11, l12, l13] st G M Q ↔ Go 74 303 [l0, l1, l2, l3, l4, l5, l6, some (0, x), l8, l9, l10, l11, l12, l13] ((0, x) :: st) G M Q := go_iload hq74 k74_301 rfl
theorem k74_303 : cm_at ins_74 303 = some (.iload 13, 2) := by decide +kernel
theorem g74_303 : Go 74 303 [l0, l1, l2, l3, l4, l5, l6, l7, l8, l9, l10, l11, l12, some (0, x)] st G M Q ↔ Go 74 305 [l0, l1, l2, l3, l4, l5, l6, l7, l8, l9, l10, l11, l12, some (0, x)] ((0, x) :: st) G M Q := go_iload hq74 k74_303 rfl
theorem k74_305 : cm_at ins_74 305 = some (.invokevirtual 90, 3) := by decide +kernel
theorem c74_305 (h8 : cm_sum st ≤ 8) (hk : cm_sh G k = some (0, 5)) (K : Go 50 0 [some (2, k), some (0, y), some (0, z), none] [] G M (fun r G' M' => Go 74 308 ls (r.toList ++ st) G' M' Q)) : Go 74 305 ls ((0, z) :: (0, y) :: (2, k) :: st) G M Q := go_callV hq74 k74_305 fc7_90 hq50 rfl (as := [(0, z), (0, y), (2, k)]) rfl rfl (Nat.le_of_ble_eq_true rfl) rfl h8 hk K
theorem k74_308 : cm_at ins_74 308 = some (.aload_n 1, 1) := by decide +kernel
theorem g74_308 : Go 74 308 [l0, some (2, x), l2, l3, l4, l5, l6, l7, l8, l9, l10, l11, l12, l13] st G M Q ↔ Go 74 309 [l0, some (2, x), l2, l3, l4, l5, l6, l7, l8, l9, l10, l11, l12, l13] ((2, x) :: st) G M Q := go_aload_n hq74 k74_308 rfl
theorem k74_309 : cm_at ins_74 309 = some (.iconst 3, 1) := by decide +kernel
theorem g74_309 : Go 74 309 ls st G M Q ↔ Go 74 310 ls ((0, 3) :: st) G M Q := go_iconst hq74 k74_309
theorem k74_310 : cm_at ins_74 310 = some (.invokevirtual 10, 3) := by decide +kernel
theorem c74_310 (h8 : cm_sum st ≤ 8) (hk : cm_sh G k = some (0, 5)) (K : Go 55 0 [some (2, k), some (0, y)] [] G M (fun r G' M' => Go 74 313 ls (r.toList ++ st) G' M' Q)) : Go 74 310 ls ((0, y) :: (2, k) :: st) G M Q := go_callV hq74 k74_310 fc7_10 hq55 rfl (as := [(0, y), (2, k)]) rfl rfl (Nat.le_of_ble_eq_true rfl) rfl h8 hk K
theorem k74_313 : cm_at ins_74 313 = some (.iload 10, 2) := by decide +kernel
theorem g74_313 : Go 74 313 [l0, l1, l2, l3, l4, l5, l6, l7, l8, l9, some (0, x), l11, l12, l13] st G M Q ↔ Go 74 315 [l0, l1, l2, l3, l4, l5, l6, l7, l8, l9, some (0, x), l11, l12, l13] ((0, x) :: st) G M Q := go_iload hq74 k74_313 rfl
theorem k74_315 : cm_at ins_74 315 = some (.isub, 1) := by decide +kernel
theorem g74_315 : Go 74 315 ls ((0, b) :: (0, a) :: st) G M Q ↔ Go 74 316 ls ((0, a - b) :: st) G M Q := go_isub hq74 k74_315
theorem k74_316 : cm_at ins_74 316 = some (.sipush 10000, 3) := by decide +kernel
theorem g74_316 : Go 74 316 ls st G M Q ↔ Go 74 319 ls ((0, 10000) :: st) G M Q := go_sipush hq74 k74_316 (by decide)
theorem k74_319 : cm_at ins_74 319 = some (.iadd, 1) := by decide +kernel
theorem g74_319 : Go 74 319 ls ((0, b) :: (0, a) :: st) G M Q ↔ Go 74 320 ls ((0, a + b) :: st) G M Q := go_iadd hq74 k74_319
theorem k74_320 : cm_at ins_74 320 = some (.if_icmp .ne 31, 3) := by decide +kernel
theorem g74_320 : Go 74 320 ls ((0, b) :: (0, a) :: st) G M Q ↔ (cm_in a ∧ cm_in b) ∧ (¬ a = b → Go 74 351 ls st G M Q) ∧ (a = b → Go 74 323 ls st G M Q) := go_icmp_ne hq74 k74_320 (by decide)
theorem k74_323 : cm_at ins_74 323 = some (.aload_n 1, 1) := by decide +kernel
theorem g74_323 : Go 74 323 [l0, some (2, x), l2, l3, l4, l5, l6, l7, l8, l9, l10, l11, l12, l13] st G M Q ↔ Go 74 324 [l0, some (2, x), l2, l3, l4, l5, l6, l7, l8, l9, l10, l11, l12, l13] ((2, x) :: st) G M Q := go_aload_n hq74 k74_323 rfl
theorem k74_324 : cm_at ins_74 324 = some (.iload 13, 2) := by decide +kernel
theorem g74_324 : Go 74 324 [l0, l1, l2, l3, l4, l5, l6, l7, l8, l9, l10, l11, l12, some (0, x)] st G M Q ↔ Go 74 326 [l0, l1, l2, l3, l4, l5, l6, l7, l8, l9, l10, l11, l12, some (0, x)] ((0, x) :: st) G M Q := go_iload hq74 k74_324 rfl
theorem k74_326 : cm_at ins_74 326 = some (.iconst 2, 1) := by decide +kernel
theorem g74_326 : Go 74 326 ls st G M Q ↔ Go 74 327 ls ((0, 2) :: st) G M Q := go_iconst hq74 k74_326
theorem k74_327 : cm_at ins_74 327 = some (.invokevirtual 28, 3) := by decide +kernel
theorem c74_327 (h8 : cm_sum st ≤ 8) (hk : cm_sh G k = some (0, 5)) (K : Go 52 0 [some (2, k), some (0, y), some (0, z)] [] G M (fun r G' M' => Go 74 330 ls (r.toList ++ st) G' M' Q)) : Go 74 327 ls ((0, z) :: (0, y) :: (2, k) :: st) G M Q := go_callV hq74 k74_327 fc7_28 hq52 rfl (as := [(0, z), (0, y), (2, k)]) rfl rfl (Nat.le_of_ble_eq_true rfl) rfl h8 hk K
theorem k74_330 : cm_at ins_74 330 = some (.iload 11, 2) := by decide +kernel
theorem g74_330 : Go 74 330 [l0, l1, l2, l3, l4, l5, l6, l7, l8, l9, l10, some (0, x), l12, l13] st G M Q ↔ Go 74 332 [l0, l1, l2, l3, l4, l5, l6, l7, l8, l9, l10, some (0, x), l12, l13] ((0, x) :: st) G M Q := go_iload hq74 k74_330 rfl
theorem k74_332 : cm_at ins_74 332 = some (.if_icmp .ne 19, 3) := by decide +kernel
theorem g74_332 : Go 74 332 ls ((0, b) :: (0, a) :: st) G M Q ↔ (cm_in a ∧ cm_in b) ∧ (¬ a = b → Go 74 351 ls st G M Q) ∧ (a = b → Go 74 335 ls st G M Q) := go_icmp_ne hq74 k74_332 (by decide)
theorem k74_335 : cm_at ins_74 335 = some (.aload_n 1, 1) := by decide +kernel
theorem g74_335 : Go 74 335 [l0, some (2, x), l2, l3, l4, l5, l6, l7, l8, l9, l10, l11, l12, l13] st G M Q ↔ Go 74 336 [l0, some (2, x), l2, l3, l4, l5, l6, l7, l8, l9, l10, l11, l12, l13] ((2, x) :: st) G M Q := go_aload_n hq74 k74_335 rfl
theorem k74_336 : cm_at ins_74 336 = some (.iload 13, 2) := by decide +kernel
theorem g74_336 : Go 74 336 [l0, l1, l2, l3, l4, l5, l6, l7, l8, l9, l10, l11, l12, some (0, x)] st G M Q ↔ Go 74 338 [l0, l1, l2, l3, l4, l5, l6, l7, l8, l9, l10, l11, l12, some (0, x)] ((0, x) :: st) G M Q := go_iload hq74 k74_336 rfl
theorem k74_338 : cm_at ins_74 338 = some (.iconst 3, 1) := by decide +kernel
theorem g74_338 : Go 74 338 ls st G M Q ↔ Go 74 339 ls ((0, 3) :: st) G M Q := go_iconst hq74 k74_338
theorem k74_339 : cm_at ins_74 339 = some (.invokevirtual 28, 3) := by decide +kernel
theorem c74_339 (h8 : cm_sum st ≤ 8) (hk : cm_sh G k = some (0, 5)) (K : Go 52 0 [some (2, k), some (0, y), some (0, z)] [] G M (fun r G' M' => Go 74 342 ls (r.toList ++ st) G' M' Q)) : Go 74 339 ls ((0, z) :: (0, y) :: (2, k) :: st) G M Q := go_callV hq74 k74_339 fc7_28 hq52 rfl (as := [(0, z), (0, y), (2, k)]) rfl rfl (Nat.le_of_ble_eq_true rfl) rfl h8 hk K
theorem k74_342 : cm_at ins_74 342 = some (.iload 12, 2) := by decide +kernel
theorem g74_342 : Go 74 342 [l0, l1, l2, l3, l4, l5, l6, l7, l8, l9, l10, l11, some (0, x), l13] st G M Q ↔ Go 74 344 [l0, l1, l2, l3, l4, l5, l6, l7, l8, l9, l10, l11, some (0, x), l13] ((0, x) :: st) G M Q := go_iload hq74 k74_342 rfl
theorem k74_344 : cm_at ins_74 344 = some (.if_icmp .ne 7, 3) := by decide +kernel
theorem g74_344 : Go 74 344 ls ((0, b) :: (0, a) :: st) G M Q ↔ (cm_in a ∧ cm_in b) ∧ (¬ a = b → Go 74 351 ls st G M Q) ∧ (a = b → Go 74 347 ls st G M Q) := go_icmp_ne hq74 k74_344 (by decide)
theorem k74_347 : cm_at ins_74 347 = some (.iconst 1, 1) := by decide +kernel
theorem g74_347 : Go 74 347 ls st G M Q ↔ Go 74 348 ls ((0, 1) :: st) G M Q := go_iconst hq74 k74_347
theorem k74_348 : cm_at ins_74 348 = some (.goto 4, 3) := by decide +kernel
theorem g74_348 : Go 74 348 ls st G M Q ↔ Go 74 352 ls st G M Q := go_goto hq74 k74_348 (by decide)
theorem k74_351 : cm_at ins_74 351 = some (.iconst 0, 1) := by decide +kernel
theorem g74_351 : Go 74 351 ls st G M Q ↔ Go 74 352 ls ((0, 0) :: st) G M Q := go_iconst hq74 k74_351
theorem k74_352 : cm_at ins_74 352 = some (.istore 9, 2) := by decide +kernel
theorem g74_352 : Go 74 352 [l0, l1, l2, l3, l4, l5, l6, l7, l8, l9, l10, l11, l12, l13] ((0, x) :: st) G M Q ↔ Go 74 354 [l0, l1, l2, l3, l4, l5, l6, l7, l8, some (0, x), l10, l11, l12, l13] st G M Q := go_istore hq74 k74_352 ⟨Nat.le_of_ble_eq_true rfl, rfl, by decide⟩
theorem k74_354 : cm_at ins_74 354 = some (.goto 59, 3) := by decide +kernel
theorem g74_354 : Go 74 354 ls st G M Q ↔ Go 74 413 ls st G M Q := go_goto hq74 k74_354 (by decide)
theorem k74_357 : cm_at ins_74 357 = some (.iload 8, 2) := by decide +kernel
theorem g74_357 : Go 74 357 [l0, l1, l2, l3, l4, l5, l6, l7, some (0, x), l9, l10, l11, l12, l13] st G M Q ↔ Go 74 359 [l0, l1, l2, l3, l4, l5, l6, l7, some (0, x), l9, l10, l11, l12, l13] ((0, x) :: st) G M Q := go_iload hq74 k74_357 rfl
theorem k74_359 : cm_at ins_74 359 = some (.iconst 3, 1) := by decide +kernel
theorem g74_359 : Go 74 359 ls st G M Q ↔ Go 74 360 ls ((0, 3) :: st) G M Q := go_iconst hq74 k74_359
theorem k74_360 : cm_at ins_74 360 = some (.if_icmp .ne 43, 3) := by decide +kernel
theorem g74_360 : Go 74 360 ls ((0, b) :: (0, a) :: st) G M Q ↔ (cm_in a ∧ cm_in b) ∧ (¬ a = b → Go 74 403 ls st G M Q) ∧ (a = b → Go 74 363 ls st G M Q) := go_icmp_ne hq74 k74_360 (by decide)
theorem k74_363 : cm_at ins_74 363 = some (.aload_n 1, 1) := by decide +kernel
theorem g74_363 : Go 74 363 [l0, some (2, x), l2, l3, l4, l5, l6, l7, l8, l9, l10, l11, l12, l13] st G M Q ↔ Go 74 364 [l0, some (2, x), l2, l3, l4, l5, l6, l7, l8, l9, l10, l11, l12, l13] ((2, x) :: st) G M Q := go_aload_n hq74 k74_363 rfl
theorem k74_364 : cm_at ins_74 364 = some (.bipush 7, 2) := by decide +kernel
theorem g74_364 : Go 74 364 ls st G M Q ↔ Go 74 366 ls ((0, 7) :: st) G M Q := go_bipush hq74 k74_364 (by decide)
theorem k74_366 : cm_at ins_74 366 = some (.invokevirtual 10, 3) := by decide +kernel
theorem c74_366 (h8 : cm_sum st ≤ 8) (hk : cm_sh G k = some (0, 5)) (K : Go 55 0 [some (2, k), some (0, y)] [] G M (fun r G' M' => Go 74 369 ls (r.toList ++ st) G' M' Q)) : Go 74 366 ls ((0, y) :: (2, k) :: st) G M Q := go_callV hq74 k74_366 fc7_10 hq55 rfl (as := [(0, y), (2, k)]) rfl rfl (Nat.le_of_ble_eq_true rfl) rfl h8 hk K
theorem k74_369 : cm_at ins_74 369 = some (.istore 10, 2) := by decide +kernel
theorem g74_369 : Go 74 369 [l0, l1, l2, l3, l4, l5, l6, l7, l8, l9, l10, l11, l12, l13] ((0, x) :: st) G M Q ↔ Go 74 371 [l0, l1, l2, l3, l4, l5, l6, l7, l8, l9, some (0, x), l11, l12, l13] st G M Q := go_istore hq74 k74_369 ⟨Nat.le_of_ble_eq_true rfl, rfl, by decide⟩
theorem k74_371 : cm_at ins_74 371 = some (.aload_n 1, 1) := by decide +kernel
theorem g74_371 : Go 74 371 [l0, some (2, x), l2, l3, l4, l5, l6, l7, l8, l9, l10, l11, l12, l13] st G M Q ↔ Go 74 372 [l0, some (2, x), l2, l3, l4, l5, l6, l7, l8, l9, l10, l11, l12, l13] ((2, x) :: st) G M Q := go_aload_n hq74 k74_371 rfl
theorem k74_372 : cm_at ins_74 372 = some (.iconst 0, 1) := by decide +kernel
theorem g74_372 : Go 74 372 ls st G M Q ↔ Go 74 373 ls ((0, 0) :: st) G M Q := go_iconst hq74 k74_372
theorem k74_373 : cm_at ins_74 373 = some (.iconst 4, 1) := by decide +kernel
theorem g74_373 : Go 74 373 ls st G M Q ↔ Go 74 374 ls ((0, 4) :: st) G M Q := go_iconst hq74 k74_373
theorem k74_374 : cm_at ins_74 374 = some (.iload 5, 2) := by decide +kernel
theorem g74_374 : Go 74 374 [l0, l1, l2, l3, l4, some (0, x), l6, l7, l8, l9, l10, l11, l12, l13] st G M Q ↔ Go 74 376 [l0, l1, l2, l3, l4, some (0, x), l6, l7, l8, l9, l10, l11, l12, l13] ((0, x) :: st) G M Q := go_iload hq74 k74_374 rfl
theorem k74_376 : cm_at ins_74 376 = some (.bipush 9, 2) := by decide +kernel
theorem g74_376 : Go 74 376 ls st G M Q ↔ Go 74 378 ls ((0, 9) :: st) G M Q := go_bipush hq74 k74_376 (by decide)
theorem k74_378 : cm_at ins_74 378 = some (.ishr, 1) := by decide +kernel
theorem g74_378 : Go 74 378 ls ((0, b) :: (0, a) :: st) G M Q ↔ Go 74 379 ls ((0, cm_ishr a b) :: st) G M Q := go_ishr hq74 k74_378
theorem k74_379 : cm_at ins_74 379 = some (.bipush 17, 2) := by decide +kernel
theorem g74_379 : Go 74 379 ls st G M Q ↔ Go 74 381 ls ((0, 17) :: st) G M Q := go_bipush hq74 k74_379 (by decide)
theorem k74_381 : cm_at ins_74 381 = some (.invokestatic 16, 3) := by decide +kernel
theorem c74_381 (h8 : cm_sum st ≤ 8) (K : Go 65 0 [some (0, x), some (0, y)] [] G M (fun r G' M' => Go 74 384 ls (r.toList ++ st) G' M' Q)) : Go 74 381 ls ((0, y) :: (0, x) :: st) G M Q := go_callS hq74 k74_381 fc7_16 ⟨by decide, by decide⟩ hq65 rfl (as := [(0, y), (0, x)]) rfl rfl (Nat.le_of_ble_eq_true rfl) h8 K
theorem k74_384 : cm_at ins_74 384 = some (.iadd, 1) := by decide +kernel
theorem g74_384 : Go 74 384 ls ((0, b) :: (0, a) :: st) G M Q ↔ Go 74 385 ls ((0, a + b) :: st) G M Q := go_iadd hq74 k74_384
theorem k74_385 : cm_at ins_74 385 = some (.invokevirtual 34, 3) := by decide +kernel
theorem c74_385 (h8 : cm_sum st ≤ 8) (hk : cm_sh G k = some (0, 5)) (K : Go 46 0 [some (2, k), some (0, y), some (0, z), none] [] G M (fun r G' M' => Go 74 388 ls (r.toList ++ st) G' M' Q)) : Go 74 385 ls ((0, z) :: (0, y) :: (2, k) :: st) G M Q := go_callV hq74 k74_385 fc7_34 hq46 rfl (as := [(0, z), (0, y), (2, k)]) rfl rfl (Nat.le_of_ble_eq_true rfl) rfl h8 hk K
theorem k74_388 : cm_at ins_74 388 = some (.iload 10, 2) := by decide +kernel
theorem g74_388 : Go 74 388 [l0, l1, l2, l3, l4, l5, l6, l7, l8, l9, some (0, x), l11, l12, l13] st G M Q ↔ Go 74 390 [l0, l1, l2, l3, l4, l5, l6, l7, l8, l9, some (0, x), l11, l12, l13] ((0, x) :: st) G M Q := go_iload hq74 k74_388 rfl
theorem k74_390 : cm_at ins_74 390 = some (.if_icmp .ne 7, 3) := by decide +kernel
theorem g74_390 : Go 74 390 ls ((0, b) :: (0, a) :: st) G M Q ↔ (cm_in a ∧ cm_in b) ∧ (¬ a = b → Go 74 397 ls st G M Q) ∧ (a = b → Go 74 393 ls st G M Q) := go_icmp_ne hq74 k74_390 (by decide)
theorem k74_393 : cm_at ins_74 393 = some (.iconst 1, 1) := by decide +kernel
theorem g74_393 : Go 74 393 ls st G M Q ↔ Go 74 394 ls ((0, 1) :: st) G M Q := go_iconst hq74 k74_393
theorem k74_394 : cm_at ins_74 394 = some (.goto 4, 3) := by decide +kernel
theorem g74_394 : Go 74 394 ls st G M Q ↔ Go 74 398 ls st G M Q := go_goto hq74 k74_394 (by decide)
theorem k74_397 : cm_at ins_74 397 = some (.iconst 0, 1) := by decide +kernel
theorem g74_397 : Go 74 397 ls st G M Q ↔ Go 74 398 ls ((0, 0) :: st) G M Q := go_iconst hq74 k74_397
theorem k74_398 : cm_at ins_74 398 = some (.istore 9, 2) := by decide +kernel
theorem g74_398 : Go 74 398 [l0, l1, l2, l3, l4, l5, l6, l7, l8, l9, l10, l11, l12, l13] ((0, x) :: st) G M Q ↔ Go 74 400 [l0, l1, l2, l3, l4, l5, l6, l7, l8, some (0, x), l10, l11, l12, l13] st G M Q := go_istore hq74 k74_398 ⟨Nat.le_of_ble_eq_true rfl, rfl, by decide⟩
theorem k74_400 : cm_at ins_74 400 = some (.goto 13, 3) := by decide +kernel
theorem g74_400 : Go 74 400 ls st G M Q ↔ Go 74 413 ls st G M Q := go_goto hq74 k74_400 (by decide)
theorem k74_403 : cm_at ins_74 403 = some (.aload_n 1, 1) := by decide +kernel
theorem g74_403 : Go 74 403 [l0, some (2, x), l2, l3, l4, l5, l6, l7, l8, l9, l10, l11, l12, l13] st G M Q ↔ Go 74 404 [l0, some (2, x), l2, l3, l4, l5, l6, l7, l8, l9, l10, l11, l12, l13] ((2, x) :: st) G M Q := go_aload_n hq74 k74_403 rfl
theorem k74_404 : cm_at ins_74 404 = some (.iload 5, 2) := by decide +kernel
theorem g74_404 : Go 74 404 [l0, l1, l2, l3, l4, some (0, x), l6, l7, l8, l9, l10, l11, l12, l13] st G M Q ↔ Go 74 406 [l0, l1, l2, l3, l4, some (0, x), l6, l7, l8, l9, l10, l11, l12, l13] ((0, x) :: st) G M Q := go_iload hq74 k74_404 rfl
theorem k74_406 : cm_at ins_74 406 = some (.iconst 5, 1) := by decide +kernel
theorem g74_406 : Go 74 406 ls st G M Q ↔ Go 74 407 ls ((0, 5) :: st) G M Q := go_iconst hq74 k74_406
theorem k74_407 : cm_at ins_74 407 = some (.ishr, 1) := by decide +kernel
theorem g74_407 : Go 74 407 ls ((0, b) :: (0, a) :: st) G M Q ↔ Go 74 408 ls ((0, cm_ishr a b) :: st) G M Q := go_ishr hq74 k74_407
theorem k74_408 : cm_at ins_74 408 = some (.invokestatic 84, 3) := by decide +kernel
theorem c74_408 (h8 : cm_sum st ≤ 8) (K : Go 66 0 [some (2, x), some (0, y), none, none, none, none, none] [] G M (fun r G' M' => Go 74 411 ls (r.toList ++ st) G' M' Q)) : Go 74 408 ls ((0, y) :: (2, x) :: st) G M Q := go_callS hq74 k74_408 fc7_84 ⟨by decide, by decide⟩ hq66 rfl (as := [(0, y), (2, x)]) rfl rfl (Nat.le_of_ble_eq_true rfl) h8 K
theorem k74_411 : cm_at ins_74 411 = some (.istore 9, 2) := by decide +kernel
theorem g74_411 : Go 74 411 [l0, l1, l2, l3, l4, l5, l6, l7, l8, l9, l10, l11, l12, l13] ((0, x) :: st) G M Q ↔ Go 74 413 [l0, l1, l2, l3, l4, l5, l6, l7, l8, some (0, x), l10, l11, l12, l13] st G M Q := go_istore hq74 k74_411 ⟨Nat.le_of_ble_eq_true rfl, rfl, by decide⟩
theorem k74_413 : cm_at ins_74 413 = some (.iload 9, 2) := by decide +kernel
theorem g74_413 : Go 74 413 [l0, l1, l2, l3, l4, l5, l6, l7, l8, some (0, x), l10, l11, l12, l13] st G M Q ↔ Go 74 415 [l0, l1, l2, l3, l4, l5, l6, l7, l8, some (0, x), l10, l11, l12, l13] ((0, x) :: st) G M Q := go_iload hq74 k74_413 rfl
theorem k74_415 : cm_at ins_74 415 = some (.ifCond .eq 15, 3) := by decide +kernel
theorem g74_415 : Go 74 415 ls ((0, a) :: st) G M Q ↔ cm_in a ∧ (a = 0 → Go 74 430 ls st G M Q) ∧ (¬ a = 0 → Go 74 418 ls st G M Q) := go_if_eq hq74 k74_415 (by decide)
theorem k74_418 : cm_at ins_74 418 = some (.aload_n 1, 1) := by decide +kernel
theorem g74_418 : Go 74 418 [l0, some (2, x), l2, l3, l4, l5, l6, l7, l8, l9, l10, l11, l12, l13] st G M Q ↔ Go 74 419 [l0, some (2, x), l2, l3, l4, l5, l6, l7, l8, l9, l10, l11, l12, l13] ((2, x) :: st) G M Q := go_aload_n hq74 k74_418 rfl
theorem k74_419 : cm_at ins_74 419 = some (.iload 5, 2) := by decide +kernel
theorem g74_419 : Go 74 419 [l0, l1, l2, l3, l4, some (0, x), l6, l7, l8, l9, l10, l11, l12, l13] st G M Q ↔ Go 74 421 [l0, l1, l2, l3, l4, some (0, x), l6, l7, l8, l9, l10, l11, l12, l13] ((0, x) :: st) G M Q := go_iload hq74 k74_419 rfl
theorem k74_421 : cm_at ins_74 421 = some (.bipush 7, 2) := by decide +kernel
theorem g74_421 : Go 74 421 ls st G M Q ↔ Go 74 423 ls ((0, 7) :: st) G M Q := go_bipush hq74 k74_421 (by decide)
theorem k74_423 : cm_at ins_74 423 = some (.ishr, 1) := by decide +kernel
theorem g74_423 : Go 74 423 ls ((0, b) :: (0, a) :: st) G M Q ↔ Go 74 424 ls ((0, cm_ishr a b) :: st) G M Q := go_ishr hq74 k74_423
theorem k74_424 : cm_at ins_74 424 = some (.invokestatic 77, 3) := by decide +kernel
theorem c74_424 (h8 : cm_sum st ≤ 8) (K : Go 70 0 [some (2, x), some (0, y), none, none, none, none, none, none, none, none, none, none, none, none, none, none] [] G M (fun r G' M' => Go 74 427 ls (r.toList ++ st) G' M' Q)) : Go 74 424 ls ((0, y) :: (2, x) :: st) G M Q := go_callS hq74 k74_424 fc7_77 ⟨by decide, by decide⟩ hq70 rfl (as := [(0, y), (2, x)]) rfl rfl (Nat.le_of_ble_eq_true rfl) h8 K
theorem k74_427 : cm_at ins_74 427 = some (.ifCond .ne 5, 3) := by decide +kernel
theorem g74_427 : Go 74 427 ls ((0, a) :: st) G M Q ↔ cm_in a ∧ (¬ a = 0 → Go 74 432 ls st G M Q) ∧ (a = 0 → Go 74 430 ls st G M Q) := go_if_ne hq74 k74_427 (by decide)
theorem k74_430 : cm_at ins_74 430 = some (.iconst 0, 1) := by decide +kernel
theorem g74_430 : Go 74 430 ls st G M Q ↔ Go 74 431 ls ((0, 0) :: st) G M Q := go_iconst hq74 k74_430
theorem k74_431 : cm_at ins_74 431 = some (.ireturn, 1) := by decide +kernel
theorem g74_431 : Go 74 431 ls [(0, v)] G M Q ↔ (v = 0 ∨ v = 1) ∧ Q (some (0, v)) G M := go_zreturn hq74 k74_431 rfl
theorem k74_432 : cm_at ins_74 432 = some (.iinc 4 1, 3) := by decide +kernel
theorem g74_432 : Go 74 432 [l0, l1, l2, l3, some (0, x), l5, l6, l7, l8, l9, l10, l11, l12, l13] st G M Q ↔ Go 74 435 [l0, l1, l2, l3, some (0, x + 1), l5, l6, l7, l8, l9, l10, l11, l12, l13] st G M Q := go_iinc hq74 k74_432 rfl ⟨rfl, by decide⟩
theorem k74_435 : cm_at ins_74 435 = some (.goto (-343), 3) := by decide +kernel
theorem g74_435 : Go 74 435 ls st G M Q ↔ Go 74 92 ls st G M Q := go_goto hq74 k74_435 (by decide)
theorem k74_438 : cm_at ins_74 438 = some (.iconst 1, 1) := by decide +kernel
theorem g74_438 : Go 74 438 ls st G M Q ↔ Go 74 439 ls ((0, 1) :: st) G M Q := go_iconst hq74 k74_438
theorem k74_439 : cm_at ins_74 439 = some (.ireturn, 1) := by decide +kernel
theorem g74_439 : Go 74 439 ls [(0, v)] G M Q ↔ (v = 0 ∨ v = 1) ∧ Q (some (0, v)) G M := go_zreturn hq74 k74_439 rfl
end RULES
