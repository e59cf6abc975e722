theorem dX7_init_0 : decode cX7_init 0 = .ok (.aload_n 0, 1) := by decide +kernel
theorem dX7_init_1 : decode cX7_init 1 = .ok (.invokespecial 1, 3) := by decide +kernel
theorem dX7_init_4 : decode cX7_init 4 = .ok (.aload_n 0, 1) := by decide +kernel
theorem dX7_init_5 : decode cX7_init 5 = .ok (.iconst 3, 1) := by decide +kernel
theorem dX7_init_6 : decode cX7_init 6 = .ok (.bipush 8, 2) := by decide +kernel
theorem dX7_init_8 : decode cX7_init 8 = .ok (.multianewarray 9 2, 4) := by decide +kernel
theorem dX7_init_12 : decode cX7_init 12 = .ok (.putfield 11, 3) := by decide +kernel
theorem dX7_init_15 : decode cX7_init 15 = .ok (.aload_n 0, 1) := by decide +kernel
theorem dX7_init_16 : decode cX7_init 16 = .ok (.iconst 3, 1) := by decide +kernel
theorem dX7_init_17 : decode cX7_init 17 = .ok (.bipush 8, 2) := by decide +kernel
theorem dX7_init_19 : decode cX7_init 19 = .ok (.multianewarray 14 2, 4) := by decide +kernel
theorem dX7_init_23 : decode cX7_init 23 = .ok (.putfield 16, 3) := by decide +kernel
theorem dX7_init_26 : decode cX7_init 26 = .ok (.aload_n 0, 1) := by decide +kernel
theorem dX7_init_27 : decode cX7_init 27 = .ok (.iconst 3, 1) := by decide +kernel
theorem dX7_init_28 : decode cX7_init 28 = .ok (.bipush 8, 2) := by decide +kernel
theorem dX7_init_30 : decode cX7_init 30 = .ok (.multianewarray 19 2, 4) := by decide +kernel
theorem dX7_init_34 : decode cX7_init 34 = .ok (.putfield 21, 3) := by decide +kernel
theorem dX7_init_37 : decode cX7_init 37 = .ok (.aload_n 0, 1) := by decide +kernel
theorem dX7_init_38 : decode cX7_init 38 = .ok (.iconst 3, 1) := by decide +kernel
theorem dX7_init_39 : decode cX7_init 39 = .ok (.bipush 8, 2) := by decide +kernel
theorem dX7_init_41 : decode cX7_init 41 = .ok (.multianewarray 14 2, 4) := by decide +kernel
theorem dX7_init_45 : decode cX7_init 45 = .ok (.putfield 24, 3) := by decide +kernel
theorem dX7_init_48 : decode cX7_init 48 = .ok (.aload_n 0, 1) := by decide +kernel
theorem dX7_init_49 : decode cX7_init 49 = .ok (.iconst 3, 1) := by decide +kernel
theorem dX7_init_50 : decode cX7_init 50 = .ok (.bipush 8, 2) := by decide +kernel
theorem dX7_init_52 : decode cX7_init 52 = .ok (.bipush 6, 2) := by decide +kernel
theorem dX7_init_54 : decode cX7_init 54 = .ok (.multianewarray 27 3, 4) := by decide +kernel
theorem dX7_init_58 : decode cX7_init 58 = .ok (.putfield 29, 3) := by decide +kernel
theorem dX7_init_61 : decode cX7_init 61 = .ok (.aload_n 0, 1) := by decide +kernel
theorem dX7_init_62 : decode cX7_init 62 = .ok (.iconst 3, 1) := by decide +kernel
theorem dX7_init_63 : decode cX7_init 63 = .ok (.bipush 8, 2) := by decide +kernel
theorem dX7_init_65 : decode cX7_init 65 = .ok (.bipush 6, 2) := by decide +kernel
theorem dX7_init_67 : decode cX7_init 67 = .ok (.multianewarray 32 3, 4) := by decide +kernel
theorem dX7_init_71 : decode cX7_init 71 = .ok (.putfield 34, 3) := by decide +kernel
theorem dX7_init_74 : decode cX7_init 74 = .ok (.aload_n 0, 1) := by decide +kernel
theorem dX7_init_75 : decode cX7_init 75 = .ok (.iconst 3, 1) := by decide +kernel
theorem dX7_init_76 : decode cX7_init 76 = .ok (.bipush 8, 2) := by decide +kernel
theorem dX7_init_78 : decode cX7_init 78 = .ok (.bipush 6, 2) := by decide +kernel
theorem dX7_init_80 : decode cX7_init 80 = .ok (.multianewarray 32 3, 4) := by decide +kernel
theorem dX7_init_84 : decode cX7_init 84 = .ok (.putfield 37, 3) := by decide +kernel
theorem dX7_init_87 : decode cX7_init 87 = .ok (.aload_n 0, 1) := by decide +kernel
theorem dX7_init_88 : decode cX7_init 88 = .ok (.iconst 3, 1) := by decide +kernel
theorem dX7_init_89 : decode cX7_init 89 = .ok (.bipush 8, 2) := by decide +kernel
theorem dX7_init_91 : decode cX7_init 91 = .ok (.iconst 2, 1) := by decide +kernel
theorem dX7_init_92 : decode cX7_init 92 = .ok (.multianewarray 32 3, 4) := by decide +kernel
theorem dX7_init_96 : decode cX7_init 96 = .ok (.putfield 40, 3) := by decide +kernel
theorem dX7_init_99 : decode cX7_init 99 = .ok (.aload_n 0, 1) := by decide +kernel
theorem dX7_init_100 : decode cX7_init 100 = .ok (.iconst 3, 1) := by decide +kernel
theorem dX7_init_101 : decode cX7_init 101 = .ok (.newarray .int, 2) := by decide +kernel
theorem dX7_init_103 : decode cX7_init 103 = .ok (.putfield 43, 3) := by decide +kernel
theorem dX7_init_106 : decode cX7_init 106 = .ok (.aload_n 0, 1) := by decide +kernel
theorem dX7_init_107 : decode cX7_init 107 = .ok (.iconst 3, 1) := by decide +kernel
theorem dX7_init_108 : decode cX7_init 108 = .ok (.newarray .boolean, 2) := by decide +kernel
theorem dX7_init_110 : decode cX7_init 110 = .ok (.putfield 47, 3) := by decide +kernel
theorem dX7_init_113 : decode cX7_init 113 = .ok (.aload_n 0, 1) := by decide +kernel
theorem dX7_init_114 : decode cX7_init 114 = .ok (.iconst 4, 1) := by decide +kernel
theorem dX7_init_115 : decode cX7_init 115 = .ok (.newarray .int, 2) := by decide +kernel
theorem dX7_init_117 : decode cX7_init 117 = .ok (.putfield 51, 3) := by decide +kernel
theorem dX7_init_120 : decode cX7_init 120 = .ok (.aload_n 0, 1) := by decide +kernel
theorem dX7_init_121 : decode cX7_init 121 = .ok (.iconst 4, 1) := by decide +kernel
theorem dX7_init_122 : decode cX7_init 122 = .ok (.iconst 4, 1) := by decide +kernel
theorem dX7_init_123 : decode cX7_init 123 = .ok (.multianewarray 14 2, 4) := by decide +kernel
theorem dX7_init_127 : decode cX7_init 127 = .ok (.putfield 54, 3) := by decide +kernel
theorem dX7_init_130 : decode cX7_init 130 = .ok (.aload_n 0, 1) := by decide +kernel
theorem dX7_init_131 : decode cX7_init 131 = .ok (.iconst 4, 1) := by decide +kernel
theorem dX7_init_132 : decode cX7_init 132 = .ok (.newarray .boolean, 2) := by decide +kernel
theorem dX7_init_134 : decode cX7_init 134 = .ok (.putfield 57, 3) := by decide +kernel
theorem dX7_init_137 : decode cX7_init 137 = .ok (.aload_n 0, 1) := by decide +kernel
theorem dX7_init_138 : decode cX7_init 138 = .ok (.iconst 4, 1) := by decide +kernel
theorem dX7_init_139 : decode cX7_init 139 = .ok (.bipush 8, 2) := by decide +kernel
theorem dX7_init_141 : decode cX7_init 141 = .ok (.multianewarray 9 2, 4) := by decide +kernel
theorem dX7_init_145 : decode cX7_init 145 = .ok (.putfield 60, 3) := by decide +kernel
theorem dX7_init_148 : decode cX7_init 148 = .ok (.aload_n 0, 1) := by decide +kernel
theorem dX7_init_149 : decode cX7_init 149 = .ok (.iconst 4, 1) := by decide +kernel
theorem dX7_init_150 : decode cX7_init 150 = .ok (.bipush 8, 2) := by decide +kernel
theorem dX7_init_152 : decode cX7_init 152 = .ok (.multianewarray 14 2, 4) := by decide +kernel
theorem dX7_init_156 : decode cX7_init 156 = .ok (.putfield 63, 3) := by decide +kernel
theorem dX7_init_159 : decode cX7_init 159 = .ok (.aload_n 0, 1) := by decide +kernel
theorem dX7_init_160 : decode cX7_init 160 = .ok (.iconst 4, 1) := by decide +kernel
theorem dX7_init_161 : decode cX7_init 161 = .ok (.bipush 8, 2) := by decide +kernel
theorem dX7_init_163 : decode cX7_init 163 = .ok (.multianewarray 14 2, 4) := by decide +kernel
theorem dX7_init_167 : decode cX7_init 167 = .ok (.putfield 66, 3) := by decide +kernel
theorem dX7_init_170 : decode cX7_init 170 = .ok (.aload_n 0, 1) := by decide +kernel
theorem dX7_init_171 : decode cX7_init 171 = .ok (.iconst 4, 1) := by decide +kernel
theorem dX7_init_172 : decode cX7_init 172 = .ok (.newarray .int, 2) := by decide +kernel
theorem dX7_init_174 : decode cX7_init 174 = .ok (.putfield 69, 3) := by decide +kernel
theorem dX7_init_177 : decode cX7_init 177 = .ok (.aload_n 0, 1) := by decide +kernel
theorem dX7_init_178 : decode cX7_init 178 = .ok (.iconst 4, 1) := by decide +kernel
theorem dX7_init_179 : decode cX7_init 179 = .ok (.newarray .int, 2) := by decide +kernel
theorem dX7_init_181 : decode cX7_init 181 = .ok (.putfield 72, 3) := by decide +kernel
theorem dX7_init_184 : decode cX7_init 184 = .ok (.aload_n 0, 1) := by decide +kernel
theorem dX7_init_185 : decode cX7_init 185 = .ok (.iconst 4, 1) := by decide +kernel
theorem dX7_init_186 : decode cX7_init 186 = .ok (.newarray .int, 2) := by decide +kernel
theorem dX7_init_188 : decode cX7_init 188 = .ok (.putfield 75, 3) := by decide +kernel
theorem dX7_init_191 : decode cX7_init 191 = .ok (.aload_n 0, 1) := by decide +kernel
theorem dX7_init_192 : decode cX7_init 192 = .ok (.iconst (-1), 1) := by decide +kernel
theorem dX7_init_193 : decode cX7_init 193 = .ok (.putfield 78, 3) := by decide +kernel
theorem dX7_init_196 : decode cX7_init 196 = .ok (.aload_n 0, 1) := by decide +kernel
theorem dX7_init_197 : decode cX7_init 197 = .ok (.bipush 8, 2) := by decide +kernel
theorem dX7_init_199 : decode cX7_init 199 = .ok (.newarray .char, 2) := by decide +kernel
theorem dX7_init_201 : decode cX7_init 201 = .ok (.putfield 82, 3) := by decide +kernel
theorem dX7_init_204 : decode cX7_init 204 = .ok (.return_, 1) := by decide +kernel
theorem dX7_thrown_0 : decode cX7_thrown 0 = .ok (.aload_n 0, 1) := by decide +kernel
theorem dX7_thrown_1 : decode cX7_thrown 1 = .ok (.getfield 86, 3) := by decide +kernel
theorem dX7_thrown_4 : decode cX7_thrown 4 = .ok (.ireturn, 1) := by decide +kernel
theorem dX7_raises_0 : decode cX7_raises 0 = .ok (.aload_n 0, 1) := by decide +kernel
theorem dX7_raises_1 : decode cX7_raises 1 = .ok (.iload_n 1, 1) := by decide +kernel
theorem dX7_raises_2 : decode cX7_raises 2 = .ok (.putfield 86, 3) := by decide +kernel
theorem dX7_raises_5 : decode cX7_raises 5 = .ok (.iconst 0, 1) := by decide +kernel
theorem dX7_raises_6 : decode cX7_raises 6 = .ok (.ireturn, 1) := by decide +kernel
theorem dX7_in_0 : decode cX7_in 0 = .ok (.iload_n 0, 1) := by decide +kernel
theorem dX7_in_1 : decode cX7_in 1 = .ok (.iload_n 1, 1) := by decide +kernel
theorem dX7_in_2 : decode cX7_in 2 = .ok (.if_icmp .lt 12, 3) := by decide +kernel
theorem dX7_in_5 : decode cX7_in 5 = .ok (.iload_n 0, 1) := by decide +kernel
theorem dX7_in_6 : decode cX7_in 6 = .ok (.iload_n 2, 1) := by decide +kernel
theorem dX7_in_7 : decode cX7_in 7 = .ok (.if_icmp .gt 7, 3) := by decide +kernel
theorem dX7_in_10 : decode cX7_in 10 = .ok (.iconst 1, 1) := by decide +kernel
theorem dX7_in_11 : decode cX7_in 11 = .ok (.goto 4, 3) := by decide +kernel
theorem dX7_in_14 : decode cX7_in 14 = .ok (.iconst 0, 1) := by decide +kernel
theorem dX7_in_15 : decode cX7_in 15 = .ok (.ireturn, 1) := by decide +kernel
theorem dX7_isPlan_0 : decode cX7_isPlan 0 = .ok (.iload_n 1, 1) := by decide +kernel
theorem dX7_isPlan_1 : decode cX7_isPlan 1 = .ok (.iconst 0, 1) := by decide +kernel
theorem dX7_isPlan_2 : decode cX7_isPlan 2 = .ok (.aload_n 0, 1) := by decide +kernel
theorem dX7_isPlan_3 : decode cX7_isPlan 3 = .ok (.getfield 89, 3) := by decide +kernel
theorem dX7_isPlan_6 : decode cX7_isPlan 6 = .ok (.iconst 1, 1) := by decide +kernel
theorem dX7_isPlan_7 : decode cX7_isPlan 7 = .ok (.isub, 1) := by decide +kernel
theorem dX7_isPlan_8 : decode cX7_isPlan 8 = .ok (.invokestatic 92, 3) := by decide +kernel
theorem dX7_isPlan_11 : decode cX7_isPlan 11 = .ok (.ireturn, 1) := by decide +kernel
theorem dX7_isStep_0 : decode cX7_isStep 0 = .ok (.aload_n 0, 1) := by decide +kernel
theorem dX7_isStep_1 : decode cX7_isStep 1 = .ok (.iload_n 1, 1) := by decide +kernel
theorem dX7_isStep_2 : decode cX7_isStep 2 = .ok (.invokevirtual 96, 3) := by decide +kernel
theorem dX7_isStep_5 : decode cX7_isStep 5 = .ok (.ifCond .eq 23, 3) := by decide +kernel
theorem dX7_isStep_8 : decode cX7_isStep 8 = .ok (.iload_n 2, 1) := by decide +kernel
theorem dX7_isStep_9 : decode cX7_isStep 9 = .ok (.iconst 0, 1) := by decide +kernel
theorem dX7_isStep_10 : decode cX7_isStep 10 = .ok (.aload_n 0, 1) := by decide +kernel
theorem dX7_isStep_11 : decode cX7_isStep 11 = .ok (.getfield 43, 3) := by decide +kernel
theorem dX7_isStep_14 : decode cX7_isStep 14 = .ok (.iload_n 1, 1) := by decide +kernel
theorem dX7_isStep_15 : decode cX7_isStep 15 = .ok (.iaload, 1) := by decide +kernel
theorem dX7_isStep_16 : decode cX7_isStep 16 = .ok (.iconst 1, 1) := by decide +kernel
theorem dX7_isStep_17 : decode cX7_isStep 17 = .ok (.isub, 1) := by decide +kernel
theorem dX7_isStep_18 : decode cX7_isStep 18 = .ok (.invokestatic 92, 3) := by decide +kernel
theorem dX7_isStep_21 : decode cX7_isStep 21 = .ok (.ifCond .eq 7, 3) := by decide +kernel
theorem dX7_isStep_24 : decode cX7_isStep 24 = .ok (.iconst 1, 1) := by decide +kernel
theorem dX7_isStep_25 : decode cX7_isStep 25 = .ok (.goto 4, 3) := by decide +kernel
theorem dX7_isStep_28 : decode cX7_isStep 28 = .ok (.iconst 0, 1) := by decide +kernel
theorem dX7_isStep_29 : decode cX7_isStep 29 = .ok (.ireturn, 1) := by decide +kernel
theorem dX7_isCase_0 : decode cX7_isCase 0 = .ok (.iload_n 1, 1) := by decide +kernel
theorem dX7_isCase_1 : decode cX7_isCase 1 = .ok (.iconst 0, 1) := by decide +kernel
theorem dX7_isCase_2 : decode cX7_isCase 2 = .ok (.aload_n 0, 1) := by decide +kernel
theorem dX7_isCase_3 : decode cX7_isCase 3 = .ok (.getfield 100, 3) := by decide +kernel
theorem dX7_isCase_6 : decode cX7_isCase 6 = .ok (.iconst 1, 1) := by decide +kernel
theorem dX7_isCase_7 : decode cX7_isCase 7 = .ok (.isub, 1) := by decide +kernel
theorem dX7_isCase_8 : decode cX7_isCase 8 = .ok (.invokestatic 92, 3) := by decide +kernel
theorem dX7_isCase_11 : decode cX7_isCase 11 = .ok (.ireturn, 1) := by decide +kernel
theorem dX7_isStepOf_0 : decode cX7_isStepOf 0 = .ok (.aload_n 0, 1) := by decide +kernel
theorem dX7_isStepOf_1 : decode cX7_isStepOf 1 = .ok (.iload_n 1, 1) := by decide +kernel
theorem dX7_isStepOf_2 : decode cX7_isStepOf 2 = .ok (.invokevirtual 103, 3) := by decide +kernel
theorem dX7_isStepOf_5 : decode cX7_isStepOf 5 = .ok (.ifCond .eq 21, 3) := by decide +kernel
theorem dX7_isStepOf_8 : decode cX7_isStepOf 8 = .ok (.aload_n 0, 1) := by decide +kernel
theorem dX7_isStepOf_9 : decode cX7_isStepOf 9 = .ok (.aload_n 0, 1) := by decide +kernel
theorem dX7_isStepOf_10 : decode cX7_isStepOf 10 = .ok (.getfield 51, 3) := by decide +kernel
theorem dX7_isStepOf_13 : decode cX7_isStepOf 13 = .ok (.iload_n 1, 1) := by decide +kernel
theorem dX7_isStepOf_14 : decode cX7_isStepOf 14 = .ok (.iaload, 1) := by decide +kernel
theorem dX7_isStepOf_15 : decode cX7_isStepOf 15 = .ok (.iload_n 2, 1) := by decide +kernel
theorem dX7_isStepOf_16 : decode cX7_isStepOf 16 = .ok (.invokevirtual 106, 3) := by decide +kernel
theorem dX7_isStepOf_19 : decode cX7_isStepOf 19 = .ok (.ifCond .eq 7, 3) := by decide +kernel
theorem dX7_isStepOf_22 : decode cX7_isStepOf 22 = .ok (.iconst 1, 1) := by decide +kernel
theorem dX7_isStepOf_23 : decode cX7_isStepOf 23 = .ok (.goto 4, 3) := by decide +kernel
theorem dX7_isStepOf_26 : decode cX7_isStepOf 26 = .ok (.iconst 0, 1) := by decide +kernel
theorem dX7_isStepOf_27 : decode cX7_isStepOf 27 = .ok (.ireturn, 1) := by decide +kernel
theorem dX7_addPlan_0 : decode cX7_addPlan 0 = .ok (.aload_n 0, 1) := by decide +kernel
theorem dX7_addPlan_1 : decode cX7_addPlan 1 = .ok (.getfield 89, 3) := by decide +kernel
theorem dX7_addPlan_4 : decode cX7_addPlan 4 = .ok (.iconst 3, 1) := by decide +kernel
theorem dX7_addPlan_5 : decode cX7_addPlan 5 = .ok (.if_icmp .ne 9, 3) := by decide +kernel
theorem dX7_addPlan_8 : decode cX7_addPlan 8 = .ok (.aload_n 0, 1) := by decide +kernel
theorem dX7_addPlan_9 : decode cX7_addPlan 9 = .ok (.iconst 1, 1) := by decide +kernel
theorem dX7_addPlan_10 : decode cX7_addPlan 10 = .ok (.invokevirtual 110, 3) := by decide +kernel
theorem dX7_addPlan_13 : decode cX7_addPlan 13 = .ok (.ireturn, 1) := by decide +kernel
theorem dX7_addPlan_14 : decode cX7_addPlan 14 = .ok (.aload_n 0, 1) := by decide +kernel
theorem dX7_addPlan_15 : decode cX7_addPlan 15 = .ok (.iconst 0, 1) := by decide +kernel
theorem dX7_addPlan_16 : decode cX7_addPlan 16 = .ok (.putfield 86, 3) := by decide +kernel
theorem dX7_addPlan_19 : decode cX7_addPlan 19 = .ok (.aload_n 0, 1) := by decide +kernel
theorem dX7_addPlan_20 : decode cX7_addPlan 20 = .ok (.dup, 1) := by decide +kernel
theorem dX7_addPlan_21 : decode cX7_addPlan 21 = .ok (.getfield 89, 3) := by decide +kernel
theorem dX7_addPlan_24 : decode cX7_addPlan 24 = .ok (.iconst 1, 1) := by decide +kernel
theorem dX7_addPlan_25 : decode cX7_addPlan 25 = .ok (.iadd, 1) := by decide +kernel
theorem dX7_addPlan_26 : decode cX7_addPlan 26 = .ok (.putfield 89, 3) := by decide +kernel
theorem dX7_addPlan_29 : decode cX7_addPlan 29 = .ok (.aload_n 0, 1) := by decide +kernel
theorem dX7_addPlan_30 : decode cX7_addPlan 30 = .ok (.getfield 89, 3) := by decide +kernel
theorem dX7_addPlan_33 : decode cX7_addPlan 33 = .ok (.iconst 1, 1) := by decide +kernel
theorem dX7_addPlan_34 : decode cX7_addPlan 34 = .ok (.isub, 1) := by decide +kernel
theorem dX7_addPlan_35 : decode cX7_addPlan 35 = .ok (.ireturn, 1) := by decide +kernel
theorem dX7_addStep_0 : decode cX7_addStep 0 = .ok (.aload_n 0, 1) := by decide +kernel
theorem dX7_addStep_1 : decode cX7_addStep 1 = .ok (.iload_n 1, 1) := by decide +kernel
theorem dX7_addStep_2 : decode cX7_addStep 2 = .ok (.invokevirtual 96, 3) := by decide +kernel
theorem dX7_addStep_5 : decode cX7_addStep 5 = .ok (.ifCond .ne 9, 3) := by decide +kernel
theorem dX7_addStep_8 : decode cX7_addStep 8 = .ok (.aload_n 0, 1) := by decide +kernel
theorem dX7_addStep_9 : decode cX7_addStep 9 = .ok (.iconst 1, 1) := by decide +kernel
theorem dX7_addStep_10 : decode cX7_addStep 10 = .ok (.invokevirtual 110, 3) := by decide +kernel
theorem dX7_addStep_13 : decode cX7_addStep 13 = .ok (.ireturn, 1) := by decide +kernel
theorem dX7_addStep_14 : decode cX7_addStep 14 = .ok (.iload_n 2, 1) := by decide +kernel
theorem dX7_addStep_15 : decode cX7_addStep 15 = .ok (.bipush 115, 2) := by decide +kernel
theorem dX7_addStep_17 : decode cX7_addStep 17 = .ok (.if_icmp .eq 15, 3) := by decide +kernel
theorem dX7_addStep_20 : decode cX7_addStep 20 = .ok (.iload_n 2, 1) := by decide +kernel
theorem dX7_addStep_21 : decode cX7_addStep 21 = .ok (.bipush 116, 2) := by decide +kernel
theorem dX7_addStep_23 : decode cX7_addStep 23 = .ok (.if_icmp .eq 9, 3) := by decide +kernel
theorem dX7_addStep_26 : decode cX7_addStep 26 = .ok (.iload_n 2, 1) := by decide +kernel
theorem dX7_addStep_27 : decode cX7_addStep 27 = .ok (.bipush 109, 2) := by decide +kernel
theorem dX7_addStep_29 : decode cX7_addStep 29 = .ok (.if_icmp .ne 7, 3) := by decide +kernel
theorem dX7_addStep_32 : decode cX7_addStep 32 = .ok (.iconst 1, 1) := by decide +kernel
theorem dX7_addStep_33 : decode cX7_addStep 33 = .ok (.goto 4, 3) := by decide +kernel
theorem dX7_addStep_36 : decode cX7_addStep 36 = .ok (.iconst 0, 1) := by decide +kernel
theorem dX7_addStep_37 : decode cX7_addStep 37 = .ok (.istore 4, 2) := by decide +kernel
theorem dX7_addStep_39 : decode cX7_addStep 39 = .ok (.iload_n 3, 1) := by decide +kernel
theorem dX7_addStep_40 : decode cX7_addStep 40 = .ok (.iconst (-1), 1) := by decide +kernel
theorem dX7_addStep_41 : decode cX7_addStep 41 = .ok (.if_icmp .eq 25, 3) := by decide +kernel
theorem dX7_addStep_44 : decode cX7_addStep 44 = .ok (.aload_n 0, 1) := by decide +kernel
theorem dX7_addStep_45 : decode cX7_addStep 45 = .ok (.iload_n 1, 1) := by decide +kernel
theorem dX7_addStep_46 : decode cX7_addStep 46 = .ok (.iload_n 3, 1) := by decide +kernel
theorem dX7_addStep_47 : decode cX7_addStep 47 = .ok (.invokevirtual 106, 3) := by decide +kernel
theorem dX7_addStep_50 : decode cX7_addStep 50 = .ok (.ifCond .eq 20, 3) := by decide +kernel
theorem dX7_addStep_53 : decode cX7_addStep 53 = .ok (.aload_n 0, 1) := by decide +kernel
theorem dX7_addStep_54 : decode cX7_addStep 54 = .ok (.getfield 11, 3) := by decide +kernel
theorem dX7_addStep_57 : decode cX7_addStep 57 = .ok (.iload_n 1, 1) := by decide +kernel
theorem dX7_addStep_58 : decode cX7_addStep 58 = .ok (.aaload, 1) := by decide +kernel
theorem dX7_addStep_59 : decode cX7_addStep 59 = .ok (.iload_n 3, 1) := by decide +kernel
theorem dX7_addStep_60 : decode cX7_addStep 60 = .ok (.caload, 1) := by decide +kernel
theorem dX7_addStep_61 : decode cX7_addStep 61 = .ok (.bipush 115, 2) := by decide +kernel
theorem dX7_addStep_63 : decode cX7_addStep 63 = .ok (.if_icmp .ne 7, 3) := by decide +kernel
theorem dX7_addStep_66 : decode cX7_addStep 66 = .ok (.iconst 1, 1) := by decide +kernel
theorem dX7_addStep_67 : decode cX7_addStep 67 = .ok (.goto 4, 3) := by decide +kernel
theorem dX7_addStep_70 : decode cX7_addStep 70 = .ok (.iconst 0, 1) := by decide +kernel
theorem dX7_addStep_71 : decode cX7_addStep 71 = .ok (.istore 5, 2) := by decide +kernel
theorem dX7_addStep_73 : decode cX7_addStep 73 = .ok (.aload_n 0, 1) := by decide +kernel
theorem dX7_addStep_74 : decode cX7_addStep 74 = .ok (.iload 4, 2) := by decide +kernel
theorem dX7_addStep_76 : decode cX7_addStep 76 = .ok (.ifCond .eq 8, 3) := by decide +kernel
theorem dX7_addStep_79 : decode cX7_addStep 79 = .ok (.iload 5, 2) := by decide +kernel
theorem dX7_addStep_81 : decode cX7_addStep 81 = .ok (.ifCond .ne 7, 3) := by decide +kernel
theorem dX7_addStep_84 : decode cX7_addStep 84 = .ok (.iconst 2, 1) := by decide +kernel
theorem dX7_addStep_85 : decode cX7_addStep 85 = .ok (.goto 28, 3) := by decide +kernel
theorem dX7_addStep_88 : decode cX7_addStep 88 = .ok (.aload_n 0, 1) := by decide +kernel
theorem dX7_addStep_89 : decode cX7_addStep 89 = .ok (.getfield 47, 3) := by decide +kernel
theorem dX7_addStep_92 : decode cX7_addStep 92 = .ok (.iload_n 1, 1) := by decide +kernel
theorem dX7_addStep_93 : decode cX7_addStep 93 = .ok (.baload, 1) := by decide +kernel
theorem dX7_addStep_94 : decode cX7_addStep 94 = .ok (.ifCond .ne 14, 3) := by decide +kernel
theorem dX7_addStep_97 : decode cX7_addStep 97 = .ok (.aload_n 0, 1) := by decide +kernel
theorem dX7_addStep_98 : decode cX7_addStep 98 = .ok (.getfield 43, 3) := by decide +kernel
theorem dX7_addStep_101 : decode cX7_addStep 101 = .ok (.iload_n 1, 1) := by decide +kernel
theorem dX7_addStep_102 : decode cX7_addStep 102 = .ok (.iaload, 1) := by decide +kernel
theorem dX7_addStep_103 : decode cX7_addStep 103 = .ok (.bipush 8, 2) := by decide +kernel
theorem dX7_addStep_105 : decode cX7_addStep 105 = .ok (.if_icmp .ne 7, 3) := by decide +kernel
theorem dX7_addStep_108 : decode cX7_addStep 108 = .ok (.iconst 3, 1) := by decide +kernel
theorem dX7_addStep_109 : decode cX7_addStep 109 = .ok (.goto 4, 3) := by decide +kernel
theorem dX7_addStep_112 : decode cX7_addStep 112 = .ok (.iconst 0, 1) := by decide +kernel
theorem dX7_addStep_113 : decode cX7_addStep 113 = .ok (.putfield 86, 3) := by decide +kernel
theorem dX7_addStep_116 : decode cX7_addStep 116 = .ok (.aload_n 0, 1) := by decide +kernel
theorem dX7_addStep_117 : decode cX7_addStep 117 = .ok (.getfield 86, 3) := by decide +kernel
theorem dX7_addStep_120 : decode cX7_addStep 120 = .ok (.ifCond .le 5, 3) := by decide +kernel
theorem dX7_addStep_123 : decode cX7_addStep 123 = .ok (.iconst 0, 1) := by decide +kernel
theorem dX7_addStep_124 : decode cX7_addStep 124 = .ok (.ireturn, 1) := by decide +kernel
theorem dX7_addStep_125 : decode cX7_addStep 125 = .ok (.aload_n 0, 1) := by decide +kernel
theorem dX7_addStep_126 : decode cX7_addStep 126 = .ok (.getfield 43, 3) := by decide +kernel
theorem dX7_addStep_129 : decode cX7_addStep 129 = .ok (.iload_n 1, 1) := by decide +kernel
theorem dX7_addStep_130 : decode cX7_addStep 130 = .ok (.iaload, 1) := by decide +kernel
theorem dX7_addStep_131 : decode cX7_addStep 131 = .ok (.istore 6, 2) := by decide +kernel
theorem dX7_addStep_133 : decode cX7_addStep 133 = .ok (.aload_n 0, 1) := by decide +kernel
theorem dX7_addStep_134 : decode cX7_addStep 134 = .ok (.getfield 11, 3) := by decide +kernel
theorem dX7_addStep_137 : decode cX7_addStep 137 = .ok (.iload_n 1, 1) := by decide +kernel
theorem dX7_addStep_138 : decode cX7_addStep 138 = .ok (.aaload, 1) := by decide +kernel
theorem dX7_addStep_139 : decode cX7_addStep 139 = .ok (.iload 6, 2) := by decide +kernel
theorem dX7_addStep_141 : decode cX7_addStep 141 = .ok (.iload_n 2, 1) := by decide +kernel
theorem dX7_addStep_142 : decode cX7_addStep 142 = .ok (.castore, 1) := by decide +kernel
theorem dX7_addStep_143 : decode cX7_addStep 143 = .ok (.aload_n 0, 1) := by decide +kernel
theorem dX7_addStep_144 : decode cX7_addStep 144 = .ok (.getfield 16, 3) := by decide +kernel
theorem dX7_addStep_147 : decode cX7_addStep 147 = .ok (.iload_n 1, 1) := by decide +kernel
theorem dX7_addStep_148 : decode cX7_addStep 148 = .ok (.aaload, 1) := by decide +kernel
theorem dX7_addStep_149 : decode cX7_addStep 149 = .ok (.iload 6, 2) := by decide +kernel
theorem dX7_addStep_151 : decode cX7_addStep 151 = .ok (.iload_n 3, 1) := by decide +kernel
theorem dX7_addStep_152 : decode cX7_addStep 152 = .ok (.iastore, 1) := by decide +kernel
theorem dX7_addStep_153 : decode cX7_addStep 153 = .ok (.aload_n 0, 1) := by decide +kernel
theorem dX7_addStep_154 : decode cX7_addStep 154 = .ok (.getfield 21, 3) := by decide +kernel
theorem dX7_addStep_157 : decode cX7_addStep 157 = .ok (.iload_n 1, 1) := by decide +kernel
theorem dX7_addStep_158 : decode cX7_addStep 158 = .ok (.aaload, 1) := by decide +kernel
theorem dX7_addStep_159 : decode cX7_addStep 159 = .ok (.iload 6, 2) := by decide +kernel
theorem dX7_addStep_161 : decode cX7_addStep 161 = .ok (.iload_n 2, 1) := by decide +kernel
theorem dX7_addStep_162 : decode cX7_addStep 162 = .ok (.bipush 116, 2) := by decide +kernel
theorem dX7_addStep_164 : decode cX7_addStep 164 = .ok (.if_icmp .ne 7, 3) := by decide +kernel
theorem dX7_addStep_167 : decode cX7_addStep 167 = .ok (.iconst 1, 1) := by decide +kernel
theorem dX7_addStep_168 : decode cX7_addStep 168 = .ok (.goto 4, 3) := by decide +kernel
theorem dX7_addStep_171 : decode cX7_addStep 171 = .ok (.iconst 0, 1) := by decide +kernel
theorem dX7_addStep_172 : decode cX7_addStep 172 = .ok (.bastore, 1) := by decide +kernel
theorem dX7_addStep_173 : decode cX7_addStep 173 = .ok (.aload_n 0, 1) := by decide +kernel
theorem dX7_addStep_174 : decode cX7_addStep 174 = .ok (.getfield 24, 3) := by decide +kernel
theorem dX7_addStep_177 : decode cX7_addStep 177 = .ok (.iload_n 1, 1) := by decide +kernel
theorem dX7_addStep_178 : decode cX7_addStep 178 = .ok (.aaload, 1) := by decide +kernel
theorem dX7_addStep_179 : decode cX7_addStep 179 = .ok (.iload 6, 2) := by decide +kernel
theorem dX7_addStep_181 : decode cX7_addStep 181 = .ok (.bipush 10, 2) := by decide +kernel
theorem dX7_addStep_183 : decode cX7_addStep 183 = .ok (.iastore, 1) := by decide +kernel
theorem dX7_addStep_184 : decode cX7_addStep 184 = .ok (.aload_n 0, 1) := by decide +kernel
theorem dX7_addStep_185 : decode cX7_addStep 185 = .ok (.getfield 43, 3) := by decide +kernel
theorem dX7_addStep_188 : decode cX7_addStep 188 = .ok (.iload_n 1, 1) := by decide +kernel
theorem dX7_addStep_189 : decode cX7_addStep 189 = .ok (.dup2, 1) := by decide +kernel
theorem dX7_addStep_190 : decode cX7_addStep 190 = .ok (.iaload, 1) := by decide +kernel
theorem dX7_addStep_191 : decode cX7_addStep 191 = .ok (.iconst 1, 1) := by decide +kernel
theorem dX7_addStep_192 : decode cX7_addStep 192 = .ok (.iadd, 1) := by decide +kernel
theorem dX7_addStep_193 : decode cX7_addStep 193 = .ok (.iastore, 1) := by decide +kernel
theorem dX7_addStep_194 : decode cX7_addStep 194 = .ok (.iload 6, 2) := by decide +kernel
theorem dX7_addStep_196 : decode cX7_addStep 196 = .ok (.ireturn, 1) := by decide +kernel
theorem dX7_isCondition_0 : decode cX7_isCondition 0 = .ok (.iload_n 2, 1) := by decide +kernel
theorem dX7_isCondition_1 : decode cX7_isCondition 1 = .ok (.bipush 100, 2) := by decide +kernel
theorem dX7_isCondition_3 : decode cX7_isCondition 3 = .ok (.if_icmp .eq 9, 3) := by decide +kernel
theorem dX7_isCondition_6 : decode cX7_isCondition 6 = .ok (.iload_n 2, 1) := by decide +kernel
theorem dX7_isCondition_7 : decode cX7_isCondition 7 = .ok (.bipush 108, 2) := by decide +kernel
theorem dX7_isCondition_9 : decode cX7_isCondition 9 = .ok (.if_icmp .ne 30, 3) := by decide +kernel
theorem dX7_isCondition_12 : decode cX7_isCondition 12 = .ok (.iload_n 3, 1) := by decide +kernel
theorem dX7_isCondition_13 : decode cX7_isCondition 13 = .ok (.iconst 0, 1) := by decide +kernel
theorem dX7_isCondition_14 : decode cX7_isCondition 14 = .ok (.iconst 3, 1) := by decide +kernel
theorem dX7_isCondition_15 : decode cX7_isCondition 15 = .ok (.invokestatic 92, 3) := by decide +kernel
theorem dX7_isCondition_18 : decode cX7_isCondition 18 = .ok (.ifCond .eq 19, 3) := by decide +kernel
theorem dX7_isCondition_21 : decode cX7_isCondition 21 = .ok (.iload 4, 2) := by decide +kernel
theorem dX7_isCondition_23 : decode cX7_isCondition 23 = .ok (.bipush (-99), 2) := by decide +kernel
theorem dX7_isCondition_25 : decode cX7_isCondition 25 = .ok (.bipush 99, 2) := by decide +kernel
theorem dX7_isCondition_27 : decode cX7_isCondition 27 = .ok (.invokestatic 92, 3) := by decide +kernel
theorem dX7_isCondition_30 : decode cX7_isCondition 30 = .ok (.ifCond .eq 7, 3) := by decide +kernel
theorem dX7_isCondition_33 : decode cX7_isCondition 33 = .ok (.iconst 1, 1) := by decide +kernel
theorem dX7_isCondition_34 : decode cX7_isCondition 34 = .ok (.goto 4, 3) := by decide +kernel
theorem dX7_isCondition_37 : decode cX7_isCondition 37 = .ok (.iconst 0, 1) := by decide +kernel
theorem dX7_isCondition_38 : decode cX7_isCondition 38 = .ok (.ireturn, 1) := by decide +kernel
theorem dX7_isCondition_39 : decode cX7_isCondition 39 = .ok (.iload_n 2, 1) := by decide +kernel
theorem dX7_isCondition_40 : decode cX7_isCondition 40 = .ok (.bipush 101, 2) := by decide +kernel
theorem dX7_isCondition_42 : decode cX7_isCondition 42 = .ok (.if_icmp .ne 13, 3) := by decide +kernel
theorem dX7_isCondition_45 : decode cX7_isCondition 45 = .ok (.iload_n 3, 1) := by decide +kernel
theorem dX7_isCondition_46 : decode cX7_isCondition 46 = .ok (.iconst 0, 1) := by decide +kernel
theorem dX7_isCondition_47 : decode cX7_isCondition 47 = .ok (.bipush 9, 2) := by decide +kernel
theorem dX7_isCondition_49 : decode cX7_isCondition 49 = .ok (.invokestatic 92, 3) := by decide +kernel
theorem dX7_isCondition_52 : decode cX7_isCondition 52 = .ok (.goto 40, 3) := by decide +kernel
theorem dX7_isCondition_55 : decode cX7_isCondition 55 = .ok (.iload_n 2, 1) := by decide +kernel
theorem dX7_isCondition_56 : decode cX7_isCondition 56 = .ok (.bipush 99, 2) := by decide +kernel
theorem dX7_isCondition_58 : decode cX7_isCondition 58 = .ok (.if_icmp .ne 12, 3) := by decide +kernel
theorem dX7_isCondition_61 : decode cX7_isCondition 61 = .ok (.aload_n 0, 1) := by decide +kernel
theorem dX7_isCondition_62 : decode cX7_isCondition 62 = .ok (.iload_n 1, 1) := by decide +kernel
theorem dX7_isCondition_63 : decode cX7_isCondition 63 = .ok (.iload_n 3, 1) := by decide +kernel
theorem dX7_isCondition_64 : decode cX7_isCondition 64 = .ok (.invokevirtual 106, 3) := by decide +kernel
theorem dX7_isCondition_67 : decode cX7_isCondition 67 = .ok (.goto 25, 3) := by decide +kernel
theorem dX7_isCondition_70 : decode cX7_isCondition 70 = .ok (.iload_n 2, 1) := by decide +kernel
theorem dX7_isCondition_71 : decode cX7_isCondition 71 = .ok (.bipush 116, 2) := by decide +kernel
theorem dX7_isCondition_73 : decode cX7_isCondition 73 = .ok (.if_icmp .ne 18, 3) := by decide +kernel
theorem dX7_isCondition_76 : decode cX7_isCondition 76 = .ok (.iload_n 3, 1) := by decide +kernel
theorem dX7_isCondition_77 : decode cX7_isCondition 77 = .ok (.iconst 0, 1) := by decide +kernel
theorem dX7_isCondition_78 : decode cX7_isCondition 78 = .ok (.sipush 999, 3) := by decide +kernel
theorem dX7_isCondition_81 : decode cX7_isCondition 81 = .ok (.invokestatic 92, 3) := by decide +kernel
theorem dX7_isCondition_84 : decode cX7_isCondition 84 = .ok (.ifCond .eq 7, 3) := by decide +kernel
theorem dX7_isCondition_87 : decode cX7_isCondition 87 = .ok (.iconst 1, 1) := by decide +kernel
theorem dX7_isCondition_88 : decode cX7_isCondition 88 = .ok (.goto 4, 3) := by decide +kernel
theorem dX7_isCondition_91 : decode cX7_isCondition 91 = .ok (.iconst 0, 1) := by decide +kernel
theorem dX7_isCondition_92 : decode cX7_isCondition 92 = .ok (.ireturn, 1) := by decide +kernel
theorem dX7_adds_0 : decode cX7_adds 0 = .ok (.iconst 3, 1) := by decide +kernel
theorem dX7_adds_1 : decode cX7_adds 1 = .ok (.iload_n 3, 1) := by decide +kernel
theorem dX7_adds_2 : decode cX7_adds 2 = .ok (.imul, 1) := by decide +kernel
theorem dX7_adds_3 : decode cX7_adds 3 = .ok (.aload_n 0, 1) := by decide +kernel
theorem dX7_adds_4 : decode cX7_adds 4 = .ok (.getfield 40, 3) := by decide +kernel
theorem dX7_adds_7 : decode cX7_adds 7 = .ok (.iload_n 1, 1) := by decide +kernel
theorem dX7_adds_8 : decode cX7_adds 8 = .ok (.aaload, 1) := by decide +kernel
theorem dX7_adds_9 : decode cX7_adds 9 = .ok (.iload_n 2, 1) := by decide +kernel
theorem dX7_adds_10 : decode cX7_adds 10 = .ok (.aaload, 1) := by decide +kernel
theorem dX7_adds_11 : decode cX7_adds 11 = .ok (.iload_n 3, 1) := by decide +kernel
theorem dX7_adds_12 : decode cX7_adds 12 = .ok (.iaload, 1) := by decide +kernel
theorem dX7_adds_13 : decode cX7_adds 13 = .ok (.iadd, 1) := by decide +kernel
theorem dX7_adds_14 : decode cX7_adds 14 = .ok (.istore 7, 2) := by decide +kernel
theorem dX7_adds_16 : decode cX7_adds 16 = .ok (.aload_n 0, 1) := by decide +kernel
theorem dX7_adds_17 : decode cX7_adds 17 = .ok (.getfield 29, 3) := by decide +kernel
theorem dX7_adds_20 : decode cX7_adds 20 = .ok (.iload_n 1, 1) := by decide +kernel
theorem dX7_adds_21 : decode cX7_adds 21 = .ok (.aaload, 1) := by decide +kernel
theorem dX7_adds_22 : decode cX7_adds 22 = .ok (.iload_n 2, 1) := by decide +kernel
theorem dX7_adds_23 : decode cX7_adds 23 = .ok (.aaload, 1) := by decide +kernel
theorem dX7_adds_24 : decode cX7_adds 24 = .ok (.iload 7, 2) := by decide +kernel
theorem dX7_adds_26 : decode cX7_adds 26 = .ok (.iload 4, 2) := by decide +kernel
theorem dX7_adds_28 : decode cX7_adds 28 = .ok (.castore, 1) := by decide +kernel
theorem dX7_adds_29 : decode cX7_adds 29 = .ok (.aload_n 0, 1) := by decide +kernel
theorem dX7_adds_30 : decode cX7_adds 30 = .ok (.getfield 34, 3) := by decide +kernel
theorem dX7_adds_33 : decode cX7_adds 33 = .ok (.iload_n 1, 1) := by decide +kernel
theorem dX7_adds_34 : decode cX7_adds 34 = .ok (.aaload, 1) := by decide +kernel
theorem dX7_adds_35 : decode cX7_adds 35 = .ok (.iload_n 2, 1) := by decide +kernel
theorem dX7_adds_36 : decode cX7_adds 36 = .ok (.aaload, 1) := by decide +kernel
theorem dX7_adds_37 : decode cX7_adds 37 = .ok (.iload 7, 2) := by decide +kernel
theorem dX7_adds_39 : decode cX7_adds 39 = .ok (.iload 5, 2) := by decide +kernel
theorem dX7_adds_41 : decode cX7_adds 41 = .ok (.iastore, 1) := by decide +kernel
theorem dX7_adds_42 : decode cX7_adds 42 = .ok (.aload_n 0, 1) := by decide +kernel
theorem dX7_adds_43 : decode cX7_adds 43 = .ok (.getfield 37, 3) := by decide +kernel
theorem dX7_adds_46 : decode cX7_adds 46 = .ok (.iload_n 1, 1) := by decide +kernel
theorem dX7_adds_47 : decode cX7_adds 47 = .ok (.aaload, 1) := by decide +kernel
theorem dX7_adds_48 : decode cX7_adds 48 = .ok (.iload_n 2, 1) := by decide +kernel
theorem dX7_adds_49 : decode cX7_adds 49 = .ok (.aaload, 1) := by decide +kernel
theorem dX7_adds_50 : decode cX7_adds 50 = .ok (.iload 7, 2) := by decide +kernel
theorem dX7_adds_52 : decode cX7_adds 52 = .ok (.iload 6, 2) := by decide +kernel
theorem dX7_adds_54 : decode cX7_adds 54 = .ok (.iastore, 1) := by decide +kernel
theorem dX7_adds_55 : decode cX7_adds 55 = .ok (.aload_n 0, 1) := by decide +kernel
theorem dX7_adds_56 : decode cX7_adds 56 = .ok (.getfield 40, 3) := by decide +kernel
theorem dX7_adds_59 : decode cX7_adds 59 = .ok (.iload_n 1, 1) := by decide +kernel
theorem dX7_adds_60 : decode cX7_adds 60 = .ok (.aaload, 1) := by decide +kernel
theorem dX7_adds_61 : decode cX7_adds 61 = .ok (.iload_n 2, 1) := by decide +kernel
theorem dX7_adds_62 : decode cX7_adds 62 = .ok (.aaload, 1) := by decide +kernel
theorem dX7_adds_63 : decode cX7_adds 63 = .ok (.iload_n 3, 1) := by decide +kernel
theorem dX7_adds_64 : decode cX7_adds 64 = .ok (.dup2, 1) := by decide +kernel
theorem dX7_adds_65 : decode cX7_adds 65 = .ok (.iaload, 1) := by decide +kernel
theorem dX7_adds_66 : decode cX7_adds 66 = .ok (.iconst 1, 1) := by decide +kernel
theorem dX7_adds_67 : decode cX7_adds 67 = .ok (.iadd, 1) := by decide +kernel
theorem dX7_adds_68 : decode cX7_adds 68 = .ok (.iastore, 1) := by decide +kernel
theorem dX7_adds_69 : decode cX7_adds 69 = .ok (.aload_n 0, 1) := by decide +kernel
theorem dX7_adds_70 : decode cX7_adds 70 = .ok (.getfield 40, 3) := by decide +kernel
theorem dX7_adds_73 : decode cX7_adds 73 = .ok (.iload_n 1, 1) := by decide +kernel
theorem dX7_adds_74 : decode cX7_adds 74 = .ok (.aaload, 1) := by decide +kernel
theorem dX7_adds_75 : decode cX7_adds 75 = .ok (.iload_n 2, 1) := by decide +kernel
theorem dX7_adds_76 : decode cX7_adds 76 = .ok (.aaload, 1) := by decide +kernel
theorem dX7_adds_77 : decode cX7_adds 77 = .ok (.iload_n 3, 1) := by decide +kernel
theorem dX7_adds_78 : decode cX7_adds 78 = .ok (.iaload, 1) := by decide +kernel
theorem dX7_adds_79 : decode cX7_adds 79 = .ok (.ireturn, 1) := by decide +kernel
theorem dX7_addEntry_0 : decode cX7_addEntry 0 = .ok (.aload_n 0, 1) := by decide +kernel
theorem dX7_addEntry_1 : decode cX7_addEntry 1 = .ok (.aload_n 0, 1) := by decide +kernel
theorem dX7_addEntry_2 : decode cX7_addEntry 2 = .ok (.iload_n 1, 1) := by decide +kernel
theorem dX7_addEntry_3 : decode cX7_addEntry 3 = .ok (.iload_n 2, 1) := by decide +kernel
theorem dX7_addEntry_4 : decode cX7_addEntry 4 = .ok (.invokevirtual 106, 3) := by decide +kernel
theorem dX7_addEntry_7 : decode cX7_addEntry 7 = .ok (.ifCond .ne 7, 3) := by decide +kernel
theorem dX7_addEntry_10 : decode cX7_addEntry 10 = .ok (.iconst 1, 1) := by decide +kernel
theorem dX7_addEntry_11 : decode cX7_addEntry 11 = .ok (.goto 48, 3) := by decide +kernel
theorem dX7_addEntry_14 : decode cX7_addEntry 14 = .ok (.aload_n 0, 1) := by decide +kernel
theorem dX7_addEntry_15 : decode cX7_addEntry 15 = .ok (.iload_n 1, 1) := by decide +kernel
theorem dX7_addEntry_16 : decode cX7_addEntry 16 = .ok (.iload_n 3, 1) := by decide +kernel
theorem dX7_addEntry_17 : decode cX7_addEntry 17 = .ok (.iload 4, 2) := by decide +kernel
theorem dX7_addEntry_19 : decode cX7_addEntry 19 = .ok (.iload 5, 2) := by decide +kernel
theorem dX7_addEntry_21 : decode cX7_addEntry 21 = .ok (.invokevirtual 114, 3) := by decide +kernel
theorem dX7_addEntry_24 : decode cX7_addEntry 24 = .ok (.ifCond .ne 7, 3) := by decide +kernel
theorem dX7_addEntry_27 : decode cX7_addEntry 27 = .ok (.iconst 2, 1) := by decide +kernel
theorem dX7_addEntry_28 : decode cX7_addEntry 28 = .ok (.goto 31, 3) := by decide +kernel
theorem dX7_addEntry_31 : decode cX7_addEntry 31 = .ok (.aload_n 0, 1) := by decide +kernel
theorem dX7_addEntry_32 : decode cX7_addEntry 32 = .ok (.getfield 47, 3) := by decide +kernel
theorem dX7_addEntry_35 : decode cX7_addEntry 35 = .ok (.iload_n 1, 1) := by decide +kernel
theorem dX7_addEntry_36 : decode cX7_addEntry 36 = .ok (.baload, 1) := by decide +kernel
theorem dX7_addEntry_37 : decode cX7_addEntry 37 = .ok (.ifCond .ne 17, 3) := by decide +kernel
theorem dX7_addEntry_40 : decode cX7_addEntry 40 = .ok (.aload_n 0, 1) := by decide +kernel
theorem dX7_addEntry_41 : decode cX7_addEntry 41 = .ok (.getfield 40, 3) := by decide +kernel
theorem dX7_addEntry_44 : decode cX7_addEntry 44 = .ok (.iload_n 1, 1) := by decide +kernel
theorem dX7_addEntry_45 : decode cX7_addEntry 45 = .ok (.aaload, 1) := by decide +kernel
theorem dX7_addEntry_46 : decode cX7_addEntry 46 = .ok (.iload_n 2, 1) := by decide +kernel
theorem dX7_addEntry_47 : decode cX7_addEntry 47 = .ok (.aaload, 1) := by decide +kernel
theorem dX7_addEntry_48 : decode cX7_addEntry 48 = .ok (.iconst 0, 1) := by decide +kernel
theorem dX7_addEntry_49 : decode cX7_addEntry 49 = .ok (.iaload, 1) := by decide +kernel
theorem dX7_addEntry_50 : decode cX7_addEntry 50 = .ok (.iconst 3, 1) := by decide +kernel
theorem dX7_addEntry_51 : decode cX7_addEntry 51 = .ok (.if_icmp .ne 7, 3) := by decide +kernel
theorem dX7_addEntry_54 : decode cX7_addEntry 54 = .ok (.iconst 3, 1) := by decide +kernel
theorem dX7_addEntry_55 : decode cX7_addEntry 55 = .ok (.goto 4, 3) := by decide +kernel
theorem dX7_addEntry_58 : decode cX7_addEntry 58 = .ok (.iconst 0, 1) := by decide +kernel
theorem dX7_addEntry_59 : decode cX7_addEntry 59 = .ok (.putfield 86, 3) := by decide +kernel
theorem dX7_addEntry_62 : decode cX7_addEntry 62 = .ok (.aload_n 0, 1) := by decide +kernel
theorem dX7_addEntry_63 : decode cX7_addEntry 63 = .ok (.getfield 86, 3) := by decide +kernel
theorem dX7_addEntry_66 : decode cX7_addEntry 66 = .ok (.ifCond .le 7, 3) := by decide +kernel
theorem dX7_addEntry_69 : decode cX7_addEntry 69 = .ok (.iconst 0, 1) := by decide +kernel
theorem dX7_addEntry_70 : decode cX7_addEntry 70 = .ok (.goto 15, 3) := by decide +kernel
theorem dX7_addEntry_73 : decode cX7_addEntry 73 = .ok (.aload_n 0, 1) := by decide +kernel
theorem dX7_addEntry_74 : decode cX7_addEntry 74 = .ok (.iload_n 1, 1) := by decide +kernel
theorem dX7_addEntry_75 : decode cX7_addEntry 75 = .ok (.iload_n 2, 1) := by decide +kernel
theorem dX7_addEntry_76 : decode cX7_addEntry 76 = .ok (.iconst 0, 1) := by decide +kernel
theorem dX7_addEntry_77 : decode cX7_addEntry 77 = .ok (.iload_n 3, 1) := by decide +kernel
theorem dX7_addEntry_78 : decode cX7_addEntry 78 = .ok (.iload 4, 2) := by decide +kernel
theorem dX7_addEntry_80 : decode cX7_addEntry 80 = .ok (.iload 5, 2) := by decide +kernel
theorem dX7_addEntry_82 : decode cX7_addEntry 82 = .ok (.invokevirtual 118, 3) := by decide +kernel
theorem dX7_addEntry_85 : decode cX7_addEntry 85 = .ok (.ireturn, 1) := by decide +kernel
theorem dX7_addExit_0 : decode cX7_addExit 0 = .ok (.aload_n 0, 1) := by decide +kernel
theorem dX7_addExit_1 : decode cX7_addExit 1 = .ok (.aload_n 0, 1) := by decide +kernel
theorem dX7_addExit_2 : decode cX7_addExit 2 = .ok (.iload_n 1, 1) := by decide +kernel
theorem dX7_addExit_3 : decode cX7_addExit 3 = .ok (.iload_n 2, 1) := by decide +kernel
theorem dX7_addExit_4 : decode cX7_addExit 4 = .ok (.invokevirtual 106, 3) := by decide +kernel
theorem dX7_addExit_7 : decode cX7_addExit 7 = .ok (.ifCond .ne 7, 3) := by decide +kernel
theorem dX7_addExit_10 : decode cX7_addExit 10 = .ok (.iconst 1, 1) := by decide +kernel
theorem dX7_addExit_11 : decode cX7_addExit 11 = .ok (.goto 65, 3) := by decide +kernel
theorem dX7_addExit_14 : decode cX7_addExit 14 = .ok (.aload_n 0, 1) := by decide +kernel
theorem dX7_addExit_15 : decode cX7_addExit 15 = .ok (.iload_n 1, 1) := by decide +kernel
theorem dX7_addExit_16 : decode cX7_addExit 16 = .ok (.iload_n 3, 1) := by decide +kernel
theorem dX7_addExit_17 : decode cX7_addExit 17 = .ok (.iload 4, 2) := by decide +kernel
theorem dX7_addExit_19 : decode cX7_addExit 19 = .ok (.iload 5, 2) := by decide +kernel
theorem dX7_addExit_21 : decode cX7_addExit 21 = .ok (.invokevirtual 114, 3) := by decide +kernel
theorem dX7_addExit_24 : decode cX7_addExit 24 = .ok (.ifCond .ne 7, 3) := by decide +kernel
theorem dX7_addExit_27 : decode cX7_addExit 27 = .ok (.iconst 2, 1) := by decide +kernel
theorem dX7_addExit_28 : decode cX7_addExit 28 = .ok (.goto 48, 3) := by decide +kernel
theorem dX7_addExit_31 : decode cX7_addExit 31 = .ok (.aload_n 0, 1) := by decide +kernel
theorem dX7_addExit_32 : decode cX7_addExit 32 = .ok (.getfield 11, 3) := by decide +kernel
theorem dX7_addExit_35 : decode cX7_addExit 35 = .ok (.iload_n 1, 1) := by decide +kernel
theorem dX7_addExit_36 : decode cX7_addExit 36 = .ok (.aaload, 1) := by decide +kernel
theorem dX7_addExit_37 : decode cX7_addExit 37 = .ok (.iload_n 2, 1) := by decide +kernel
theorem dX7_addExit_38 : decode cX7_addExit 38 = .ok (.caload, 1) := by decide +kernel
theorem dX7_addExit_39 : decode cX7_addExit 39 = .ok (.bipush 109, 2) := by decide +kernel
theorem dX7_addExit_41 : decode cX7_addExit 41 = .ok (.if_icmp .ne 7, 3) := by decide +kernel
theorem dX7_addExit_44 : decode cX7_addExit 44 = .ok (.iconst 3, 1) := by decide +kernel
theorem dX7_addExit_45 : decode cX7_addExit 45 = .ok (.goto 31, 3) := by decide +kernel
theorem dX7_addExit_48 : decode cX7_addExit 48 = .ok (.aload_n 0, 1) := by decide +kernel
theorem dX7_addExit_49 : decode cX7_addExit 49 = .ok (.getfield 47, 3) := by decide +kernel
theorem dX7_addExit_52 : decode cX7_addExit 52 = .ok (.iload_n 1, 1) := by decide +kernel
theorem dX7_addExit_53 : decode cX7_addExit 53 = .ok (.baload, 1) := by decide +kernel
theorem dX7_addExit_54 : decode cX7_addExit 54 = .ok (.ifCond .ne 17, 3) := by decide +kernel
theorem dX7_addExit_57 : decode cX7_addExit 57 = .ok (.aload_n 0, 1) := by decide +kernel
theorem dX7_addExit_58 : decode cX7_addExit 58 = .ok (.getfield 40, 3) := by decide +kernel
theorem dX7_addExit_61 : decode cX7_addExit 61 = .ok (.iload_n 1, 1) := by decide +kernel
theorem dX7_addExit_62 : decode cX7_addExit 62 = .ok (.aaload, 1) := by decide +kernel
theorem dX7_addExit_63 : decode cX7_addExit 63 = .ok (.iload_n 2, 1) := by decide +kernel
theorem dX7_addExit_64 : decode cX7_addExit 64 = .ok (.aaload, 1) := by decide +kernel
theorem dX7_addExit_65 : decode cX7_addExit 65 = .ok (.iconst 1, 1) := by decide +kernel
theorem dX7_addExit_66 : decode cX7_addExit 66 = .ok (.iaload, 1) := by decide +kernel
theorem dX7_addExit_67 : decode cX7_addExit 67 = .ok (.iconst 3, 1) := by decide +kernel
theorem dX7_addExit_68 : decode cX7_addExit 68 = .ok (.if_icmp .ne 7, 3) := by decide +kernel
theorem dX7_addExit_71 : decode cX7_addExit 71 = .ok (.iconst 4, 1) := by decide +kernel
theorem dX7_addExit_72 : decode cX7_addExit 72 = .ok (.goto 4, 3) := by decide +kernel
theorem dX7_addExit_75 : decode cX7_addExit 75 = .ok (.iconst 0, 1) := by decide +kernel
theorem dX7_addExit_76 : decode cX7_addExit 76 = .ok (.putfield 86, 3) := by decide +kernel
theorem dX7_addExit_79 : decode cX7_addExit 79 = .ok (.aload_n 0, 1) := by decide +kernel
theorem dX7_addExit_80 : decode cX7_addExit 80 = .ok (.getfield 86, 3) := by decide +kernel
theorem dX7_addExit_83 : decode cX7_addExit 83 = .ok (.ifCond .le 7, 3) := by decide +kernel
theorem dX7_addExit_86 : decode cX7_addExit 86 = .ok (.iconst 0, 1) := by decide +kernel
theorem dX7_addExit_87 : decode cX7_addExit 87 = .ok (.goto 15, 3) := by decide +kernel
theorem dX7_addExit_90 : decode cX7_addExit 90 = .ok (.aload_n 0, 1) := by decide +kernel
theorem dX7_addExit_91 : decode cX7_addExit 91 = .ok (.iload_n 1, 1) := by decide +kernel
theorem dX7_addExit_92 : decode cX7_addExit 92 = .ok (.iload_n 2, 1) := by decide +kernel
theorem dX7_addExit_93 : decode cX7_addExit 93 = .ok (.iconst 1, 1) := by decide +kernel
theorem dX7_addExit_94 : decode cX7_addExit 94 = .ok (.iload_n 3, 1) := by decide +kernel
theorem dX7_addExit_95 : decode cX7_addExit 95 = .ok (.iload 4, 2) := by decide +kernel
theorem dX7_addExit_97 : decode cX7_addExit 97 = .ok (.iload 5, 2) := by decide +kernel
theorem dX7_addExit_99 : decode cX7_addExit 99 = .ok (.invokevirtual 118, 3) := by decide +kernel
theorem dX7_addExit_102 : decode cX7_addExit 102 = .ok (.ireturn, 1) := by decide +kernel
theorem dX7_flag_0 : decode cX7_flag 0 = .ok (.aload_n 0, 1) := by decide +kernel
theorem dX7_flag_1 : decode cX7_flag 1 = .ok (.aload_n 0, 1) := by decide +kernel
theorem dX7_flag_2 : decode cX7_flag 2 = .ok (.iload_n 1, 1) := by decide +kernel
theorem dX7_flag_3 : decode cX7_flag 3 = .ok (.iload_n 2, 1) := by decide +kernel
theorem dX7_flag_4 : decode cX7_flag 4 = .ok (.invokevirtual 106, 3) := by decide +kernel
theorem dX7_flag_7 : decode cX7_flag 7 = .ok (.ifCond .ne 7, 3) := by decide +kernel
theorem dX7_flag_10 : decode cX7_flag 10 = .ok (.iconst 1, 1) := by decide +kernel
theorem dX7_flag_11 : decode cX7_flag 11 = .ok (.goto 33, 3) := by decide +kernel
theorem dX7_flag_14 : decode cX7_flag 14 = .ok (.aload_n 0, 1) := by decide +kernel
theorem dX7_flag_15 : decode cX7_flag 15 = .ok (.getfield 11, 3) := by decide +kernel
theorem dX7_flag_18 : decode cX7_flag 18 = .ok (.iload_n 1, 1) := by decide +kernel
theorem dX7_flag_19 : decode cX7_flag 19 = .ok (.aaload, 1) := by decide +kernel
theorem dX7_flag_20 : decode cX7_flag 20 = .ok (.iload_n 2, 1) := by decide +kernel
theorem dX7_flag_21 : decode cX7_flag 21 = .ok (.caload, 1) := by decide +kernel
theorem dX7_flag_22 : decode cX7_flag 22 = .ok (.iload_n 3, 1) := by decide +kernel
theorem dX7_flag_23 : decode cX7_flag 23 = .ok (.if_icmp .eq 7, 3) := by decide +kernel
theorem dX7_flag_26 : decode cX7_flag 26 = .ok (.iconst 2, 1) := by decide +kernel
theorem dX7_flag_27 : decode cX7_flag 27 = .ok (.goto 17, 3) := by decide +kernel
theorem dX7_flag_30 : decode cX7_flag 30 = .ok (.aload_n 0, 1) := by decide +kernel
theorem dX7_flag_31 : decode cX7_flag 31 = .ok (.getfield 47, 3) := by decide +kernel
theorem dX7_flag_34 : decode cX7_flag 34 = .ok (.iload_n 1, 1) := by decide +kernel
theorem dX7_flag_35 : decode cX7_flag 35 = .ok (.baload, 1) := by decide +kernel
theorem dX7_flag_36 : decode cX7_flag 36 = .ok (.ifCond .eq 7, 3) := by decide +kernel
theorem dX7_flag_39 : decode cX7_flag 39 = .ok (.iconst 3, 1) := by decide +kernel
theorem dX7_flag_40 : decode cX7_flag 40 = .ok (.goto 4, 3) := by decide +kernel
theorem dX7_flag_43 : decode cX7_flag 43 = .ok (.iconst 0, 1) := by decide +kernel
theorem dX7_flag_44 : decode cX7_flag 44 = .ok (.putfield 86, 3) := by decide +kernel
theorem dX7_flag_47 : decode cX7_flag 47 = .ok (.aload_n 0, 1) := by decide +kernel
theorem dX7_flag_48 : decode cX7_flag 48 = .ok (.getfield 86, 3) := by decide +kernel
theorem dX7_flag_51 : decode cX7_flag 51 = .ok (.ifCond .le 5, 3) := by decide +kernel
theorem dX7_flag_54 : decode cX7_flag 54 = .ok (.iconst 0, 1) := by decide +kernel
theorem dX7_flag_55 : decode cX7_flag 55 = .ok (.ireturn, 1) := by decide +kernel
theorem dX7_flag_56 : decode cX7_flag 56 = .ok (.aload_n 0, 1) := by decide +kernel
theorem dX7_flag_57 : decode cX7_flag 57 = .ok (.getfield 21, 3) := by decide +kernel
theorem dX7_flag_60 : decode cX7_flag 60 = .ok (.iload_n 1, 1) := by decide +kernel
theorem dX7_flag_61 : decode cX7_flag 61 = .ok (.aaload, 1) := by decide +kernel
theorem dX7_flag_62 : decode cX7_flag 62 = .ok (.iload_n 2, 1) := by decide +kernel
theorem dX7_flag_63 : decode cX7_flag 63 = .ok (.baload, 1) := by decide +kernel
theorem dX7_flag_64 : decode cX7_flag 64 = .ok (.istore 5, 2) := by decide +kernel
theorem dX7_flag_66 : decode cX7_flag 66 = .ok (.aload_n 0, 1) := by decide +kernel
theorem dX7_flag_67 : decode cX7_flag 67 = .ok (.getfield 21, 3) := by decide +kernel
theorem dX7_flag_70 : decode cX7_flag 70 = .ok (.iload_n 1, 1) := by decide +kernel
theorem dX7_flag_71 : decode cX7_flag 71 = .ok (.aaload, 1) := by decide +kernel
theorem dX7_flag_72 : decode cX7_flag 72 = .ok (.iload_n 2, 1) := by decide +kernel
theorem dX7_flag_73 : decode cX7_flag 73 = .ok (.iload 4, 2) := by decide +kernel
theorem dX7_flag_75 : decode cX7_flag 75 = .ok (.bastore, 1) := by decide +kernel
theorem dX7_flag_76 : decode cX7_flag 76 = .ok (.iload 5, 2) := by decide +kernel
theorem dX7_flag_78 : decode cX7_flag 78 = .ok (.ireturn, 1) := by decide +kernel
theorem dX7_setRequired_0 : decode cX7_setRequired 0 = .ok (.aload_n 0, 1) := by decide +kernel
theorem dX7_setRequired_1 : decode cX7_setRequired 1 = .ok (.iload_n 1, 1) := by decide +kernel
theorem dX7_setRequired_2 : decode cX7_setRequired 2 = .ok (.iload_n 2, 1) := by decide +kernel
theorem dX7_setRequired_3 : decode cX7_setRequired 3 = .ok (.bipush 116, 2) := by decide +kernel
theorem dX7_setRequired_5 : decode cX7_setRequired 5 = .ok (.iload_n 3, 1) := by decide +kernel
theorem dX7_setRequired_6 : decode cX7_setRequired 6 = .ok (.invokevirtual 122, 3) := by decide +kernel
theorem dX7_setRequired_9 : decode cX7_setRequired 9 = .ok (.ireturn, 1) := by decide +kernel
theorem dX7_setLimit_0 : decode cX7_setLimit 0 = .ok (.aload_n 0, 1) := by decide +kernel
theorem dX7_setLimit_1 : decode cX7_setLimit 1 = .ok (.aload_n 0, 1) := by decide +kernel
theorem dX7_setLimit_2 : decode cX7_setLimit 2 = .ok (.iload_n 1, 1) := by decide +kernel
theorem dX7_setLimit_3 : decode cX7_setLimit 3 = .ok (.iload_n 2, 1) := by decide +kernel
theorem dX7_setLimit_4 : decode cX7_setLimit 4 = .ok (.invokevirtual 106, 3) := by decide +kernel
theorem dX7_setLimit_7 : decode cX7_setLimit 7 = .ok (.ifCond .ne 7, 3) := by decide +kernel
theorem dX7_setLimit_10 : decode cX7_setLimit 10 = .ok (.iconst 1, 1) := by decide +kernel
theorem dX7_setLimit_11 : decode cX7_setLimit 11 = .ok (.goto 48, 3) := by decide +kernel
theorem dX7_setLimit_14 : decode cX7_setLimit 14 = .ok (.iload_n 3, 1) := by decide +kernel
theorem dX7_setLimit_15 : decode cX7_setLimit 15 = .ok (.iconst 1, 1) := by decide +kernel
theorem dX7_setLimit_16 : decode cX7_setLimit 16 = .ok (.bipush 99, 2) := by decide +kernel
theorem dX7_setLimit_18 : decode cX7_setLimit 18 = .ok (.invokestatic 92, 3) := by decide +kernel
theorem dX7_setLimit_21 : decode cX7_setLimit 21 = .ok (.ifCond .ne 7, 3) := by decide +kernel
theorem dX7_setLimit_24 : decode cX7_setLimit 24 = .ok (.iconst 2, 1) := by decide +kernel
theorem dX7_setLimit_25 : decode cX7_setLimit 25 = .ok (.goto 34, 3) := by decide +kernel
theorem dX7_setLimit_28 : decode cX7_setLimit 28 = .ok (.aload_n 0, 1) := by decide +kernel
theorem dX7_setLimit_29 : decode cX7_setLimit 29 = .ok (.getfield 11, 3) := by decide +kernel
theorem dX7_setLimit_32 : decode cX7_setLimit 32 = .ok (.iload_n 1, 1) := by decide +kernel
theorem dX7_setLimit_33 : decode cX7_setLimit 33 = .ok (.aaload, 1) := by decide +kernel
theorem dX7_setLimit_34 : decode cX7_setLimit 34 = .ok (.iload_n 2, 1) := by decide +kernel
theorem dX7_setLimit_35 : decode cX7_setLimit 35 = .ok (.caload, 1) := by decide +kernel
theorem dX7_setLimit_36 : decode cX7_setLimit 36 = .ok (.bipush 116, 2) := by decide +kernel
theorem dX7_setLimit_38 : decode cX7_setLimit 38 = .ok (.if_icmp .eq 7, 3) := by decide +kernel
theorem dX7_setLimit_41 : decode cX7_setLimit 41 = .ok (.iconst 3, 1) := by decide +kernel
theorem dX7_setLimit_42 : decode cX7_setLimit 42 = .ok (.goto 17, 3) := by decide +kernel
theorem dX7_setLimit_45 : decode cX7_setLimit 45 = .ok (.aload_n 0, 1) := by decide +kernel
theorem dX7_setLimit_46 : decode cX7_setLimit 46 = .ok (.getfield 47, 3) := by decide +kernel
theorem dX7_setLimit_49 : decode cX7_setLimit 49 = .ok (.iload_n 1, 1) := by decide +kernel
theorem dX7_setLimit_50 : decode cX7_setLimit 50 = .ok (.baload, 1) := by decide +kernel
theorem dX7_setLimit_51 : decode cX7_setLimit 51 = .ok (.ifCond .eq 7, 3) := by decide +kernel
theorem dX7_setLimit_54 : decode cX7_setLimit 54 = .ok (.iconst 4, 1) := by decide +kernel
theorem dX7_setLimit_55 : decode cX7_setLimit 55 = .ok (.goto 4, 3) := by decide +kernel
theorem dX7_setLimit_58 : decode cX7_setLimit 58 = .ok (.iconst 0, 1) := by decide +kernel
theorem dX7_setLimit_59 : decode cX7_setLimit 59 = .ok (.putfield 86, 3) := by decide +kernel
theorem dX7_setLimit_62 : decode cX7_setLimit 62 = .ok (.aload_n 0, 1) := by decide +kernel
theorem dX7_setLimit_63 : decode cX7_setLimit 63 = .ok (.getfield 86, 3) := by decide +kernel
theorem dX7_setLimit_66 : decode cX7_setLimit 66 = .ok (.ifCond .le 5, 3) := by decide +kernel
theorem dX7_setLimit_69 : decode cX7_setLimit 69 = .ok (.iconst 0, 1) := by decide +kernel
theorem dX7_setLimit_70 : decode cX7_setLimit 70 = .ok (.ireturn, 1) := by decide +kernel
theorem dX7_setLimit_71 : decode cX7_setLimit 71 = .ok (.aload_n 0, 1) := by decide +kernel
theorem dX7_setLimit_72 : decode cX7_setLimit 72 = .ok (.getfield 24, 3) := by decide +kernel
theorem dX7_setLimit_75 : decode cX7_setLimit 75 = .ok (.iload_n 1, 1) := by decide +kernel
theorem dX7_setLimit_76 : decode cX7_setLimit 76 = .ok (.aaload, 1) := by decide +kernel
theorem dX7_setLimit_77 : decode cX7_setLimit 77 = .ok (.iload_n 2, 1) := by decide +kernel
theorem dX7_setLimit_78 : decode cX7_setLimit 78 = .ok (.iaload, 1) := by decide +kernel
theorem dX7_setLimit_79 : decode cX7_setLimit 79 = .ok (.istore 4, 2) := by decide +kernel
theorem dX7_setLimit_81 : decode cX7_setLimit 81 = .ok (.aload_n 0, 1) := by decide +kernel
theorem dX7_setLimit_82 : decode cX7_setLimit 82 = .ok (.getfield 24, 3) := by decide +kernel
theorem dX7_setLimit_85 : decode cX7_setLimit 85 = .ok (.iload_n 1, 1) := by decide +kernel
theorem dX7_setLimit_86 : decode cX7_setLimit 86 = .ok (.aaload, 1) := by decide +kernel
theorem dX7_setLimit_87 : decode cX7_setLimit 87 = .ok (.iload_n 2, 1) := by decide +kernel
theorem dX7_setLimit_88 : decode cX7_setLimit 88 = .ok (.iload_n 3, 1) := by decide +kernel
theorem dX7_setLimit_89 : decode cX7_setLimit 89 = .ok (.iastore, 1) := by decide +kernel
theorem dX7_setLimit_90 : decode cX7_setLimit 90 = .ok (.iload 4, 2) := by decide +kernel
theorem dX7_setLimit_92 : decode cX7_setLimit 92 = .ok (.ireturn, 1) := by decide +kernel
theorem dX7_setAgain_0 : decode cX7_setAgain 0 = .ok (.aload_n 0, 1) := by decide +kernel
theorem dX7_setAgain_1 : decode cX7_setAgain 1 = .ok (.iload_n 1, 1) := by decide +kernel
theorem dX7_setAgain_2 : decode cX7_setAgain 2 = .ok (.iload_n 2, 1) := by decide +kernel
theorem dX7_setAgain_3 : decode cX7_setAgain 3 = .ok (.bipush 109, 2) := by decide +kernel
theorem dX7_setAgain_5 : decode cX7_setAgain 5 = .ok (.iload_n 3, 1) := by decide +kernel
theorem dX7_setAgain_6 : decode cX7_setAgain 6 = .ok (.invokevirtual 122, 3) := by decide +kernel
theorem dX7_setAgain_9 : decode cX7_setAgain 9 = .ok (.ireturn, 1) := by decide +kernel
theorem dX7_steps_0 : decode cX7_steps 0 = .ok (.aload_n 0, 1) := by decide +kernel
theorem dX7_steps_1 : decode cX7_steps 1 = .ok (.aload_n 0, 1) := by decide +kernel
theorem dX7_steps_2 : decode cX7_steps 2 = .ok (.iload_n 1, 1) := by decide +kernel
theorem dX7_steps_3 : decode cX7_steps 3 = .ok (.invokevirtual 96, 3) := by decide +kernel
theorem dX7_steps_6 : decode cX7_steps 6 = .ok (.ifCond .eq 7, 3) := by decide +kernel
theorem dX7_steps_9 : decode cX7_steps 9 = .ok (.iconst 0, 1) := by decide +kernel
theorem dX7_steps_10 : decode cX7_steps 10 = .ok (.goto 4, 3) := by decide +kernel
theorem dX7_steps_13 : decode cX7_steps 13 = .ok (.iconst 1, 1) := by decide +kernel
theorem dX7_steps_14 : decode cX7_steps 14 = .ok (.putfield 86, 3) := by decide +kernel
theorem dX7_steps_17 : decode cX7_steps 17 = .ok (.aload_n 0, 1) := by decide +kernel
theorem dX7_steps_18 : decode cX7_steps 18 = .ok (.getfield 86, 3) := by decide +kernel
theorem dX7_steps_21 : decode cX7_steps 21 = .ok (.ifCond .le 7, 3) := by decide +kernel
theorem dX7_steps_24 : decode cX7_steps 24 = .ok (.iconst 0, 1) := by decide +kernel
theorem dX7_steps_25 : decode cX7_steps 25 = .ok (.goto 9, 3) := by decide +kernel
theorem dX7_steps_28 : decode cX7_steps 28 = .ok (.aload_n 0, 1) := by decide +kernel
theorem dX7_steps_29 : decode cX7_steps 29 = .ok (.getfield 43, 3) := by decide +kernel
theorem dX7_steps_32 : decode cX7_steps 32 = .ok (.iload_n 1, 1) := by decide +kernel
theorem dX7_steps_33 : decode cX7_steps 33 = .ok (.iaload, 1) := by decide +kernel
theorem dX7_steps_34 : decode cX7_steps 34 = .ok (.ireturn, 1) := by decide +kernel
theorem dX7_isUsed_0 : decode cX7_isUsed 0 = .ok (.aload_n 0, 1) := by decide +kernel
theorem dX7_isUsed_1 : decode cX7_isUsed 1 = .ok (.aload_n 0, 1) := by decide +kernel
theorem dX7_isUsed_2 : decode cX7_isUsed 2 = .ok (.iload_n 1, 1) := by decide +kernel
theorem dX7_isUsed_3 : decode cX7_isUsed 3 = .ok (.invokevirtual 96, 3) := by decide +kernel
theorem dX7_isUsed_6 : decode cX7_isUsed 6 = .ok (.ifCond .eq 7, 3) := by decide +kernel
theorem dX7_isUsed_9 : decode cX7_isUsed 9 = .ok (.iconst 0, 1) := by decide +kernel
theorem dX7_isUsed_10 : decode cX7_isUsed 10 = .ok (.goto 4, 3) := by decide +kernel
theorem dX7_isUsed_13 : decode cX7_isUsed 13 = .ok (.iconst 1, 1) := by decide +kernel
theorem dX7_isUsed_14 : decode cX7_isUsed 14 = .ok (.putfield 86, 3) := by decide +kernel
theorem dX7_isUsed_17 : decode cX7_isUsed 17 = .ok (.aload_n 0, 1) := by decide +kernel
theorem dX7_isUsed_18 : decode cX7_isUsed 18 = .ok (.getfield 86, 3) := by decide +kernel
theorem dX7_isUsed_21 : decode cX7_isUsed 21 = .ok (.ifCond .ne 16, 3) := by decide +kernel
theorem dX7_isUsed_24 : decode cX7_isUsed 24 = .ok (.aload_n 0, 1) := by decide +kernel
theorem dX7_isUsed_25 : decode cX7_isUsed 25 = .ok (.getfield 47, 3) := by decide +kernel
theorem dX7_isUsed_28 : decode cX7_isUsed 28 = .ok (.iload_n 1, 1) := by decide +kernel
theorem dX7_isUsed_29 : decode cX7_isUsed 29 = .ok (.baload, 1) := by decide +kernel
theorem dX7_isUsed_30 : decode cX7_isUsed 30 = .ok (.ifCond .eq 7, 3) := by decide +kernel
theorem dX7_isUsed_33 : decode cX7_isUsed 33 = .ok (.iconst 1, 1) := by decide +kernel
theorem dX7_isUsed_34 : decode cX7_isUsed 34 = .ok (.goto 4, 3) := by decide +kernel
theorem dX7_isUsed_37 : decode cX7_isUsed 37 = .ok (.iconst 0, 1) := by decide +kernel
theorem dX7_isUsed_38 : decode cX7_isUsed 38 = .ok (.ireturn, 1) := by decide +kernel
theorem dX7_holdsNow_0 : decode cX7_holdsNow 0 = .ok (.aload_n 0, 1) := by decide +kernel
theorem dX7_holdsNow_1 : decode cX7_holdsNow 1 = .ok (.getfield 51, 3) := by decide +kernel
theorem dX7_holdsNow_4 : decode cX7_holdsNow 4 = .ok (.iload_n 1, 1) := by decide +kernel
theorem dX7_holdsNow_5 : decode cX7_holdsNow 5 = .ok (.iaload, 1) := by decide +kernel
theorem dX7_holdsNow_6 : decode cX7_holdsNow 6 = .ok (.istore 4, 2) := by decide +kernel
theorem dX7_holdsNow_8 : decode cX7_holdsNow 8 = .ok (.aload_n 0, 1) := by decide +kernel
theorem dX7_holdsNow_9 : decode cX7_holdsNow 9 = .ok (.getfield 34, 3) := by decide +kernel
theorem dX7_holdsNow_12 : decode cX7_holdsNow 12 = .ok (.iload 4, 2) := by decide +kernel
theorem dX7_holdsNow_14 : decode cX7_holdsNow 14 = .ok (.aaload, 1) := by decide +kernel
theorem dX7_holdsNow_15 : decode cX7_holdsNow 15 = .ok (.iload_n 2, 1) := by decide +kernel
theorem dX7_holdsNow_16 : decode cX7_holdsNow 16 = .ok (.aaload, 1) := by decide +kernel
theorem dX7_holdsNow_17 : decode cX7_holdsNow 17 = .ok (.iload_n 3, 1) := by decide +kernel
theorem dX7_holdsNow_18 : decode cX7_holdsNow 18 = .ok (.iaload, 1) := by decide +kernel
theorem dX7_holdsNow_19 : decode cX7_holdsNow 19 = .ok (.istore 5, 2) := by decide +kernel
theorem dX7_holdsNow_21 : decode cX7_holdsNow 21 = .ok (.aload_n 0, 1) := by decide +kernel
theorem dX7_holdsNow_22 : decode cX7_holdsNow 22 = .ok (.getfield 29, 3) := by decide +kernel
theorem dX7_holdsNow_25 : decode cX7_holdsNow 25 = .ok (.iload 4, 2) := by decide +kernel
theorem dX7_holdsNow_27 : decode cX7_holdsNow 27 = .ok (.aaload, 1) := by decide +kernel
theorem dX7_holdsNow_28 : decode cX7_holdsNow 28 = .ok (.iload_n 2, 1) := by decide +kernel
theorem dX7_holdsNow_29 : decode cX7_holdsNow 29 = .ok (.aaload, 1) := by decide +kernel
theorem dX7_holdsNow_30 : decode cX7_holdsNow 30 = .ok (.iload_n 3, 1) := by decide +kernel
theorem dX7_holdsNow_31 : decode cX7_holdsNow 31 = .ok (.caload, 1) := by decide +kernel
theorem dX7_holdsNow_32 : decode cX7_holdsNow 32 = .ok (.tableswitch 149 99 108 #[129, 56, 114, 149, 149, 149, 149, 149, 149, 85], 56) := by decide +kernel
theorem dX7_holdsNow_88 : decode cX7_holdsNow 88 = .ok (.aload_n 0, 1) := by decide +kernel
theorem dX7_holdsNow_89 : decode cX7_holdsNow 89 = .ok (.getfield 54, 3) := by decide +kernel
theorem dX7_holdsNow_92 : decode cX7_holdsNow 92 = .ok (.iload_n 1, 1) := by decide +kernel
theorem dX7_holdsNow_93 : decode cX7_holdsNow 93 = .ok (.aaload, 1) := by decide +kernel
theorem dX7_holdsNow_94 : decode cX7_holdsNow 94 = .ok (.iload 5, 2) := by decide +kernel
theorem dX7_holdsNow_96 : decode cX7_holdsNow 96 = .ok (.iaload, 1) := by decide +kernel
theorem dX7_holdsNow_97 : decode cX7_holdsNow 97 = .ok (.aload_n 0, 1) := by decide +kernel
theorem dX7_holdsNow_98 : decode cX7_holdsNow 98 = .ok (.getfield 37, 3) := by decide +kernel
theorem dX7_holdsNow_101 : decode cX7_holdsNow 101 = .ok (.iload 4, 2) := by decide +kernel
theorem dX7_holdsNow_103 : decode cX7_holdsNow 103 = .ok (.aaload, 1) := by decide +kernel
theorem dX7_holdsNow_104 : decode cX7_holdsNow 104 = .ok (.iload_n 2, 1) := by decide +kernel
theorem dX7_holdsNow_105 : decode cX7_holdsNow 105 = .ok (.aaload, 1) := by decide +kernel
theorem dX7_holdsNow_106 : decode cX7_holdsNow 106 = .ok (.iload_n 3, 1) := by decide +kernel
theorem dX7_holdsNow_107 : decode cX7_holdsNow 107 = .ok (.iaload, 1) := by decide +kernel
theorem dX7_holdsNow_108 : decode cX7_holdsNow 108 = .ok (.if_icmp .lt 7, 3) := by decide +kernel
theorem dX7_holdsNow_111 : decode cX7_holdsNow 111 = .ok (.iconst 1, 1) := by decide +kernel
theorem dX7_holdsNow_112 : decode cX7_holdsNow 112 = .ok (.goto 4, 3) := by decide +kernel
theorem dX7_holdsNow_115 : decode cX7_holdsNow 115 = .ok (.iconst 0, 1) := by decide +kernel
theorem dX7_holdsNow_116 : decode cX7_holdsNow 116 = .ok (.ireturn, 1) := by decide +kernel
theorem dX7_holdsNow_117 : decode cX7_holdsNow 117 = .ok (.aload_n 0, 1) := by decide +kernel
theorem dX7_holdsNow_118 : decode cX7_holdsNow 118 = .ok (.getfield 54, 3) := by decide +kernel
theorem dX7_holdsNow_121 : decode cX7_holdsNow 121 = .ok (.iload_n 1, 1) := by decide +kernel
theorem dX7_holdsNow_122 : decode cX7_holdsNow 122 = .ok (.aaload, 1) := by decide +kernel
theorem dX7_holdsNow_123 : decode cX7_holdsNow 123 = .ok (.iload 5, 2) := by decide +kernel
theorem dX7_holdsNow_125 : decode cX7_holdsNow 125 = .ok (.iaload, 1) := by decide +kernel
theorem dX7_holdsNow_126 : decode cX7_holdsNow 126 = .ok (.aload_n 0, 1) := by decide +kernel
theorem dX7_holdsNow_127 : decode cX7_holdsNow 127 = .ok (.getfield 37, 3) := by decide +kernel
theorem dX7_holdsNow_130 : decode cX7_holdsNow 130 = .ok (.iload 4, 2) := by decide +kernel
theorem dX7_holdsNow_132 : decode cX7_holdsNow 132 = .ok (.aaload, 1) := by decide +kernel
theorem dX7_holdsNow_133 : decode cX7_holdsNow 133 = .ok (.iload_n 2, 1) := by decide +kernel
theorem dX7_holdsNow_134 : decode cX7_holdsNow 134 = .ok (.aaload, 1) := by decide +kernel
theorem dX7_holdsNow_135 : decode cX7_holdsNow 135 = .ok (.iload_n 3, 1) := by decide +kernel
theorem dX7_holdsNow_136 : decode cX7_holdsNow 136 = .ok (.iaload, 1) := by decide +kernel
theorem dX7_holdsNow_137 : decode cX7_holdsNow 137 = .ok (.if_icmp .ge 7, 3) := by decide +kernel
theorem dX7_holdsNow_140 : decode cX7_holdsNow 140 = .ok (.iconst 1, 1) := by decide +kernel
theorem dX7_holdsNow_141 : decode cX7_holdsNow 141 = .ok (.goto 4, 3) := by decide +kernel
theorem dX7_holdsNow_144 : decode cX7_holdsNow 144 = .ok (.iconst 0, 1) := by decide +kernel
theorem dX7_holdsNow_145 : decode cX7_holdsNow 145 = .ok (.ireturn, 1) := by decide +kernel
theorem dX7_holdsNow_146 : decode cX7_holdsNow 146 = .ok (.aload_n 0, 1) := by decide +kernel
theorem dX7_holdsNow_147 : decode cX7_holdsNow 147 = .ok (.getfield 78, 3) := by decide +kernel
theorem dX7_holdsNow_150 : decode cX7_holdsNow 150 = .ok (.iload 5, 2) := by decide +kernel
theorem dX7_holdsNow_152 : decode cX7_holdsNow 152 = .ok (.if_icmp .ne 7, 3) := by decide +kernel
theorem dX7_holdsNow_155 : decode cX7_holdsNow 155 = .ok (.iconst 1, 1) := by decide +kernel
theorem dX7_holdsNow_156 : decode cX7_holdsNow 156 = .ok (.goto 4, 3) := by decide +kernel
theorem dX7_holdsNow_159 : decode cX7_holdsNow 159 = .ok (.iconst 0, 1) := by decide +kernel
theorem dX7_holdsNow_160 : decode cX7_holdsNow 160 = .ok (.ireturn, 1) := by decide +kernel
theorem dX7_holdsNow_161 : decode cX7_holdsNow 161 = .ok (.aload_n 0, 1) := by decide +kernel
theorem dX7_holdsNow_162 : decode cX7_holdsNow 162 = .ok (.getfield 60, 3) := by decide +kernel
theorem dX7_holdsNow_165 : decode cX7_holdsNow 165 = .ok (.iload_n 1, 1) := by decide +kernel
theorem dX7_holdsNow_166 : decode cX7_holdsNow 166 = .ok (.aaload, 1) := by decide +kernel
theorem dX7_holdsNow_167 : decode cX7_holdsNow 167 = .ok (.iload 5, 2) := by decide +kernel
theorem dX7_holdsNow_169 : decode cX7_holdsNow 169 = .ok (.caload, 1) := by decide +kernel
theorem dX7_holdsNow_170 : decode cX7_holdsNow 170 = .ok (.bipush 99, 2) := by decide +kernel
theorem dX7_holdsNow_172 : decode cX7_holdsNow 172 = .ok (.if_icmp .ne 7, 3) := by decide +kernel
theorem dX7_holdsNow_175 : decode cX7_holdsNow 175 = .ok (.iconst 1, 1) := by decide +kernel
theorem dX7_holdsNow_176 : decode cX7_holdsNow 176 = .ok (.goto 4, 3) := by decide +kernel
theorem dX7_holdsNow_179 : decode cX7_holdsNow 179 = .ok (.iconst 0, 1) := by decide +kernel
theorem dX7_holdsNow_180 : decode cX7_holdsNow 180 = .ok (.ireturn, 1) := by decide +kernel
theorem dX7_holdsNow_181 : decode cX7_holdsNow 181 = .ok (.aload_n 0, 1) := by decide +kernel
theorem dX7_holdsNow_182 : decode cX7_holdsNow 182 = .ok (.getfield 69, 3) := by decide +kernel
theorem dX7_holdsNow_185 : decode cX7_holdsNow 185 = .ok (.iload_n 1, 1) := by decide +kernel
theorem dX7_holdsNow_186 : decode cX7_holdsNow 186 = .ok (.iaload, 1) := by decide +kernel
theorem dX7_holdsNow_187 : decode cX7_holdsNow 187 = .ok (.iload 5, 2) := by decide +kernel
theorem dX7_holdsNow_189 : decode cX7_holdsNow 189 = .ok (.if_icmp .lt 7, 3) := by decide +kernel
theorem dX7_holdsNow_192 : decode cX7_holdsNow 192 = .ok (.iconst 1, 1) := by decide +kernel
theorem dX7_holdsNow_193 : decode cX7_holdsNow 193 = .ok (.goto 4, 3) := by decide +kernel
theorem dX7_holdsNow_196 : decode cX7_holdsNow 196 = .ok (.iconst 0, 1) := by decide +kernel
theorem dX7_holdsNow_197 : decode cX7_holdsNow 197 = .ok (.ireturn, 1) := by decide +kernel
theorem dX7_holdsOne_0 : decode cX7_holdsOne 0 = .ok (.iconst 0, 1) := by decide +kernel
theorem dX7_holdsOne_1 : decode cX7_holdsOne 1 = .ok (.istore 4, 2) := by decide +kernel
theorem dX7_holdsOne_3 : decode cX7_holdsOne 3 = .ok (.iconst 0, 1) := by decide +kernel
theorem dX7_holdsOne_4 : decode cX7_holdsOne 4 = .ok (.istore 5, 2) := by decide +kernel
theorem dX7_holdsOne_6 : decode cX7_holdsOne 6 = .ok (.iload 5, 2) := by decide +kernel
theorem dX7_holdsOne_8 : decode cX7_holdsOne 8 = .ok (.aload_n 0, 1) := by decide +kernel
theorem dX7_holdsOne_9 : decode cX7_holdsOne 9 = .ok (.getfield 40, 3) := by decide +kernel
theorem dX7_holdsOne_12 : decode cX7_holdsOne 12 = .ok (.aload_n 0, 1) := by decide +kernel
theorem dX7_holdsOne_13 : decode cX7_holdsOne 13 = .ok (.getfield 51, 3) := by decide +kernel
theorem dX7_holdsOne_16 : decode cX7_holdsOne 16 = .ok (.iload_n 1, 1) := by decide +kernel
theorem dX7_holdsOne_17 : decode cX7_holdsOne 17 = .ok (.iaload, 1) := by decide +kernel
theorem dX7_holdsOne_18 : decode cX7_holdsOne 18 = .ok (.aaload, 1) := by decide +kernel
theorem dX7_holdsOne_19 : decode cX7_holdsOne 19 = .ok (.iload_n 2, 1) := by decide +kernel
theorem dX7_holdsOne_20 : decode cX7_holdsOne 20 = .ok (.aaload, 1) := by decide +kernel
theorem dX7_holdsOne_21 : decode cX7_holdsOne 21 = .ok (.iload_n 3, 1) := by decide +kernel
theorem dX7_holdsOne_22 : decode cX7_holdsOne 22 = .ok (.iaload, 1) := by decide +kernel
theorem dX7_holdsOne_23 : decode cX7_holdsOne 23 = .ok (.if_icmp .ge 36, 3) := by decide +kernel
theorem dX7_holdsOne_26 : decode cX7_holdsOne 26 = .ok (.iload 4, 2) := by decide +kernel
theorem dX7_holdsOne_28 : decode cX7_holdsOne 28 = .ok (.ifCond .ne 18, 3) := by decide +kernel
theorem dX7_holdsOne_31 : decode cX7_holdsOne 31 = .ok (.aload_n 0, 1) := by decide +kernel
theorem dX7_holdsOne_32 : decode cX7_holdsOne 32 = .ok (.iload_n 1, 1) := by decide +kernel
theorem dX7_holdsOne_33 : decode cX7_holdsOne 33 = .ok (.iload_n 2, 1) := by decide +kernel
theorem dX7_holdsOne_34 : decode cX7_holdsOne 34 = .ok (.iconst 3, 1) := by decide +kernel
theorem dX7_holdsOne_35 : decode cX7_holdsOne 35 = .ok (.iload_n 3, 1) := by decide +kernel
theorem dX7_holdsOne_36 : decode cX7_holdsOne 36 = .ok (.imul, 1) := by decide +kernel
theorem dX7_holdsOne_37 : decode cX7_holdsOne 37 = .ok (.iload 5, 2) := by decide +kernel
theorem dX7_holdsOne_39 : decode cX7_holdsOne 39 = .ok (.iadd, 1) := by decide +kernel
theorem dX7_holdsOne_40 : decode cX7_holdsOne 40 = .ok (.invokevirtual 126, 3) := by decide +kernel
theorem dX7_holdsOne_43 : decode cX7_holdsOne 43 = .ok (.ifCond .eq 7, 3) := by decide +kernel
theorem dX7_holdsOne_46 : decode cX7_holdsOne 46 = .ok (.iconst 1, 1) := by decide +kernel
theorem dX7_holdsOne_47 : decode cX7_holdsOne 47 = .ok (.goto 4, 3) := by decide +kernel
theorem dX7_holdsOne_50 : decode cX7_holdsOne 50 = .ok (.iconst 0, 1) := by decide +kernel
theorem dX7_holdsOne_51 : decode cX7_holdsOne 51 = .ok (.istore 4, 2) := by decide +kernel
theorem dX7_holdsOne_53 : decode cX7_holdsOne 53 = .ok (.iinc 5 1, 3) := by decide +kernel
theorem dX7_holdsOne_56 : decode cX7_holdsOne 56 = .ok (.goto (-50), 3) := by decide +kernel
theorem dX7_holdsOne_59 : decode cX7_holdsOne 59 = .ok (.iload 4, 2) := by decide +kernel
theorem dX7_holdsOne_61 : decode cX7_holdsOne 61 = .ok (.ireturn, 1) := by decide +kernel
theorem dX7_closes_0 : decode cX7_closes 0 = .ok (.aload_n 0, 1) := by decide +kernel
theorem dX7_closes_1 : decode cX7_closes 1 = .ok (.getfield 51, 3) := by decide +kernel
theorem dX7_closes_4 : decode cX7_closes 4 = .ok (.iload_n 1, 1) := by decide +kernel
theorem dX7_closes_5 : decode cX7_closes 5 = .ok (.iaload, 1) := by decide +kernel
theorem dX7_closes_6 : decode cX7_closes 6 = .ok (.istore_n 3, 1) := by decide +kernel
theorem dX7_closes_7 : decode cX7_closes 7 = .ok (.iconst 0, 1) := by decide +kernel
theorem dX7_closes_8 : decode cX7_closes 8 = .ok (.istore 4, 2) := by decide +kernel
theorem dX7_closes_10 : decode cX7_closes 10 = .ok (.iload 4, 2) := by decide +kernel
theorem dX7_closes_12 : decode cX7_closes 12 = .ok (.aload_n 0, 1) := by decide +kernel
theorem dX7_closes_13 : decode cX7_closes 13 = .ok (.getfield 43, 3) := by decide +kernel
theorem dX7_closes_16 : decode cX7_closes 16 = .ok (.iload_n 3, 1) := by decide +kernel
theorem dX7_closes_17 : decode cX7_closes 17 = .ok (.iaload, 1) := by decide +kernel
theorem dX7_closes_18 : decode cX7_closes 18 = .ok (.if_icmp .ge 59, 3) := by decide +kernel
theorem dX7_closes_21 : decode cX7_closes 21 = .ok (.aload_n 0, 1) := by decide +kernel
theorem dX7_closes_22 : decode cX7_closes 22 = .ok (.getfield 16, 3) := by decide +kernel
theorem dX7_closes_25 : decode cX7_closes 25 = .ok (.iload_n 3, 1) := by decide +kernel
theorem dX7_closes_26 : decode cX7_closes 26 = .ok (.aaload, 1) := by decide +kernel
theorem dX7_closes_27 : decode cX7_closes 27 = .ok (.iload 4, 2) := by decide +kernel
theorem dX7_closes_29 : decode cX7_closes 29 = .ok (.iaload, 1) := by decide +kernel
theorem dX7_closes_30 : decode cX7_closes 30 = .ok (.iload_n 2, 1) := by decide +kernel
theorem dX7_closes_31 : decode cX7_closes 31 = .ok (.if_icmp .ne 40, 3) := by decide +kernel
theorem dX7_closes_34 : decode cX7_closes 34 = .ok (.aload_n 0, 1) := by decide +kernel
theorem dX7_closes_35 : decode cX7_closes 35 = .ok (.getfield 60, 3) := by decide +kernel
theorem dX7_closes_38 : decode cX7_closes 38 = .ok (.iload_n 1, 1) := by decide +kernel
theorem dX7_closes_39 : decode cX7_closes 39 = .ok (.aaload, 1) := by decide +kernel
theorem dX7_closes_40 : decode cX7_closes 40 = .ok (.iload 4, 2) := by decide +kernel
theorem dX7_closes_42 : decode cX7_closes 42 = .ok (.caload, 1) := by decide +kernel
theorem dX7_closes_43 : decode cX7_closes 43 = .ok (.bipush 105, 2) := by decide +kernel
theorem dX7_closes_45 : decode cX7_closes 45 = .ok (.if_icmp .eq 17, 3) := by decide +kernel
theorem dX7_closes_48 : decode cX7_closes 48 = .ok (.aload_n 0, 1) := by decide +kernel
theorem dX7_closes_49 : decode cX7_closes 49 = .ok (.getfield 60, 3) := by decide +kernel
theorem dX7_closes_52 : decode cX7_closes 52 = .ok (.iload_n 1, 1) := by decide +kernel
theorem dX7_closes_53 : decode cX7_closes 53 = .ok (.aaload, 1) := by decide +kernel
theorem dX7_closes_54 : decode cX7_closes 54 = .ok (.iload 4, 2) := by decide +kernel
theorem dX7_closes_56 : decode cX7_closes 56 = .ok (.caload, 1) := by decide +kernel
theorem dX7_closes_57 : decode cX7_closes 57 = .ok (.bipush 97, 2) := by decide +kernel
theorem dX7_closes_59 : decode cX7_closes 59 = .ok (.if_icmp .ne 12, 3) := by decide +kernel
theorem dX7_closes_62 : decode cX7_closes 62 = .ok (.aload_n 0, 1) := by decide +kernel
theorem dX7_closes_63 : decode cX7_closes 63 = .ok (.iload_n 1, 1) := by decide +kernel
theorem dX7_closes_64 : decode cX7_closes 64 = .ok (.iload 4, 2) := by decide +kernel
theorem dX7_closes_66 : decode cX7_closes 66 = .ok (.bipush 120, 2) := by decide +kernel
theorem dX7_closes_68 : decode cX7_closes 68 = .ok (.invokevirtual 129, 3) := by decide +kernel
theorem dX7_closes_71 : decode cX7_closes 71 = .ok (.iinc 4 1, 3) := by decide +kernel
theorem dX7_closes_74 : decode cX7_closes 74 = .ok (.goto (-64), 3) := by decide +kernel
theorem dX7_closes_77 : decode cX7_closes 77 = .ok (.return_, 1) := by decide +kernel
theorem dX7_becomes_0 : decode cX7_becomes 0 = .ok (.aload_n 0, 1) := by decide +kernel
theorem dX7_becomes_1 : decode cX7_becomes 1 = .ok (.getfield 60, 3) := by decide +kernel
theorem dX7_becomes_4 : decode cX7_becomes 4 = .ok (.iload_n 1, 1) := by decide +kernel
theorem dX7_becomes_5 : decode cX7_becomes 5 = .ok (.aaload, 1) := by decide +kernel
theorem dX7_becomes_6 : decode cX7_becomes 6 = .ok (.iload_n 2, 1) := by decide +kernel
theorem dX7_becomes_7 : decode cX7_becomes 7 = .ok (.iload_n 3, 1) := by decide +kernel
theorem dX7_becomes_8 : decode cX7_becomes 8 = .ok (.castore, 1) := by decide +kernel
theorem dX7_becomes_9 : decode cX7_becomes 9 = .ok (.aload_n 0, 1) := by decide +kernel
theorem dX7_becomes_10 : decode cX7_becomes 10 = .ok (.getfield 11, 3) := by decide +kernel
theorem dX7_becomes_13 : decode cX7_becomes 13 = .ok (.aload_n 0, 1) := by decide +kernel
theorem dX7_becomes_14 : decode cX7_becomes 14 = .ok (.getfield 51, 3) := by decide +kernel
theorem dX7_becomes_17 : decode cX7_becomes 17 = .ok (.iload_n 1, 1) := by decide +kernel
theorem dX7_becomes_18 : decode cX7_becomes 18 = .ok (.iaload, 1) := by decide +kernel
theorem dX7_becomes_19 : decode cX7_becomes 19 = .ok (.aaload, 1) := by decide +kernel
theorem dX7_becomes_20 : decode cX7_becomes 20 = .ok (.iload_n 2, 1) := by decide +kernel
theorem dX7_becomes_21 : decode cX7_becomes 21 = .ok (.caload, 1) := by decide +kernel
theorem dX7_becomes_22 : decode cX7_becomes 22 = .ok (.bipush 115, 2) := by decide +kernel
theorem dX7_becomes_24 : decode cX7_becomes 24 = .ok (.if_icmp .ne 21, 3) := by decide +kernel
theorem dX7_becomes_27 : decode cX7_becomes 27 = .ok (.iload_n 3, 1) := by decide +kernel
theorem dX7_becomes_28 : decode cX7_becomes 28 = .ok (.bipush 99, 2) := by decide +kernel
theorem dX7_becomes_30 : decode cX7_becomes 30 = .ok (.if_icmp .eq 9, 3) := by decide +kernel
theorem dX7_becomes_33 : decode cX7_becomes 33 = .ok (.iload_n 3, 1) := by decide +kernel
theorem dX7_becomes_34 : decode cX7_becomes 34 = .ok (.bipush 120, 2) := by decide +kernel
theorem dX7_becomes_36 : decode cX7_becomes 36 = .ok (.if_icmp .ne 9, 3) := by decide +kernel
theorem dX7_becomes_39 : decode cX7_becomes 39 = .ok (.aload_n 0, 1) := by decide +kernel
theorem dX7_becomes_40 : decode cX7_becomes 40 = .ok (.iload_n 1, 1) := by decide +kernel
theorem dX7_becomes_41 : decode cX7_becomes 41 = .ok (.iload_n 2, 1) := by decide +kernel
theorem dX7_becomes_42 : decode cX7_becomes 42 = .ok (.invokevirtual 133, 3) := by decide +kernel
theorem dX7_becomes_45 : decode cX7_becomes 45 = .ok (.return_, 1) := by decide +kernel
theorem dX7_isDone_0 : decode cX7_isDone 0 = .ok (.aload_n 0, 1) := by decide +kernel
theorem dX7_isDone_1 : decode cX7_isDone 1 = .ok (.getfield 51, 3) := by decide +kernel
theorem dX7_isDone_4 : decode cX7_isDone 4 = .ok (.iload_n 1, 1) := by decide +kernel
theorem dX7_isDone_5 : decode cX7_isDone 5 = .ok (.iaload, 1) := by decide +kernel
theorem dX7_isDone_6 : decode cX7_isDone 6 = .ok (.istore_n 3, 1) := by decide +kernel
theorem dX7_isDone_7 : decode cX7_isDone 7 = .ok (.iconst 0, 1) := by decide +kernel
theorem dX7_isDone_8 : decode cX7_isDone 8 = .ok (.istore 4, 2) := by decide +kernel
theorem dX7_isDone_10 : decode cX7_isDone 10 = .ok (.iconst 0, 1) := by decide +kernel
theorem dX7_isDone_11 : decode cX7_isDone 11 = .ok (.istore 5, 2) := by decide +kernel
theorem dX7_isDone_13 : decode cX7_isDone 13 = .ok (.iload 5, 2) := by decide +kernel
theorem dX7_isDone_15 : decode cX7_isDone 15 = .ok (.aload_n 0, 1) := by decide +kernel
theorem dX7_isDone_16 : decode cX7_isDone 16 = .ok (.getfield 43, 3) := by decide +kernel
theorem dX7_isDone_19 : decode cX7_isDone 19 = .ok (.iload_n 3, 1) := by decide +kernel
theorem dX7_isDone_20 : decode cX7_isDone 20 = .ok (.iaload, 1) := by decide +kernel
theorem dX7_isDone_21 : decode cX7_isDone 21 = .ok (.if_icmp .ge 107, 3) := by decide +kernel
theorem dX7_isDone_24 : decode cX7_isDone 24 = .ok (.aload_n 0, 1) := by decide +kernel
theorem dX7_isDone_25 : decode cX7_isDone 25 = .ok (.getfield 16, 3) := by decide +kernel
theorem dX7_isDone_28 : decode cX7_isDone 28 = .ok (.iload_n 3, 1) := by decide +kernel
theorem dX7_isDone_29 : decode cX7_isDone 29 = .ok (.aaload, 1) := by decide +kernel
theorem dX7_isDone_30 : decode cX7_isDone 30 = .ok (.iload 5, 2) := by decide +kernel
theorem dX7_isDone_32 : decode cX7_isDone 32 = .ok (.iaload, 1) := by decide +kernel
theorem dX7_isDone_33 : decode cX7_isDone 33 = .ok (.iload_n 2, 1) := by decide +kernel
theorem dX7_isDone_34 : decode cX7_isDone 34 = .ok (.if_icmp .ne 88, 3) := by decide +kernel
theorem dX7_isDone_37 : decode cX7_isDone 37 = .ok (.iinc 4 1, 3) := by decide +kernel
theorem dX7_isDone_40 : decode cX7_isDone 40 = .ok (.aload_n 0, 1) := by decide +kernel
theorem dX7_isDone_41 : decode cX7_isDone 41 = .ok (.getfield 60, 3) := by decide +kernel
theorem dX7_isDone_44 : decode cX7_isDone 44 = .ok (.iload_n 1, 1) := by decide +kernel
theorem dX7_isDone_45 : decode cX7_isDone 45 = .ok (.aaload, 1) := by decide +kernel
theorem dX7_isDone_46 : decode cX7_isDone 46 = .ok (.iload 5, 2) := by decide +kernel
theorem dX7_isDone_48 : decode cX7_isDone 48 = .ok (.caload, 1) := by decide +kernel
theorem dX7_isDone_49 : decode cX7_isDone 49 = .ok (.bipush 99, 2) := by decide +kernel
theorem dX7_isDone_51 : decode cX7_isDone 51 = .ok (.if_icmp .eq 57, 3) := by decide +kernel
theorem dX7_isDone_54 : decode cX7_isDone 54 = .ok (.aload_n 0, 1) := by decide +kernel
theorem dX7_isDone_55 : decode cX7_isDone 55 = .ok (.getfield 60, 3) := by decide +kernel
theorem dX7_isDone_58 : decode cX7_isDone 58 = .ok (.iload_n 1, 1) := by decide +kernel
theorem dX7_isDone_59 : decode cX7_isDone 59 = .ok (.aaload, 1) := by decide +kernel
theorem dX7_isDone_60 : decode cX7_isDone 60 = .ok (.iload 5, 2) := by decide +kernel
theorem dX7_isDone_62 : decode cX7_isDone 62 = .ok (.caload, 1) := by decide +kernel
theorem dX7_isDone_63 : decode cX7_isDone 63 = .ok (.bipush 120, 2) := by decide +kernel
theorem dX7_isDone_65 : decode cX7_isDone 65 = .ok (.if_icmp .eq 43, 3) := by decide +kernel
theorem dX7_isDone_68 : decode cX7_isDone 68 = .ok (.aload_n 0, 1) := by decide +kernel
theorem dX7_isDone_69 : decode cX7_isDone 69 = .ok (.getfield 60, 3) := by decide +kernel
theorem dX7_isDone_72 : decode cX7_isDone 72 = .ok (.iload_n 1, 1) := by decide +kernel
theorem dX7_isDone_73 : decode cX7_isDone 73 = .ok (.aaload, 1) := by decide +kernel
theorem dX7_isDone_74 : decode cX7_isDone 74 = .ok (.iload 5, 2) := by decide +kernel
theorem dX7_isDone_76 : decode cX7_isDone 76 = .ok (.caload, 1) := by decide +kernel
theorem dX7_isDone_77 : decode cX7_isDone 77 = .ok (.bipush 105, 2) := by decide +kernel
theorem dX7_isDone_79 : decode cX7_isDone 79 = .ok (.if_icmp .ne 33, 3) := by decide +kernel
theorem dX7_isDone_82 : decode cX7_isDone 82 = .ok (.aload_n 0, 1) := by decide +kernel
theorem dX7_isDone_83 : decode cX7_isDone 83 = .ok (.getfield 11, 3) := by decide +kernel
theorem dX7_isDone_86 : decode cX7_isDone 86 = .ok (.iload_n 3, 1) := by decide +kernel
theorem dX7_isDone_87 : decode cX7_isDone 87 = .ok (.aaload, 1) := by decide +kernel
theorem dX7_isDone_88 : decode cX7_isDone 88 = .ok (.iload 5, 2) := by decide +kernel
theorem dX7_isDone_90 : decode cX7_isDone 90 = .ok (.caload, 1) := by decide +kernel
theorem dX7_isDone_91 : decode cX7_isDone 91 = .ok (.bipush 116, 2) := by decide +kernel
theorem dX7_isDone_93 : decode cX7_isDone 93 = .ok (.if_icmp .ne 19, 3) := by decide +kernel
theorem dX7_isDone_96 : decode cX7_isDone 96 = .ok (.aload_n 0, 1) := by decide +kernel
theorem dX7_isDone_97 : decode cX7_isDone 97 = .ok (.getfield 21, 3) := by decide +kernel
theorem dX7_isDone_100 : decode cX7_isDone 100 = .ok (.iload_n 3, 1) := by decide +kernel
theorem dX7_isDone_101 : decode cX7_isDone 101 = .ok (.aaload, 1) := by decide +kernel
theorem dX7_isDone_102 : decode cX7_isDone 102 = .ok (.iload 5, 2) := by decide +kernel
theorem dX7_isDone_104 : decode cX7_isDone 104 = .ok (.baload, 1) := by decide +kernel
theorem dX7_isDone_105 : decode cX7_isDone 105 = .ok (.ifCond .ne 7, 3) := by decide +kernel
theorem dX7_isDone_108 : decode cX7_isDone 108 = .ok (.iconst 1, 1) := by decide +kernel
theorem dX7_isDone_109 : decode cX7_isDone 109 = .ok (.goto 4, 3) := by decide +kernel
theorem dX7_isDone_112 : decode cX7_isDone 112 = .ok (.iconst 0, 1) := by decide +kernel
theorem dX7_isDone_113 : decode cX7_isDone 113 = .ok (.istore 6, 2) := by decide +kernel
theorem dX7_isDone_115 : decode cX7_isDone 115 = .ok (.iload 6, 2) := by decide +kernel
theorem dX7_isDone_117 : decode cX7_isDone 117 = .ok (.ifCond .ne 5, 3) := by decide +kernel
theorem dX7_isDone_120 : decode cX7_isDone 120 = .ok (.iconst 0, 1) := by decide +kernel
theorem dX7_isDone_121 : decode cX7_isDone 121 = .ok (.ireturn, 1) := by decide +kernel
theorem dX7_isDone_122 : decode cX7_isDone 122 = .ok (.iinc 5 1, 3) := by decide +kernel
theorem dX7_isDone_125 : decode cX7_isDone 125 = .ok (.goto (-112), 3) := by decide +kernel
theorem dX7_isDone_128 : decode cX7_isDone 128 = .ok (.iload 4, 2) := by decide +kernel
theorem dX7_isDone_130 : decode cX7_isDone 130 = .ok (.ifCond .le 7, 3) := by decide +kernel
theorem dX7_isDone_133 : decode cX7_isDone 133 = .ok (.iconst 1, 1) := by decide +kernel
theorem dX7_isDone_134 : decode cX7_isDone 134 = .ok (.goto 4, 3) := by decide +kernel
theorem dX7_isDone_137 : decode cX7_isDone 137 = .ok (.iconst 0, 1) := by decide +kernel
theorem dX7_isDone_138 : decode cX7_isDone 138 = .ok (.ireturn, 1) := by decide +kernel
theorem dX7_looks_0 : decode cX7_looks 0 = .ok (.aload_n 0, 1) := by decide +kernel
theorem dX7_looks_1 : decode cX7_looks 1 = .ok (.getfield 51, 3) := by decide +kernel
theorem dX7_looks_4 : decode cX7_looks 4 = .ok (.iload_n 1, 1) := by decide +kernel
theorem dX7_looks_5 : decode cX7_looks 5 = .ok (.iaload, 1) := by decide +kernel
theorem dX7_looks_6 : decode cX7_looks 6 = .ok (.istore_n 3, 1) := by decide +kernel
theorem dX7_looks_7 : decode cX7_looks 7 = .ok (.aload_n 0, 1) := by decide +kernel
theorem dX7_looks_8 : decode cX7_looks 8 = .ok (.getfield 60, 3) := by decide +kernel
theorem dX7_looks_11 : decode cX7_looks 11 = .ok (.iload_n 1, 1) := by decide +kernel
theorem dX7_looks_12 : decode cX7_looks 12 = .ok (.aaload, 1) := by decide +kernel
theorem dX7_looks_13 : decode cX7_looks 13 = .ok (.iload_n 2, 1) := by decide +kernel
theorem dX7_looks_14 : decode cX7_looks 14 = .ok (.caload, 1) := by decide +kernel
theorem dX7_looks_15 : decode cX7_looks 15 = .ok (.istore 4, 2) := by decide +kernel
theorem dX7_looks_17 : decode cX7_looks 17 = .ok (.aload_n 0, 1) := by decide +kernel
theorem dX7_looks_18 : decode cX7_looks 18 = .ok (.getfield 16, 3) := by decide +kernel
theorem dX7_looks_21 : decode cX7_looks 21 = .ok (.iload_n 3, 1) := by decide +kernel
theorem dX7_looks_22 : decode cX7_looks 22 = .ok (.aaload, 1) := by decide +kernel
theorem dX7_looks_23 : decode cX7_looks 23 = .ok (.iload_n 2, 1) := by decide +kernel
theorem dX7_looks_24 : decode cX7_looks 24 = .ok (.iaload, 1) := by decide +kernel
theorem dX7_looks_25 : decode cX7_looks 25 = .ok (.istore 5, 2) := by decide +kernel
theorem dX7_looks_27 : decode cX7_looks 27 = .ok (.iload 4, 2) := by decide +kernel
theorem dX7_looks_29 : decode cX7_looks 29 = .ok (.bipush 97, 2) := by decide +kernel
theorem dX7_looks_31 : decode cX7_looks 31 = .ok (.if_icmp .ne 23, 3) := by decide +kernel
theorem dX7_looks_34 : decode cX7_looks 34 = .ok (.aload_n 0, 1) := by decide +kernel
theorem dX7_looks_35 : decode cX7_looks 35 = .ok (.iload_n 1, 1) := by decide +kernel
theorem dX7_looks_36 : decode cX7_looks 36 = .ok (.iload_n 2, 1) := by decide +kernel
theorem dX7_looks_37 : decode cX7_looks 37 = .ok (.iconst 1, 1) := by decide +kernel
theorem dX7_looks_38 : decode cX7_looks 38 = .ok (.invokevirtual 137, 3) := by decide +kernel
theorem dX7_looks_41 : decode cX7_looks 41 = .ok (.ifCond .eq 13, 3) := by decide +kernel
theorem dX7_looks_44 : decode cX7_looks 44 = .ok (.aload_n 0, 1) := by decide +kernel
theorem dX7_looks_45 : decode cX7_looks 45 = .ok (.iload_n 1, 1) := by decide +kernel
theorem dX7_looks_46 : decode cX7_looks 46 = .ok (.iload_n 2, 1) := by decide +kernel
theorem dX7_looks_47 : decode cX7_looks 47 = .ok (.bipush 120, 2) := by decide +kernel
theorem dX7_looks_49 : decode cX7_looks 49 = .ok (.invokevirtual 129, 3) := by decide +kernel
theorem dX7_looks_52 : decode cX7_looks 52 = .ok (.iconst 1, 1) := by decide +kernel
theorem dX7_looks_53 : decode cX7_looks 53 = .ok (.ireturn, 1) := by decide +kernel
theorem dX7_looks_54 : decode cX7_looks 54 = .ok (.iload 4, 2) := by decide +kernel
theorem dX7_looks_56 : decode cX7_looks 56 = .ok (.bipush 105, 2) := by decide +kernel
theorem dX7_looks_58 : decode cX7_looks 58 = .ok (.if_icmp .ne 88, 3) := by decide +kernel
theorem dX7_looks_61 : decode cX7_looks 61 = .ok (.aload_n 0, 1) := by decide +kernel
theorem dX7_looks_62 : decode cX7_looks 62 = .ok (.getfield 40, 3) := by decide +kernel
theorem dX7_looks_65 : decode cX7_looks 65 = .ok (.iload_n 3, 1) := by decide +kernel
theorem dX7_looks_66 : decode cX7_looks 66 = .ok (.aaload, 1) := by decide +kernel
theorem dX7_looks_67 : decode cX7_looks 67 = .ok (.iload_n 2, 1) := by decide +kernel
theorem dX7_looks_68 : decode cX7_looks 68 = .ok (.aaload, 1) := by decide +kernel
theorem dX7_looks_69 : decode cX7_looks 69 = .ok (.iconst 0, 1) := by decide +kernel
theorem dX7_looks_70 : decode cX7_looks 70 = .ok (.iaload, 1) := by decide +kernel
theorem dX7_looks_71 : decode cX7_looks 71 = .ok (.ifCond .eq 13, 3) := by decide +kernel
theorem dX7_looks_74 : decode cX7_looks 74 = .ok (.aload_n 0, 1) := by decide +kernel
theorem dX7_looks_75 : decode cX7_looks 75 = .ok (.iload_n 1, 1) := by decide +kernel
theorem dX7_looks_76 : decode cX7_looks 76 = .ok (.iload_n 2, 1) := by decide +kernel
theorem dX7_looks_77 : decode cX7_looks 77 = .ok (.iconst 0, 1) := by decide +kernel
theorem dX7_looks_78 : decode cX7_looks 78 = .ok (.invokevirtual 137, 3) := by decide +kernel
theorem dX7_looks_81 : decode cX7_looks 81 = .ok (.ifCond .eq 65, 3) := by decide +kernel
theorem dX7_looks_84 : decode cX7_looks 84 = .ok (.iload 5, 2) := by decide +kernel
theorem dX7_looks_86 : decode cX7_looks 86 = .ok (.iconst (-1), 1) := by decide +kernel
theorem dX7_looks_87 : decode cX7_looks 87 = .ok (.if_icmp .eq 17, 3) := by decide +kernel
theorem dX7_looks_90 : decode cX7_looks 90 = .ok (.aload_n 0, 1) := by decide +kernel
theorem dX7_looks_91 : decode cX7_looks 91 = .ok (.getfield 60, 3) := by decide +kernel
theorem dX7_looks_94 : decode cX7_looks 94 = .ok (.iload_n 1, 1) := by decide +kernel
theorem dX7_looks_95 : decode cX7_looks 95 = .ok (.aaload, 1) := by decide +kernel
theorem dX7_looks_96 : decode cX7_looks 96 = .ok (.iload 5, 2) := by decide +kernel
theorem dX7_looks_98 : decode cX7_looks 98 = .ok (.caload, 1) := by decide +kernel
theorem dX7_looks_99 : decode cX7_looks 99 = .ok (.bipush 97, 2) := by decide +kernel
theorem dX7_looks_101 : decode cX7_looks 101 = .ok (.if_icmp .ne 45, 3) := by decide +kernel
theorem dX7_looks_104 : decode cX7_looks 104 = .ok (.aload_n 0, 1) := by decide +kernel
theorem dX7_looks_105 : decode cX7_looks 105 = .ok (.getfield 66, 3) := by decide +kernel
theorem dX7_looks_108 : decode cX7_looks 108 = .ok (.iload_n 1, 1) := by decide +kernel
theorem dX7_looks_109 : decode cX7_looks 109 = .ok (.aaload, 1) := by decide +kernel
theorem dX7_looks_110 : decode cX7_looks 110 = .ok (.iload_n 2, 1) := by decide +kernel
theorem dX7_looks_111 : decode cX7_looks 111 = .ok (.dup2, 1) := by decide +kernel
theorem dX7_looks_112 : decode cX7_looks 112 = .ok (.iaload, 1) := by decide +kernel
theorem dX7_looks_113 : decode cX7_looks 113 = .ok (.iconst 1, 1) := by decide +kernel
theorem dX7_looks_114 : decode cX7_looks 114 = .ok (.iadd, 1) := by decide +kernel
theorem dX7_looks_115 : decode cX7_looks 115 = .ok (.iastore, 1) := by decide +kernel
theorem dX7_looks_116 : decode cX7_looks 116 = .ok (.aload_n 0, 1) := by decide +kernel
theorem dX7_looks_117 : decode cX7_looks 117 = .ok (.getfield 60, 3) := by decide +kernel
theorem dX7_looks_120 : decode cX7_looks 120 = .ok (.iload_n 1, 1) := by decide +kernel
theorem dX7_looks_121 : decode cX7_looks 121 = .ok (.aaload, 1) := by decide +kernel
theorem dX7_looks_122 : decode cX7_looks 122 = .ok (.iload_n 2, 1) := by decide +kernel
theorem dX7_looks_123 : decode cX7_looks 123 = .ok (.aload_n 0, 1) := by decide +kernel
theorem dX7_looks_124 : decode cX7_looks 124 = .ok (.getfield 11, 3) := by decide +kernel
theorem dX7_looks_127 : decode cX7_looks 127 = .ok (.iload_n 3, 1) := by decide +kernel
theorem dX7_looks_128 : decode cX7_looks 128 = .ok (.aaload, 1) := by decide +kernel
theorem dX7_looks_129 : decode cX7_looks 129 = .ok (.iload_n 2, 1) := by decide +kernel
theorem dX7_looks_130 : decode cX7_looks 130 = .ok (.caload, 1) := by decide +kernel
theorem dX7_looks_131 : decode cX7_looks 131 = .ok (.bipush 109, 2) := by decide +kernel
theorem dX7_looks_133 : decode cX7_looks 133 = .ok (.if_icmp .ne 8, 3) := by decide +kernel
theorem dX7_looks_136 : decode cX7_looks 136 = .ok (.bipush 99, 2) := by decide +kernel
theorem dX7_looks_138 : decode cX7_looks 138 = .ok (.goto 5, 3) := by decide +kernel
theorem dX7_looks_141 : decode cX7_looks 141 = .ok (.bipush 97, 2) := by decide +kernel
theorem dX7_looks_143 : decode cX7_looks 143 = .ok (.castore, 1) := by decide +kernel
theorem dX7_looks_144 : decode cX7_looks 144 = .ok (.iconst 1, 1) := by decide +kernel
theorem dX7_looks_145 : decode cX7_looks 145 = .ok (.ireturn, 1) := by decide +kernel
theorem dX7_looks_146 : decode cX7_looks 146 = .ok (.iload 4, 2) := by decide +kernel
theorem dX7_looks_148 : decode cX7_looks 148 = .ok (.bipush 97, 2) := by decide +kernel
theorem dX7_looks_150 : decode cX7_looks 150 = .ok (.if_icmp .ne 35, 3) := by decide +kernel
theorem dX7_looks_153 : decode cX7_looks 153 = .ok (.aload_n 0, 1) := by decide +kernel
theorem dX7_looks_154 : decode cX7_looks 154 = .ok (.getfield 11, 3) := by decide +kernel
theorem dX7_looks_157 : decode cX7_looks 157 = .ok (.iload_n 3, 1) := by decide +kernel
theorem dX7_looks_158 : decode cX7_looks 158 = .ok (.aaload, 1) := by decide +kernel
theorem dX7_looks_159 : decode cX7_looks 159 = .ok (.iload_n 2, 1) := by decide +kernel
theorem dX7_looks_160 : decode cX7_looks 160 = .ok (.caload, 1) := by decide +kernel
theorem dX7_looks_161 : decode cX7_looks 161 = .ok (.bipush 115, 2) := by decide +kernel
theorem dX7_looks_163 : decode cX7_looks 163 = .ok (.if_icmp .ne 22, 3) := by decide +kernel
theorem dX7_looks_166 : decode cX7_looks 166 = .ok (.aload_n 0, 1) := by decide +kernel
theorem dX7_looks_167 : decode cX7_looks 167 = .ok (.iload_n 1, 1) := by decide +kernel
theorem dX7_looks_168 : decode cX7_looks 168 = .ok (.iload_n 2, 1) := by decide +kernel
theorem dX7_looks_169 : decode cX7_looks 169 = .ok (.invokevirtual 140, 3) := by decide +kernel
theorem dX7_looks_172 : decode cX7_looks 172 = .ok (.ifCond .eq 13, 3) := by decide +kernel
theorem dX7_looks_175 : decode cX7_looks 175 = .ok (.aload_n 0, 1) := by decide +kernel
theorem dX7_looks_176 : decode cX7_looks 176 = .ok (.iload_n 1, 1) := by decide +kernel
theorem dX7_looks_177 : decode cX7_looks 177 = .ok (.iload_n 2, 1) := by decide +kernel
theorem dX7_looks_178 : decode cX7_looks 178 = .ok (.bipush 99, 2) := by decide +kernel
theorem dX7_looks_180 : decode cX7_looks 180 = .ok (.invokevirtual 129, 3) := by decide +kernel
theorem dX7_looks_183 : decode cX7_looks 183 = .ok (.iconst 1, 1) := by decide +kernel
theorem dX7_looks_184 : decode cX7_looks 184 = .ok (.ireturn, 1) := by decide +kernel
theorem dX7_looks_185 : decode cX7_looks 185 = .ok (.iload 4, 2) := by decide +kernel
theorem dX7_looks_187 : decode cX7_looks 187 = .ok (.bipush 99, 2) := by decide +kernel
theorem dX7_looks_189 : decode cX7_looks 189 = .ok (.if_icmp .ne 62, 3) := by decide +kernel
theorem dX7_looks_192 : decode cX7_looks 192 = .ok (.aload_n 0, 1) := by decide +kernel
theorem dX7_looks_193 : decode cX7_looks 193 = .ok (.getfield 11, 3) := by decide +kernel
theorem dX7_looks_196 : decode cX7_looks 196 = .ok (.iload_n 3, 1) := by decide +kernel
theorem dX7_looks_197 : decode cX7_looks 197 = .ok (.aaload, 1) := by decide +kernel
theorem dX7_looks_198 : decode cX7_looks 198 = .ok (.iload_n 2, 1) := by decide +kernel
theorem dX7_looks_199 : decode cX7_looks 199 = .ok (.caload, 1) := by decide +kernel
theorem dX7_looks_200 : decode cX7_looks 200 = .ok (.bipush 109, 2) := by decide +kernel
theorem dX7_looks_202 : decode cX7_looks 202 = .ok (.if_icmp .ne 49, 3) := by decide +kernel
theorem dX7_looks_205 : decode cX7_looks 205 = .ok (.aload_n 0, 1) := by decide +kernel
theorem dX7_looks_206 : decode cX7_looks 206 = .ok (.getfield 21, 3) := by decide +kernel
theorem dX7_looks_209 : decode cX7_looks 209 = .ok (.iload_n 3, 1) := by decide +kernel
theorem dX7_looks_210 : decode cX7_looks 210 = .ok (.aaload, 1) := by decide +kernel
theorem dX7_looks_211 : decode cX7_looks 211 = .ok (.iload_n 2, 1) := by decide +kernel
theorem dX7_looks_212 : decode cX7_looks 212 = .ok (.baload, 1) := by decide +kernel
theorem dX7_looks_213 : decode cX7_looks 213 = .ok (.ifCond .eq 38, 3) := by decide +kernel
theorem dX7_looks_216 : decode cX7_looks 216 = .ok (.aload_n 0, 1) := by decide +kernel
theorem dX7_looks_217 : decode cX7_looks 217 = .ok (.getfield 40, 3) := by decide +kernel
theorem dX7_looks_220 : decode cX7_looks 220 = .ok (.iload_n 3, 1) := by decide +kernel
theorem dX7_looks_221 : decode cX7_looks 221 = .ok (.aaload, 1) := by decide +kernel
theorem dX7_looks_222 : decode cX7_looks 222 = .ok (.iload_n 2, 1) := by decide +kernel
theorem dX7_looks_223 : decode cX7_looks 223 = .ok (.aaload, 1) := by decide +kernel
theorem dX7_looks_224 : decode cX7_looks 224 = .ok (.iconst 0, 1) := by decide +kernel
theorem dX7_looks_225 : decode cX7_looks 225 = .ok (.iaload, 1) := by decide +kernel
theorem dX7_looks_226 : decode cX7_looks 226 = .ok (.ifCond .le 25, 3) := by decide +kernel
theorem dX7_looks_229 : decode cX7_looks 229 = .ok (.aload_n 0, 1) := by decide +kernel
theorem dX7_looks_230 : decode cX7_looks 230 = .ok (.iload_n 1, 1) := by decide +kernel
theorem dX7_looks_231 : decode cX7_looks 231 = .ok (.iload_n 2, 1) := by decide +kernel
theorem dX7_looks_232 : decode cX7_looks 232 = .ok (.iconst 0, 1) := by decide +kernel
theorem dX7_looks_233 : decode cX7_looks 233 = .ok (.invokevirtual 137, 3) := by decide +kernel
theorem dX7_looks_236 : decode cX7_looks 236 = .ok (.ifCond .ne 15, 3) := by decide +kernel
theorem dX7_looks_239 : decode cX7_looks 239 = .ok (.aload_n 0, 1) := by decide +kernel
theorem dX7_looks_240 : decode cX7_looks 240 = .ok (.getfield 60, 3) := by decide +kernel
theorem dX7_looks_243 : decode cX7_looks 243 = .ok (.iload_n 1, 1) := by decide +kernel
theorem dX7_looks_244 : decode cX7_looks 244 = .ok (.aaload, 1) := by decide +kernel
theorem dX7_looks_245 : decode cX7_looks 245 = .ok (.iload_n 2, 1) := by decide +kernel
theorem dX7_looks_246 : decode cX7_looks 246 = .ok (.bipush 105, 2) := by decide +kernel
theorem dX7_looks_248 : decode cX7_looks 248 = .ok (.castore, 1) := by decide +kernel
theorem dX7_looks_249 : decode cX7_looks 249 = .ok (.iconst 1, 1) := by decide +kernel
theorem dX7_looks_250 : decode cX7_looks 250 = .ok (.ireturn, 1) := by decide +kernel
theorem dX7_looks_251 : decode cX7_looks 251 = .ok (.iconst 0, 1) := by decide +kernel
theorem dX7_looks_252 : decode cX7_looks 252 = .ok (.ireturn, 1) := by decide +kernel
theorem dX7_goes_0 : decode cX7_goes 0 = .ok (.aload_n 0, 1) := by decide +kernel
theorem dX7_goes_1 : decode cX7_goes 1 = .ok (.getfield 75, 3) := by decide +kernel
theorem dX7_goes_4 : decode cX7_goes 4 = .ok (.iload_n 1, 1) := by decide +kernel
theorem dX7_goes_5 : decode cX7_goes 5 = .ok (.dup2, 1) := by decide +kernel
theorem dX7_goes_6 : decode cX7_goes 6 = .ok (.iaload, 1) := by decide +kernel
theorem dX7_goes_7 : decode cX7_goes 7 = .ok (.iconst 1, 1) := by decide +kernel
theorem dX7_goes_8 : decode cX7_goes 8 = .ok (.iadd, 1) := by decide +kernel
theorem dX7_goes_9 : decode cX7_goes 9 = .ok (.iastore, 1) := by decide +kernel
theorem dX7_goes_10 : decode cX7_goes 10 = .ok (.aload_n 0, 1) := by decide +kernel
theorem dX7_goes_11 : decode cX7_goes 11 = .ok (.getfield 72, 3) := by decide +kernel
theorem dX7_goes_14 : decode cX7_goes 14 = .ok (.iload_n 1, 1) := by decide +kernel
theorem dX7_goes_15 : decode cX7_goes 15 = .ok (.iconst 0, 1) := by decide +kernel
theorem dX7_goes_16 : decode cX7_goes 16 = .ok (.iastore, 1) := by decide +kernel
theorem dX7_goes_17 : decode cX7_goes 17 = .ok (.iconst 1, 1) := by decide +kernel
theorem dX7_goes_18 : decode cX7_goes 18 = .ok (.istore_n 2, 1) := by decide +kernel
theorem dX7_goes_19 : decode cX7_goes 19 = .ok (.iload_n 2, 1) := by decide +kernel
theorem dX7_goes_20 : decode cX7_goes 20 = .ok (.ifCond .eq 83, 3) := by decide +kernel
theorem dX7_goes_23 : decode cX7_goes 23 = .ok (.aload_n 0, 1) := by decide +kernel
theorem dX7_goes_24 : decode cX7_goes 24 = .ok (.getfield 72, 3) := by decide +kernel
theorem dX7_goes_27 : decode cX7_goes 27 = .ok (.iload_n 1, 1) := by decide +kernel
theorem dX7_goes_28 : decode cX7_goes 28 = .ok (.iaload, 1) := by decide +kernel
theorem dX7_goes_29 : decode cX7_goes 29 = .ok (.bipush 20, 2) := by decide +kernel
theorem dX7_goes_31 : decode cX7_goes 31 = .ok (.if_icmp .ge 72, 3) := by decide +kernel
theorem dX7_goes_34 : decode cX7_goes 34 = .ok (.iconst 0, 1) := by decide +kernel
theorem dX7_goes_35 : decode cX7_goes 35 = .ok (.istore_n 2, 1) := by decide +kernel
theorem dX7_goes_36 : decode cX7_goes 36 = .ok (.iconst 0, 1) := by decide +kernel
theorem dX7_goes_37 : decode cX7_goes 37 = .ok (.istore_n 3, 1) := by decide +kernel
theorem dX7_goes_38 : decode cX7_goes 38 = .ok (.iload_n 3, 1) := by decide +kernel
theorem dX7_goes_39 : decode cX7_goes 39 = .ok (.aload_n 0, 1) := by decide +kernel
theorem dX7_goes_40 : decode cX7_goes 40 = .ok (.getfield 43, 3) := by decide +kernel
theorem dX7_goes_43 : decode cX7_goes 43 = .ok (.aload_n 0, 1) := by decide +kernel
theorem dX7_goes_44 : decode cX7_goes 44 = .ok (.getfield 51, 3) := by decide +kernel
theorem dX7_goes_47 : decode cX7_goes 47 = .ok (.iload_n 1, 1) := by decide +kernel
theorem dX7_goes_48 : decode cX7_goes 48 = .ok (.iaload, 1) := by decide +kernel
theorem dX7_goes_49 : decode cX7_goes 49 = .ok (.iaload, 1) := by decide +kernel
theorem dX7_goes_50 : decode cX7_goes 50 = .ok (.if_icmp .ge 32, 3) := by decide +kernel
theorem dX7_goes_53 : decode cX7_goes 53 = .ok (.aload_n 0, 1) := by decide +kernel
theorem dX7_goes_54 : decode cX7_goes 54 = .ok (.iload_n 1, 1) := by decide +kernel
theorem dX7_goes_55 : decode cX7_goes 55 = .ok (.iload_n 3, 1) := by decide +kernel
theorem dX7_goes_56 : decode cX7_goes 56 = .ok (.invokevirtual 143, 3) := by decide +kernel
theorem dX7_goes_59 : decode cX7_goes 59 = .ok (.istore 4, 2) := by decide +kernel
theorem dX7_goes_61 : decode cX7_goes 61 = .ok (.iload_n 2, 1) := by decide +kernel
theorem dX7_goes_62 : decode cX7_goes 62 = .ok (.ifCond .ne 8, 3) := by decide +kernel
theorem dX7_goes_65 : decode cX7_goes 65 = .ok (.iload 4, 2) := by decide +kernel
theorem dX7_goes_67 : decode cX7_goes 67 = .ok (.ifCond .eq 7, 3) := by decide +kernel
theorem dX7_goes_70 : decode cX7_goes 70 = .ok (.iconst 1, 1) := by decide +kernel
theorem dX7_goes_71 : decode cX7_goes 71 = .ok (.goto 4, 3) := by decide +kernel
theorem dX7_goes_74 : decode cX7_goes 74 = .ok (.iconst 0, 1) := by decide +kernel
theorem dX7_goes_75 : decode cX7_goes 75 = .ok (.istore_n 2, 1) := by decide +kernel
theorem dX7_goes_76 : decode cX7_goes 76 = .ok (.iinc 3 1, 3) := by decide +kernel
theorem dX7_goes_79 : decode cX7_goes 79 = .ok (.goto (-41), 3) := by decide +kernel
theorem dX7_goes_82 : decode cX7_goes 82 = .ok (.aload_n 0, 1) := by decide +kernel
theorem dX7_goes_83 : decode cX7_goes 83 = .ok (.getfield 72, 3) := by decide +kernel
theorem dX7_goes_86 : decode cX7_goes 86 = .ok (.iload_n 1, 1) := by decide +kernel
theorem dX7_goes_87 : decode cX7_goes 87 = .ok (.dup2, 1) := by decide +kernel
theorem dX7_goes_88 : decode cX7_goes 88 = .ok (.iaload, 1) := by decide +kernel
theorem dX7_goes_89 : decode cX7_goes 89 = .ok (.iload_n 2, 1) := by decide +kernel
theorem dX7_goes_90 : decode cX7_goes 90 = .ok (.ifCond .eq 7, 3) := by decide +kernel
theorem dX7_goes_93 : decode cX7_goes 93 = .ok (.iconst 1, 1) := by decide +kernel
theorem dX7_goes_94 : decode cX7_goes 94 = .ok (.goto 4, 3) := by decide +kernel
theorem dX7_goes_97 : decode cX7_goes 97 = .ok (.iconst 0, 1) := by decide +kernel
theorem dX7_goes_98 : decode cX7_goes 98 = .ok (.iadd, 1) := by decide +kernel
theorem dX7_goes_99 : decode cX7_goes 99 = .ok (.iastore, 1) := by decide +kernel
theorem dX7_goes_100 : decode cX7_goes 100 = .ok (.goto (-81), 3) := by decide +kernel
theorem dX7_goes_103 : decode cX7_goes 103 = .ok (.aload_n 0, 1) := by decide +kernel
theorem dX7_goes_104 : decode cX7_goes 104 = .ok (.iconst (-1), 1) := by decide +kernel
theorem dX7_goes_105 : decode cX7_goes 105 = .ok (.putfield 78, 3) := by decide +kernel
theorem dX7_goes_108 : decode cX7_goes 108 = .ok (.return_, 1) := by decide +kernel
theorem dX7_begin_0 : decode cX7_begin 0 = .ok (.aload_n 0, 1) := by decide +kernel
theorem dX7_begin_1 : decode cX7_begin 1 = .ok (.aload_n 0, 1) := by decide +kernel
theorem dX7_begin_2 : decode cX7_begin 2 = .ok (.iload_n 1, 1) := by decide +kernel
theorem dX7_begin_3 : decode cX7_begin 3 = .ok (.invokevirtual 96, 3) := by decide +kernel
theorem dX7_begin_6 : decode cX7_begin 6 = .ok (.ifCond .ne 7, 3) := by decide +kernel
theorem dX7_begin_9 : decode cX7_begin 9 = .ok (.iconst 1, 1) := by decide +kernel
theorem dX7_begin_10 : decode cX7_begin 10 = .ok (.goto 25, 3) := by decide +kernel
theorem dX7_begin_13 : decode cX7_begin 13 = .ok (.aload_n 0, 1) := by decide +kernel
theorem dX7_begin_14 : decode cX7_begin 14 = .ok (.getfield 43, 3) := by decide +kernel
theorem dX7_begin_17 : decode cX7_begin 17 = .ok (.iload_n 1, 1) := by decide +kernel
theorem dX7_begin_18 : decode cX7_begin 18 = .ok (.iaload, 1) := by decide +kernel
theorem dX7_begin_19 : decode cX7_begin 19 = .ok (.ifCond .eq 11, 3) := by decide +kernel
theorem dX7_begin_22 : decode cX7_begin 22 = .ok (.aload_n 0, 1) := by decide +kernel
theorem dX7_begin_23 : decode cX7_begin 23 = .ok (.getfield 100, 3) := by decide +kernel
theorem dX7_begin_26 : decode cX7_begin 26 = .ok (.iconst 4, 1) := by decide +kernel
theorem dX7_begin_27 : decode cX7_begin 27 = .ok (.if_icmp .ne 7, 3) := by decide +kernel
theorem dX7_begin_30 : decode cX7_begin 30 = .ok (.iconst 2, 1) := by decide +kernel
theorem dX7_begin_31 : decode cX7_begin 31 = .ok (.goto 4, 3) := by decide +kernel
theorem dX7_begin_34 : decode cX7_begin 34 = .ok (.iconst 0, 1) := by decide +kernel
theorem dX7_begin_35 : decode cX7_begin 35 = .ok (.putfield 86, 3) := by decide +kernel
theorem dX7_begin_38 : decode cX7_begin 38 = .ok (.aload_n 0, 1) := by decide +kernel
theorem dX7_begin_39 : decode cX7_begin 39 = .ok (.getfield 86, 3) := by decide +kernel
theorem dX7_begin_42 : decode cX7_begin 42 = .ok (.ifCond .le 5, 3) := by decide +kernel
theorem dX7_begin_45 : decode cX7_begin 45 = .ok (.iconst 0, 1) := by decide +kernel
theorem dX7_begin_46 : decode cX7_begin 46 = .ok (.ireturn, 1) := by decide +kernel
theorem dX7_begin_47 : decode cX7_begin 47 = .ok (.aload_n 0, 1) := by decide +kernel
theorem dX7_begin_48 : decode cX7_begin 48 = .ok (.getfield 100, 3) := by decide +kernel
theorem dX7_begin_51 : decode cX7_begin 51 = .ok (.istore_n 2, 1) := by decide +kernel
theorem dX7_begin_52 : decode cX7_begin 52 = .ok (.aload_n 0, 1) := by decide +kernel
theorem dX7_begin_53 : decode cX7_begin 53 = .ok (.dup, 1) := by decide +kernel
theorem dX7_begin_54 : decode cX7_begin 54 = .ok (.getfield 100, 3) := by decide +kernel
theorem dX7_begin_57 : decode cX7_begin 57 = .ok (.iconst 1, 1) := by decide +kernel
theorem dX7_begin_58 : decode cX7_begin 58 = .ok (.iadd, 1) := by decide +kernel
theorem dX7_begin_59 : decode cX7_begin 59 = .ok (.putfield 100, 3) := by decide +kernel
theorem dX7_begin_62 : decode cX7_begin 62 = .ok (.aload_n 0, 1) := by decide +kernel
theorem dX7_begin_63 : decode cX7_begin 63 = .ok (.getfield 51, 3) := by decide +kernel
theorem dX7_begin_66 : decode cX7_begin 66 = .ok (.iload_n 2, 1) := by decide +kernel
theorem dX7_begin_67 : decode cX7_begin 67 = .ok (.iload_n 1, 1) := by decide +kernel
theorem dX7_begin_68 : decode cX7_begin 68 = .ok (.iastore, 1) := by decide +kernel
theorem dX7_begin_69 : decode cX7_begin 69 = .ok (.aload_n 0, 1) := by decide +kernel
theorem dX7_begin_70 : decode cX7_begin 70 = .ok (.getfield 47, 3) := by decide +kernel
theorem dX7_begin_73 : decode cX7_begin 73 = .ok (.iload_n 1, 1) := by decide +kernel
theorem dX7_begin_74 : decode cX7_begin 74 = .ok (.iconst 1, 1) := by decide +kernel
theorem dX7_begin_75 : decode cX7_begin 75 = .ok (.bastore, 1) := by decide +kernel
theorem dX7_begin_76 : decode cX7_begin 76 = .ok (.iconst 0, 1) := by decide +kernel
theorem dX7_begin_77 : decode cX7_begin 77 = .ok (.istore_n 3, 1) := by decide +kernel
theorem dX7_begin_78 : decode cX7_begin 78 = .ok (.iload_n 3, 1) := by decide +kernel
theorem dX7_begin_79 : decode cX7_begin 79 = .ok (.bipush 8, 2) := by decide +kernel
theorem dX7_begin_81 : decode cX7_begin 81 = .ok (.if_icmp .ge 19, 3) := by decide +kernel
theorem dX7_begin_84 : decode cX7_begin 84 = .ok (.aload_n 0, 1) := by decide +kernel
theorem dX7_begin_85 : decode cX7_begin 85 = .ok (.getfield 60, 3) := by decide +kernel
theorem dX7_begin_88 : decode cX7_begin 88 = .ok (.iload_n 2, 1) := by decide +kernel
theorem dX7_begin_89 : decode cX7_begin 89 = .ok (.aaload, 1) := by decide +kernel
theorem dX7_begin_90 : decode cX7_begin 90 = .ok (.iload_n 3, 1) := by decide +kernel
theorem dX7_begin_91 : decode cX7_begin 91 = .ok (.bipush 105, 2) := by decide +kernel
theorem dX7_begin_93 : decode cX7_begin 93 = .ok (.castore, 1) := by decide +kernel
theorem dX7_begin_94 : decode cX7_begin 94 = .ok (.iinc 3 1, 3) := by decide +kernel
theorem dX7_begin_97 : decode cX7_begin 97 = .ok (.goto (-19), 3) := by decide +kernel
theorem dX7_begin_100 : decode cX7_begin 100 = .ok (.aload_n 0, 1) := by decide +kernel
theorem dX7_begin_101 : decode cX7_begin 101 = .ok (.iload_n 2, 1) := by decide +kernel
theorem dX7_begin_102 : decode cX7_begin 102 = .ok (.invokevirtual 146, 3) := by decide +kernel
theorem dX7_begin_105 : decode cX7_begin 105 = .ok (.iload_n 2, 1) := by decide +kernel
theorem dX7_begin_106 : decode cX7_begin 106 = .ok (.ireturn, 1) := by decide +kernel
theorem dX7_set_0 : decode cX7_set 0 = .ok (.aload_n 0, 1) := by decide +kernel
theorem dX7_set_1 : decode cX7_set 1 = .ok (.aload_n 0, 1) := by decide +kernel
theorem dX7_set_2 : decode cX7_set 2 = .ok (.iload_n 1, 1) := by decide +kernel
theorem dX7_set_3 : decode cX7_set 3 = .ok (.invokevirtual 103, 3) := by decide +kernel
theorem dX7_set_6 : decode cX7_set 6 = .ok (.ifCond .ne 7, 3) := by decide +kernel
theorem dX7_set_9 : decode cX7_set 9 = .ok (.iconst 1, 1) := by decide +kernel
theorem dX7_set_10 : decode cX7_set 10 = .ok (.goto 28, 3) := by decide +kernel
theorem dX7_set_13 : decode cX7_set 13 = .ok (.iload_n 2, 1) := by decide +kernel
theorem dX7_set_14 : decode cX7_set 14 = .ok (.iconst 0, 1) := by decide +kernel
theorem dX7_set_15 : decode cX7_set 15 = .ok (.iconst 3, 1) := by decide +kernel
theorem dX7_set_16 : decode cX7_set 16 = .ok (.invokestatic 92, 3) := by decide +kernel
theorem dX7_set_19 : decode cX7_set 19 = .ok (.ifCond .eq 14, 3) := by decide +kernel
theorem dX7_set_22 : decode cX7_set 22 = .ok (.iload_n 3, 1) := by decide +kernel
theorem dX7_set_23 : decode cX7_set 23 = .ok (.bipush (-99), 2) := by decide +kernel
theorem dX7_set_25 : decode cX7_set 25 = .ok (.bipush 99, 2) := by decide +kernel
theorem dX7_set_27 : decode cX7_set 27 = .ok (.invokestatic 92, 3) := by decide +kernel
theorem dX7_set_30 : decode cX7_set 30 = .ok (.ifCond .ne 7, 3) := by decide +kernel
theorem dX7_set_33 : decode cX7_set 33 = .ok (.iconst 2, 1) := by decide +kernel
theorem dX7_set_34 : decode cX7_set 34 = .ok (.goto 4, 3) := by decide +kernel
theorem dX7_set_37 : decode cX7_set 37 = .ok (.iconst 0, 1) := by decide +kernel
theorem dX7_set_38 : decode cX7_set 38 = .ok (.putfield 86, 3) := by decide +kernel
theorem dX7_set_41 : decode cX7_set 41 = .ok (.aload_n 0, 1) := by decide +kernel
theorem dX7_set_42 : decode cX7_set 42 = .ok (.getfield 86, 3) := by decide +kernel
theorem dX7_set_45 : decode cX7_set 45 = .ok (.ifCond .le 5, 3) := by decide +kernel
theorem dX7_set_48 : decode cX7_set 48 = .ok (.iconst 0, 1) := by decide +kernel
theorem dX7_set_49 : decode cX7_set 49 = .ok (.ireturn, 1) := by decide +kernel
theorem dX7_set_50 : decode cX7_set 50 = .ok (.aload_n 0, 1) := by decide +kernel
theorem dX7_set_51 : decode cX7_set 51 = .ok (.getfield 54, 3) := by decide +kernel
theorem dX7_set_54 : decode cX7_set 54 = .ok (.iload_n 1, 1) := by decide +kernel
theorem dX7_set_55 : decode cX7_set 55 = .ok (.aaload, 1) := by decide +kernel
theorem dX7_set_56 : decode cX7_set 56 = .ok (.iload_n 2, 1) := by decide +kernel
theorem dX7_set_57 : decode cX7_set 57 = .ok (.iaload, 1) := by decide +kernel
theorem dX7_set_58 : decode cX7_set 58 = .ok (.istore 4, 2) := by decide +kernel
theorem dX7_set_60 : decode cX7_set 60 = .ok (.aload_n 0, 1) := by decide +kernel
theorem dX7_set_61 : decode cX7_set 61 = .ok (.getfield 54, 3) := by decide +kernel
theorem dX7_set_64 : decode cX7_set 64 = .ok (.iload_n 1, 1) := by decide +kernel
theorem dX7_set_65 : decode cX7_set 65 = .ok (.aaload, 1) := by decide +kernel
theorem dX7_set_66 : decode cX7_set 66 = .ok (.iload_n 2, 1) := by decide +kernel
theorem dX7_set_67 : decode cX7_set 67 = .ok (.iload_n 3, 1) := by decide +kernel
theorem dX7_set_68 : decode cX7_set 68 = .ok (.iastore, 1) := by decide +kernel
theorem dX7_set_69 : decode cX7_set 69 = .ok (.aload_n 0, 1) := by decide +kernel
theorem dX7_set_70 : decode cX7_set 70 = .ok (.iload_n 1, 1) := by decide +kernel
theorem dX7_set_71 : decode cX7_set 71 = .ok (.invokevirtual 146, 3) := by decide +kernel
theorem dX7_set_74 : decode cX7_set 74 = .ok (.iload 4, 2) := by decide +kernel
theorem dX7_set_76 : decode cX7_set 76 = .ok (.ireturn, 1) := by decide +kernel
theorem dX7_keeps_0 : decode cX7_keeps 0 = .ok (.iconst 0, 1) := by decide +kernel
theorem dX7_keeps_1 : decode cX7_keeps 1 = .ok (.istore_n 2, 1) := by decide +kernel
theorem dX7_keeps_2 : decode cX7_keeps 2 = .ok (.iload_n 2, 1) := by decide +kernel
theorem dX7_keeps_3 : decode cX7_keeps 3 = .ok (.bipush 8, 2) := by decide +kernel
theorem dX7_keeps_5 : decode cX7_keeps 5 = .ok (.if_icmp .ge 23, 3) := by decide +kernel
theorem dX7_keeps_8 : decode cX7_keeps 8 = .ok (.aload_n 0, 1) := by decide +kernel
theorem dX7_keeps_9 : decode cX7_keeps 9 = .ok (.getfield 82, 3) := by decide +kernel
theorem dX7_keeps_12 : decode cX7_keeps 12 = .ok (.iload_n 2, 1) := by decide +kernel
theorem dX7_keeps_13 : decode cX7_keeps 13 = .ok (.aload_n 0, 1) := by decide +kernel
theorem dX7_keeps_14 : decode cX7_keeps 14 = .ok (.getfield 60, 3) := by decide +kernel
theorem dX7_keeps_17 : decode cX7_keeps 17 = .ok (.iload_n 1, 1) := by decide +kernel
theorem dX7_keeps_18 : decode cX7_keeps 18 = .ok (.aaload, 1) := by decide +kernel
theorem dX7_keeps_19 : decode cX7_keeps 19 = .ok (.iload_n 2, 1) := by decide +kernel
theorem dX7_keeps_20 : decode cX7_keeps 20 = .ok (.caload, 1) := by decide +kernel
theorem dX7_keeps_21 : decode cX7_keeps 21 = .ok (.castore, 1) := by decide +kernel
theorem dX7_keeps_22 : decode cX7_keeps 22 = .ok (.iinc 2 1, 3) := by decide +kernel
theorem dX7_keeps_25 : decode cX7_keeps 25 = .ok (.goto (-23), 3) := by decide +kernel
theorem dX7_keeps_28 : decode cX7_keeps 28 = .ok (.return_, 1) := by decide +kernel
theorem dX7_changed_0 : decode cX7_changed 0 = .ok (.iconst 0, 1) := by decide +kernel
theorem dX7_changed_1 : decode cX7_changed 1 = .ok (.istore_n 3, 1) := by decide +kernel
theorem dX7_changed_2 : decode cX7_changed 2 = .ok (.iconst 0, 1) := by decide +kernel
theorem dX7_changed_3 : decode cX7_changed 3 = .ok (.istore 4, 2) := by decide +kernel
theorem dX7_changed_5 : decode cX7_changed 5 = .ok (.iload 4, 2) := by decide +kernel
theorem dX7_changed_7 : decode cX7_changed 7 = .ok (.aload_n 0, 1) := by decide +kernel
theorem dX7_changed_8 : decode cX7_changed 8 = .ok (.getfield 43, 3) := by decide +kernel
theorem dX7_changed_11 : decode cX7_changed 11 = .ok (.aload_n 0, 1) := by decide +kernel
theorem dX7_changed_12 : decode cX7_changed 12 = .ok (.getfield 51, 3) := by decide +kernel
theorem dX7_changed_15 : decode cX7_changed 15 = .ok (.iload_n 1, 1) := by decide +kernel
theorem dX7_changed_16 : decode cX7_changed 16 = .ok (.iaload, 1) := by decide +kernel
theorem dX7_changed_17 : decode cX7_changed 17 = .ok (.iaload, 1) := by decide +kernel
theorem dX7_changed_18 : decode cX7_changed 18 = .ok (.if_icmp .ge 42, 3) := by decide +kernel
theorem dX7_changed_21 : decode cX7_changed 21 = .ok (.iload_n 3, 1) := by decide +kernel
theorem dX7_changed_22 : decode cX7_changed 22 = .ok (.iload 4, 2) := by decide +kernel
theorem dX7_changed_24 : decode cX7_changed 24 = .ok (.iload_n 2, 1) := by decide +kernel
theorem dX7_changed_25 : decode cX7_changed 25 = .ok (.if_icmp .eq 26, 3) := by decide +kernel
theorem dX7_changed_28 : decode cX7_changed 28 = .ok (.aload_n 0, 1) := by decide +kernel
theorem dX7_changed_29 : decode cX7_changed 29 = .ok (.getfield 60, 3) := by decide +kernel
theorem dX7_changed_32 : decode cX7_changed 32 = .ok (.iload_n 1, 1) := by decide +kernel
theorem dX7_changed_33 : decode cX7_changed 33 = .ok (.aaload, 1) := by decide +kernel
theorem dX7_changed_34 : decode cX7_changed 34 = .ok (.iload 4, 2) := by decide +kernel
theorem dX7_changed_36 : decode cX7_changed 36 = .ok (.caload, 1) := by decide +kernel
theorem dX7_changed_37 : decode cX7_changed 37 = .ok (.aload_n 0, 1) := by decide +kernel
theorem dX7_changed_38 : decode cX7_changed 38 = .ok (.getfield 82, 3) := by decide +kernel
theorem dX7_changed_41 : decode cX7_changed 41 = .ok (.iload 4, 2) := by decide +kernel
theorem dX7_changed_43 : decode cX7_changed 43 = .ok (.caload, 1) := by decide +kernel
theorem dX7_changed_44 : decode cX7_changed 44 = .ok (.if_icmp .eq 7, 3) := by decide +kernel
theorem dX7_changed_47 : decode cX7_changed 47 = .ok (.iconst 1, 1) := by decide +kernel
theorem dX7_changed_48 : decode cX7_changed 48 = .ok (.goto 4, 3) := by decide +kernel
theorem dX7_changed_51 : decode cX7_changed 51 = .ok (.iconst 0, 1) := by decide +kernel
theorem dX7_changed_52 : decode cX7_changed 52 = .ok (.iadd, 1) := by decide +kernel
theorem dX7_changed_53 : decode cX7_changed 53 = .ok (.istore_n 3, 1) := by decide +kernel
theorem dX7_changed_54 : decode cX7_changed 54 = .ok (.iinc 4 1, 3) := by decide +kernel
theorem dX7_changed_57 : decode cX7_changed 57 = .ok (.goto (-52), 3) := by decide +kernel
theorem dX7_changed_60 : decode cX7_changed 60 = .ok (.iload_n 3, 1) := by decide +kernel
theorem dX7_changed_61 : decode cX7_changed 61 = .ok (.ireturn, 1) := by decide +kernel
theorem dX7_event_0 : decode cX7_event 0 = .ok (.aload_n 0, 1) := by decide +kernel
theorem dX7_event_1 : decode cX7_event 1 = .ok (.aload_n 0, 1) := by decide +kernel
theorem dX7_event_2 : decode cX7_event 2 = .ok (.iload_n 1, 1) := by decide +kernel
theorem dX7_event_3 : decode cX7_event 3 = .ok (.invokevirtual 103, 3) := by decide +kernel
theorem dX7_event_6 : decode cX7_event 6 = .ok (.ifCond .ne 7, 3) := by decide +kernel
theorem dX7_event_9 : decode cX7_event 9 = .ok (.iconst 1, 1) := by decide +kernel
theorem dX7_event_10 : decode cX7_event 10 = .ok (.goto 18, 3) := by decide +kernel
theorem dX7_event_13 : decode cX7_event 13 = .ok (.iload_n 2, 1) := by decide +kernel
theorem dX7_event_14 : decode cX7_event 14 = .ok (.iconst 0, 1) := by decide +kernel
theorem dX7_event_15 : decode cX7_event 15 = .ok (.bipush 9, 2) := by decide +kernel
theorem dX7_event_17 : decode cX7_event 17 = .ok (.invokestatic 92, 3) := by decide +kernel
theorem dX7_event_20 : decode cX7_event 20 = .ok (.ifCond .ne 7, 3) := by decide +kernel
theorem dX7_event_23 : decode cX7_event 23 = .ok (.iconst 2, 1) := by decide +kernel
theorem dX7_event_24 : decode cX7_event 24 = .ok (.goto 4, 3) := by decide +kernel
theorem dX7_event_27 : decode cX7_event 27 = .ok (.iconst 0, 1) := by decide +kernel
theorem dX7_event_28 : decode cX7_event 28 = .ok (.putfield 86, 3) := by decide +kernel
theorem dX7_event_31 : decode cX7_event 31 = .ok (.aload_n 0, 1) := by decide +kernel
theorem dX7_event_32 : decode cX7_event 32 = .ok (.getfield 86, 3) := by decide +kernel
theorem dX7_event_35 : decode cX7_event 35 = .ok (.ifCond .le 5, 3) := by decide +kernel
theorem dX7_event_38 : decode cX7_event 38 = .ok (.iconst 0, 1) := by decide +kernel
theorem dX7_event_39 : decode cX7_event 39 = .ok (.ireturn, 1) := by decide +kernel
theorem dX7_event_40 : decode cX7_event 40 = .ok (.aload_n 0, 1) := by decide +kernel
theorem dX7_event_41 : decode cX7_event 41 = .ok (.iload_n 1, 1) := by decide +kernel
theorem dX7_event_42 : decode cX7_event 42 = .ok (.invokevirtual 150, 3) := by decide +kernel
theorem dX7_event_45 : decode cX7_event 45 = .ok (.aload_n 0, 1) := by decide +kernel
theorem dX7_event_46 : decode cX7_event 46 = .ok (.iload_n 2, 1) := by decide +kernel
theorem dX7_event_47 : decode cX7_event 47 = .ok (.putfield 78, 3) := by decide +kernel
theorem dX7_event_50 : decode cX7_event 50 = .ok (.aload_n 0, 1) := by decide +kernel
theorem dX7_event_51 : decode cX7_event 51 = .ok (.iload_n 1, 1) := by decide +kernel
theorem dX7_event_52 : decode cX7_event 52 = .ok (.invokevirtual 146, 3) := by decide +kernel
theorem dX7_event_55 : decode cX7_event 55 = .ok (.aload_n 0, 1) := by decide +kernel
theorem dX7_event_56 : decode cX7_event 56 = .ok (.iload_n 1, 1) := by decide +kernel
theorem dX7_event_57 : decode cX7_event 57 = .ok (.iconst (-1), 1) := by decide +kernel
theorem dX7_event_58 : decode cX7_event 58 = .ok (.invokevirtual 153, 3) := by decide +kernel
theorem dX7_event_61 : decode cX7_event 61 = .ok (.ireturn, 1) := by decide +kernel
theorem dX7_complete_0 : decode cX7_complete 0 = .ok (.aload_n 0, 1) := by decide +kernel
theorem dX7_complete_1 : decode cX7_complete 1 = .ok (.aload_n 0, 1) := by decide +kernel
theorem dX7_complete_2 : decode cX7_complete 2 = .ok (.iload_n 1, 1) := by decide +kernel
theorem dX7_complete_3 : decode cX7_complete 3 = .ok (.iload_n 2, 1) := by decide +kernel
theorem dX7_complete_4 : decode cX7_complete 4 = .ok (.invokevirtual 157, 3) := by decide +kernel
theorem dX7_complete_7 : decode cX7_complete 7 = .ok (.ifCond .ne 7, 3) := by decide +kernel
theorem dX7_complete_10 : decode cX7_complete 10 = .ok (.iconst 1, 1) := by decide +kernel
theorem dX7_complete_11 : decode cX7_complete 11 = .ok (.goto 43, 3) := by decide +kernel
theorem dX7_complete_14 : decode cX7_complete 14 = .ok (.aload_n 0, 1) := by decide +kernel
theorem dX7_complete_15 : decode cX7_complete 15 = .ok (.getfield 11, 3) := by decide +kernel
theorem dX7_complete_18 : decode cX7_complete 18 = .ok (.aload_n 0, 1) := by decide +kernel
theorem dX7_complete_19 : decode cX7_complete 19 = .ok (.getfield 51, 3) := by decide +kernel
theorem dX7_complete_22 : decode cX7_complete 22 = .ok (.iload_n 1, 1) := by decide +kernel
theorem dX7_complete_23 : decode cX7_complete 23 = .ok (.iaload, 1) := by decide +kernel
theorem dX7_complete_24 : decode cX7_complete 24 = .ok (.aaload, 1) := by decide +kernel
theorem dX7_complete_25 : decode cX7_complete 25 = .ok (.iload_n 2, 1) := by decide +kernel
theorem dX7_complete_26 : decode cX7_complete 26 = .ok (.caload, 1) := by decide +kernel
theorem dX7_complete_27 : decode cX7_complete 27 = .ok (.bipush 116, 2) := by decide +kernel
theorem dX7_complete_29 : decode cX7_complete 29 = .ok (.if_icmp .eq 7, 3) := by decide +kernel
theorem dX7_complete_32 : decode cX7_complete 32 = .ok (.iconst 2, 1) := by decide +kernel
theorem dX7_complete_33 : decode cX7_complete 33 = .ok (.goto 21, 3) := by decide +kernel
theorem dX7_complete_36 : decode cX7_complete 36 = .ok (.aload_n 0, 1) := by decide +kernel
theorem dX7_complete_37 : decode cX7_complete 37 = .ok (.getfield 60, 3) := by decide +kernel
theorem dX7_complete_40 : decode cX7_complete 40 = .ok (.iload_n 1, 1) := by decide +kernel
theorem dX7_complete_41 : decode cX7_complete 41 = .ok (.aaload, 1) := by decide +kernel
theorem dX7_complete_42 : decode cX7_complete 42 = .ok (.iload_n 2, 1) := by decide +kernel
theorem dX7_complete_43 : decode cX7_complete 43 = .ok (.caload, 1) := by decide +kernel
theorem dX7_complete_44 : decode cX7_complete 44 = .ok (.bipush 97, 2) := by decide +kernel
theorem dX7_complete_46 : decode cX7_complete 46 = .ok (.if_icmp .eq 7, 3) := by decide +kernel
theorem dX7_complete_49 : decode cX7_complete 49 = .ok (.iconst 3, 1) := by decide +kernel
theorem dX7_complete_50 : decode cX7_complete 50 = .ok (.goto 4, 3) := by decide +kernel
theorem dX7_complete_53 : decode cX7_complete 53 = .ok (.iconst 0, 1) := by decide +kernel
theorem dX7_complete_54 : decode cX7_complete 54 = .ok (.putfield 86, 3) := by decide +kernel
theorem dX7_complete_57 : decode cX7_complete 57 = .ok (.aload_n 0, 1) := by decide +kernel
theorem dX7_complete_58 : decode cX7_complete 58 = .ok (.getfield 86, 3) := by decide +kernel
theorem dX7_complete_61 : decode cX7_complete 61 = .ok (.ifCond .le 5, 3) := by decide +kernel
theorem dX7_complete_64 : decode cX7_complete 64 = .ok (.iconst 0, 1) := by decide +kernel
theorem dX7_complete_65 : decode cX7_complete 65 = .ok (.ireturn, 1) := by decide +kernel
theorem dX7_complete_66 : decode cX7_complete 66 = .ok (.aload_n 0, 1) := by decide +kernel
theorem dX7_complete_67 : decode cX7_complete 67 = .ok (.iload_n 1, 1) := by decide +kernel
theorem dX7_complete_68 : decode cX7_complete 68 = .ok (.invokevirtual 150, 3) := by decide +kernel
theorem dX7_complete_71 : decode cX7_complete 71 = .ok (.aload_n 0, 1) := by decide +kernel
theorem dX7_complete_72 : decode cX7_complete 72 = .ok (.getfield 60, 3) := by decide +kernel
theorem dX7_complete_75 : decode cX7_complete 75 = .ok (.iload_n 1, 1) := by decide +kernel
theorem dX7_complete_76 : decode cX7_complete 76 = .ok (.aaload, 1) := by decide +kernel
theorem dX7_complete_77 : decode cX7_complete 77 = .ok (.iload_n 2, 1) := by decide +kernel
theorem dX7_complete_78 : decode cX7_complete 78 = .ok (.bipush 99, 2) := by decide +kernel
theorem dX7_complete_80 : decode cX7_complete 80 = .ok (.castore, 1) := by decide +kernel
theorem dX7_complete_81 : decode cX7_complete 81 = .ok (.aload_n 0, 1) := by decide +kernel
theorem dX7_complete_82 : decode cX7_complete 82 = .ok (.iload_n 1, 1) := by decide +kernel
theorem dX7_complete_83 : decode cX7_complete 83 = .ok (.invokevirtual 146, 3) := by decide +kernel
theorem dX7_complete_86 : decode cX7_complete 86 = .ok (.aload_n 0, 1) := by decide +kernel
theorem dX7_complete_87 : decode cX7_complete 87 = .ok (.iload_n 1, 1) := by decide +kernel
theorem dX7_complete_88 : decode cX7_complete 88 = .ok (.iload_n 2, 1) := by decide +kernel
theorem dX7_complete_89 : decode cX7_complete 89 = .ok (.invokevirtual 153, 3) := by decide +kernel
theorem dX7_complete_92 : decode cX7_complete 92 = .ok (.ireturn, 1) := by decide +kernel
theorem dX7_setWaiting_0 : decode cX7_setWaiting 0 = .ok (.aload_n 0, 1) := by decide +kernel
theorem dX7_setWaiting_1 : decode cX7_setWaiting 1 = .ok (.aload_n 0, 1) := by decide +kernel
theorem dX7_setWaiting_2 : decode cX7_setWaiting 2 = .ok (.iload_n 1, 1) := by decide +kernel
theorem dX7_setWaiting_3 : decode cX7_setWaiting 3 = .ok (.invokevirtual 103, 3) := by decide +kernel
theorem dX7_setWaiting_6 : decode cX7_setWaiting 6 = .ok (.ifCond .eq 7, 3) := by decide +kernel
theorem dX7_setWaiting_9 : decode cX7_setWaiting 9 = .ok (.iconst 0, 1) := by decide +kernel
theorem dX7_setWaiting_10 : decode cX7_setWaiting 10 = .ok (.goto 4, 3) := by decide +kernel
theorem dX7_setWaiting_13 : decode cX7_setWaiting 13 = .ok (.iconst 1, 1) := by decide +kernel
theorem dX7_setWaiting_14 : decode cX7_setWaiting 14 = .ok (.putfield 86, 3) := by decide +kernel
theorem dX7_setWaiting_17 : decode cX7_setWaiting 17 = .ok (.aload_n 0, 1) := by decide +kernel
theorem dX7_setWaiting_18 : decode cX7_setWaiting 18 = .ok (.getfield 86, 3) := by decide +kernel
theorem dX7_setWaiting_21 : decode cX7_setWaiting 21 = .ok (.ifCond .le 5, 3) := by decide +kernel
theorem dX7_setWaiting_24 : decode cX7_setWaiting 24 = .ok (.iconst 0, 1) := by decide +kernel
theorem dX7_setWaiting_25 : decode cX7_setWaiting 25 = .ok (.ireturn, 1) := by decide +kernel
theorem dX7_setWaiting_26 : decode cX7_setWaiting 26 = .ok (.aload_n 0, 1) := by decide +kernel
theorem dX7_setWaiting_27 : decode cX7_setWaiting 27 = .ok (.getfield 57, 3) := by decide +kernel
theorem dX7_setWaiting_30 : decode cX7_setWaiting 30 = .ok (.iload_n 1, 1) := by decide +kernel
theorem dX7_setWaiting_31 : decode cX7_setWaiting 31 = .ok (.baload, 1) := by decide +kernel
theorem dX7_setWaiting_32 : decode cX7_setWaiting 32 = .ok (.istore_n 3, 1) := by decide +kernel
theorem dX7_setWaiting_33 : decode cX7_setWaiting 33 = .ok (.aload_n 0, 1) := by decide +kernel
theorem dX7_setWaiting_34 : decode cX7_setWaiting 34 = .ok (.getfield 57, 3) := by decide +kernel
theorem dX7_setWaiting_37 : decode cX7_setWaiting 37 = .ok (.iload_n 1, 1) := by decide +kernel
theorem dX7_setWaiting_38 : decode cX7_setWaiting 38 = .ok (.iload_n 2, 1) := by decide +kernel
theorem dX7_setWaiting_39 : decode cX7_setWaiting 39 = .ok (.bastore, 1) := by decide +kernel
theorem dX7_setWaiting_40 : decode cX7_setWaiting 40 = .ok (.aload_n 0, 1) := by decide +kernel
theorem dX7_setWaiting_41 : decode cX7_setWaiting 41 = .ok (.iload_n 1, 1) := by decide +kernel
theorem dX7_setWaiting_42 : decode cX7_setWaiting 42 = .ok (.invokevirtual 146, 3) := by decide +kernel
theorem dX7_setWaiting_45 : decode cX7_setWaiting 45 = .ok (.iload_n 3, 1) := by decide +kernel
theorem dX7_setWaiting_46 : decode cX7_setWaiting 46 = .ok (.ireturn, 1) := by decide +kernel
theorem dX7_move_0 : decode cX7_move 0 = .ok (.aload_n 0, 1) := by decide +kernel
theorem dX7_move_1 : decode cX7_move 1 = .ok (.aload_n 0, 1) := by decide +kernel
theorem dX7_move_2 : decode cX7_move 2 = .ok (.iload_n 1, 1) := by decide +kernel
theorem dX7_move_3 : decode cX7_move 3 = .ok (.invokevirtual 103, 3) := by decide +kernel
theorem dX7_move_6 : decode cX7_move 6 = .ok (.ifCond .eq 11, 3) := by decide +kernel
theorem dX7_move_9 : decode cX7_move 9 = .ok (.aload_n 0, 1) := by decide +kernel
theorem dX7_move_10 : decode cX7_move 10 = .ok (.iload_n 2, 1) := by decide +kernel
theorem dX7_move_11 : decode cX7_move 11 = .ok (.invokevirtual 96, 3) := by decide +kernel
theorem dX7_move_14 : decode cX7_move 14 = .ok (.ifCond .ne 7, 3) := by decide +kernel
theorem dX7_move_17 : decode cX7_move 17 = .ok (.iconst 1, 1) := by decide +kernel
theorem dX7_move_18 : decode cX7_move 18 = .ok (.goto 28, 3) := by decide +kernel
theorem dX7_move_21 : decode cX7_move 21 = .ok (.aload_n 0, 1) := by decide +kernel
theorem dX7_move_22 : decode cX7_move 22 = .ok (.getfield 43, 3) := by decide +kernel
theorem dX7_move_25 : decode cX7_move 25 = .ok (.iload_n 2, 1) := by decide +kernel
theorem dX7_move_26 : decode cX7_move 26 = .ok (.iaload, 1) := by decide +kernel
theorem dX7_move_27 : decode cX7_move 27 = .ok (.aload_n 0, 1) := by decide +kernel
theorem dX7_move_28 : decode cX7_move 28 = .ok (.getfield 43, 3) := by decide +kernel
theorem dX7_move_31 : decode cX7_move 31 = .ok (.aload_n 0, 1) := by decide +kernel
theorem dX7_move_32 : decode cX7_move 32 = .ok (.getfield 51, 3) := by decide +kernel
theorem dX7_move_35 : decode cX7_move 35 = .ok (.iload_n 1, 1) := by decide +kernel
theorem dX7_move_36 : decode cX7_move 36 = .ok (.iaload, 1) := by decide +kernel
theorem dX7_move_37 : decode cX7_move 37 = .ok (.iaload, 1) := by decide +kernel
theorem dX7_move_38 : decode cX7_move 38 = .ok (.if_icmp .ge 7, 3) := by decide +kernel
theorem dX7_move_41 : decode cX7_move 41 = .ok (.iconst 2, 1) := by decide +kernel
theorem dX7_move_42 : decode cX7_move 42 = .ok (.goto 4, 3) := by decide +kernel
theorem dX7_move_45 : decode cX7_move 45 = .ok (.iconst 0, 1) := by decide +kernel
theorem dX7_move_46 : decode cX7_move 46 = .ok (.putfield 86, 3) := by decide +kernel
theorem dX7_move_49 : decode cX7_move 49 = .ok (.aload_n 0, 1) := by decide +kernel
theorem dX7_move_50 : decode cX7_move 50 = .ok (.getfield 86, 3) := by decide +kernel
theorem dX7_move_53 : decode cX7_move 53 = .ok (.ifCond .le 5, 3) := by decide +kernel
theorem dX7_move_56 : decode cX7_move 56 = .ok (.iconst 0, 1) := by decide +kernel
theorem dX7_move_57 : decode cX7_move 57 = .ok (.ireturn, 1) := by decide +kernel
theorem dX7_move_58 : decode cX7_move 58 = .ok (.aload_n 0, 1) := by decide +kernel
theorem dX7_move_59 : decode cX7_move 59 = .ok (.getfield 51, 3) := by decide +kernel
theorem dX7_move_62 : decode cX7_move 62 = .ok (.iload_n 1, 1) := by decide +kernel
theorem dX7_move_63 : decode cX7_move 63 = .ok (.iaload, 1) := by decide +kernel
theorem dX7_move_64 : decode cX7_move 64 = .ok (.istore_n 3, 1) := by decide +kernel
theorem dX7_move_65 : decode cX7_move 65 = .ok (.aload_n 0, 1) := by decide +kernel
theorem dX7_move_66 : decode cX7_move 66 = .ok (.getfield 51, 3) := by decide +kernel
theorem dX7_move_69 : decode cX7_move 69 = .ok (.iload_n 1, 1) := by decide +kernel
theorem dX7_move_70 : decode cX7_move 70 = .ok (.iload_n 2, 1) := by decide +kernel
theorem dX7_move_71 : decode cX7_move 71 = .ok (.iastore, 1) := by decide +kernel
theorem dX7_move_72 : decode cX7_move 72 = .ok (.aload_n 0, 1) := by decide +kernel
theorem dX7_move_73 : decode cX7_move 73 = .ok (.getfield 47, 3) := by decide +kernel
theorem dX7_move_76 : decode cX7_move 76 = .ok (.iload_n 2, 1) := by decide +kernel
theorem dX7_move_77 : decode cX7_move 77 = .ok (.iconst 1, 1) := by decide +kernel
theorem dX7_move_78 : decode cX7_move 78 = .ok (.bastore, 1) := by decide +kernel
theorem dX7_move_79 : decode cX7_move 79 = .ok (.aload_n 0, 1) := by decide +kernel
theorem dX7_move_80 : decode cX7_move 80 = .ok (.iload_n 1, 1) := by decide +kernel
theorem dX7_move_81 : decode cX7_move 81 = .ok (.invokevirtual 146, 3) := by decide +kernel
theorem dX7_move_84 : decode cX7_move 84 = .ok (.iload_n 3, 1) := by decide +kernel
theorem dX7_move_85 : decode cX7_move 85 = .ok (.ireturn, 1) := by decide +kernel
theorem dX7_isLateNow_0 : decode cX7_isLateNow 0 = .ok (.aload_n 0, 1) := by decide +kernel
theorem dX7_isLateNow_1 : decode cX7_isLateNow 1 = .ok (.getfield 11, 3) := by decide +kernel
theorem dX7_isLateNow_4 : decode cX7_isLateNow 4 = .ok (.aload_n 0, 1) := by decide +kernel
theorem dX7_isLateNow_5 : decode cX7_isLateNow 5 = .ok (.getfield 51, 3) := by decide +kernel
theorem dX7_isLateNow_8 : decode cX7_isLateNow 8 = .ok (.iload_n 1, 1) := by decide +kernel
theorem dX7_isLateNow_9 : decode cX7_isLateNow 9 = .ok (.iaload, 1) := by decide +kernel
theorem dX7_isLateNow_10 : decode cX7_isLateNow 10 = .ok (.aaload, 1) := by decide +kernel
theorem dX7_isLateNow_11 : decode cX7_isLateNow 11 = .ok (.iload_n 2, 1) := by decide +kernel
theorem dX7_isLateNow_12 : decode cX7_isLateNow 12 = .ok (.caload, 1) := by decide +kernel
theorem dX7_isLateNow_13 : decode cX7_isLateNow 13 = .ok (.bipush 116, 2) := by decide +kernel
theorem dX7_isLateNow_15 : decode cX7_isLateNow 15 = .ok (.if_icmp .ne 44, 3) := by decide +kernel
theorem dX7_isLateNow_18 : decode cX7_isLateNow 18 = .ok (.aload_n 0, 1) := by decide +kernel
theorem dX7_isLateNow_19 : decode cX7_isLateNow 19 = .ok (.getfield 60, 3) := by decide +kernel
theorem dX7_isLateNow_22 : decode cX7_isLateNow 22 = .ok (.iload_n 1, 1) := by decide +kernel
theorem dX7_isLateNow_23 : decode cX7_isLateNow 23 = .ok (.aaload, 1) := by decide +kernel
theorem dX7_isLateNow_24 : decode cX7_isLateNow 24 = .ok (.iload_n 2, 1) := by decide +kernel
theorem dX7_isLateNow_25 : decode cX7_isLateNow 25 = .ok (.caload, 1) := by decide +kernel
theorem dX7_isLateNow_26 : decode cX7_isLateNow 26 = .ok (.bipush 97, 2) := by decide +kernel
theorem dX7_isLateNow_28 : decode cX7_isLateNow 28 = .ok (.if_icmp .ne 31, 3) := by decide +kernel
theorem dX7_isLateNow_31 : decode cX7_isLateNow 31 = .ok (.aload_n 0, 1) := by decide +kernel
theorem dX7_isLateNow_32 : decode cX7_isLateNow 32 = .ok (.getfield 63, 3) := by decide +kernel
theorem dX7_isLateNow_35 : decode cX7_isLateNow 35 = .ok (.iload_n 1, 1) := by decide +kernel
theorem dX7_isLateNow_36 : decode cX7_isLateNow 36 = .ok (.aaload, 1) := by decide +kernel
theorem dX7_isLateNow_37 : decode cX7_isLateNow 37 = .ok (.iload_n 2, 1) := by decide +kernel
theorem dX7_isLateNow_38 : decode cX7_isLateNow 38 = .ok (.iaload, 1) := by decide +kernel
theorem dX7_isLateNow_39 : decode cX7_isLateNow 39 = .ok (.aload_n 0, 1) := by decide +kernel
theorem dX7_isLateNow_40 : decode cX7_isLateNow 40 = .ok (.getfield 24, 3) := by decide +kernel
theorem dX7_isLateNow_43 : decode cX7_isLateNow 43 = .ok (.aload_n 0, 1) := by decide +kernel
theorem dX7_isLateNow_44 : decode cX7_isLateNow 44 = .ok (.getfield 51, 3) := by decide +kernel
theorem dX7_isLateNow_47 : decode cX7_isLateNow 47 = .ok (.iload_n 1, 1) := by decide +kernel
theorem dX7_isLateNow_48 : decode cX7_isLateNow 48 = .ok (.iaload, 1) := by decide +kernel
theorem dX7_isLateNow_49 : decode cX7_isLateNow 49 = .ok (.aaload, 1) := by decide +kernel
theorem dX7_isLateNow_50 : decode cX7_isLateNow 50 = .ok (.iload_n 2, 1) := by decide +kernel
theorem dX7_isLateNow_51 : decode cX7_isLateNow 51 = .ok (.iaload, 1) := by decide +kernel
theorem dX7_isLateNow_52 : decode cX7_isLateNow 52 = .ok (.if_icmp .le 7, 3) := by decide +kernel
theorem dX7_isLateNow_55 : decode cX7_isLateNow 55 = .ok (.iconst 1, 1) := by decide +kernel
theorem dX7_isLateNow_56 : decode cX7_isLateNow 56 = .ok (.goto 4, 3) := by decide +kernel
theorem dX7_isLateNow_59 : decode cX7_isLateNow 59 = .ok (.iconst 0, 1) := by decide +kernel
theorem dX7_isLateNow_60 : decode cX7_isLateNow 60 = .ok (.ireturn, 1) := by decide +kernel
theorem dX7_pass_0 : decode cX7_pass 0 = .ok (.aload_n 0, 1) := by decide +kernel
theorem dX7_pass_1 : decode cX7_pass 1 = .ok (.iload_n 1, 1) := by decide +kernel
theorem dX7_pass_2 : decode cX7_pass 2 = .ok (.iconst 1, 1) := by decide +kernel
theorem dX7_pass_3 : decode cX7_pass 3 = .ok (.bipush 10, 2) := by decide +kernel
theorem dX7_pass_5 : decode cX7_pass 5 = .ok (.invokestatic 92, 3) := by decide +kernel
theorem dX7_pass_8 : decode cX7_pass 8 = .ok (.ifCond .eq 7, 3) := by decide +kernel
theorem dX7_pass_11 : decode cX7_pass 11 = .ok (.iconst 0, 1) := by decide +kernel
theorem dX7_pass_12 : decode cX7_pass 12 = .ok (.goto 4, 3) := by decide +kernel
theorem dX7_pass_15 : decode cX7_pass 15 = .ok (.iconst 1, 1) := by decide +kernel
theorem dX7_pass_16 : decode cX7_pass 16 = .ok (.putfield 86, 3) := by decide +kernel
theorem dX7_pass_19 : decode cX7_pass 19 = .ok (.aload_n 0, 1) := by decide +kernel
theorem dX7_pass_20 : decode cX7_pass 20 = .ok (.getfield 86, 3) := by decide +kernel
theorem dX7_pass_23 : decode cX7_pass 23 = .ok (.ifCond .le 5, 3) := by decide +kernel
theorem dX7_pass_26 : decode cX7_pass 26 = .ok (.iconst 0, 1) := by decide +kernel
theorem dX7_pass_27 : decode cX7_pass 27 = .ok (.ireturn, 1) := by decide +kernel
theorem dX7_pass_28 : decode cX7_pass 28 = .ok (.iconst 0, 1) := by decide +kernel
theorem dX7_pass_29 : decode cX7_pass 29 = .ok (.istore_n 2, 1) := by decide +kernel
theorem dX7_pass_30 : decode cX7_pass 30 = .ok (.iload_n 2, 1) := by decide +kernel
theorem dX7_pass_31 : decode cX7_pass 31 = .ok (.iload_n 1, 1) := by decide +kernel
theorem dX7_pass_32 : decode cX7_pass 32 = .ok (.if_icmp .ge 124, 3) := by decide +kernel
theorem dX7_pass_35 : decode cX7_pass 35 = .ok (.iconst 0, 1) := by decide +kernel
theorem dX7_pass_36 : decode cX7_pass 36 = .ok (.istore_n 3, 1) := by decide +kernel
theorem dX7_pass_37 : decode cX7_pass 37 = .ok (.iload_n 3, 1) := by decide +kernel
theorem dX7_pass_38 : decode cX7_pass 38 = .ok (.aload_n 0, 1) := by decide +kernel
theorem dX7_pass_39 : decode cX7_pass 39 = .ok (.getfield 100, 3) := by decide +kernel
theorem dX7_pass_42 : decode cX7_pass 42 = .ok (.if_icmp .ge 108, 3) := by decide +kernel
theorem dX7_pass_45 : decode cX7_pass 45 = .ok (.iconst 0, 1) := by decide +kernel
theorem dX7_pass_46 : decode cX7_pass 46 = .ok (.istore 4, 2) := by decide +kernel
theorem dX7_pass_48 : decode cX7_pass 48 = .ok (.iload 4, 2) := by decide +kernel
theorem dX7_pass_50 : decode cX7_pass 50 = .ok (.aload_n 0, 1) := by decide +kernel
theorem dX7_pass_51 : decode cX7_pass 51 = .ok (.getfield 43, 3) := by decide +kernel
theorem dX7_pass_54 : decode cX7_pass 54 = .ok (.aload_n 0, 1) := by decide +kernel
theorem dX7_pass_55 : decode cX7_pass 55 = .ok (.getfield 51, 3) := by decide +kernel
theorem dX7_pass_58 : decode cX7_pass 58 = .ok (.iload_n 3, 1) := by decide +kernel
theorem dX7_pass_59 : decode cX7_pass 59 = .ok (.iaload, 1) := by decide +kernel
theorem dX7_pass_60 : decode cX7_pass 60 = .ok (.iaload, 1) := by decide +kernel
theorem dX7_pass_61 : decode cX7_pass 61 = .ok (.if_icmp .ge 68, 3) := by decide +kernel
theorem dX7_pass_64 : decode cX7_pass 64 = .ok (.aload_n 0, 1) := by decide +kernel
theorem dX7_pass_65 : decode cX7_pass 65 = .ok (.getfield 63, 3) := by decide +kernel
theorem dX7_pass_68 : decode cX7_pass 68 = .ok (.iload_n 3, 1) := by decide +kernel
theorem dX7_pass_69 : decode cX7_pass 69 = .ok (.aaload, 1) := by decide +kernel
theorem dX7_pass_70 : decode cX7_pass 70 = .ok (.iload 4, 2) := by decide +kernel
theorem dX7_pass_72 : decode cX7_pass 72 = .ok (.dup2, 1) := by decide +kernel
theorem dX7_pass_73 : decode cX7_pass 73 = .ok (.iaload, 1) := by decide +kernel
theorem dX7_pass_74 : decode cX7_pass 74 = .ok (.aload_n 0, 1) := by decide +kernel
theorem dX7_pass_75 : decode cX7_pass 75 = .ok (.getfield 57, 3) := by decide +kernel
theorem dX7_pass_78 : decode cX7_pass 78 = .ok (.iload_n 3, 1) := by decide +kernel
theorem dX7_pass_79 : decode cX7_pass 79 = .ok (.baload, 1) := by decide +kernel
theorem dX7_pass_80 : decode cX7_pass 80 = .ok (.ifCond .ne 40, 3) := by decide +kernel
theorem dX7_pass_83 : decode cX7_pass 83 = .ok (.aload_n 0, 1) := by decide +kernel
theorem dX7_pass_84 : decode cX7_pass 84 = .ok (.getfield 11, 3) := by decide +kernel
theorem dX7_pass_87 : decode cX7_pass 87 = .ok (.aload_n 0, 1) := by decide +kernel
theorem dX7_pass_88 : decode cX7_pass 88 = .ok (.getfield 51, 3) := by decide +kernel
theorem dX7_pass_91 : decode cX7_pass 91 = .ok (.iload_n 3, 1) := by decide +kernel
theorem dX7_pass_92 : decode cX7_pass 92 = .ok (.iaload, 1) := by decide +kernel
theorem dX7_pass_93 : decode cX7_pass 93 = .ok (.aaload, 1) := by decide +kernel
theorem dX7_pass_94 : decode cX7_pass 94 = .ok (.iload 4, 2) := by decide +kernel
theorem dX7_pass_96 : decode cX7_pass 96 = .ok (.caload, 1) := by decide +kernel
theorem dX7_pass_97 : decode cX7_pass 97 = .ok (.bipush 116, 2) := by decide +kernel
theorem dX7_pass_99 : decode cX7_pass 99 = .ok (.if_icmp .ne 21, 3) := by decide +kernel
theorem dX7_pass_102 : decode cX7_pass 102 = .ok (.aload_n 0, 1) := by decide +kernel
theorem dX7_pass_103 : decode cX7_pass 103 = .ok (.getfield 60, 3) := by decide +kernel
theorem dX7_pass_106 : decode cX7_pass 106 = .ok (.iload_n 3, 1) := by decide +kernel
theorem dX7_pass_107 : decode cX7_pass 107 = .ok (.aaload, 1) := by decide +kernel
theorem dX7_pass_108 : decode cX7_pass 108 = .ok (.iload 4, 2) := by decide +kernel
theorem dX7_pass_110 : decode cX7_pass 110 = .ok (.caload, 1) := by decide +kernel
theorem dX7_pass_111 : decode cX7_pass 111 = .ok (.bipush 97, 2) := by decide +kernel
theorem dX7_pass_113 : decode cX7_pass 113 = .ok (.if_icmp .ne 7, 3) := by decide +kernel
theorem dX7_pass_116 : decode cX7_pass 116 = .ok (.iconst 1, 1) := by decide +kernel
theorem dX7_pass_117 : decode cX7_pass 117 = .ok (.goto 4, 3) := by decide +kernel
theorem dX7_pass_120 : decode cX7_pass 120 = .ok (.iconst 0, 1) := by decide +kernel
theorem dX7_pass_121 : decode cX7_pass 121 = .ok (.iadd, 1) := by decide +kernel
theorem dX7_pass_122 : decode cX7_pass 122 = .ok (.iastore, 1) := by decide +kernel
theorem dX7_pass_123 : decode cX7_pass 123 = .ok (.iinc 4 1, 3) := by decide +kernel
theorem dX7_pass_126 : decode cX7_pass 126 = .ok (.goto (-78), 3) := by decide +kernel
theorem dX7_pass_129 : decode cX7_pass 129 = .ok (.aload_n 0, 1) := by decide +kernel
theorem dX7_pass_130 : decode cX7_pass 130 = .ok (.getfield 69, 3) := by decide +kernel
theorem dX7_pass_133 : decode cX7_pass 133 = .ok (.iload_n 3, 1) := by decide +kernel
theorem dX7_pass_134 : decode cX7_pass 134 = .ok (.dup2, 1) := by decide +kernel
theorem dX7_pass_135 : decode cX7_pass 135 = .ok (.iaload, 1) := by decide +kernel
theorem dX7_pass_136 : decode cX7_pass 136 = .ok (.iconst 1, 1) := by decide +kernel
theorem dX7_pass_137 : decode cX7_pass 137 = .ok (.iadd, 1) := by decide +kernel
theorem dX7_pass_138 : decode cX7_pass 138 = .ok (.iastore, 1) := by decide +kernel
theorem dX7_pass_139 : decode cX7_pass 139 = .ok (.aload_n 0, 1) := by decide +kernel
theorem dX7_pass_140 : decode cX7_pass 140 = .ok (.iload_n 3, 1) := by decide +kernel
theorem dX7_pass_141 : decode cX7_pass 141 = .ok (.invokevirtual 146, 3) := by decide +kernel
theorem dX7_pass_144 : decode cX7_pass 144 = .ok (.iinc 3 1, 3) := by decide +kernel
theorem dX7_pass_147 : decode cX7_pass 147 = .ok (.goto (-110), 3) := by decide +kernel
theorem dX7_pass_150 : decode cX7_pass 150 = .ok (.iinc 2 1, 3) := by decide +kernel
theorem dX7_pass_153 : decode cX7_pass 153 = .ok (.goto (-123), 3) := by decide +kernel
theorem dX7_pass_156 : decode cX7_pass 156 = .ok (.iconst 0, 1) := by decide +kernel
theorem dX7_pass_157 : decode cX7_pass 157 = .ok (.istore_n 2, 1) := by decide +kernel
theorem dX7_pass_158 : decode cX7_pass 158 = .ok (.iconst 0, 1) := by decide +kernel
theorem dX7_pass_159 : decode cX7_pass 159 = .ok (.istore_n 3, 1) := by decide +kernel
theorem dX7_pass_160 : decode cX7_pass 160 = .ok (.iload_n 3, 1) := by decide +kernel
theorem dX7_pass_161 : decode cX7_pass 161 = .ok (.aload_n 0, 1) := by decide +kernel
theorem dX7_pass_162 : decode cX7_pass 162 = .ok (.getfield 100, 3) := by decide +kernel
theorem dX7_pass_165 : decode cX7_pass 165 = .ok (.if_icmp .ge 52, 3) := by decide +kernel
theorem dX7_pass_168 : decode cX7_pass 168 = .ok (.iconst 0, 1) := by decide +kernel
theorem dX7_pass_169 : decode cX7_pass 169 = .ok (.istore 4, 2) := by decide +kernel
theorem dX7_pass_171 : decode cX7_pass 171 = .ok (.iload 4, 2) := by decide +kernel
theorem dX7_pass_173 : decode cX7_pass 173 = .ok (.aload_n 0, 1) := by decide +kernel
theorem dX7_pass_174 : decode cX7_pass 174 = .ok (.getfield 43, 3) := by decide +kernel
theorem dX7_pass_177 : decode cX7_pass 177 = .ok (.aload_n 0, 1) := by decide +kernel
theorem dX7_pass_178 : decode cX7_pass 178 = .ok (.getfield 51, 3) := by decide +kernel
theorem dX7_pass_181 : decode cX7_pass 181 = .ok (.iload_n 3, 1) := by decide +kernel
theorem dX7_pass_182 : decode cX7_pass 182 = .ok (.iaload, 1) := by decide +kernel
theorem dX7_pass_183 : decode cX7_pass 183 = .ok (.iaload, 1) := by decide +kernel
theorem dX7_pass_184 : decode cX7_pass 184 = .ok (.if_icmp .ge 27, 3) := by decide +kernel
theorem dX7_pass_187 : decode cX7_pass 187 = .ok (.iload_n 2, 1) := by decide +kernel
theorem dX7_pass_188 : decode cX7_pass 188 = .ok (.aload_n 0, 1) := by decide +kernel
theorem dX7_pass_189 : decode cX7_pass 189 = .ok (.iload_n 3, 1) := by decide +kernel
theorem dX7_pass_190 : decode cX7_pass 190 = .ok (.iload 4, 2) := by decide +kernel
theorem dX7_pass_192 : decode cX7_pass 192 = .ok (.invokevirtual 160, 3) := by decide +kernel
theorem dX7_pass_195 : decode cX7_pass 195 = .ok (.ifCond .eq 7, 3) := by decide +kernel
theorem dX7_pass_198 : decode cX7_pass 198 = .ok (.iconst 1, 1) := by decide +kernel
theorem dX7_pass_199 : decode cX7_pass 199 = .ok (.goto 4, 3) := by decide +kernel
theorem dX7_pass_202 : decode cX7_pass 202 = .ok (.iconst 0, 1) := by decide +kernel
theorem dX7_pass_203 : decode cX7_pass 203 = .ok (.iadd, 1) := by decide +kernel
theorem dX7_pass_204 : decode cX7_pass 204 = .ok (.istore_n 2, 1) := by decide +kernel
theorem dX7_pass_205 : decode cX7_pass 205 = .ok (.iinc 4 1, 3) := by decide +kernel
theorem dX7_pass_208 : decode cX7_pass 208 = .ok (.goto (-37), 3) := by decide +kernel
theorem dX7_pass_211 : decode cX7_pass 211 = .ok (.iinc 3 1, 3) := by decide +kernel
theorem dX7_pass_214 : decode cX7_pass 214 = .ok (.goto (-54), 3) := by decide +kernel
theorem dX7_pass_217 : decode cX7_pass 217 = .ok (.iload_n 2, 1) := by decide +kernel
theorem dX7_pass_218 : decode cX7_pass 218 = .ok (.ireturn, 1) := by decide +kernel
theorem dX7_lacks_0 : decode cX7_lacks 0 = .ok (.aload_n 0, 1) := by decide +kernel
theorem dX7_lacks_1 : decode cX7_lacks 1 = .ok (.aload_n 0, 1) := by decide +kernel
theorem dX7_lacks_2 : decode cX7_lacks 2 = .ok (.iload_n 1, 1) := by decide +kernel
theorem dX7_lacks_3 : decode cX7_lacks 3 = .ok (.iload_n 2, 1) := by decide +kernel
theorem dX7_lacks_4 : decode cX7_lacks 4 = .ok (.invokevirtual 157, 3) := by decide +kernel
theorem dX7_lacks_7 : decode cX7_lacks 7 = .ok (.ifCond .eq 7, 3) := by decide +kernel
theorem dX7_lacks_10 : decode cX7_lacks 10 = .ok (.iconst 0, 1) := by decide +kernel
theorem dX7_lacks_11 : decode cX7_lacks 11 = .ok (.goto 4, 3) := by decide +kernel
theorem dX7_lacks_14 : decode cX7_lacks 14 = .ok (.iconst 1, 1) := by decide +kernel
theorem dX7_lacks_15 : decode cX7_lacks 15 = .ok (.putfield 86, 3) := by decide +kernel
theorem dX7_lacks_18 : decode cX7_lacks 18 = .ok (.aload_n 0, 1) := by decide +kernel
theorem dX7_lacks_19 : decode cX7_lacks 19 = .ok (.getfield 86, 3) := by decide +kernel
theorem dX7_lacks_22 : decode cX7_lacks 22 = .ok (.ifCond .le 7, 3) := by decide +kernel
theorem dX7_lacks_25 : decode cX7_lacks 25 = .ok (.iconst 1, 1) := by decide +kernel
theorem dX7_lacks_26 : decode cX7_lacks 26 = .ok (.goto 4, 3) := by decide +kernel
theorem dX7_lacks_29 : decode cX7_lacks 29 = .ok (.iconst 0, 1) := by decide +kernel
theorem dX7_lacks_30 : decode cX7_lacks 30 = .ok (.ireturn, 1) := by decide +kernel
theorem dX7_state_0 : decode cX7_state 0 = .ok (.aload_n 0, 1) := by decide +kernel
theorem dX7_state_1 : decode cX7_state 1 = .ok (.iload_n 1, 1) := by decide +kernel
theorem dX7_state_2 : decode cX7_state 2 = .ok (.iload_n 2, 1) := by decide +kernel
theorem dX7_state_3 : decode cX7_state 3 = .ok (.invokevirtual 163, 3) := by decide +kernel
theorem dX7_state_6 : decode cX7_state 6 = .ok (.ifCond .eq 8, 3) := by decide +kernel
theorem dX7_state_9 : decode cX7_state 9 = .ok (.bipush 32, 2) := by decide +kernel
theorem dX7_state_11 : decode cX7_state 11 = .ok (.goto 11, 3) := by decide +kernel
theorem dX7_state_14 : decode cX7_state 14 = .ok (.aload_n 0, 1) := by decide +kernel
theorem dX7_state_15 : decode cX7_state 15 = .ok (.getfield 60, 3) := by decide +kernel
theorem dX7_state_18 : decode cX7_state 18 = .ok (.iload_n 1, 1) := by decide +kernel
theorem dX7_state_19 : decode cX7_state 19 = .ok (.aaload, 1) := by decide +kernel
theorem dX7_state_20 : decode cX7_state 20 = .ok (.iload_n 2, 1) := by decide +kernel
theorem dX7_state_21 : decode cX7_state 21 = .ok (.caload, 1) := by decide +kernel
theorem dX7_state_22 : decode cX7_state 22 = .ok (.ireturn, 1) := by decide +kernel
theorem dX7_stateByReplay_0 : decode cX7_stateByReplay 0 = .ok (.aload_n 0, 1) := by decide +kernel
theorem dX7_stateByReplay_1 : decode cX7_stateByReplay 1 = .ok (.iload_n 1, 1) := by decide +kernel
theorem dX7_stateByReplay_2 : decode cX7_stateByReplay 2 = .ok (.iload_n 2, 1) := by decide +kernel
theorem dX7_stateByReplay_3 : decode cX7_stateByReplay 3 = .ok (.invokevirtual 166, 3) := by decide +kernel
theorem dX7_stateByReplay_6 : decode cX7_stateByReplay 6 = .ok (.ireturn, 1) := by decide +kernel
theorem dX7_clock_0 : decode cX7_clock 0 = .ok (.aload_n 0, 1) := by decide +kernel
theorem dX7_clock_1 : decode cX7_clock 1 = .ok (.iload_n 1, 1) := by decide +kernel
theorem dX7_clock_2 : decode cX7_clock 2 = .ok (.iload_n 2, 1) := by decide +kernel
theorem dX7_clock_3 : decode cX7_clock 3 = .ok (.invokevirtual 163, 3) := by decide +kernel
theorem dX7_clock_6 : decode cX7_clock 6 = .ok (.ifCond .eq 7, 3) := by decide +kernel
theorem dX7_clock_9 : decode cX7_clock 9 = .ok (.iconst 0, 1) := by decide +kernel
theorem dX7_clock_10 : decode cX7_clock 10 = .ok (.goto 11, 3) := by decide +kernel
theorem dX7_clock_13 : decode cX7_clock 13 = .ok (.aload_n 0, 1) := by decide +kernel
theorem dX7_clock_14 : decode cX7_clock 14 = .ok (.getfield 63, 3) := by decide +kernel
theorem dX7_clock_17 : decode cX7_clock 17 = .ok (.iload_n 1, 1) := by decide +kernel
theorem dX7_clock_18 : decode cX7_clock 18 = .ok (.aaload, 1) := by decide +kernel
theorem dX7_clock_19 : decode cX7_clock 19 = .ok (.iload_n 2, 1) := by decide +kernel
theorem dX7_clock_20 : decode cX7_clock 20 = .ok (.iaload, 1) := by decide +kernel
theorem dX7_clock_21 : decode cX7_clock 21 = .ok (.ireturn, 1) := by decide +kernel
theorem dX7_clockByReplay_0 : decode cX7_clockByReplay 0 = .ok (.aload_n 0, 1) := by decide +kernel
theorem dX7_clockByReplay_1 : decode cX7_clockByReplay 1 = .ok (.iload_n 1, 1) := by decide +kernel
theorem dX7_clockByReplay_2 : decode cX7_clockByReplay 2 = .ok (.iload_n 2, 1) := by decide +kernel
theorem dX7_clockByReplay_3 : decode cX7_clockByReplay 3 = .ok (.invokevirtual 170, 3) := by decide +kernel
theorem dX7_clockByReplay_6 : decode cX7_clockByReplay 6 = .ok (.ireturn, 1) := by decide +kernel
theorem dX7_count_0 : decode cX7_count 0 = .ok (.aload_n 0, 1) := by decide +kernel
theorem dX7_count_1 : decode cX7_count 1 = .ok (.iload_n 1, 1) := by decide +kernel
theorem dX7_count_2 : decode cX7_count 2 = .ok (.iload_n 2, 1) := by decide +kernel
theorem dX7_count_3 : decode cX7_count 3 = .ok (.invokevirtual 163, 3) := by decide +kernel
theorem dX7_count_6 : decode cX7_count 6 = .ok (.ifCond .eq 7, 3) := by decide +kernel
theorem dX7_count_9 : decode cX7_count 9 = .ok (.iconst 0, 1) := by decide +kernel
theorem dX7_count_10 : decode cX7_count 10 = .ok (.goto 11, 3) := by decide +kernel
theorem dX7_count_13 : decode cX7_count 13 = .ok (.aload_n 0, 1) := by decide +kernel
theorem dX7_count_14 : decode cX7_count 14 = .ok (.getfield 66, 3) := by decide +kernel
theorem dX7_count_17 : decode cX7_count 17 = .ok (.iload_n 1, 1) := by decide +kernel
theorem dX7_count_18 : decode cX7_count 18 = .ok (.aaload, 1) := by decide +kernel
theorem dX7_count_19 : decode cX7_count 19 = .ok (.iload_n 2, 1) := by decide +kernel
theorem dX7_count_20 : decode cX7_count 20 = .ok (.iaload, 1) := by decide +kernel
theorem dX7_count_21 : decode cX7_count 21 = .ok (.ireturn, 1) := by decide +kernel
theorem dX7_isLate_0 : decode cX7_isLate 0 = .ok (.aload_n 0, 1) := by decide +kernel
theorem dX7_isLate_1 : decode cX7_isLate 1 = .ok (.iload_n 1, 1) := by decide +kernel
theorem dX7_isLate_2 : decode cX7_isLate 2 = .ok (.iload_n 2, 1) := by decide +kernel
theorem dX7_isLate_3 : decode cX7_isLate 3 = .ok (.invokevirtual 163, 3) := by decide +kernel
theorem dX7_isLate_6 : decode cX7_isLate 6 = .ok (.ifCond .ne 16, 3) := by decide +kernel
theorem dX7_isLate_9 : decode cX7_isLate 9 = .ok (.aload_n 0, 1) := by decide +kernel
theorem dX7_isLate_10 : decode cX7_isLate 10 = .ok (.iload_n 1, 1) := by decide +kernel
theorem dX7_isLate_11 : decode cX7_isLate 11 = .ok (.iload_n 2, 1) := by decide +kernel
theorem dX7_isLate_12 : decode cX7_isLate 12 = .ok (.invokevirtual 160, 3) := by decide +kernel
theorem dX7_isLate_15 : decode cX7_isLate 15 = .ok (.ifCond .eq 7, 3) := by decide +kernel
theorem dX7_isLate_18 : decode cX7_isLate 18 = .ok (.iconst 1, 1) := by decide +kernel
theorem dX7_isLate_19 : decode cX7_isLate 19 = .ok (.goto 4, 3) := by decide +kernel
theorem dX7_isLate_22 : decode cX7_isLate 22 = .ok (.iconst 0, 1) := by decide +kernel
theorem dX7_isLate_23 : decode cX7_isLate 23 = .ok (.ireturn, 1) := by decide +kernel
theorem dX7_misses_0 : decode cX7_misses 0 = .ok (.aload_n 0, 1) := by decide +kernel
theorem dX7_misses_1 : decode cX7_misses 1 = .ok (.aload_n 0, 1) := by decide +kernel
theorem dX7_misses_2 : decode cX7_misses 2 = .ok (.iload_n 1, 1) := by decide +kernel
theorem dX7_misses_3 : decode cX7_misses 3 = .ok (.invokevirtual 103, 3) := by decide +kernel
theorem dX7_misses_6 : decode cX7_misses 6 = .ok (.ifCond .eq 7, 3) := by decide +kernel
theorem dX7_misses_9 : decode cX7_misses 9 = .ok (.iconst 0, 1) := by decide +kernel
theorem dX7_misses_10 : decode cX7_misses 10 = .ok (.goto 4, 3) := by decide +kernel
theorem dX7_misses_13 : decode cX7_misses 13 = .ok (.iconst 1, 1) := by decide +kernel
theorem dX7_misses_14 : decode cX7_misses 14 = .ok (.putfield 86, 3) := by decide +kernel
theorem dX7_misses_17 : decode cX7_misses 17 = .ok (.aload_n 0, 1) := by decide +kernel
theorem dX7_misses_18 : decode cX7_misses 18 = .ok (.getfield 86, 3) := by decide +kernel
theorem dX7_misses_21 : decode cX7_misses 21 = .ok (.ifCond .le 7, 3) := by decide +kernel
theorem dX7_misses_24 : decode cX7_misses 24 = .ok (.iconst 1, 1) := by decide +kernel
theorem dX7_misses_25 : decode cX7_misses 25 = .ok (.goto 4, 3) := by decide +kernel
theorem dX7_misses_28 : decode cX7_misses 28 = .ok (.iconst 0, 1) := by decide +kernel
theorem dX7_misses_29 : decode cX7_misses 29 = .ok (.ireturn, 1) := by decide +kernel
theorem dX7_daysLeft_0 : decode cX7_daysLeft 0 = .ok (.aload_n 0, 1) := by decide +kernel
theorem dX7_daysLeft_1 : decode cX7_daysLeft 1 = .ok (.iload_n 1, 1) := by decide +kernel
theorem dX7_daysLeft_2 : decode cX7_daysLeft 2 = .ok (.invokevirtual 173, 3) := by decide +kernel
theorem dX7_daysLeft_5 : decode cX7_daysLeft 5 = .ok (.ifCond .eq 5, 3) := by decide +kernel
theorem dX7_daysLeft_8 : decode cX7_daysLeft 8 = .ok (.iconst 0, 1) := by decide +kernel
theorem dX7_daysLeft_9 : decode cX7_daysLeft 9 = .ok (.ireturn, 1) := by decide +kernel
theorem dX7_daysLeft_10 : decode cX7_daysLeft 10 = .ok (.aload_n 0, 1) := by decide +kernel
theorem dX7_daysLeft_11 : decode cX7_daysLeft 11 = .ok (.getfield 51, 3) := by decide +kernel
theorem dX7_daysLeft_14 : decode cX7_daysLeft 14 = .ok (.iload_n 1, 1) := by decide +kernel
theorem dX7_daysLeft_15 : decode cX7_daysLeft 15 = .ok (.iaload, 1) := by decide +kernel
theorem dX7_daysLeft_16 : decode cX7_daysLeft 16 = .ok (.istore_n 2, 1) := by decide +kernel
theorem dX7_daysLeft_17 : decode cX7_daysLeft 17 = .ok (.iconst (-1), 1) := by decide +kernel
theorem dX7_daysLeft_18 : decode cX7_daysLeft 18 = .ok (.istore_n 3, 1) := by decide +kernel
theorem dX7_daysLeft_19 : decode cX7_daysLeft 19 = .ok (.iconst 0, 1) := by decide +kernel
theorem dX7_daysLeft_20 : decode cX7_daysLeft 20 = .ok (.istore 4, 2) := by decide +kernel
theorem dX7_daysLeft_22 : decode cX7_daysLeft 22 = .ok (.iload 4, 2) := by decide +kernel
theorem dX7_daysLeft_24 : decode cX7_daysLeft 24 = .ok (.aload_n 0, 1) := by decide +kernel
theorem dX7_daysLeft_25 : decode cX7_daysLeft 25 = .ok (.getfield 43, 3) := by decide +kernel
theorem dX7_daysLeft_28 : decode cX7_daysLeft 28 = .ok (.iload_n 2, 1) := by decide +kernel
theorem dX7_daysLeft_29 : decode cX7_daysLeft 29 = .ok (.iaload, 1) := by decide +kernel
theorem dX7_daysLeft_30 : decode cX7_daysLeft 30 = .ok (.if_icmp .ge 95, 3) := by decide +kernel
theorem dX7_daysLeft_33 : decode cX7_daysLeft 33 = .ok (.aload_n 0, 1) := by decide +kernel
theorem dX7_daysLeft_34 : decode cX7_daysLeft 34 = .ok (.getfield 24, 3) := by decide +kernel
theorem dX7_daysLeft_37 : decode cX7_daysLeft 37 = .ok (.iload_n 2, 1) := by decide +kernel
theorem dX7_daysLeft_38 : decode cX7_daysLeft 38 = .ok (.aaload, 1) := by decide +kernel
theorem dX7_daysLeft_39 : decode cX7_daysLeft 39 = .ok (.iload 4, 2) := by decide +kernel
theorem dX7_daysLeft_41 : decode cX7_daysLeft 41 = .ok (.iaload, 1) := by decide +kernel
theorem dX7_daysLeft_42 : decode cX7_daysLeft 42 = .ok (.aload_n 0, 1) := by decide +kernel
theorem dX7_daysLeft_43 : decode cX7_daysLeft 43 = .ok (.getfield 63, 3) := by decide +kernel
theorem dX7_daysLeft_46 : decode cX7_daysLeft 46 = .ok (.iload_n 1, 1) := by decide +kernel
theorem dX7_daysLeft_47 : decode cX7_daysLeft 47 = .ok (.aaload, 1) := by decide +kernel
theorem dX7_daysLeft_48 : decode cX7_daysLeft 48 = .ok (.iload 4, 2) := by decide +kernel
theorem dX7_daysLeft_50 : decode cX7_daysLeft 50 = .ok (.iaload, 1) := by decide +kernel
theorem dX7_daysLeft_51 : decode cX7_daysLeft 51 = .ok (.isub, 1) := by decide +kernel
theorem dX7_daysLeft_52 : decode cX7_daysLeft 52 = .ok (.iconst 1, 1) := by decide +kernel
theorem dX7_daysLeft_53 : decode cX7_daysLeft 53 = .ok (.iadd, 1) := by decide +kernel
theorem dX7_daysLeft_54 : decode cX7_daysLeft 54 = .ok (.istore 5, 2) := by decide +kernel
theorem dX7_daysLeft_56 : decode cX7_daysLeft 56 = .ok (.aload_n 0, 1) := by decide +kernel
theorem dX7_daysLeft_57 : decode cX7_daysLeft 57 = .ok (.getfield 11, 3) := by decide +kernel
theorem dX7_daysLeft_60 : decode cX7_daysLeft 60 = .ok (.iload_n 2, 1) := by decide +kernel
theorem dX7_daysLeft_61 : decode cX7_daysLeft 61 = .ok (.aaload, 1) := by decide +kernel
theorem dX7_daysLeft_62 : decode cX7_daysLeft 62 = .ok (.iload 4, 2) := by decide +kernel
theorem dX7_daysLeft_64 : decode cX7_daysLeft 64 = .ok (.caload, 1) := by decide +kernel
theorem dX7_daysLeft_65 : decode cX7_daysLeft 65 = .ok (.bipush 116, 2) := by decide +kernel
theorem dX7_daysLeft_67 : decode cX7_daysLeft 67 = .ok (.if_icmp .ne 26, 3) := by decide +kernel
theorem dX7_daysLeft_70 : decode cX7_daysLeft 70 = .ok (.aload_n 0, 1) := by decide +kernel
theorem dX7_daysLeft_71 : decode cX7_daysLeft 71 = .ok (.getfield 60, 3) := by decide +kernel
theorem dX7_daysLeft_74 : decode cX7_daysLeft 74 = .ok (.iload_n 1, 1) := by decide +kernel
theorem dX7_daysLeft_75 : decode cX7_daysLeft 75 = .ok (.aaload, 1) := by decide +kernel
theorem dX7_daysLeft_76 : decode cX7_daysLeft 76 = .ok (.iload 4, 2) := by decide +kernel
theorem dX7_daysLeft_78 : decode cX7_daysLeft 78 = .ok (.caload, 1) := by decide +kernel
theorem dX7_daysLeft_79 : decode cX7_daysLeft 79 = .ok (.bipush 97, 2) := by decide +kernel
theorem dX7_daysLeft_81 : decode cX7_daysLeft 81 = .ok (.if_icmp .ne 12, 3) := by decide +kernel
theorem dX7_daysLeft_84 : decode cX7_daysLeft 84 = .ok (.iload 5, 2) := by decide +kernel
theorem dX7_daysLeft_86 : decode cX7_daysLeft 86 = .ok (.ifCond .le 7, 3) := by decide +kernel
theorem dX7_daysLeft_89 : decode cX7_daysLeft 89 = .ok (.iconst 1, 1) := by decide +kernel
theorem dX7_daysLeft_90 : decode cX7_daysLeft 90 = .ok (.goto 4, 3) := by decide +kernel
theorem dX7_daysLeft_93 : decode cX7_daysLeft 93 = .ok (.iconst 0, 1) := by decide +kernel
theorem dX7_daysLeft_94 : decode cX7_daysLeft 94 = .ok (.istore 6, 2) := by decide +kernel
theorem dX7_daysLeft_96 : decode cX7_daysLeft 96 = .ok (.iload 6, 2) := by decide +kernel
theorem dX7_daysLeft_98 : decode cX7_daysLeft 98 = .ok (.ifCond .eq 19, 3) := by decide +kernel
theorem dX7_daysLeft_101 : decode cX7_daysLeft 101 = .ok (.iload_n 3, 1) := by decide +kernel
theorem dX7_daysLeft_102 : decode cX7_daysLeft 102 = .ok (.iconst (-1), 1) := by decide +kernel
theorem dX7_daysLeft_103 : decode cX7_daysLeft 103 = .ok (.if_icmp .eq 9, 3) := by decide +kernel
theorem dX7_daysLeft_106 : decode cX7_daysLeft 106 = .ok (.iload 5, 2) := by decide +kernel
theorem dX7_daysLeft_108 : decode cX7_daysLeft 108 = .ok (.iload_n 3, 1) := by decide +kernel
theorem dX7_daysLeft_109 : decode cX7_daysLeft 109 = .ok (.if_icmp .ge 8, 3) := by decide +kernel
theorem dX7_daysLeft_112 : decode cX7_daysLeft 112 = .ok (.iload 5, 2) := by decide +kernel
theorem dX7_daysLeft_114 : decode cX7_daysLeft 114 = .ok (.goto 4, 3) := by decide +kernel
theorem dX7_daysLeft_117 : decode cX7_daysLeft 117 = .ok (.iload_n 3, 1) := by decide +kernel
theorem dX7_daysLeft_118 : decode cX7_daysLeft 118 = .ok (.istore_n 3, 1) := by decide +kernel
theorem dX7_daysLeft_119 : decode cX7_daysLeft 119 = .ok (.iinc 4 1, 3) := by decide +kernel
theorem dX7_daysLeft_122 : decode cX7_daysLeft 122 = .ok (.goto (-100), 3) := by decide +kernel
theorem dX7_daysLeft_125 : decode cX7_daysLeft 125 = .ok (.iload_n 3, 1) := by decide +kernel
theorem dX7_daysLeft_126 : decode cX7_daysLeft 126 = .ok (.iconst (-1), 1) := by decide +kernel
theorem dX7_daysLeft_127 : decode cX7_daysLeft 127 = .ok (.if_icmp .ne 11, 3) := by decide +kernel
theorem dX7_daysLeft_130 : decode cX7_daysLeft 130 = .ok (.aload_n 0, 1) := by decide +kernel
theorem dX7_daysLeft_131 : decode cX7_daysLeft 131 = .ok (.iconst 2, 1) := by decide +kernel
theorem dX7_daysLeft_132 : decode cX7_daysLeft 132 = .ok (.invokevirtual 110, 3) := by decide +kernel
theorem dX7_daysLeft_135 : decode cX7_daysLeft 135 = .ok (.goto 4, 3) := by decide +kernel
theorem dX7_daysLeft_138 : decode cX7_daysLeft 138 = .ok (.iload_n 3, 1) := by decide +kernel
theorem dX7_daysLeft_139 : decode cX7_daysLeft 139 = .ok (.ireturn, 1) := by decide +kernel
theorem dX7_holds_0 : decode cX7_holds 0 = .ok (.aload_n 0, 1) := by decide +kernel
theorem dX7_holds_1 : decode cX7_holds 1 = .ok (.iload_n 1, 1) := by decide +kernel
theorem dX7_holds_2 : decode cX7_holds 2 = .ok (.iload_n 2, 1) := by decide +kernel
theorem dX7_holds_3 : decode cX7_holds 3 = .ok (.invokevirtual 163, 3) := by decide +kernel
theorem dX7_holds_6 : decode cX7_holds 6 = .ok (.ifCond .eq 5, 3) := by decide +kernel
theorem dX7_holds_9 : decode cX7_holds 9 = .ok (.iconst 0, 1) := by decide +kernel
theorem dX7_holds_10 : decode cX7_holds 10 = .ok (.ireturn, 1) := by decide +kernel
theorem dX7_holds_11 : decode cX7_holds 11 = .ok (.iload_n 3, 1) := by decide +kernel
theorem dX7_holds_12 : decode cX7_holds 12 = .ok (.ifCond .eq 7, 3) := by decide +kernel
theorem dX7_holds_15 : decode cX7_holds 15 = .ok (.iconst 0, 1) := by decide +kernel
theorem dX7_holds_16 : decode cX7_holds 16 = .ok (.goto 4, 3) := by decide +kernel
theorem dX7_holds_19 : decode cX7_holds 19 = .ok (.iconst 1, 1) := by decide +kernel
theorem dX7_holds_20 : decode cX7_holds 20 = .ok (.istore 5, 2) := by decide +kernel
theorem dX7_holds_22 : decode cX7_holds 22 = .ok (.aload_n 0, 1) := by decide +kernel
theorem dX7_holds_23 : decode cX7_holds 23 = .ok (.iload 4, 2) := by decide +kernel
theorem dX7_holds_25 : decode cX7_holds 25 = .ok (.iconst 0, 1) := by decide +kernel
theorem dX7_holds_26 : decode cX7_holds 26 = .ok (.aload_n 0, 1) := by decide +kernel
theorem dX7_holds_27 : decode cX7_holds 27 = .ok (.getfield 40, 3) := by decide +kernel
theorem dX7_holds_30 : decode cX7_holds 30 = .ok (.aload_n 0, 1) := by decide +kernel
theorem dX7_holds_31 : decode cX7_holds 31 = .ok (.getfield 51, 3) := by decide +kernel
theorem dX7_holds_34 : decode cX7_holds 34 = .ok (.iload_n 1, 1) := by decide +kernel
theorem dX7_holds_35 : decode cX7_holds 35 = .ok (.iaload, 1) := by decide +kernel
theorem dX7_holds_36 : decode cX7_holds 36 = .ok (.aaload, 1) := by decide +kernel
theorem dX7_holds_37 : decode cX7_holds 37 = .ok (.iload_n 2, 1) := by decide +kernel
theorem dX7_holds_38 : decode cX7_holds 38 = .ok (.aaload, 1) := by decide +kernel
theorem dX7_holds_39 : decode cX7_holds 39 = .ok (.iload 5, 2) := by decide +kernel
theorem dX7_holds_41 : decode cX7_holds 41 = .ok (.iaload, 1) := by decide +kernel
theorem dX7_holds_42 : decode cX7_holds 42 = .ok (.iconst 1, 1) := by decide +kernel
theorem dX7_holds_43 : decode cX7_holds 43 = .ok (.isub, 1) := by decide +kernel
theorem dX7_holds_44 : decode cX7_holds 44 = .ok (.invokestatic 92, 3) := by decide +kernel
theorem dX7_holds_47 : decode cX7_holds 47 = .ok (.ifCond .eq 7, 3) := by decide +kernel
theorem dX7_holds_50 : decode cX7_holds 50 = .ok (.iconst 0, 1) := by decide +kernel
theorem dX7_holds_51 : decode cX7_holds 51 = .ok (.goto 4, 3) := by decide +kernel
theorem dX7_holds_54 : decode cX7_holds 54 = .ok (.iconst 2, 1) := by decide +kernel
theorem dX7_holds_55 : decode cX7_holds 55 = .ok (.putfield 86, 3) := by decide +kernel
theorem dX7_holds_58 : decode cX7_holds 58 = .ok (.aload_n 0, 1) := by decide +kernel
theorem dX7_holds_59 : decode cX7_holds 59 = .ok (.getfield 86, 3) := by decide +kernel
theorem dX7_holds_62 : decode cX7_holds 62 = .ok (.ifCond .ne 23, 3) := by decide +kernel
theorem dX7_holds_65 : decode cX7_holds 65 = .ok (.aload_n 0, 1) := by decide +kernel
theorem dX7_holds_66 : decode cX7_holds 66 = .ok (.iload_n 1, 1) := by decide +kernel
theorem dX7_holds_67 : decode cX7_holds 67 = .ok (.iload_n 2, 1) := by decide +kernel
theorem dX7_holds_68 : decode cX7_holds 68 = .ok (.iconst 3, 1) := by decide +kernel
theorem dX7_holds_69 : decode cX7_holds 69 = .ok (.iload 5, 2) := by decide +kernel
theorem dX7_holds_71 : decode cX7_holds 71 = .ok (.imul, 1) := by decide +kernel
theorem dX7_holds_72 : decode cX7_holds 72 = .ok (.iload 4, 2) := by decide +kernel
theorem dX7_holds_74 : decode cX7_holds 74 = .ok (.iadd, 1) := by decide +kernel
theorem dX7_holds_75 : decode cX7_holds 75 = .ok (.invokevirtual 126, 3) := by decide +kernel
theorem dX7_holds_78 : decode cX7_holds 78 = .ok (.ifCond .eq 7, 3) := by decide +kernel
theorem dX7_holds_81 : decode cX7_holds 81 = .ok (.iconst 1, 1) := by decide +kernel
theorem dX7_holds_82 : decode cX7_holds 82 = .ok (.goto 4, 3) := by decide +kernel
theorem dX7_holds_85 : decode cX7_holds 85 = .ok (.iconst 0, 1) := by decide +kernel
theorem dX7_holds_86 : decode cX7_holds 86 = .ok (.ireturn, 1) := by decide +kernel
theorem dX7_inState_0 : decode cX7_inState 0 = .ok (.iconst 0, 1) := by decide +kernel
theorem dX7_inState_1 : decode cX7_inState 1 = .ok (.istore_n 3, 1) := by decide +kernel
theorem dX7_inState_2 : decode cX7_inState 2 = .ok (.iconst 0, 1) := by decide +kernel
theorem dX7_inState_3 : decode cX7_inState 3 = .ok (.istore 4, 2) := by decide +kernel
theorem dX7_inState_5 : decode cX7_inState 5 = .ok (.iload 4, 2) := by decide +kernel
theorem dX7_inState_7 : decode cX7_inState 7 = .ok (.aload_n 0, 1) := by decide +kernel
theorem dX7_inState_8 : decode cX7_inState 8 = .ok (.getfield 43, 3) := by decide +kernel
theorem dX7_inState_11 : decode cX7_inState 11 = .ok (.aload_n 0, 1) := by decide +kernel
theorem dX7_inState_12 : decode cX7_inState 12 = .ok (.getfield 51, 3) := by decide +kernel
theorem dX7_inState_15 : decode cX7_inState 15 = .ok (.iload_n 1, 1) := by decide +kernel
theorem dX7_inState_16 : decode cX7_inState 16 = .ok (.iaload, 1) := by decide +kernel
theorem dX7_inState_17 : decode cX7_inState 17 = .ok (.iaload, 1) := by decide +kernel
theorem dX7_inState_18 : decode cX7_inState 18 = .ok (.if_icmp .ge 30, 3) := by decide +kernel
theorem dX7_inState_21 : decode cX7_inState 21 = .ok (.iload_n 3, 1) := by decide +kernel
theorem dX7_inState_22 : decode cX7_inState 22 = .ok (.aload_n 0, 1) := by decide +kernel
theorem dX7_inState_23 : decode cX7_inState 23 = .ok (.getfield 60, 3) := by decide +kernel
theorem dX7_inState_26 : decode cX7_inState 26 = .ok (.iload_n 1, 1) := by decide +kernel
theorem dX7_inState_27 : decode cX7_inState 27 = .ok (.aaload, 1) := by decide +kernel
theorem dX7_inState_28 : decode cX7_inState 28 = .ok (.iload 4, 2) := by decide +kernel
theorem dX7_inState_30 : decode cX7_inState 30 = .ok (.caload, 1) := by decide +kernel
theorem dX7_inState_31 : decode cX7_inState 31 = .ok (.iload_n 2, 1) := by decide +kernel
theorem dX7_inState_32 : decode cX7_inState 32 = .ok (.if_icmp .ne 7, 3) := by decide +kernel
theorem dX7_inState_35 : decode cX7_inState 35 = .ok (.iconst 1, 1) := by decide +kernel
theorem dX7_inState_36 : decode cX7_inState 36 = .ok (.goto 4, 3) := by decide +kernel
theorem dX7_inState_39 : decode cX7_inState 39 = .ok (.iconst 0, 1) := by decide +kernel
theorem dX7_inState_40 : decode cX7_inState 40 = .ok (.iadd, 1) := by decide +kernel
theorem dX7_inState_41 : decode cX7_inState 41 = .ok (.istore_n 3, 1) := by decide +kernel
theorem dX7_inState_42 : decode cX7_inState 42 = .ok (.iinc 4 1, 3) := by decide +kernel
theorem dX7_inState_45 : decode cX7_inState 45 = .ok (.goto (-40), 3) := by decide +kernel
theorem dX7_inState_48 : decode cX7_inState 48 = .ok (.iload_n 3, 1) := by decide +kernel
theorem dX7_inState_49 : decode cX7_inState 49 = .ok (.ireturn, 1) := by decide +kernel
theorem dX7_active_0 : decode cX7_active 0 = .ok (.aload_n 0, 1) := by decide +kernel
theorem dX7_active_1 : decode cX7_active 1 = .ok (.iload_n 1, 1) := by decide +kernel
theorem dX7_active_2 : decode cX7_active 2 = .ok (.invokevirtual 173, 3) := by decide +kernel
theorem dX7_active_5 : decode cX7_active 5 = .ok (.ifCond .eq 7, 3) := by decide +kernel
theorem dX7_active_8 : decode cX7_active 8 = .ok (.iconst 0, 1) := by decide +kernel
theorem dX7_active_9 : decode cX7_active 9 = .ok (.goto 10, 3) := by decide +kernel
theorem dX7_active_12 : decode cX7_active 12 = .ok (.aload_n 0, 1) := by decide +kernel
theorem dX7_active_13 : decode cX7_active 13 = .ok (.iload_n 1, 1) := by decide +kernel
theorem dX7_active_14 : decode cX7_active 14 = .ok (.bipush 97, 2) := by decide +kernel
theorem dX7_active_16 : decode cX7_active 16 = .ok (.invokevirtual 176, 3) := by decide +kernel
theorem dX7_active_19 : decode cX7_active 19 = .ok (.ireturn, 1) := by decide +kernel
theorem dX7_isOver_0 : decode cX7_isOver 0 = .ok (.aload_n 0, 1) := by decide +kernel
theorem dX7_isOver_1 : decode cX7_isOver 1 = .ok (.iload_n 1, 1) := by decide +kernel
theorem dX7_isOver_2 : decode cX7_isOver 2 = .ok (.invokevirtual 173, 3) := by decide +kernel
theorem dX7_isOver_5 : decode cX7_isOver 5 = .ok (.ifCond .eq 5, 3) := by decide +kernel
theorem dX7_isOver_8 : decode cX7_isOver 8 = .ok (.iconst 0, 1) := by decide +kernel
theorem dX7_isOver_9 : decode cX7_isOver 9 = .ok (.ireturn, 1) := by decide +kernel
theorem dX7_isOver_10 : decode cX7_isOver 10 = .ok (.iconst 1, 1) := by decide +kernel
theorem dX7_isOver_11 : decode cX7_isOver 11 = .ok (.istore_n 2, 1) := by decide +kernel
theorem dX7_isOver_12 : decode cX7_isOver 12 = .ok (.iconst 0, 1) := by decide +kernel
theorem dX7_isOver_13 : decode cX7_isOver 13 = .ok (.istore_n 3, 1) := by decide +kernel
theorem dX7_isOver_14 : decode cX7_isOver 14 = .ok (.iload_n 3, 1) := by decide +kernel
theorem dX7_isOver_15 : decode cX7_isOver 15 = .ok (.aload_n 0, 1) := by decide +kernel
theorem dX7_isOver_16 : decode cX7_isOver 16 = .ok (.getfield 43, 3) := by decide +kernel
theorem dX7_isOver_19 : decode cX7_isOver 19 = .ok (.aload_n 0, 1) := by decide +kernel
theorem dX7_isOver_20 : decode cX7_isOver 20 = .ok (.getfield 51, 3) := by decide +kernel
theorem dX7_isOver_23 : decode cX7_isOver 23 = .ok (.iload_n 1, 1) := by decide +kernel
theorem dX7_isOver_24 : decode cX7_isOver 24 = .ok (.iaload, 1) := by decide +kernel
theorem dX7_isOver_25 : decode cX7_isOver 25 = .ok (.iaload, 1) := by decide +kernel
theorem dX7_isOver_26 : decode cX7_isOver 26 = .ok (.if_icmp .ge 62, 3) := by decide +kernel
theorem dX7_isOver_29 : decode cX7_isOver 29 = .ok (.iload_n 2, 1) := by decide +kernel
theorem dX7_isOver_30 : decode cX7_isOver 30 = .ok (.ifCond .eq 50, 3) := by decide +kernel
theorem dX7_isOver_33 : decode cX7_isOver 33 = .ok (.aload_n 0, 1) := by decide +kernel
theorem dX7_isOver_34 : decode cX7_isOver 34 = .ok (.getfield 16, 3) := by decide +kernel
theorem dX7_isOver_37 : decode cX7_isOver 37 = .ok (.aload_n 0, 1) := by decide +kernel
theorem dX7_isOver_38 : decode cX7_isOver 38 = .ok (.getfield 51, 3) := by decide +kernel
theorem dX7_isOver_41 : decode cX7_isOver 41 = .ok (.iload_n 1, 1) := by decide +kernel
theorem dX7_isOver_42 : decode cX7_isOver 42 = .ok (.iaload, 1) := by decide +kernel
theorem dX7_isOver_43 : decode cX7_isOver 43 = .ok (.aaload, 1) := by decide +kernel
theorem dX7_isOver_44 : decode cX7_isOver 44 = .ok (.iload_n 3, 1) := by decide +kernel
theorem dX7_isOver_45 : decode cX7_isOver 45 = .ok (.iaload, 1) := by decide +kernel
theorem dX7_isOver_46 : decode cX7_isOver 46 = .ok (.iconst (-1), 1) := by decide +kernel
theorem dX7_isOver_47 : decode cX7_isOver 47 = .ok (.if_icmp .ne 29, 3) := by decide +kernel
theorem dX7_isOver_50 : decode cX7_isOver 50 = .ok (.aload_n 0, 1) := by decide +kernel
theorem dX7_isOver_51 : decode cX7_isOver 51 = .ok (.getfield 60, 3) := by decide +kernel
theorem dX7_isOver_54 : decode cX7_isOver 54 = .ok (.iload_n 1, 1) := by decide +kernel
theorem dX7_isOver_55 : decode cX7_isOver 55 = .ok (.aaload, 1) := by decide +kernel
theorem dX7_isOver_56 : decode cX7_isOver 56 = .ok (.iload_n 3, 1) := by decide +kernel
theorem dX7_isOver_57 : decode cX7_isOver 57 = .ok (.caload, 1) := by decide +kernel
theorem dX7_isOver_58 : decode cX7_isOver 58 = .ok (.bipush 99, 2) := by decide +kernel
theorem dX7_isOver_60 : decode cX7_isOver 60 = .ok (.if_icmp .eq 16, 3) := by decide +kernel
theorem dX7_isOver_63 : decode cX7_isOver 63 = .ok (.aload_n 0, 1) := by decide +kernel
theorem dX7_isOver_64 : decode cX7_isOver 64 = .ok (.getfield 60, 3) := by decide +kernel
theorem dX7_isOver_67 : decode cX7_isOver 67 = .ok (.iload_n 1, 1) := by decide +kernel
theorem dX7_isOver_68 : decode cX7_isOver 68 = .ok (.aaload, 1) := by decide +kernel
theorem dX7_isOver_69 : decode cX7_isOver 69 = .ok (.iload_n 3, 1) := by decide +kernel
theorem dX7_isOver_70 : decode cX7_isOver 70 = .ok (.caload, 1) := by decide +kernel
theorem dX7_isOver_71 : decode cX7_isOver 71 = .ok (.bipush 120, 2) := by decide +kernel
theorem dX7_isOver_73 : decode cX7_isOver 73 = .ok (.if_icmp .ne 7, 3) := by decide +kernel
theorem dX7_isOver_76 : decode cX7_isOver 76 = .ok (.iconst 1, 1) := by decide +kernel
theorem dX7_isOver_77 : decode cX7_isOver 77 = .ok (.goto 4, 3) := by decide +kernel
theorem dX7_isOver_80 : decode cX7_isOver 80 = .ok (.iconst 0, 1) := by decide +kernel
theorem dX7_isOver_81 : decode cX7_isOver 81 = .ok (.istore_n 2, 1) := by decide +kernel
theorem dX7_isOver_82 : decode cX7_isOver 82 = .ok (.iinc 3 1, 3) := by decide +kernel
theorem dX7_isOver_85 : decode cX7_isOver 85 = .ok (.goto (-71), 3) := by decide +kernel
theorem dX7_isOver_88 : decode cX7_isOver 88 = .ok (.iload_n 2, 1) := by decide +kernel
theorem dX7_isOver_89 : decode cX7_isOver 89 = .ok (.ireturn, 1) := by decide +kernel
theorem dX7_rounds_0 : decode cX7_rounds 0 = .ok (.aload_n 0, 1) := by decide +kernel
theorem dX7_rounds_1 : decode cX7_rounds 1 = .ok (.iload_n 1, 1) := by decide +kernel
theorem dX7_rounds_2 : decode cX7_rounds 2 = .ok (.invokevirtual 173, 3) := by decide +kernel
theorem dX7_rounds_5 : decode cX7_rounds 5 = .ok (.ifCond .eq 7, 3) := by decide +kernel
theorem dX7_rounds_8 : decode cX7_rounds 8 = .ok (.iconst 0, 1) := by decide +kernel
theorem dX7_rounds_9 : decode cX7_rounds 9 = .ok (.goto 9, 3) := by decide +kernel
theorem dX7_rounds_12 : decode cX7_rounds 12 = .ok (.aload_n 0, 1) := by decide +kernel
theorem dX7_rounds_13 : decode cX7_rounds 13 = .ok (.getfield 72, 3) := by decide +kernel
theorem dX7_rounds_16 : decode cX7_rounds 16 = .ok (.iload_n 1, 1) := by decide +kernel
theorem dX7_rounds_17 : decode cX7_rounds 17 = .ok (.iaload, 1) := by decide +kernel
theorem dX7_rounds_18 : decode cX7_rounds 18 = .ok (.ireturn, 1) := by decide +kernel
theorem dX7_datum_0 : decode cX7_datum 0 = .ok (.aload_n 0, 1) := by decide +kernel
theorem dX7_datum_1 : decode cX7_datum 1 = .ok (.aload_n 0, 1) := by decide +kernel
theorem dX7_datum_2 : decode cX7_datum 2 = .ok (.iload_n 1, 1) := by decide +kernel
theorem dX7_datum_3 : decode cX7_datum 3 = .ok (.invokevirtual 103, 3) := by decide +kernel
theorem dX7_datum_6 : decode cX7_datum 6 = .ok (.ifCond .ne 7, 3) := by decide +kernel
theorem dX7_datum_9 : decode cX7_datum 9 = .ok (.iconst 1, 1) := by decide +kernel
theorem dX7_datum_10 : decode cX7_datum 10 = .ok (.goto 17, 3) := by decide +kernel
theorem dX7_datum_13 : decode cX7_datum 13 = .ok (.iload_n 2, 1) := by decide +kernel
theorem dX7_datum_14 : decode cX7_datum 14 = .ok (.iconst 0, 1) := by decide +kernel
theorem dX7_datum_15 : decode cX7_datum 15 = .ok (.iconst 3, 1) := by decide +kernel
theorem dX7_datum_16 : decode cX7_datum 16 = .ok (.invokestatic 92, 3) := by decide +kernel
theorem dX7_datum_19 : decode cX7_datum 19 = .ok (.ifCond .ne 7, 3) := by decide +kernel
theorem dX7_datum_22 : decode cX7_datum 22 = .ok (.iconst 2, 1) := by decide +kernel
theorem dX7_datum_23 : decode cX7_datum 23 = .ok (.goto 4, 3) := by decide +kernel
theorem dX7_datum_26 : decode cX7_datum 26 = .ok (.iconst 0, 1) := by decide +kernel
theorem dX7_datum_27 : decode cX7_datum 27 = .ok (.putfield 86, 3) := by decide +kernel
theorem dX7_datum_30 : decode cX7_datum 30 = .ok (.aload_n 0, 1) := by decide +kernel
theorem dX7_datum_31 : decode cX7_datum 31 = .ok (.getfield 86, 3) := by decide +kernel
theorem dX7_datum_34 : decode cX7_datum 34 = .ok (.ifCond .le 7, 3) := by decide +kernel
theorem dX7_datum_37 : decode cX7_datum 37 = .ok (.iconst 0, 1) := by decide +kernel
theorem dX7_datum_38 : decode cX7_datum 38 = .ok (.goto 11, 3) := by decide +kernel
theorem dX7_datum_41 : decode cX7_datum 41 = .ok (.aload_n 0, 1) := by decide +kernel
theorem dX7_datum_42 : decode cX7_datum 42 = .ok (.getfield 54, 3) := by decide +kernel
theorem dX7_datum_45 : decode cX7_datum 45 = .ok (.iload_n 1, 1) := by decide +kernel
theorem dX7_datum_46 : decode cX7_datum 46 = .ok (.aaload, 1) := by decide +kernel
theorem dX7_datum_47 : decode cX7_datum 47 = .ok (.iload_n 2, 1) := by decide +kernel
theorem dX7_datum_48 : decode cX7_datum 48 = .ok (.iaload, 1) := by decide +kernel
theorem dX7_datum_49 : decode cX7_datum 49 = .ok (.ireturn, 1) := by decide +kernel
theorem dX7_days_0 : decode cX7_days 0 = .ok (.aload_n 0, 1) := by decide +kernel
theorem dX7_days_1 : decode cX7_days 1 = .ok (.iload_n 1, 1) := by decide +kernel
theorem dX7_days_2 : decode cX7_days 2 = .ok (.invokevirtual 173, 3) := by decide +kernel
theorem dX7_days_5 : decode cX7_days 5 = .ok (.ifCond .eq 7, 3) := by decide +kernel
theorem dX7_days_8 : decode cX7_days 8 = .ok (.iconst 0, 1) := by decide +kernel
theorem dX7_days_9 : decode cX7_days 9 = .ok (.goto 9, 3) := by decide +kernel
theorem dX7_days_12 : decode cX7_days 12 = .ok (.aload_n 0, 1) := by decide +kernel
theorem dX7_days_13 : decode cX7_days 13 = .ok (.getfield 69, 3) := by decide +kernel
theorem dX7_days_16 : decode cX7_days 16 = .ok (.iload_n 1, 1) := by decide +kernel
theorem dX7_days_17 : decode cX7_days 17 = .ok (.iaload, 1) := by decide +kernel
theorem dX7_days_18 : decode cX7_days 18 = .ok (.ireturn, 1) := by decide +kernel
theorem dX7_planOf_0 : decode cX7_planOf 0 = .ok (.aload_n 0, 1) := by decide +kernel
theorem dX7_planOf_1 : decode cX7_planOf 1 = .ok (.iload_n 1, 1) := by decide +kernel
theorem dX7_planOf_2 : decode cX7_planOf 2 = .ok (.invokevirtual 173, 3) := by decide +kernel
theorem dX7_planOf_5 : decode cX7_planOf 5 = .ok (.ifCond .eq 7, 3) := by decide +kernel
theorem dX7_planOf_8 : decode cX7_planOf 8 = .ok (.iconst 0, 1) := by decide +kernel
theorem dX7_planOf_9 : decode cX7_planOf 9 = .ok (.goto 9, 3) := by decide +kernel
theorem dX7_planOf_12 : decode cX7_planOf 12 = .ok (.aload_n 0, 1) := by decide +kernel
theorem dX7_planOf_13 : decode cX7_planOf 13 = .ok (.getfield 51, 3) := by decide +kernel
theorem dX7_planOf_16 : decode cX7_planOf 16 = .ok (.iload_n 1, 1) := by decide +kernel
theorem dX7_planOf_17 : decode cX7_planOf 17 = .ok (.iaload, 1) := by decide +kernel
theorem dX7_planOf_18 : decode cX7_planOf 18 = .ok (.ireturn, 1) := by decide +kernel
theorem dX7_isWaiting_0 : decode cX7_isWaiting 0 = .ok (.aload_n 0, 1) := by decide +kernel
theorem dX7_isWaiting_1 : decode cX7_isWaiting 1 = .ok (.iload_n 1, 1) := by decide +kernel
theorem dX7_isWaiting_2 : decode cX7_isWaiting 2 = .ok (.invokevirtual 173, 3) := by decide +kernel
theorem dX7_isWaiting_5 : decode cX7_isWaiting 5 = .ok (.ifCond .ne 16, 3) := by decide +kernel
theorem dX7_isWaiting_8 : decode cX7_isWaiting 8 = .ok (.aload_n 0, 1) := by decide +kernel
theorem dX7_isWaiting_9 : decode cX7_isWaiting 9 = .ok (.getfield 57, 3) := by decide +kernel
theorem dX7_isWaiting_12 : decode cX7_isWaiting 12 = .ok (.iload_n 1, 1) := by decide +kernel
theorem dX7_isWaiting_13 : decode cX7_isWaiting 13 = .ok (.baload, 1) := by decide +kernel
theorem dX7_isWaiting_14 : decode cX7_isWaiting 14 = .ok (.ifCond .eq 7, 3) := by decide +kernel
theorem dX7_isWaiting_17 : decode cX7_isWaiting 17 = .ok (.iconst 1, 1) := by decide +kernel
theorem dX7_isWaiting_18 : decode cX7_isWaiting 18 = .ok (.goto 4, 3) := by decide +kernel
theorem dX7_isWaiting_21 : decode cX7_isWaiting 21 = .ok (.iconst 0, 1) := by decide +kernel
theorem dX7_isWaiting_22 : decode cX7_isWaiting 22 = .ok (.ireturn, 1) := by decide +kernel
theorem dX7_happened_0 : decode cX7_happened 0 = .ok (.aload_n 0, 1) := by decide +kernel
theorem dX7_happened_1 : decode cX7_happened 1 = .ok (.iload_n 1, 1) := by decide +kernel
theorem dX7_happened_2 : decode cX7_happened 2 = .ok (.invokevirtual 173, 3) := by decide +kernel
theorem dX7_happened_5 : decode cX7_happened 5 = .ok (.ifCond .eq 7, 3) := by decide +kernel
theorem dX7_happened_8 : decode cX7_happened 8 = .ok (.iconst 0, 1) := by decide +kernel
theorem dX7_happened_9 : decode cX7_happened 9 = .ok (.goto 9, 3) := by decide +kernel
theorem dX7_happened_12 : decode cX7_happened 12 = .ok (.aload_n 0, 1) := by decide +kernel
theorem dX7_happened_13 : decode cX7_happened 13 = .ok (.getfield 75, 3) := by decide +kernel
theorem dX7_happened_16 : decode cX7_happened 16 = .ok (.iload_n 1, 1) := by decide +kernel
theorem dX7_happened_17 : decode cX7_happened 17 = .ok (.iaload, 1) := by decide +kernel
theorem dX7_happened_18 : decode cX7_happened 18 = .ok (.ireturn, 1) := by decide +kernel
theorem dX7_cases_0 : decode cX7_cases 0 = .ok (.aload_n 0, 1) := by decide +kernel
theorem dX7_cases_1 : decode cX7_cases 1 = .ok (.iconst 0, 1) := by decide +kernel
theorem dX7_cases_2 : decode cX7_cases 2 = .ok (.putfield 86, 3) := by decide +kernel
theorem dX7_cases_5 : decode cX7_cases 5 = .ok (.aload_n 0, 1) := by decide +kernel
theorem dX7_cases_6 : decode cX7_cases 6 = .ok (.getfield 100, 3) := by decide +kernel
theorem dX7_cases_9 : decode cX7_cases 9 = .ok (.ireturn, 1) := by decide +kernel
theorem dX7_daysWorked_0 : decode cX7_daysWorked 0 = .ok (.aload_n 0, 1) := by decide +kernel
theorem dX7_daysWorked_1 : decode cX7_daysWorked 1 = .ok (.iconst 0, 1) := by decide +kernel
theorem dX7_daysWorked_2 : decode cX7_daysWorked 2 = .ok (.putfield 86, 3) := by decide +kernel
theorem dX7_daysWorked_5 : decode cX7_daysWorked 5 = .ok (.lconst 0, 1) := by decide +kernel
theorem dX7_daysWorked_6 : decode cX7_daysWorked 6 = .ok (.lstore_n 1, 1) := by decide +kernel
theorem dX7_daysWorked_7 : decode cX7_daysWorked 7 = .ok (.iconst 0, 1) := by decide +kernel
theorem dX7_daysWorked_8 : decode cX7_daysWorked 8 = .ok (.istore_n 3, 1) := by decide +kernel
theorem dX7_daysWorked_9 : decode cX7_daysWorked 9 = .ok (.iload_n 3, 1) := by decide +kernel
theorem dX7_daysWorked_10 : decode cX7_daysWorked 10 = .ok (.aload_n 0, 1) := by decide +kernel
theorem dX7_daysWorked_11 : decode cX7_daysWorked 11 = .ok (.getfield 100, 3) := by decide +kernel
theorem dX7_daysWorked_14 : decode cX7_daysWorked 14 = .ok (.if_icmp .ge 47, 3) := by decide +kernel
theorem dX7_daysWorked_17 : decode cX7_daysWorked 17 = .ok (.iconst 0, 1) := by decide +kernel
theorem dX7_daysWorked_18 : decode cX7_daysWorked 18 = .ok (.istore 4, 2) := by decide +kernel
theorem dX7_daysWorked_20 : decode cX7_daysWorked 20 = .ok (.iload 4, 2) := by decide +kernel
theorem dX7_daysWorked_22 : decode cX7_daysWorked 22 = .ok (.aload_n 0, 1) := by decide +kernel
theorem dX7_daysWorked_23 : decode cX7_daysWorked 23 = .ok (.getfield 43, 3) := by decide +kernel
theorem dX7_daysWorked_26 : decode cX7_daysWorked 26 = .ok (.aload_n 0, 1) := by decide +kernel
theorem dX7_daysWorked_27 : decode cX7_daysWorked 27 = .ok (.getfield 51, 3) := by decide +kernel
theorem dX7_daysWorked_30 : decode cX7_daysWorked 30 = .ok (.iload_n 3, 1) := by decide +kernel
theorem dX7_daysWorked_31 : decode cX7_daysWorked 31 = .ok (.iaload, 1) := by decide +kernel
theorem dX7_daysWorked_32 : decode cX7_daysWorked 32 = .ok (.iaload, 1) := by decide +kernel
theorem dX7_daysWorked_33 : decode cX7_daysWorked 33 = .ok (.if_icmp .ge 22, 3) := by decide +kernel
theorem dX7_daysWorked_36 : decode cX7_daysWorked 36 = .ok (.lload_n 1, 1) := by decide +kernel
theorem dX7_daysWorked_37 : decode cX7_daysWorked 37 = .ok (.aload_n 0, 1) := by decide +kernel
theorem dX7_daysWorked_38 : decode cX7_daysWorked 38 = .ok (.getfield 63, 3) := by decide +kernel
theorem dX7_daysWorked_41 : decode cX7_daysWorked 41 = .ok (.iload_n 3, 1) := by decide +kernel
theorem dX7_daysWorked_42 : decode cX7_daysWorked 42 = .ok (.aaload, 1) := by decide +kernel
theorem dX7_daysWorked_43 : decode cX7_daysWorked 43 = .ok (.iload 4, 2) := by decide +kernel
theorem dX7_daysWorked_45 : decode cX7_daysWorked 45 = .ok (.iaload, 1) := by decide +kernel
theorem dX7_daysWorked_46 : decode cX7_daysWorked 46 = .ok (.i2l, 1) := by decide +kernel
theorem dX7_daysWorked_47 : decode cX7_daysWorked 47 = .ok (.ladd, 1) := by decide +kernel
theorem dX7_daysWorked_48 : decode cX7_daysWorked 48 = .ok (.lstore_n 1, 1) := by decide +kernel
theorem dX7_daysWorked_49 : decode cX7_daysWorked 49 = .ok (.iinc 4 1, 3) := by decide +kernel
theorem dX7_daysWorked_52 : decode cX7_daysWorked 52 = .ok (.goto (-32), 3) := by decide +kernel
theorem dX7_daysWorked_55 : decode cX7_daysWorked 55 = .ok (.iinc 3 1, 3) := by decide +kernel
theorem dX7_daysWorked_58 : decode cX7_daysWorked 58 = .ok (.goto (-49), 3) := by decide +kernel
theorem dX7_daysWorked_61 : decode cX7_daysWorked 61 = .ok (.lload_n 1, 1) := by decide +kernel
theorem dX7_daysWorked_62 : decode cX7_daysWorked 62 = .ok (.lreturn, 1) := by decide +kernel
theorem dX7_doneShare_0 : decode cX7_doneShare 0 = .ok (.aload_n 0, 1) := by decide +kernel
theorem dX7_doneShare_1 : decode cX7_doneShare 1 = .ok (.iload_n 1, 1) := by decide +kernel
theorem dX7_doneShare_2 : decode cX7_doneShare 2 = .ok (.invokevirtual 173, 3) := by decide +kernel
theorem dX7_doneShare_5 : decode cX7_doneShare 5 = .ok (.ifCond .eq 7, 3) := by decide +kernel
theorem dX7_doneShare_8 : decode cX7_doneShare 8 = .ok (.fconst 0, 1) := by decide +kernel
theorem dX7_doneShare_9 : decode cX7_doneShare 9 = .ok (.goto 24, 3) := by decide +kernel
theorem dX7_doneShare_12 : decode cX7_doneShare 12 = .ok (.aload_n 0, 1) := by decide +kernel
theorem dX7_doneShare_13 : decode cX7_doneShare 13 = .ok (.iload_n 1, 1) := by decide +kernel
theorem dX7_doneShare_14 : decode cX7_doneShare 14 = .ok (.bipush 99, 2) := by decide +kernel
theorem dX7_doneShare_16 : decode cX7_doneShare 16 = .ok (.invokevirtual 176, 3) := by decide +kernel
theorem dX7_doneShare_19 : decode cX7_doneShare 19 = .ok (.i2f, 1) := by decide +kernel
theorem dX7_doneShare_20 : decode cX7_doneShare 20 = .ok (.aload_n 0, 1) := by decide +kernel
theorem dX7_doneShare_21 : decode cX7_doneShare 21 = .ok (.getfield 43, 3) := by decide +kernel
theorem dX7_doneShare_24 : decode cX7_doneShare 24 = .ok (.aload_n 0, 1) := by decide +kernel
theorem dX7_doneShare_25 : decode cX7_doneShare 25 = .ok (.getfield 51, 3) := by decide +kernel
theorem dX7_doneShare_28 : decode cX7_doneShare 28 = .ok (.iload_n 1, 1) := by decide +kernel
theorem dX7_doneShare_29 : decode cX7_doneShare 29 = .ok (.iaload, 1) := by decide +kernel
theorem dX7_doneShare_30 : decode cX7_doneShare 30 = .ok (.iaload, 1) := by decide +kernel
theorem dX7_doneShare_31 : decode cX7_doneShare 31 = .ok (.i2f, 1) := by decide +kernel
theorem dX7_doneShare_32 : decode cX7_doneShare 32 = .ok (.fdiv, 1) := by decide +kernel
theorem dX7_doneShare_33 : decode cX7_doneShare 33 = .ok (.freturn, 1) := by decide +kernel
