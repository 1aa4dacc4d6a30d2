theorem dL_would_0 : decode cL_would 0 = .ok (.aload_n 0, 1) := by decide +kernel
theorem dL_would_1 : decode cL_would 1 = .ok (.iload_n 1, 1) := by decide +kernel
theorem dL_would_2 : decode cL_would 2 = .ok (.iload_n 2, 1) := by decide +kernel
theorem dL_would_3 : decode cL_would 3 = .ok (.iload_n 3, 1) := by decide +kernel
theorem dL_would_4 : decode cL_would 4 = .ok (.iload 4, 2) := by decide +kernel
theorem dL_would_6 : decode cL_would 6 = .ok (.invokevirtual 7, 3) := by decide +kernel
theorem dL_would_9 : decode cL_would 9 = .ok (.ireturn, 1) := by decide +kernel
theorem dL_would_10 : decode cL_would 10 = .ok (.astore 5, 2) := by decide +kernel
theorem dL_would_12 : decode cL_would 12 = .ok (.ldc 15, 2) := by decide +kernel
theorem dL_would_14 : decode cL_would 14 = .ok (.ireturn, 1) := by decide +kernel
theorem dL_would_15 : decode cL_would 15 = .ok (.astore 5, 2) := by decide +kernel
theorem dL_would_17 : decode cL_would 17 = .ok (.ldc 18, 2) := by decide +kernel
theorem dL_would_19 : decode cL_would 19 = .ok (.ireturn, 1) := by decide +kernel
theorem dL_doScript_0 : decode cL_doScript 0 = .ok (.aload_n 0, 1) := by decide +kernel
theorem dL_doScript_1 : decode cL_doScript 1 = .ok (.iload_n 1, 1) := by decide +kernel
theorem dL_doScript_2 : decode cL_doScript 2 = .ok (.lload_n 2, 1) := by decide +kernel
theorem dL_doScript_3 : decode cL_doScript 3 = .ok (.invokevirtual 19, 3) := by decide +kernel
theorem dL_doScript_6 : decode cL_doScript 6 = .ok (.ireturn, 1) := by decide +kernel
theorem dL_doScript_7 : decode cL_doScript 7 = .ok (.astore 4, 2) := by decide +kernel
theorem dL_doScript_9 : decode cL_doScript 9 = .ok (.ldc 18, 2) := by decide +kernel
theorem dL_doScript_11 : decode cL_doScript 11 = .ok (.ireturn, 1) := by decide +kernel
theorem dL_doSimulate_0 : decode cL_doSimulate 0 = .ok (.aload_n 0, 1) := by decide +kernel
theorem dL_doSimulate_1 : decode cL_doSimulate 1 = .ok (.lload_n 1, 1) := by decide +kernel
theorem dL_doSimulate_2 : decode cL_doSimulate 2 = .ok (.iload_n 3, 1) := by decide +kernel
theorem dL_doSimulate_3 : decode cL_doSimulate 3 = .ok (.invokevirtual 23, 3) := by decide +kernel
theorem dL_doSimulate_6 : decode cL_doSimulate 6 = .ok (.ireturn, 1) := by decide +kernel
theorem dL_doSimulate_7 : decode cL_doSimulate 7 = .ok (.astore 4, 2) := by decide +kernel
theorem dL_doSimulate_9 : decode cL_doSimulate 9 = .ok (.ldc 18, 2) := by decide +kernel
theorem dL_doSimulate_11 : decode cL_doSimulate 11 = .ok (.ireturn, 1) := by decide +kernel
theorem dL_tryAppend_0 : decode cL_tryAppend 0 = .ok (.aload_n 0, 1) := by decide +kernel
theorem dL_tryAppend_1 : decode cL_tryAppend 1 = .ok (.iload_n 1, 1) := by decide +kernel
theorem dL_tryAppend_2 : decode cL_tryAppend 2 = .ok (.invokevirtual 27, 3) := by decide +kernel
theorem dL_tryAppend_5 : decode cL_tryAppend 5 = .ok (.ireturn, 1) := by decide +kernel
theorem dL_tryAppend_6 : decode cL_tryAppend 6 = .ok (.astore_n 2, 1) := by decide +kernel
theorem dL_tryAppend_7 : decode cL_tryAppend 7 = .ok (.ldc 18, 2) := by decide +kernel
theorem dL_tryAppend_9 : decode cL_tryAppend 9 = .ok (.ireturn, 1) := by decide +kernel
theorem dL_tryAppend_10 : decode cL_tryAppend 10 = .ok (.astore_n 2, 1) := by decide +kernel
theorem dL_tryAppend_11 : decode cL_tryAppend 11 = .ok (.ldc 33, 2) := by decide +kernel
theorem dL_tryAppend_13 : decode cL_tryAppend 13 = .ok (.ireturn, 1) := by decide +kernel
theorem dL_tryLoad_0 : decode cL_tryLoad 0 = .ok (.aload_n 0, 1) := by decide +kernel
theorem dL_tryLoad_1 : decode cL_tryLoad 1 = .ok (.invokevirtual 34, 3) := by decide +kernel
theorem dL_tryLoad_4 : decode cL_tryLoad 4 = .ok (.ireturn, 1) := by decide +kernel
theorem dL_tryLoad_5 : decode cL_tryLoad 5 = .ok (.astore_n 1, 1) := by decide +kernel
theorem dL_tryLoad_6 : decode cL_tryLoad 6 = .ok (.ldc 33, 2) := by decide +kernel
theorem dL_tryLoad_8 : decode cL_tryLoad 8 = .ok (.ireturn, 1) := by decide +kernel
theorem dL_tryAbout_0 : decode cL_tryAbout 0 = .ok (.aload_n 0, 1) := by decide +kernel
theorem dL_tryAbout_1 : decode cL_tryAbout 1 = .ok (.iload_n 1, 1) := by decide +kernel
theorem dL_tryAbout_2 : decode cL_tryAbout 2 = .ok (.invokevirtual 38, 3) := by decide +kernel
theorem dL_tryAbout_5 : decode cL_tryAbout 5 = .ok (.ireturn, 1) := by decide +kernel
theorem dL_tryAbout_6 : decode cL_tryAbout 6 = .ok (.astore_n 2, 1) := by decide +kernel
theorem dL_tryAbout_7 : decode cL_tryAbout 7 = .ok (.ldc 18, 2) := by decide +kernel
theorem dL_tryAbout_9 : decode cL_tryAbout 9 = .ok (.ireturn, 1) := by decide +kernel
theorem dL_tryLeaves_0 : decode cL_tryLeaves 0 = .ok (.aload_n 0, 1) := by decide +kernel
theorem dL_tryLeaves_1 : decode cL_tryLeaves 1 = .ok (.iload_n 1, 1) := by decide +kernel
theorem dL_tryLeaves_2 : decode cL_tryLeaves 2 = .ok (.invokevirtual 41, 3) := by decide +kernel
theorem dL_tryLeaves_5 : decode cL_tryLeaves 5 = .ok (.ireturn, 1) := by decide +kernel
theorem dL_tryLeaves_6 : decode cL_tryLeaves 6 = .ok (.astore_n 2, 1) := by decide +kernel
theorem dL_tryLeaves_7 : decode cL_tryLeaves 7 = .ok (.ldc 15, 2) := by decide +kernel
theorem dL_tryLeaves_9 : decode cL_tryLeaves 9 = .ok (.ireturn, 1) := by decide +kernel
theorem dL_tryWho_0 : decode cL_tryWho 0 = .ok (.aload_n 0, 1) := by decide +kernel
theorem dL_tryWho_1 : decode cL_tryWho 1 = .ok (.iload_n 1, 1) := by decide +kernel
theorem dL_tryWho_2 : decode cL_tryWho 2 = .ok (.iload_n 2, 1) := by decide +kernel
theorem dL_tryWho_3 : decode cL_tryWho 3 = .ok (.invokevirtual 44, 3) := by decide +kernel
theorem dL_tryWho_6 : decode cL_tryWho 6 = .ok (.ireturn, 1) := by decide +kernel
theorem dL_tryWho_7 : decode cL_tryWho 7 = .ok (.astore_n 3, 1) := by decide +kernel
theorem dL_tryWho_8 : decode cL_tryWho 8 = .ok (.ldc 15, 2) := by decide +kernel
theorem dL_tryWho_10 : decode cL_tryWho 10 = .ok (.ireturn, 1) := by decide +kernel
theorem dL_tryWho_11 : decode cL_tryWho 11 = .ok (.astore_n 3, 1) := by decide +kernel
theorem dL_tryWho_12 : decode cL_tryWho 12 = .ok (.ldc 18, 2) := by decide +kernel
theorem dL_tryWho_14 : decode cL_tryWho 14 = .ok (.ireturn, 1) := by decide +kernel
theorem dL_trySetting_0 : decode cL_trySetting 0 = .ok (.aload_n 0, 1) := by decide +kernel
theorem dL_trySetting_1 : decode cL_trySetting 1 = .ok (.iload_n 1, 1) := by decide +kernel
theorem dL_trySetting_2 : decode cL_trySetting 2 = .ok (.invokevirtual 48, 3) := by decide +kernel
theorem dL_trySetting_5 : decode cL_trySetting 5 = .ok (.ireturn, 1) := by decide +kernel
theorem dL_trySetting_6 : decode cL_trySetting 6 = .ok (.astore_n 2, 1) := by decide +kernel
theorem dL_trySetting_7 : decode cL_trySetting 7 = .ok (.ldc 18, 2) := by decide +kernel
theorem dL_trySetting_9 : decode cL_trySetting 9 = .ok (.ireturn, 1) := by decide +kernel
theorem dL_tryPlant_0 : decode cL_tryPlant 0 = .ok (.aload_n 0, 1) := by decide +kernel
theorem dL_tryPlant_1 : decode cL_tryPlant 1 = .ok (.iload_n 1, 1) := by decide +kernel
theorem dL_tryPlant_2 : decode cL_tryPlant 2 = .ok (.iload_n 2, 1) := by decide +kernel
theorem dL_tryPlant_3 : decode cL_tryPlant 3 = .ok (.invokevirtual 51, 3) := by decide +kernel
theorem dL_tryPlant_6 : decode cL_tryPlant 6 = .ok (.ireturn, 1) := by decide +kernel
theorem dL_tryPlant_7 : decode cL_tryPlant 7 = .ok (.astore_n 3, 1) := by decide +kernel
theorem dL_tryPlant_8 : decode cL_tryPlant 8 = .ok (.ldc 18, 2) := by decide +kernel
theorem dL_tryPlant_10 : decode cL_tryPlant 10 = .ok (.ireturn, 1) := by decide +kernel
theorem dL_tryClip_0 : decode cL_tryClip 0 = .ok (.aload_n 0, 1) := by decide +kernel
theorem dL_tryClip_1 : decode cL_tryClip 1 = .ok (.iload_n 1, 1) := by decide +kernel
theorem dL_tryClip_2 : decode cL_tryClip 2 = .ok (.iload_n 2, 1) := by decide +kernel
theorem dL_tryClip_3 : decode cL_tryClip 3 = .ok (.iload_n 3, 1) := by decide +kernel
theorem dL_tryClip_4 : decode cL_tryClip 4 = .ok (.invokevirtual 54, 3) := by decide +kernel
theorem dL_tryClip_7 : decode cL_tryClip 7 = .ok (.ireturn, 1) := by decide +kernel
theorem dL_tryClip_8 : decode cL_tryClip 8 = .ok (.astore 4, 2) := by decide +kernel
theorem dL_tryClip_10 : decode cL_tryClip 10 = .ok (.ldc 15, 2) := by decide +kernel
theorem dL_tryClip_12 : decode cL_tryClip 12 = .ok (.ireturn, 1) := by decide +kernel
theorem dL_tryClip_13 : decode cL_tryClip 13 = .ok (.astore 4, 2) := by decide +kernel
theorem dL_tryClip_15 : decode cL_tryClip 15 = .ok (.ldc 18, 2) := by decide +kernel
theorem dL_tryClip_17 : decode cL_tryClip 17 = .ok (.ireturn, 1) := by decide +kernel
theorem dL_tryClip_18 : decode cL_tryClip 18 = .ok (.astore 4, 2) := by decide +kernel
theorem dL_tryClip_20 : decode cL_tryClip 20 = .ok (.ldc 33, 2) := by decide +kernel
theorem dL_tryClip_22 : decode cL_tryClip 22 = .ok (.ireturn, 1) := by decide +kernel
theorem dL_tryWater_0 : decode cL_tryWater 0 = .ok (.aload_n 0, 1) := by decide +kernel
theorem dL_tryWater_1 : decode cL_tryWater 1 = .ok (.iload_n 1, 1) := by decide +kernel
theorem dL_tryWater_2 : decode cL_tryWater 2 = .ok (.invokevirtual 58, 3) := by decide +kernel
theorem dL_tryWater_5 : decode cL_tryWater 5 = .ok (.ireturn, 1) := by decide +kernel
theorem dL_tryWater_6 : decode cL_tryWater 6 = .ok (.astore_n 2, 1) := by decide +kernel
theorem dL_tryWater_7 : decode cL_tryWater 7 = .ok (.ldc 15, 2) := by decide +kernel
theorem dL_tryWater_9 : decode cL_tryWater 9 = .ok (.ireturn, 1) := by decide +kernel
theorem dL_tryWater_10 : decode cL_tryWater 10 = .ok (.astore_n 2, 1) := by decide +kernel
theorem dL_tryWater_11 : decode cL_tryWater 11 = .ok (.ldc 33, 2) := by decide +kernel
theorem dL_tryWater_13 : decode cL_tryWater 13 = .ok (.ireturn, 1) := by decide +kernel
theorem dL_tryWind_0 : decode cL_tryWind 0 = .ok (.aload_n 0, 1) := by decide +kernel
theorem dL_tryWind_1 : decode cL_tryWind 1 = .ok (.iload_n 1, 1) := by decide +kernel
theorem dL_tryWind_2 : decode cL_tryWind 2 = .ok (.invokevirtual 61, 3) := by decide +kernel
theorem dL_tryWind_5 : decode cL_tryWind 5 = .ok (.ireturn, 1) := by decide +kernel
theorem dL_tryWind_6 : decode cL_tryWind 6 = .ok (.astore_n 2, 1) := by decide +kernel
theorem dL_tryWind_7 : decode cL_tryWind 7 = .ok (.ldc 18, 2) := by decide +kernel
theorem dL_tryWind_9 : decode cL_tryWind 9 = .ok (.ireturn, 1) := by decide +kernel
theorem dL_tryLay_0 : decode cL_tryLay 0 = .ok (.aload_n 0, 1) := by decide +kernel
theorem dL_tryLay_1 : decode cL_tryLay 1 = .ok (.iload_n 1, 1) := by decide +kernel
theorem dL_tryLay_2 : decode cL_tryLay 2 = .ok (.iload_n 2, 1) := by decide +kernel
theorem dL_tryLay_3 : decode cL_tryLay 3 = .ok (.invokevirtual 64, 3) := by decide +kernel
theorem dL_tryLay_6 : decode cL_tryLay 6 = .ok (.ireturn, 1) := by decide +kernel
theorem dL_tryLay_7 : decode cL_tryLay 7 = .ok (.astore_n 3, 1) := by decide +kernel
theorem dL_tryLay_8 : decode cL_tryLay 8 = .ok (.ldc 18, 2) := by decide +kernel
theorem dL_tryLay_10 : decode cL_tryLay 10 = .ok (.ireturn, 1) := by decide +kernel
theorem dL_tryUndo_0 : decode cL_tryUndo 0 = .ok (.aload_n 0, 1) := by decide +kernel
theorem dL_tryUndo_1 : decode cL_tryUndo 1 = .ok (.invokevirtual 67, 3) := by decide +kernel
theorem dL_tryUndo_4 : decode cL_tryUndo 4 = .ok (.ireturn, 1) := by decide +kernel
theorem dL_tryUndo_5 : decode cL_tryUndo 5 = .ok (.astore_n 1, 1) := by decide +kernel
theorem dL_tryUndo_6 : decode cL_tryUndo 6 = .ok (.ldc 33, 2) := by decide +kernel
theorem dL_tryUndo_8 : decode cL_tryUndo 8 = .ok (.ireturn, 1) := by decide +kernel
theorem dL_tryGoes_0 : decode cL_tryGoes 0 = .ok (.aload_n 0, 1) := by decide +kernel
theorem dL_tryGoes_1 : decode cL_tryGoes 1 = .ok (.iload_n 1, 1) := by decide +kernel
theorem dL_tryGoes_2 : decode cL_tryGoes 2 = .ok (.iload_n 2, 1) := by decide +kernel
theorem dL_tryGoes_3 : decode cL_tryGoes 3 = .ok (.invokevirtual 70, 3) := by decide +kernel
theorem dL_tryGoes_6 : decode cL_tryGoes 6 = .ok (.ireturn, 1) := by decide +kernel
theorem dL_tryGoes_7 : decode cL_tryGoes 7 = .ok (.astore_n 3, 1) := by decide +kernel
theorem dL_tryGoes_8 : decode cL_tryGoes 8 = .ok (.ldc 18, 2) := by decide +kernel
theorem dL_tryGoes_10 : decode cL_tryGoes 10 = .ok (.ireturn, 1) := by decide +kernel
theorem dL_tryKeep_0 : decode cL_tryKeep 0 = .ok (.aload_n 0, 1) := by decide +kernel
theorem dL_tryKeep_1 : decode cL_tryKeep 1 = .ok (.iload_n 1, 1) := by decide +kernel
theorem dL_tryKeep_2 : decode cL_tryKeep 2 = .ok (.invokevirtual 73, 3) := by decide +kernel
theorem dL_tryKeep_5 : decode cL_tryKeep 5 = .ok (.ireturn, 1) := by decide +kernel
theorem dL_tryKeep_6 : decode cL_tryKeep 6 = .ok (.astore_n 2, 1) := by decide +kernel
theorem dL_tryKeep_7 : decode cL_tryKeep 7 = .ok (.ldc 15, 2) := by decide +kernel
theorem dL_tryKeep_9 : decode cL_tryKeep 9 = .ok (.ireturn, 1) := by decide +kernel
theorem dL_tryBack_0 : decode cL_tryBack 0 = .ok (.aload_n 0, 1) := by decide +kernel
theorem dL_tryBack_1 : decode cL_tryBack 1 = .ok (.iload_n 1, 1) := by decide +kernel
theorem dL_tryBack_2 : decode cL_tryBack 2 = .ok (.invokevirtual 76, 3) := by decide +kernel
theorem dL_tryBack_5 : decode cL_tryBack 5 = .ok (.ireturn, 1) := by decide +kernel
theorem dL_tryBack_6 : decode cL_tryBack 6 = .ok (.astore_n 2, 1) := by decide +kernel
theorem dL_tryBack_7 : decode cL_tryBack 7 = .ok (.ldc 15, 2) := by decide +kernel
theorem dL_tryBack_9 : decode cL_tryBack 9 = .ok (.ireturn, 1) := by decide +kernel
theorem dL_tryBack_10 : decode cL_tryBack 10 = .ok (.astore_n 2, 1) := by decide +kernel
theorem dL_tryBack_11 : decode cL_tryBack 11 = .ok (.ldc 33, 2) := by decide +kernel
theorem dL_tryBack_13 : decode cL_tryBack 13 = .ok (.ireturn, 1) := by decide +kernel
theorem dL_call_0 : decode cL_call 0 = .ok (.iload_n 1, 1) := by decide +kernel
theorem dL_call_1 : decode cL_call 1 = .ok (.tableswitch 160 0 13 #[71, 77, 82, 88, 94, 101, 107, 114, 123, 129, 135, 142, 147, 154], 71) := by decide +kernel
theorem dL_call_72 : decode cL_call 72 = .ok (.aload_n 0, 1) := by decide +kernel
theorem dL_call_73 : decode cL_call 73 = .ok (.iload_n 2, 1) := by decide +kernel
theorem dL_call_74 : decode cL_call 74 = .ok (.invokestatic 79, 3) := by decide +kernel
theorem dL_call_77 : decode cL_call 77 = .ok (.ireturn, 1) := by decide +kernel
theorem dL_call_78 : decode cL_call 78 = .ok (.aload_n 0, 1) := by decide +kernel
theorem dL_call_79 : decode cL_call 79 = .ok (.invokestatic 85, 3) := by decide +kernel
theorem dL_call_82 : decode cL_call 82 = .ok (.ireturn, 1) := by decide +kernel
theorem dL_call_83 : decode cL_call 83 = .ok (.aload_n 0, 1) := by decide +kernel
theorem dL_call_84 : decode cL_call 84 = .ok (.iload_n 2, 1) := by decide +kernel
theorem dL_call_85 : decode cL_call 85 = .ok (.invokestatic 89, 3) := by decide +kernel
theorem dL_call_88 : decode cL_call 88 = .ok (.ireturn, 1) := by decide +kernel
theorem dL_call_89 : decode cL_call 89 = .ok (.aload_n 0, 1) := by decide +kernel
theorem dL_call_90 : decode cL_call 90 = .ok (.iload_n 2, 1) := by decide +kernel
theorem dL_call_91 : decode cL_call 91 = .ok (.invokestatic 92, 3) := by decide +kernel
theorem dL_call_94 : decode cL_call 94 = .ok (.ireturn, 1) := by decide +kernel
theorem dL_call_95 : decode cL_call 95 = .ok (.aload_n 0, 1) := by decide +kernel
theorem dL_call_96 : decode cL_call 96 = .ok (.iload_n 2, 1) := by decide +kernel
theorem dL_call_97 : decode cL_call 97 = .ok (.iload_n 3, 1) := by decide +kernel
theorem dL_call_98 : decode cL_call 98 = .ok (.invokestatic 95, 3) := by decide +kernel
theorem dL_call_101 : decode cL_call 101 = .ok (.ireturn, 1) := by decide +kernel
theorem dL_call_102 : decode cL_call 102 = .ok (.aload_n 0, 1) := by decide +kernel
theorem dL_call_103 : decode cL_call 103 = .ok (.iload_n 2, 1) := by decide +kernel
theorem dL_call_104 : decode cL_call 104 = .ok (.invokestatic 99, 3) := by decide +kernel
theorem dL_call_107 : decode cL_call 107 = .ok (.ireturn, 1) := by decide +kernel
theorem dL_call_108 : decode cL_call 108 = .ok (.aload_n 0, 1) := by decide +kernel
theorem dL_call_109 : decode cL_call 109 = .ok (.iload_n 2, 1) := by decide +kernel
theorem dL_call_110 : decode cL_call 110 = .ok (.iload_n 3, 1) := by decide +kernel
theorem dL_call_111 : decode cL_call 111 = .ok (.invokestatic 102, 3) := by decide +kernel
theorem dL_call_114 : decode cL_call 114 = .ok (.ireturn, 1) := by decide +kernel
theorem dL_call_115 : decode cL_call 115 = .ok (.aload_n 0, 1) := by decide +kernel
theorem dL_call_116 : decode cL_call 116 = .ok (.iload_n 2, 1) := by decide +kernel
theorem dL_call_117 : decode cL_call 117 = .ok (.iload_n 3, 1) := by decide +kernel
theorem dL_call_118 : decode cL_call 118 = .ok (.iload 4, 2) := by decide +kernel
theorem dL_call_120 : decode cL_call 120 = .ok (.invokestatic 105, 3) := by decide +kernel
theorem dL_call_123 : decode cL_call 123 = .ok (.ireturn, 1) := by decide +kernel
theorem dL_call_124 : decode cL_call 124 = .ok (.aload_n 0, 1) := by decide +kernel
theorem dL_call_125 : decode cL_call 125 = .ok (.iload_n 2, 1) := by decide +kernel
theorem dL_call_126 : decode cL_call 126 = .ok (.invokestatic 109, 3) := by decide +kernel
theorem dL_call_129 : decode cL_call 129 = .ok (.ireturn, 1) := by decide +kernel
theorem dL_call_130 : decode cL_call 130 = .ok (.aload_n 0, 1) := by decide +kernel
theorem dL_call_131 : decode cL_call 131 = .ok (.iload_n 2, 1) := by decide +kernel
theorem dL_call_132 : decode cL_call 132 = .ok (.invokestatic 112, 3) := by decide +kernel
theorem dL_call_135 : decode cL_call 135 = .ok (.ireturn, 1) := by decide +kernel
theorem dL_call_136 : decode cL_call 136 = .ok (.aload_n 0, 1) := by decide +kernel
theorem dL_call_137 : decode cL_call 137 = .ok (.iload_n 2, 1) := by decide +kernel
theorem dL_call_138 : decode cL_call 138 = .ok (.iload_n 3, 1) := by decide +kernel
theorem dL_call_139 : decode cL_call 139 = .ok (.invokestatic 115, 3) := by decide +kernel
theorem dL_call_142 : decode cL_call 142 = .ok (.ireturn, 1) := by decide +kernel
theorem dL_call_143 : decode cL_call 143 = .ok (.aload_n 0, 1) := by decide +kernel
theorem dL_call_144 : decode cL_call 144 = .ok (.invokestatic 118, 3) := by decide +kernel
theorem dL_call_147 : decode cL_call 147 = .ok (.ireturn, 1) := by decide +kernel
theorem dL_call_148 : decode cL_call 148 = .ok (.aload_n 0, 1) := by decide +kernel
theorem dL_call_149 : decode cL_call 149 = .ok (.iload_n 2, 1) := by decide +kernel
theorem dL_call_150 : decode cL_call 150 = .ok (.iload_n 3, 1) := by decide +kernel
theorem dL_call_151 : decode cL_call 151 = .ok (.invokestatic 121, 3) := by decide +kernel
theorem dL_call_154 : decode cL_call 154 = .ok (.ireturn, 1) := by decide +kernel
theorem dL_call_155 : decode cL_call 155 = .ok (.aload_n 0, 1) := by decide +kernel
theorem dL_call_156 : decode cL_call 156 = .ok (.iload_n 2, 1) := by decide +kernel
theorem dL_call_157 : decode cL_call 157 = .ok (.invokestatic 124, 3) := by decide +kernel
theorem dL_call_160 : decode cL_call 160 = .ok (.ireturn, 1) := by decide +kernel
theorem dL_call_161 : decode cL_call 161 = .ok (.aload_n 0, 1) := by decide +kernel
theorem dL_call_162 : decode cL_call 162 = .ok (.iload_n 2, 1) := by decide +kernel
theorem dL_call_163 : decode cL_call 163 = .ok (.invokestatic 127, 3) := by decide +kernel
theorem dL_call_166 : decode cL_call 166 = .ok (.ireturn, 1) := by decide +kernel
theorem dL_cell_0 : decode cL_cell 0 = .ok (.iload_n 1, 1) := by decide +kernel
theorem dL_cell_1 : decode cL_cell 1 = .ok (.aload_n 0, 1) := by decide +kernel
theorem dL_cell_2 : decode cL_cell 2 = .ok (.arraylength, 1) := by decide +kernel
theorem dL_cell_3 : decode cL_cell 3 = .ok (.if_icmp .ge 9, 3) := by decide +kernel
theorem dL_cell_6 : decode cL_cell 6 = .ok (.aload_n 0, 1) := by decide +kernel
theorem dL_cell_7 : decode cL_cell 7 = .ok (.iload_n 1, 1) := by decide +kernel
theorem dL_cell_8 : decode cL_cell 8 = .ok (.iaload, 1) := by decide +kernel
theorem dL_cell_9 : decode cL_cell 9 = .ok (.goto 13, 3) := by decide +kernel
theorem dL_cell_12 : decode cL_cell 12 = .ok (.ldc 130, 2) := by decide +kernel
theorem dL_cell_14 : decode cL_cell 14 = .ok (.iload_n 1, 1) := by decide +kernel
theorem dL_cell_15 : decode cL_cell 15 = .ok (.iconst 3, 1) := by decide +kernel
theorem dL_cell_16 : decode cL_cell 16 = .ok (.iadd, 1) := by decide +kernel
theorem dL_cell_17 : decode cL_cell 17 = .ok (.imul, 1) := by decide +kernel
theorem dL_cell_18 : decode cL_cell 18 = .ok (.sipush 11437, 3) := by decide +kernel
theorem dL_cell_21 : decode cL_cell 21 = .ok (.iadd, 1) := by decide +kernel
theorem dL_cell_22 : decode cL_cell 22 = .ok (.ldc 131, 2) := by decide +kernel
theorem dL_cell_24 : decode cL_cell 24 = .ok (.iand, 1) := by decide +kernel
theorem dL_cell_25 : decode cL_cell 25 = .ok (.ireturn, 1) := by decide +kernel
theorem dL_thrown_0 : decode cL_thrown 0 = .ok (.iload_n 0, 1) := by decide +kernel
theorem dL_thrown_1 : decode cL_thrown 1 = .ok (.ldc 15, 2) := by decide +kernel
theorem dL_thrown_3 : decode cL_thrown 3 = .ok (.if_icmp .eq 15, 3) := by decide +kernel
theorem dL_thrown_6 : decode cL_thrown 6 = .ok (.iload_n 0, 1) := by decide +kernel
theorem dL_thrown_7 : decode cL_thrown 7 = .ok (.ldc 18, 2) := by decide +kernel
theorem dL_thrown_9 : decode cL_thrown 9 = .ok (.if_icmp .eq 9, 3) := by decide +kernel
theorem dL_thrown_12 : decode cL_thrown 12 = .ok (.iload_n 0, 1) := by decide +kernel
theorem dL_thrown_13 : decode cL_thrown 13 = .ok (.ldc 33, 2) := by decide +kernel
theorem dL_thrown_15 : decode cL_thrown 15 = .ok (.if_icmp .ne 7, 3) := by decide +kernel
theorem dL_thrown_18 : decode cL_thrown 18 = .ok (.iconst 1, 1) := by decide +kernel
theorem dL_thrown_19 : decode cL_thrown 19 = .ok (.goto 4, 3) := by decide +kernel
theorem dL_thrown_22 : decode cL_thrown 22 = .ok (.iconst 0, 1) := by decide +kernel
theorem dL_thrown_23 : decode cL_thrown 23 = .ok (.ireturn, 1) := by decide +kernel
theorem dL_refuses_0 : decode cL_refuses 0 = .ok (.aload_n 0, 1) := by decide +kernel
theorem dL_refuses_1 : decode cL_refuses 1 = .ok (.iconst 2, 1) := by decide +kernel
theorem dL_refuses_2 : decode cL_refuses 2 = .ok (.iconst 0, 1) := by decide +kernel
theorem dL_refuses_3 : decode cL_refuses 3 = .ok (.iconst 0, 1) := by decide +kernel
theorem dL_refuses_4 : decode cL_refuses 4 = .ok (.iconst 0, 1) := by decide +kernel
theorem dL_refuses_5 : decode cL_refuses 5 = .ok (.invokestatic 132, 3) := by decide +kernel
theorem dL_refuses_8 : decode cL_refuses 8 = .ok (.istore_n 2, 1) := by decide +kernel
theorem dL_refuses_9 : decode cL_refuses 9 = .ok (.aload_n 0, 1) := by decide +kernel
theorem dL_refuses_10 : decode cL_refuses 10 = .ok (.iconst 5, 1) := by decide +kernel
theorem dL_refuses_11 : decode cL_refuses 11 = .ok (.iconst 1, 1) := by decide +kernel
theorem dL_refuses_12 : decode cL_refuses 12 = .ok (.iconst 0, 1) := by decide +kernel
theorem dL_refuses_13 : decode cL_refuses 13 = .ok (.iconst 0, 1) := by decide +kernel
theorem dL_refuses_14 : decode cL_refuses 14 = .ok (.invokestatic 132, 3) := by decide +kernel
theorem dL_refuses_17 : decode cL_refuses 17 = .ok (.istore_n 3, 1) := by decide +kernel
theorem dL_refuses_18 : decode cL_refuses 18 = .ok (.iload_n 1, 1) := by decide +kernel
theorem dL_refuses_19 : decode cL_refuses 19 = .ok (.iconst 2, 1) := by decide +kernel
theorem dL_refuses_20 : decode cL_refuses 20 = .ok (.irem, 1) := by decide +kernel
theorem dL_refuses_21 : decode cL_refuses 21 = .ok (.ifCond .ne 12, 3) := by decide +kernel
theorem dL_refuses_24 : decode cL_refuses 24 = .ok (.iconst (-1), 1) := by decide +kernel
theorem dL_refuses_25 : decode cL_refuses 25 = .ok (.iload_n 1, 1) := by decide +kernel
theorem dL_refuses_26 : decode cL_refuses 26 = .ok (.bipush 99, 2) := by decide +kernel
theorem dL_refuses_28 : decode cL_refuses 28 = .ok (.irem, 1) := by decide +kernel
theorem dL_refuses_29 : decode cL_refuses 29 = .ok (.isub, 1) := by decide +kernel
theorem dL_refuses_30 : decode cL_refuses 30 = .ok (.goto 9, 3) := by decide +kernel
theorem dL_refuses_33 : decode cL_refuses 33 = .ok (.iload_n 2, 1) := by decide +kernel
theorem dL_refuses_34 : decode cL_refuses 34 = .ok (.iload_n 1, 1) := by decide +kernel
theorem dL_refuses_35 : decode cL_refuses 35 = .ok (.bipush 99, 2) := by decide +kernel
theorem dL_refuses_37 : decode cL_refuses 37 = .ok (.irem, 1) := by decide +kernel
theorem dL_refuses_38 : decode cL_refuses 38 = .ok (.iadd, 1) := by decide +kernel
theorem dL_refuses_39 : decode cL_refuses 39 = .ok (.istore 4, 2) := by decide +kernel
theorem dL_refuses_41 : decode cL_refuses 41 = .ok (.iload_n 2, 1) := by decide +kernel
theorem dL_refuses_42 : decode cL_refuses 42 = .ok (.iconst 1, 1) := by decide +kernel
theorem dL_refuses_43 : decode cL_refuses 43 = .ok (.isub, 1) := by decide +kernel
theorem dL_refuses_44 : decode cL_refuses 44 = .ok (.istore 5, 2) := by decide +kernel
theorem dL_refuses_46 : decode cL_refuses 46 = .ok (.aload_n 0, 1) := by decide +kernel
theorem dL_refuses_47 : decode cL_refuses 47 = .ok (.iconst 0, 1) := by decide +kernel
theorem dL_refuses_48 : decode cL_refuses 48 = .ok (.iload_n 1, 1) := by decide +kernel
theorem dL_refuses_49 : decode cL_refuses 49 = .ok (.iconst 2, 1) := by decide +kernel
theorem dL_refuses_50 : decode cL_refuses 50 = .ok (.irem, 1) := by decide +kernel
theorem dL_refuses_51 : decode cL_refuses 51 = .ok (.ifCond .ne 12, 3) := by decide +kernel
theorem dL_refuses_54 : decode cL_refuses 54 = .ok (.iconst (-1), 1) := by decide +kernel
theorem dL_refuses_55 : decode cL_refuses 55 = .ok (.iload_n 1, 1) := by decide +kernel
theorem dL_refuses_56 : decode cL_refuses 56 = .ok (.bipush 9, 2) := by decide +kernel
theorem dL_refuses_58 : decode cL_refuses 58 = .ok (.irem, 1) := by decide +kernel
theorem dL_refuses_59 : decode cL_refuses 59 = .ok (.isub, 1) := by decide +kernel
theorem dL_refuses_60 : decode cL_refuses 60 = .ok (.goto 11, 3) := by decide +kernel
theorem dL_refuses_63 : decode cL_refuses 63 = .ok (.sipush 256, 3) := by decide +kernel
theorem dL_refuses_66 : decode cL_refuses 66 = .ok (.iload_n 1, 1) := by decide +kernel
theorem dL_refuses_67 : decode cL_refuses 67 = .ok (.bipush 9, 2) := by decide +kernel
theorem dL_refuses_69 : decode cL_refuses 69 = .ok (.irem, 1) := by decide +kernel
theorem dL_refuses_70 : decode cL_refuses 70 = .ok (.iadd, 1) := by decide +kernel
theorem dL_refuses_71 : decode cL_refuses 71 = .ok (.iconst 0, 1) := by decide +kernel
theorem dL_refuses_72 : decode cL_refuses 72 = .ok (.iconst 0, 1) := by decide +kernel
theorem dL_refuses_73 : decode cL_refuses 73 = .ok (.invokestatic 132, 3) := by decide +kernel
theorem dL_refuses_76 : decode cL_refuses 76 = .ok (.ldc 18, 2) := by decide +kernel
theorem dL_refuses_78 : decode cL_refuses 78 = .ok (.if_icmp .ne 568, 3) := by decide +kernel
theorem dL_refuses_81 : decode cL_refuses 81 = .ok (.aload_n 0, 1) := by decide +kernel
theorem dL_refuses_82 : decode cL_refuses 82 = .ok (.iconst 2, 1) := by decide +kernel
theorem dL_refuses_83 : decode cL_refuses 83 = .ok (.bipush 9, 2) := by decide +kernel
theorem dL_refuses_85 : decode cL_refuses 85 = .ok (.iload_n 1, 1) := by decide +kernel
theorem dL_refuses_86 : decode cL_refuses 86 = .ok (.bipush 50, 2) := by decide +kernel
theorem dL_refuses_88 : decode cL_refuses 88 = .ok (.irem, 1) := by decide +kernel
theorem dL_refuses_89 : decode cL_refuses 89 = .ok (.iadd, 1) := by decide +kernel
theorem dL_refuses_90 : decode cL_refuses 90 = .ok (.iconst 0, 1) := by decide +kernel
theorem dL_refuses_91 : decode cL_refuses 91 = .ok (.iconst 0, 1) := by decide +kernel
theorem dL_refuses_92 : decode cL_refuses 92 = .ok (.invokestatic 132, 3) := by decide +kernel
theorem dL_refuses_95 : decode cL_refuses 95 = .ok (.ldc 18, 2) := by decide +kernel
theorem dL_refuses_97 : decode cL_refuses 97 = .ok (.if_icmp .ne 549, 3) := by decide +kernel
theorem dL_refuses_100 : decode cL_refuses 100 = .ok (.aload_n 0, 1) := by decide +kernel
theorem dL_refuses_101 : decode cL_refuses 101 = .ok (.iconst 3, 1) := by decide +kernel
theorem dL_refuses_102 : decode cL_refuses 102 = .ok (.iload 4, 2) := by decide +kernel
theorem dL_refuses_104 : decode cL_refuses 104 = .ok (.iconst 0, 1) := by decide +kernel
theorem dL_refuses_105 : decode cL_refuses 105 = .ok (.iconst 0, 1) := by decide +kernel
theorem dL_refuses_106 : decode cL_refuses 106 = .ok (.invokestatic 132, 3) := by decide +kernel
theorem dL_refuses_109 : decode cL_refuses 109 = .ok (.ldc 15, 2) := by decide +kernel
theorem dL_refuses_111 : decode cL_refuses 111 = .ok (.if_icmp .ne 535, 3) := by decide +kernel
theorem dL_refuses_114 : decode cL_refuses 114 = .ok (.aload_n 0, 1) := by decide +kernel
theorem dL_refuses_115 : decode cL_refuses 115 = .ok (.iconst 4, 1) := by decide +kernel
theorem dL_refuses_116 : decode cL_refuses 116 = .ok (.iconst 2, 1) := by decide +kernel
theorem dL_refuses_117 : decode cL_refuses 117 = .ok (.iload_n 1, 1) := by decide +kernel
theorem dL_refuses_118 : decode cL_refuses 118 = .ok (.bipush 9, 2) := by decide +kernel
theorem dL_refuses_120 : decode cL_refuses 120 = .ok (.irem, 1) := by decide +kernel
theorem dL_refuses_121 : decode cL_refuses 121 = .ok (.iadd, 1) := by decide +kernel
theorem dL_refuses_122 : decode cL_refuses 122 = .ok (.bipush 9, 2) := by decide +kernel
theorem dL_refuses_124 : decode cL_refuses 124 = .ok (.iconst 0, 1) := by decide +kernel
theorem dL_refuses_125 : decode cL_refuses 125 = .ok (.invokestatic 132, 3) := by decide +kernel
theorem dL_refuses_128 : decode cL_refuses 128 = .ok (.ldc 15, 2) := by decide +kernel
theorem dL_refuses_130 : decode cL_refuses 130 = .ok (.if_icmp .ne 516, 3) := by decide +kernel
theorem dL_refuses_133 : decode cL_refuses 133 = .ok (.aload_n 0, 1) := by decide +kernel
theorem dL_refuses_134 : decode cL_refuses 134 = .ok (.iconst 4, 1) := by decide +kernel
theorem dL_refuses_135 : decode cL_refuses 135 = .ok (.iload_n 1, 1) := by decide +kernel
theorem dL_refuses_136 : decode cL_refuses 136 = .ok (.iconst 2, 1) := by decide +kernel
theorem dL_refuses_137 : decode cL_refuses 137 = .ok (.irem, 1) := by decide +kernel
theorem dL_refuses_138 : decode cL_refuses 138 = .ok (.iconst 3, 1) := by decide +kernel
theorem dL_refuses_139 : decode cL_refuses 139 = .ok (.iload_n 1, 1) := by decide +kernel
theorem dL_refuses_140 : decode cL_refuses 140 = .ok (.bipush 9, 2) := by decide +kernel
theorem dL_refuses_142 : decode cL_refuses 142 = .ok (.irem, 1) := by decide +kernel
theorem dL_refuses_143 : decode cL_refuses 143 = .ok (.iadd, 1) := by decide +kernel
theorem dL_refuses_144 : decode cL_refuses 144 = .ok (.iconst 0, 1) := by decide +kernel
theorem dL_refuses_145 : decode cL_refuses 145 = .ok (.invokestatic 132, 3) := by decide +kernel
theorem dL_refuses_148 : decode cL_refuses 148 = .ok (.ldc 18, 2) := by decide +kernel
theorem dL_refuses_150 : decode cL_refuses 150 = .ok (.if_icmp .ne 496, 3) := by decide +kernel
theorem dL_refuses_153 : decode cL_refuses 153 = .ok (.aload_n 0, 1) := by decide +kernel
theorem dL_refuses_154 : decode cL_refuses 154 = .ok (.iconst 5, 1) := by decide +kernel
theorem dL_refuses_155 : decode cL_refuses 155 = .ok (.iconst 2, 1) := by decide +kernel
theorem dL_refuses_156 : decode cL_refuses 156 = .ok (.iload_n 1, 1) := by decide +kernel
theorem dL_refuses_157 : decode cL_refuses 157 = .ok (.bipush 9, 2) := by decide +kernel
theorem dL_refuses_159 : decode cL_refuses 159 = .ok (.irem, 1) := by decide +kernel
theorem dL_refuses_160 : decode cL_refuses 160 = .ok (.iadd, 1) := by decide +kernel
theorem dL_refuses_161 : decode cL_refuses 161 = .ok (.iconst 0, 1) := by decide +kernel
theorem dL_refuses_162 : decode cL_refuses 162 = .ok (.iconst 0, 1) := by decide +kernel
theorem dL_refuses_163 : decode cL_refuses 163 = .ok (.invokestatic 132, 3) := by decide +kernel
theorem dL_refuses_166 : decode cL_refuses 166 = .ok (.ldc 18, 2) := by decide +kernel
theorem dL_refuses_168 : decode cL_refuses 168 = .ok (.if_icmp .ne 478, 3) := by decide +kernel
theorem dL_refuses_171 : decode cL_refuses 171 = .ok (.aload_n 0, 1) := by decide +kernel
theorem dL_refuses_172 : decode cL_refuses 172 = .ok (.bipush 6, 2) := by decide +kernel
theorem dL_refuses_174 : decode cL_refuses 174 = .ok (.iload_n 1, 1) := by decide +kernel
theorem dL_refuses_175 : decode cL_refuses 175 = .ok (.iconst 2, 1) := by decide +kernel
theorem dL_refuses_176 : decode cL_refuses 176 = .ok (.irem, 1) := by decide +kernel
theorem dL_refuses_177 : decode cL_refuses 177 = .ok (.ifCond .ne 12, 3) := by decide +kernel
theorem dL_refuses_180 : decode cL_refuses 180 = .ok (.iconst 1, 1) := by decide +kernel
theorem dL_refuses_181 : decode cL_refuses 181 = .ok (.iload_n 1, 1) := by decide +kernel
theorem dL_refuses_182 : decode cL_refuses 182 = .ok (.bipush 9, 2) := by decide +kernel
theorem dL_refuses_184 : decode cL_refuses 184 = .ok (.irem, 1) := by decide +kernel
theorem dL_refuses_185 : decode cL_refuses 185 = .ok (.isub, 1) := by decide +kernel
theorem dL_refuses_186 : decode cL_refuses 186 = .ok (.goto 10, 3) := by decide +kernel
theorem dL_refuses_189 : decode cL_refuses 189 = .ok (.bipush 7, 2) := by decide +kernel
theorem dL_refuses_191 : decode cL_refuses 191 = .ok (.iload_n 1, 1) := by decide +kernel
theorem dL_refuses_192 : decode cL_refuses 192 = .ok (.bipush 9, 2) := by decide +kernel
theorem dL_refuses_194 : decode cL_refuses 194 = .ok (.irem, 1) := by decide +kernel
theorem dL_refuses_195 : decode cL_refuses 195 = .ok (.iadd, 1) := by decide +kernel
theorem dL_refuses_196 : decode cL_refuses 196 = .ok (.iconst 0, 1) := by decide +kernel
theorem dL_refuses_197 : decode cL_refuses 197 = .ok (.iconst 0, 1) := by decide +kernel
theorem dL_refuses_198 : decode cL_refuses 198 = .ok (.invokestatic 132, 3) := by decide +kernel
theorem dL_refuses_201 : decode cL_refuses 201 = .ok (.ldc 18, 2) := by decide +kernel
theorem dL_refuses_203 : decode cL_refuses 203 = .ok (.if_icmp .ne 443, 3) := by decide +kernel
theorem dL_refuses_206 : decode cL_refuses 206 = .ok (.aload_n 0, 1) := by decide +kernel
theorem dL_refuses_207 : decode cL_refuses 207 = .ok (.bipush 6, 2) := by decide +kernel
theorem dL_refuses_209 : decode cL_refuses 209 = .ok (.iconst 2, 1) := by decide +kernel
theorem dL_refuses_210 : decode cL_refuses 210 = .ok (.iload_n 1, 1) := by decide +kernel
theorem dL_refuses_211 : decode cL_refuses 211 = .ok (.iconst 5, 1) := by decide +kernel
theorem dL_refuses_212 : decode cL_refuses 212 = .ok (.irem, 1) := by decide +kernel
theorem dL_refuses_213 : decode cL_refuses 213 = .ok (.iadd, 1) := by decide +kernel
theorem dL_refuses_214 : decode cL_refuses 214 = .ok (.iconst (-1), 1) := by decide +kernel
theorem dL_refuses_215 : decode cL_refuses 215 = .ok (.iload_n 1, 1) := by decide +kernel
theorem dL_refuses_216 : decode cL_refuses 216 = .ok (.bipush 9, 2) := by decide +kernel
theorem dL_refuses_218 : decode cL_refuses 218 = .ok (.irem, 1) := by decide +kernel
theorem dL_refuses_219 : decode cL_refuses 219 = .ok (.isub, 1) := by decide +kernel
theorem dL_refuses_220 : decode cL_refuses 220 = .ok (.iconst 0, 1) := by decide +kernel
theorem dL_refuses_221 : decode cL_refuses 221 = .ok (.invokestatic 132, 3) := by decide +kernel
theorem dL_refuses_224 : decode cL_refuses 224 = .ok (.ldc 18, 2) := by decide +kernel
theorem dL_refuses_226 : decode cL_refuses 226 = .ok (.if_icmp .ne 420, 3) := by decide +kernel
theorem dL_refuses_229 : decode cL_refuses 229 = .ok (.aload_n 0, 1) := by decide +kernel
theorem dL_refuses_230 : decode cL_refuses 230 = .ok (.bipush 6, 2) := by decide +kernel
theorem dL_refuses_232 : decode cL_refuses 232 = .ok (.iconst 2, 1) := by decide +kernel
theorem dL_refuses_233 : decode cL_refuses 233 = .ok (.iload_n 1, 1) := by decide +kernel
theorem dL_refuses_234 : decode cL_refuses 234 = .ok (.iconst 5, 1) := by decide +kernel
theorem dL_refuses_235 : decode cL_refuses 235 = .ok (.irem, 1) := by decide +kernel
theorem dL_refuses_236 : decode cL_refuses 236 = .ok (.iadd, 1) := by decide +kernel
theorem dL_refuses_237 : decode cL_refuses 237 = .ok (.iconst 1, 1) := by decide +kernel
theorem dL_refuses_238 : decode cL_refuses 238 = .ok (.iconst 2, 1) := by decide +kernel
theorem dL_refuses_239 : decode cL_refuses 239 = .ok (.iconst 2, 1) := by decide +kernel
theorem dL_refuses_240 : decode cL_refuses 240 = .ok (.iload_n 1, 1) := by decide +kernel
theorem dL_refuses_241 : decode cL_refuses 241 = .ok (.iconst 5, 1) := by decide +kernel
theorem dL_refuses_242 : decode cL_refuses 242 = .ok (.irem, 1) := by decide +kernel
theorem dL_refuses_243 : decode cL_refuses 243 = .ok (.iadd, 1) := by decide +kernel
theorem dL_refuses_244 : decode cL_refuses 244 = .ok (.imul, 1) := by decide +kernel
theorem dL_refuses_245 : decode cL_refuses 245 = .ok (.ishl, 1) := by decide +kernel
theorem dL_refuses_246 : decode cL_refuses 246 = .ok (.iload_n 1, 1) := by decide +kernel
theorem dL_refuses_247 : decode cL_refuses 247 = .ok (.iadd, 1) := by decide +kernel
theorem dL_refuses_248 : decode cL_refuses 248 = .ok (.iconst 0, 1) := by decide +kernel
theorem dL_refuses_249 : decode cL_refuses 249 = .ok (.invokestatic 132, 3) := by decide +kernel
theorem dL_refuses_252 : decode cL_refuses 252 = .ok (.ldc 18, 2) := by decide +kernel
theorem dL_refuses_254 : decode cL_refuses 254 = .ok (.if_icmp .ne 392, 3) := by decide +kernel
theorem dL_refuses_257 : decode cL_refuses 257 = .ok (.aload_n 0, 1) := by decide +kernel
theorem dL_refuses_258 : decode cL_refuses 258 = .ok (.bipush 7, 2) := by decide +kernel
theorem dL_refuses_260 : decode cL_refuses 260 = .ok (.iload 4, 2) := by decide +kernel
theorem dL_refuses_262 : decode cL_refuses 262 = .ok (.iconst 0, 1) := by decide +kernel
theorem dL_refuses_263 : decode cL_refuses 263 = .ok (.iconst 1, 1) := by decide +kernel
theorem dL_refuses_264 : decode cL_refuses 264 = .ok (.invokestatic 132, 3) := by decide +kernel
theorem dL_refuses_267 : decode cL_refuses 267 = .ok (.ldc 15, 2) := by decide +kernel
theorem dL_refuses_269 : decode cL_refuses 269 = .ok (.if_icmp .ne 377, 3) := by decide +kernel
theorem dL_refuses_272 : decode cL_refuses 272 = .ok (.aload_n 0, 1) := by decide +kernel
theorem dL_refuses_273 : decode cL_refuses 273 = .ok (.bipush 7, 2) := by decide +kernel
theorem dL_refuses_275 : decode cL_refuses 275 = .ok (.iconst 0, 1) := by decide +kernel
theorem dL_refuses_276 : decode cL_refuses 276 = .ok (.iload 4, 2) := by decide +kernel
theorem dL_refuses_278 : decode cL_refuses 278 = .ok (.bipush 9, 2) := by decide +kernel
theorem dL_refuses_280 : decode cL_refuses 280 = .ok (.invokestatic 132, 3) := by decide +kernel
theorem dL_refuses_283 : decode cL_refuses 283 = .ok (.ldc 15, 2) := by decide +kernel
theorem dL_refuses_285 : decode cL_refuses 285 = .ok (.if_icmp .ne 361, 3) := by decide +kernel
theorem dL_refuses_288 : decode cL_refuses 288 = .ok (.aload_n 0, 1) := by decide +kernel
theorem dL_refuses_289 : decode cL_refuses 289 = .ok (.bipush 7, 2) := by decide +kernel
theorem dL_refuses_291 : decode cL_refuses 291 = .ok (.iload 5, 2) := by decide +kernel
theorem dL_refuses_293 : decode cL_refuses 293 = .ok (.iconst 0, 1) := by decide +kernel
theorem dL_refuses_294 : decode cL_refuses 294 = .ok (.iconst 1, 1) := by decide +kernel
theorem dL_refuses_295 : decode cL_refuses 295 = .ok (.invokestatic 132, 3) := by decide +kernel
theorem dL_refuses_298 : decode cL_refuses 298 = .ok (.ldc 18, 2) := by decide +kernel
theorem dL_refuses_300 : decode cL_refuses 300 = .ok (.if_icmp .ne 346, 3) := by decide +kernel
theorem dL_refuses_303 : decode cL_refuses 303 = .ok (.aload_n 0, 1) := by decide +kernel
theorem dL_refuses_304 : decode cL_refuses 304 = .ok (.bipush 7, 2) := by decide +kernel
theorem dL_refuses_306 : decode cL_refuses 306 = .ok (.iconst 0, 1) := by decide +kernel
theorem dL_refuses_307 : decode cL_refuses 307 = .ok (.iconst 0, 1) := by decide +kernel
theorem dL_refuses_308 : decode cL_refuses 308 = .ok (.iload_n 1, 1) := by decide +kernel
theorem dL_refuses_309 : decode cL_refuses 309 = .ok (.iconst 2, 1) := by decide +kernel
theorem dL_refuses_310 : decode cL_refuses 310 = .ok (.irem, 1) := by decide +kernel
theorem dL_refuses_311 : decode cL_refuses 311 = .ok (.ifCond .ne 7, 3) := by decide +kernel
theorem dL_refuses_314 : decode cL_refuses 314 = .ok (.iconst 0, 1) := by decide +kernel
theorem dL_refuses_315 : decode cL_refuses 315 = .ok (.goto 9, 3) := by decide +kernel
theorem dL_refuses_318 : decode cL_refuses 318 = .ok (.iconst 4, 1) := by decide +kernel
theorem dL_refuses_319 : decode cL_refuses 319 = .ok (.iload_n 1, 1) := by decide +kernel
theorem dL_refuses_320 : decode cL_refuses 320 = .ok (.bipush 9, 2) := by decide +kernel
theorem dL_refuses_322 : decode cL_refuses 322 = .ok (.irem, 1) := by decide +kernel
theorem dL_refuses_323 : decode cL_refuses 323 = .ok (.iadd, 1) := by decide +kernel
theorem dL_refuses_324 : decode cL_refuses 324 = .ok (.invokestatic 132, 3) := by decide +kernel
theorem dL_refuses_327 : decode cL_refuses 327 = .ok (.ldc 18, 2) := by decide +kernel
theorem dL_refuses_329 : decode cL_refuses 329 = .ok (.if_icmp .ne 317, 3) := by decide +kernel
theorem dL_refuses_332 : decode cL_refuses 332 = .ok (.iload_n 3, 1) := by decide +kernel
theorem dL_refuses_333 : decode cL_refuses 333 = .ok (.iload_n 2, 1) := by decide +kernel
theorem dL_refuses_334 : decode cL_refuses 334 = .ok (.if_icmp .ge 17, 3) := by decide +kernel
theorem dL_refuses_337 : decode cL_refuses 337 = .ok (.aload_n 0, 1) := by decide +kernel
theorem dL_refuses_338 : decode cL_refuses 338 = .ok (.bipush 7, 2) := by decide +kernel
theorem dL_refuses_340 : decode cL_refuses 340 = .ok (.iconst 0, 1) := by decide +kernel
theorem dL_refuses_341 : decode cL_refuses 341 = .ok (.iload_n 3, 1) := by decide +kernel
theorem dL_refuses_342 : decode cL_refuses 342 = .ok (.iconst 1, 1) := by decide +kernel
theorem dL_refuses_343 : decode cL_refuses 343 = .ok (.invokestatic 132, 3) := by decide +kernel
theorem dL_refuses_346 : decode cL_refuses 346 = .ok (.ldc 18, 2) := by decide +kernel
theorem dL_refuses_348 : decode cL_refuses 348 = .ok (.if_icmp .ne 298, 3) := by decide +kernel
theorem dL_refuses_351 : decode cL_refuses 351 = .ok (.aload_n 0, 1) := by decide +kernel
theorem dL_refuses_352 : decode cL_refuses 352 = .ok (.bipush 8, 2) := by decide +kernel
theorem dL_refuses_354 : decode cL_refuses 354 = .ok (.iload 4, 2) := by decide +kernel
theorem dL_refuses_356 : decode cL_refuses 356 = .ok (.iconst 0, 1) := by decide +kernel
theorem dL_refuses_357 : decode cL_refuses 357 = .ok (.iconst 0, 1) := by decide +kernel
theorem dL_refuses_358 : decode cL_refuses 358 = .ok (.invokestatic 132, 3) := by decide +kernel
theorem dL_refuses_361 : decode cL_refuses 361 = .ok (.ldc 15, 2) := by decide +kernel
theorem dL_refuses_363 : decode cL_refuses 363 = .ok (.if_icmp .ne 283, 3) := by decide +kernel
theorem dL_refuses_366 : decode cL_refuses 366 = .ok (.aload_n 0, 1) := by decide +kernel
theorem dL_refuses_367 : decode cL_refuses 367 = .ok (.bipush 9, 2) := by decide +kernel
theorem dL_refuses_369 : decode cL_refuses 369 = .ok (.iconst 3, 1) := by decide +kernel
theorem dL_refuses_370 : decode cL_refuses 370 = .ok (.iload_n 1, 1) := by decide +kernel
theorem dL_refuses_371 : decode cL_refuses 371 = .ok (.bipush 9, 2) := by decide +kernel
theorem dL_refuses_373 : decode cL_refuses 373 = .ok (.irem, 1) := by decide +kernel
theorem dL_refuses_374 : decode cL_refuses 374 = .ok (.iadd, 1) := by decide +kernel
theorem dL_refuses_375 : decode cL_refuses 375 = .ok (.iconst 0, 1) := by decide +kernel
theorem dL_refuses_376 : decode cL_refuses 376 = .ok (.iconst 0, 1) := by decide +kernel
theorem dL_refuses_377 : decode cL_refuses 377 = .ok (.invokestatic 132, 3) := by decide +kernel
theorem dL_refuses_380 : decode cL_refuses 380 = .ok (.ldc 18, 2) := by decide +kernel
theorem dL_refuses_382 : decode cL_refuses 382 = .ok (.if_icmp .ne 264, 3) := by decide +kernel
theorem dL_refuses_385 : decode cL_refuses 385 = .ok (.aload_n 0, 1) := by decide +kernel
theorem dL_refuses_386 : decode cL_refuses 386 = .ok (.bipush 10, 2) := by decide +kernel
theorem dL_refuses_388 : decode cL_refuses 388 = .ok (.iconst 0, 1) := by decide +kernel
theorem dL_refuses_389 : decode cL_refuses 389 = .ok (.iload_n 1, 1) := by decide +kernel
theorem dL_refuses_390 : decode cL_refuses 390 = .ok (.iconst 2, 1) := by decide +kernel
theorem dL_refuses_391 : decode cL_refuses 391 = .ok (.irem, 1) := by decide +kernel
theorem dL_refuses_392 : decode cL_refuses 392 = .ok (.ifCond .ne 7, 3) := by decide +kernel
theorem dL_refuses_395 : decode cL_refuses 395 = .ok (.iconst 0, 1) := by decide +kernel
theorem dL_refuses_396 : decode cL_refuses 396 = .ok (.goto 10, 3) := by decide +kernel
theorem dL_refuses_399 : decode cL_refuses 399 = .ok (.bipush 10, 2) := by decide +kernel
theorem dL_refuses_401 : decode cL_refuses 401 = .ok (.iload_n 1, 1) := by decide +kernel
theorem dL_refuses_402 : decode cL_refuses 402 = .ok (.bipush 9, 2) := by decide +kernel
theorem dL_refuses_404 : decode cL_refuses 404 = .ok (.irem, 1) := by decide +kernel
theorem dL_refuses_405 : decode cL_refuses 405 = .ok (.iadd, 1) := by decide +kernel
theorem dL_refuses_406 : decode cL_refuses 406 = .ok (.iconst 0, 1) := by decide +kernel
theorem dL_refuses_407 : decode cL_refuses 407 = .ok (.invokestatic 132, 3) := by decide +kernel
theorem dL_refuses_410 : decode cL_refuses 410 = .ok (.ldc 18, 2) := by decide +kernel
theorem dL_refuses_412 : decode cL_refuses 412 = .ok (.if_icmp .ne 234, 3) := by decide +kernel
theorem dL_refuses_415 : decode cL_refuses 415 = .ok (.aload_n 0, 1) := by decide +kernel
theorem dL_refuses_416 : decode cL_refuses 416 = .ok (.bipush 10, 2) := by decide +kernel
theorem dL_refuses_418 : decode cL_refuses 418 = .ok (.iconst 1, 1) := by decide +kernel
theorem dL_refuses_419 : decode cL_refuses 419 = .ok (.iload_n 1, 1) := by decide +kernel
theorem dL_refuses_420 : decode cL_refuses 420 = .ok (.iconst 2, 1) := by decide +kernel
theorem dL_refuses_421 : decode cL_refuses 421 = .ok (.irem, 1) := by decide +kernel
theorem dL_refuses_422 : decode cL_refuses 422 = .ok (.ifCond .ne 7, 3) := by decide +kernel
theorem dL_refuses_425 : decode cL_refuses 425 = .ok (.iconst 0, 1) := by decide +kernel
theorem dL_refuses_426 : decode cL_refuses 426 = .ok (.goto 9, 3) := by decide +kernel
theorem dL_refuses_429 : decode cL_refuses 429 = .ok (.iconst 4, 1) := by decide +kernel
theorem dL_refuses_430 : decode cL_refuses 430 = .ok (.iload_n 1, 1) := by decide +kernel
theorem dL_refuses_431 : decode cL_refuses 431 = .ok (.bipush 9, 2) := by decide +kernel
theorem dL_refuses_433 : decode cL_refuses 433 = .ok (.irem, 1) := by decide +kernel
theorem dL_refuses_434 : decode cL_refuses 434 = .ok (.iadd, 1) := by decide +kernel
theorem dL_refuses_435 : decode cL_refuses 435 = .ok (.iconst 0, 1) := by decide +kernel
theorem dL_refuses_436 : decode cL_refuses 436 = .ok (.invokestatic 132, 3) := by decide +kernel
theorem dL_refuses_439 : decode cL_refuses 439 = .ok (.ldc 18, 2) := by decide +kernel
theorem dL_refuses_441 : decode cL_refuses 441 = .ok (.if_icmp .ne 205, 3) := by decide +kernel
theorem dL_refuses_444 : decode cL_refuses 444 = .ok (.aload_n 0, 1) := by decide +kernel
theorem dL_refuses_445 : decode cL_refuses 445 = .ok (.bipush 10, 2) := by decide +kernel
theorem dL_refuses_447 : decode cL_refuses 447 = .ok (.iconst 2, 1) := by decide +kernel
theorem dL_refuses_448 : decode cL_refuses 448 = .ok (.iload_n 1, 1) := by decide +kernel
theorem dL_refuses_449 : decode cL_refuses 449 = .ok (.bipush 9, 2) := by decide +kernel
theorem dL_refuses_451 : decode cL_refuses 451 = .ok (.irem, 1) := by decide +kernel
theorem dL_refuses_452 : decode cL_refuses 452 = .ok (.iadd, 1) := by decide +kernel
theorem dL_refuses_453 : decode cL_refuses 453 = .ok (.iconst 1, 1) := by decide +kernel
theorem dL_refuses_454 : decode cL_refuses 454 = .ok (.iconst 0, 1) := by decide +kernel
theorem dL_refuses_455 : decode cL_refuses 455 = .ok (.invokestatic 132, 3) := by decide +kernel
theorem dL_refuses_458 : decode cL_refuses 458 = .ok (.ldc 18, 2) := by decide +kernel
theorem dL_refuses_460 : decode cL_refuses 460 = .ok (.if_icmp .ne 186, 3) := by decide +kernel
theorem dL_refuses_463 : decode cL_refuses 463 = .ok (.aload_n 0, 1) := by decide +kernel
theorem dL_refuses_464 : decode cL_refuses 464 = .ok (.iload 4, 2) := by decide +kernel
theorem dL_refuses_466 : decode cL_refuses 466 = .ok (.iconst 0, 1) := by decide +kernel
theorem dL_refuses_467 : decode cL_refuses 467 = .ok (.iconst 1, 1) := by decide +kernel
theorem dL_refuses_468 : decode cL_refuses 468 = .ok (.bipush 9, 2) := by decide +kernel
theorem dL_refuses_470 : decode cL_refuses 470 = .ok (.invokestatic 136, 3) := by decide +kernel
theorem dL_refuses_473 : decode cL_refuses 473 = .ok (.ldc 15, 2) := by decide +kernel
theorem dL_refuses_475 : decode cL_refuses 475 = .ok (.if_icmp .ne 171, 3) := by decide +kernel
theorem dL_refuses_478 : decode cL_refuses 478 = .ok (.aload_n 0, 1) := by decide +kernel
theorem dL_refuses_479 : decode cL_refuses 479 = .ok (.iconst 0, 1) := by decide +kernel
theorem dL_refuses_480 : decode cL_refuses 480 = .ok (.iconst 0, 1) := by decide +kernel
theorem dL_refuses_481 : decode cL_refuses 481 = .ok (.iconst 1, 1) := by decide +kernel
theorem dL_refuses_482 : decode cL_refuses 482 = .ok (.iconst 4, 1) := by decide +kernel
theorem dL_refuses_483 : decode cL_refuses 483 = .ok (.iload_n 1, 1) := by decide +kernel
theorem dL_refuses_484 : decode cL_refuses 484 = .ok (.bipush 9, 2) := by decide +kernel
theorem dL_refuses_486 : decode cL_refuses 486 = .ok (.irem, 1) := by decide +kernel
theorem dL_refuses_487 : decode cL_refuses 487 = .ok (.iadd, 1) := by decide +kernel
theorem dL_refuses_488 : decode cL_refuses 488 = .ok (.invokestatic 136, 3) := by decide +kernel
theorem dL_refuses_491 : decode cL_refuses 491 = .ok (.ldc 18, 2) := by decide +kernel
theorem dL_refuses_493 : decode cL_refuses 493 = .ok (.if_icmp .ne 153, 3) := by decide +kernel
theorem dL_refuses_496 : decode cL_refuses 496 = .ok (.aload_n 0, 1) := by decide +kernel
theorem dL_refuses_497 : decode cL_refuses 497 = .ok (.iload 5, 2) := by decide +kernel
theorem dL_refuses_499 : decode cL_refuses 499 = .ok (.iconst 0, 1) := by decide +kernel
theorem dL_refuses_500 : decode cL_refuses 500 = .ok (.iconst 1, 1) := by decide +kernel
theorem dL_refuses_501 : decode cL_refuses 501 = .ok (.iconst 0, 1) := by decide +kernel
theorem dL_refuses_502 : decode cL_refuses 502 = .ok (.invokestatic 136, 3) := by decide +kernel
theorem dL_refuses_505 : decode cL_refuses 505 = .ok (.ldc 18, 2) := by decide +kernel
theorem dL_refuses_507 : decode cL_refuses 507 = .ok (.if_icmp .ne 139, 3) := by decide +kernel
theorem dL_refuses_510 : decode cL_refuses 510 = .ok (.aload_n 0, 1) := by decide +kernel
theorem dL_refuses_511 : decode cL_refuses 511 = .ok (.bipush 12, 2) := by decide +kernel
theorem dL_refuses_513 : decode cL_refuses 513 = .ok (.iload_n 1, 1) := by decide +kernel
theorem dL_refuses_514 : decode cL_refuses 514 = .ok (.iconst 2, 1) := by decide +kernel
theorem dL_refuses_515 : decode cL_refuses 515 = .ok (.irem, 1) := by decide +kernel
theorem dL_refuses_516 : decode cL_refuses 516 = .ok (.ifCond .ne 7, 3) := by decide +kernel
theorem dL_refuses_519 : decode cL_refuses 519 = .ok (.iconst 0, 1) := by decide +kernel
theorem dL_refuses_520 : decode cL_refuses 520 = .ok (.goto 10, 3) := by decide +kernel
theorem dL_refuses_523 : decode cL_refuses 523 = .ok (.bipush 19, 2) := by decide +kernel
theorem dL_refuses_525 : decode cL_refuses 525 = .ok (.iload_n 1, 1) := by decide +kernel
theorem dL_refuses_526 : decode cL_refuses 526 = .ok (.bipush 9, 2) := by decide +kernel
theorem dL_refuses_528 : decode cL_refuses 528 = .ok (.irem, 1) := by decide +kernel
theorem dL_refuses_529 : decode cL_refuses 529 = .ok (.iadd, 1) := by decide +kernel
theorem dL_refuses_530 : decode cL_refuses 530 = .ok (.iconst 0, 1) := by decide +kernel
theorem dL_refuses_531 : decode cL_refuses 531 = .ok (.iconst 0, 1) := by decide +kernel
theorem dL_refuses_532 : decode cL_refuses 532 = .ok (.invokestatic 132, 3) := by decide +kernel
theorem dL_refuses_535 : decode cL_refuses 535 = .ok (.ldc 18, 2) := by decide +kernel
theorem dL_refuses_537 : decode cL_refuses 537 = .ok (.if_icmp .ne 109, 3) := by decide +kernel
theorem dL_refuses_540 : decode cL_refuses 540 = .ok (.aload_n 0, 1) := by decide +kernel
theorem dL_refuses_541 : decode cL_refuses 541 = .ok (.bipush 12, 2) := by decide +kernel
theorem dL_refuses_543 : decode cL_refuses 543 = .ok (.iconst 5, 1) := by decide +kernel
theorem dL_refuses_544 : decode cL_refuses 544 = .ok (.iconst 2, 1) := by decide +kernel
theorem dL_refuses_545 : decode cL_refuses 545 = .ok (.iload_n 1, 1) := by decide +kernel
theorem dL_refuses_546 : decode cL_refuses 546 = .ok (.bipush 9, 2) := by decide +kernel
theorem dL_refuses_548 : decode cL_refuses 548 = .ok (.irem, 1) := by decide +kernel
theorem dL_refuses_549 : decode cL_refuses 549 = .ok (.iadd, 1) := by decide +kernel
theorem dL_refuses_550 : decode cL_refuses 550 = .ok (.iconst 0, 1) := by decide +kernel
theorem dL_refuses_551 : decode cL_refuses 551 = .ok (.invokestatic 132, 3) := by decide +kernel
theorem dL_refuses_554 : decode cL_refuses 554 = .ok (.ldc 18, 2) := by decide +kernel
theorem dL_refuses_556 : decode cL_refuses 556 = .ok (.if_icmp .ne 90, 3) := by decide +kernel
theorem dL_refuses_559 : decode cL_refuses 559 = .ok (.aload_n 0, 1) := by decide +kernel
theorem dL_refuses_560 : decode cL_refuses 560 = .ok (.bipush 13, 2) := by decide +kernel
theorem dL_refuses_562 : decode cL_refuses 562 = .ok (.iconst 2, 1) := by decide +kernel
theorem dL_refuses_563 : decode cL_refuses 563 = .ok (.iload_n 1, 1) := by decide +kernel
theorem dL_refuses_564 : decode cL_refuses 564 = .ok (.bipush 50, 2) := by decide +kernel
theorem dL_refuses_566 : decode cL_refuses 566 = .ok (.irem, 1) := by decide +kernel
theorem dL_refuses_567 : decode cL_refuses 567 = .ok (.iadd, 1) := by decide +kernel
theorem dL_refuses_568 : decode cL_refuses 568 = .ok (.iconst 0, 1) := by decide +kernel
theorem dL_refuses_569 : decode cL_refuses 569 = .ok (.iconst 0, 1) := by decide +kernel
theorem dL_refuses_570 : decode cL_refuses 570 = .ok (.invokestatic 132, 3) := by decide +kernel
theorem dL_refuses_573 : decode cL_refuses 573 = .ok (.ldc 15, 2) := by decide +kernel
theorem dL_refuses_575 : decode cL_refuses 575 = .ok (.if_icmp .ne 71, 3) := by decide +kernel
theorem dL_refuses_578 : decode cL_refuses 578 = .ok (.aload_n 0, 1) := by decide +kernel
theorem dL_refuses_579 : decode cL_refuses 579 = .ok (.bipush 14, 2) := by decide +kernel
theorem dL_refuses_581 : decode cL_refuses 581 = .ok (.iconst (-1), 1) := by decide +kernel
theorem dL_refuses_582 : decode cL_refuses 582 = .ok (.iload_n 1, 1) := by decide +kernel
theorem dL_refuses_583 : decode cL_refuses 583 = .ok (.bipush 9, 2) := by decide +kernel
theorem dL_refuses_585 : decode cL_refuses 585 = .ok (.irem, 1) := by decide +kernel
theorem dL_refuses_586 : decode cL_refuses 586 = .ok (.isub, 1) := by decide +kernel
theorem dL_refuses_587 : decode cL_refuses 587 = .ok (.iconst 0, 1) := by decide +kernel
theorem dL_refuses_588 : decode cL_refuses 588 = .ok (.iconst 0, 1) := by decide +kernel
theorem dL_refuses_589 : decode cL_refuses 589 = .ok (.invokestatic 132, 3) := by decide +kernel
theorem dL_refuses_592 : decode cL_refuses 592 = .ok (.ldc 15, 2) := by decide +kernel
theorem dL_refuses_594 : decode cL_refuses 594 = .ok (.if_icmp .ne 52, 3) := by decide +kernel
theorem dL_refuses_597 : decode cL_refuses 597 = .ok (.aload_n 0, 1) := by decide +kernel
theorem dL_refuses_598 : decode cL_refuses 598 = .ok (.iconst 0, 1) := by decide +kernel
theorem dL_refuses_599 : decode cL_refuses 599 = .ok (.lconst 0, 1) := by decide +kernel
theorem dL_refuses_600 : decode cL_refuses 600 = .ok (.invokestatic 139, 3) := by decide +kernel
theorem dL_refuses_603 : decode cL_refuses 603 = .ok (.ldc 18, 2) := by decide +kernel
theorem dL_refuses_605 : decode cL_refuses 605 = .ok (.if_icmp .ne 41, 3) := by decide +kernel
theorem dL_refuses_608 : decode cL_refuses 608 = .ok (.aload_n 0, 1) := by decide +kernel
theorem dL_refuses_609 : decode cL_refuses 609 = .ok (.iconst 1, 1) := by decide +kernel
theorem dL_refuses_610 : decode cL_refuses 610 = .ok (.ldc2_w 143, 3) := by decide +kernel
theorem dL_refuses_613 : decode cL_refuses 613 = .ok (.iload_n 1, 1) := by decide +kernel
theorem dL_refuses_614 : decode cL_refuses 614 = .ok (.i2l, 1) := by decide +kernel
theorem dL_refuses_615 : decode cL_refuses 615 = .ok (.ladd, 1) := by decide +kernel
theorem dL_refuses_616 : decode cL_refuses 616 = .ok (.invokestatic 139, 3) := by decide +kernel
theorem dL_refuses_619 : decode cL_refuses 619 = .ok (.ldc 18, 2) := by decide +kernel
theorem dL_refuses_621 : decode cL_refuses 621 = .ok (.if_icmp .ne 25, 3) := by decide +kernel
theorem dL_refuses_624 : decode cL_refuses 624 = .ok (.aload_n 0, 1) := by decide +kernel
theorem dL_refuses_625 : decode cL_refuses 625 = .ok (.iload_n 1, 1) := by decide +kernel
theorem dL_refuses_626 : decode cL_refuses 626 = .ok (.i2l, 1) := by decide +kernel
theorem dL_refuses_627 : decode cL_refuses 627 = .ok (.bipush 61, 2) := by decide +kernel
theorem dL_refuses_629 : decode cL_refuses 629 = .ok (.iload_n 1, 1) := by decide +kernel
theorem dL_refuses_630 : decode cL_refuses 630 = .ok (.bipush 9, 2) := by decide +kernel
theorem dL_refuses_632 : decode cL_refuses 632 = .ok (.irem, 1) := by decide +kernel
theorem dL_refuses_633 : decode cL_refuses 633 = .ok (.iadd, 1) := by decide +kernel
theorem dL_refuses_634 : decode cL_refuses 634 = .ok (.invokestatic 145, 3) := by decide +kernel
theorem dL_refuses_637 : decode cL_refuses 637 = .ok (.ldc 18, 2) := by decide +kernel
theorem dL_refuses_639 : decode cL_refuses 639 = .ok (.if_icmp .ne 7, 3) := by decide +kernel
theorem dL_refuses_642 : decode cL_refuses 642 = .ok (.iconst 1, 1) := by decide +kernel
theorem dL_refuses_643 : decode cL_refuses 643 = .ok (.goto 4, 3) := by decide +kernel
theorem dL_refuses_646 : decode cL_refuses 646 = .ok (.iconst 0, 1) := by decide +kernel
theorem dL_refuses_647 : decode cL_refuses 647 = .ok (.ireturn, 1) := by decide +kernel
theorem dL_holds_0 : decode cL_holds 0 = .ok (.aload_n 0, 1) := by decide +kernel
theorem dL_holds_1 : decode cL_holds 1 = .ok (.iconst 2, 1) := by decide +kernel
theorem dL_holds_2 : decode cL_holds 2 = .ok (.iconst 0, 1) := by decide +kernel
theorem dL_holds_3 : decode cL_holds 3 = .ok (.iconst 0, 1) := by decide +kernel
theorem dL_holds_4 : decode cL_holds 4 = .ok (.iconst 0, 1) := by decide +kernel
theorem dL_holds_5 : decode cL_holds 5 = .ok (.invokestatic 132, 3) := by decide +kernel
theorem dL_holds_8 : decode cL_holds 8 = .ok (.istore_n 1, 1) := by decide +kernel
theorem dL_holds_9 : decode cL_holds 9 = .ok (.aload_n 0, 1) := by decide +kernel
theorem dL_holds_10 : decode cL_holds 10 = .ok (.iconst 5, 1) := by decide +kernel
theorem dL_holds_11 : decode cL_holds 11 = .ok (.iconst 1, 1) := by decide +kernel
theorem dL_holds_12 : decode cL_holds 12 = .ok (.iconst 0, 1) := by decide +kernel
theorem dL_holds_13 : decode cL_holds 13 = .ok (.iconst 0, 1) := by decide +kernel
theorem dL_holds_14 : decode cL_holds 14 = .ok (.invokestatic 132, 3) := by decide +kernel
theorem dL_holds_17 : decode cL_holds 17 = .ok (.istore_n 2, 1) := by decide +kernel
theorem dL_holds_18 : decode cL_holds 18 = .ok (.aload_n 0, 1) := by decide +kernel
theorem dL_holds_19 : decode cL_holds 19 = .ok (.invokevirtual 149, 3) := by decide +kernel
theorem dL_holds_22 : decode cL_holds 22 = .ok (.bipush 100, 2) := by decide +kernel
theorem dL_holds_24 : decode cL_holds 24 = .ok (.isub, 1) := by decide +kernel
theorem dL_holds_25 : decode cL_holds 25 = .ok (.istore_n 3, 1) := by decide +kernel
theorem dL_holds_26 : decode cL_holds 26 = .ok (.aload_n 0, 1) := by decide +kernel
theorem dL_holds_27 : decode cL_holds 27 = .ok (.invokevirtual 152, 3) := by decide +kernel
theorem dL_holds_30 : decode cL_holds 30 = .ok (.istore 4, 2) := by decide +kernel
theorem dL_holds_32 : decode cL_holds 32 = .ok (.iconst 0, 1) := by decide +kernel
theorem dL_holds_33 : decode cL_holds 33 = .ok (.istore 5, 2) := by decide +kernel
theorem dL_holds_35 : decode cL_holds 35 = .ok (.iconst 0, 1) := by decide +kernel
theorem dL_holds_36 : decode cL_holds 36 = .ok (.istore 6, 2) := by decide +kernel
theorem dL_holds_38 : decode cL_holds 38 = .ok (.iconst 0, 1) := by decide +kernel
theorem dL_holds_39 : decode cL_holds 39 = .ok (.istore 7, 2) := by decide +kernel
theorem dL_holds_41 : decode cL_holds 41 = .ok (.iload_n 1, 1) := by decide +kernel
theorem dL_holds_42 : decode cL_holds 42 = .ok (.iconst 1, 1) := by decide +kernel
theorem dL_holds_43 : decode cL_holds 43 = .ok (.isub, 1) := by decide +kernel
theorem dL_holds_44 : decode cL_holds 44 = .ok (.istore 8, 2) := by decide +kernel
theorem dL_holds_46 : decode cL_holds 46 = .ok (.iload 8, 2) := by decide +kernel
theorem dL_holds_48 : decode cL_holds 48 = .ok (.ifCond .lt 51, 3) := by decide +kernel
theorem dL_holds_51 : decode cL_holds 51 = .ok (.aload_n 0, 1) := by decide +kernel
theorem dL_holds_52 : decode cL_holds 52 = .ok (.iconst 3, 1) := by decide +kernel
theorem dL_holds_53 : decode cL_holds 53 = .ok (.iload 8, 2) := by decide +kernel
theorem dL_holds_55 : decode cL_holds 55 = .ok (.iconst 0, 1) := by decide +kernel
theorem dL_holds_56 : decode cL_holds 56 = .ok (.iconst 0, 1) := by decide +kernel
theorem dL_holds_57 : decode cL_holds 57 = .ok (.invokestatic 132, 3) := by decide +kernel
theorem dL_holds_60 : decode cL_holds 60 = .ok (.istore 9, 2) := by decide +kernel
theorem dL_holds_62 : decode cL_holds 62 = .ok (.iload 5, 2) := by decide +kernel
theorem dL_holds_64 : decode cL_holds 64 = .ok (.iload 9, 2) := by decide +kernel
theorem dL_holds_66 : decode cL_holds 66 = .ok (.iadd, 1) := by decide +kernel
theorem dL_holds_67 : decode cL_holds 67 = .ok (.istore 5, 2) := by decide +kernel
theorem dL_holds_69 : decode cL_holds 69 = .ok (.iload 6, 2) := by decide +kernel
theorem dL_holds_71 : decode cL_holds 71 = .ok (.iload 9, 2) := by decide +kernel
theorem dL_holds_73 : decode cL_holds 73 = .ok (.ifCond .ne 7, 3) := by decide +kernel
theorem dL_holds_76 : decode cL_holds 76 = .ok (.iconst 1, 1) := by decide +kernel
theorem dL_holds_77 : decode cL_holds 77 = .ok (.goto 4, 3) := by decide +kernel
theorem dL_holds_80 : decode cL_holds 80 = .ok (.iconst 0, 1) := by decide +kernel
theorem dL_holds_81 : decode cL_holds 81 = .ok (.iadd, 1) := by decide +kernel
theorem dL_holds_82 : decode cL_holds 82 = .ok (.istore 6, 2) := by decide +kernel
theorem dL_holds_84 : decode cL_holds 84 = .ok (.iconst 4, 1) := by decide +kernel
theorem dL_holds_85 : decode cL_holds 85 = .ok (.iload 7, 2) := by decide +kernel
theorem dL_holds_87 : decode cL_holds 87 = .ok (.imul, 1) := by decide +kernel
theorem dL_holds_88 : decode cL_holds 88 = .ok (.iload 9, 2) := by decide +kernel
theorem dL_holds_90 : decode cL_holds 90 = .ok (.iadd, 1) := by decide +kernel
theorem dL_holds_91 : decode cL_holds 91 = .ok (.istore 7, 2) := by decide +kernel
theorem dL_holds_93 : decode cL_holds 93 = .ok (.iinc 8 (-1), 3) := by decide +kernel
theorem dL_holds_96 : decode cL_holds 96 = .ok (.goto (-50), 3) := by decide +kernel
theorem dL_holds_99 : decode cL_holds 99 = .ok (.iconst 0, 1) := by decide +kernel
theorem dL_holds_100 : decode cL_holds 100 = .ok (.istore 8, 2) := by decide +kernel
theorem dL_holds_102 : decode cL_holds 102 = .ok (.iconst 0, 1) := by decide +kernel
theorem dL_holds_103 : decode cL_holds 103 = .ok (.istore 9, 2) := by decide +kernel
theorem dL_holds_105 : decode cL_holds 105 = .ok (.iload_n 1, 1) := by decide +kernel
theorem dL_holds_106 : decode cL_holds 106 = .ok (.iconst 2, 1) := by decide +kernel
theorem dL_holds_107 : decode cL_holds 107 = .ok (.if_icmp .lt 13, 3) := by decide +kernel
theorem dL_holds_110 : decode cL_holds 110 = .ok (.iload_n 1, 1) := by decide +kernel
theorem dL_holds_111 : decode cL_holds 111 = .ok (.bipush 6, 2) := by decide +kernel
theorem dL_holds_113 : decode cL_holds 113 = .ok (.if_icmp .gt 7, 3) := by decide +kernel
theorem dL_holds_116 : decode cL_holds 116 = .ok (.iconst 1, 1) := by decide +kernel
theorem dL_holds_117 : decode cL_holds 117 = .ok (.goto 4, 3) := by decide +kernel
theorem dL_holds_120 : decode cL_holds 120 = .ok (.iconst 0, 1) := by decide +kernel
theorem dL_holds_121 : decode cL_holds 121 = .ok (.istore 10, 2) := by decide +kernel
theorem dL_holds_123 : decode cL_holds 123 = .ok (.iconst 0, 1) := by decide +kernel
theorem dL_holds_124 : decode cL_holds 124 = .ok (.istore 11, 2) := by decide +kernel
theorem dL_holds_126 : decode cL_holds 126 = .ok (.iload 11, 2) := by decide +kernel
theorem dL_holds_128 : decode cL_holds 128 = .ok (.bipush 9, 2) := by decide +kernel
theorem dL_holds_130 : decode cL_holds 130 = .ok (.iload_n 1, 1) := by decide +kernel
theorem dL_holds_131 : decode cL_holds 131 = .ok (.imul, 1) := by decide +kernel
theorem dL_holds_132 : decode cL_holds 132 = .ok (.if_icmp .ge 187, 3) := by decide +kernel
theorem dL_holds_135 : decode cL_holds 135 = .ok (.iload 10, 2) := by decide +kernel
theorem dL_holds_137 : decode cL_holds 137 = .ok (.ifCond .eq 182, 3) := by decide +kernel
theorem dL_holds_140 : decode cL_holds 140 = .ok (.iload 11, 2) := by decide +kernel
theorem dL_holds_142 : decode cL_holds 142 = .ok (.bipush 9, 2) := by decide +kernel
theorem dL_holds_144 : decode cL_holds 144 = .ok (.idiv, 1) := by decide +kernel
theorem dL_holds_145 : decode cL_holds 145 = .ok (.istore 12, 2) := by decide +kernel
theorem dL_holds_147 : decode cL_holds 147 = .ok (.iload 12, 2) := by decide +kernel
theorem dL_holds_149 : decode cL_holds 149 = .ok (.iload 11, 2) := by decide +kernel
theorem dL_holds_151 : decode cL_holds 151 = .ok (.iconst 3, 1) := by decide +kernel
theorem dL_holds_152 : decode cL_holds 152 = .ok (.idiv, 1) := by decide +kernel
theorem dL_holds_153 : decode cL_holds 153 = .ok (.iconst 3, 1) := by decide +kernel
theorem dL_holds_154 : decode cL_holds 154 = .ok (.irem, 1) := by decide +kernel
theorem dL_holds_155 : decode cL_holds 155 = .ok (.iadd, 1) := by decide +kernel
theorem dL_holds_156 : decode cL_holds 156 = .ok (.istore 13, 2) := by decide +kernel
theorem dL_holds_158 : decode cL_holds 158 = .ok (.iconst 1, 1) := by decide +kernel
theorem dL_holds_159 : decode cL_holds 159 = .ok (.iload 11, 2) := by decide +kernel
theorem dL_holds_161 : decode cL_holds 161 = .ok (.iconst 3, 1) := by decide +kernel
theorem dL_holds_162 : decode cL_holds 162 = .ok (.irem, 1) := by decide +kernel
theorem dL_holds_163 : decode cL_holds 163 = .ok (.iadd, 1) := by decide +kernel
theorem dL_holds_164 : decode cL_holds 164 = .ok (.istore 14, 2) := by decide +kernel
theorem dL_holds_166 : decode cL_holds 166 = .ok (.iload 13, 2) := by decide +kernel
theorem dL_holds_168 : decode cL_holds 168 = .ok (.iload_n 1, 1) := by decide +kernel
theorem dL_holds_169 : decode cL_holds 169 = .ok (.if_icmp .ge 12, 3) := by decide +kernel
theorem dL_holds_172 : decode cL_holds 172 = .ok (.iload 13, 2) := by decide +kernel
theorem dL_holds_174 : decode cL_holds 174 = .ok (.iload 12, 2) := by decide +kernel
theorem dL_holds_176 : decode cL_holds 176 = .ok (.isub, 1) := by decide +kernel
theorem dL_holds_177 : decode cL_holds 177 = .ok (.iload_n 2, 1) := by decide +kernel
theorem dL_holds_178 : decode cL_holds 178 = .ok (.if_icmp .lt 7, 3) := by decide +kernel
theorem dL_holds_181 : decode cL_holds 181 = .ok (.iconst (-1), 1) := by decide +kernel
theorem dL_holds_182 : decode cL_holds 182 = .ok (.goto 14, 3) := by decide +kernel
theorem dL_holds_185 : decode cL_holds 185 = .ok (.aload_n 0, 1) := by decide +kernel
theorem dL_holds_186 : decode cL_holds 186 = .ok (.iload 12, 2) := by decide +kernel
theorem dL_holds_188 : decode cL_holds 188 = .ok (.iload 13, 2) := by decide +kernel
theorem dL_holds_190 : decode cL_holds 190 = .ok (.iload 14, 2) := by decide +kernel
theorem dL_holds_192 : decode cL_holds 192 = .ok (.iconst 0, 1) := by decide +kernel
theorem dL_holds_193 : decode cL_holds 193 = .ok (.invokestatic 136, 3) := by decide +kernel
theorem dL_holds_196 : decode cL_holds 196 = .ok (.istore 15, 2) := by decide +kernel
theorem dL_holds_198 : decode cL_holds 198 = .ok (.iload 15, 2) := by decide +kernel
theorem dL_holds_200 : decode cL_holds 200 = .ok (.iconst (-1), 1) := by decide +kernel
theorem dL_holds_201 : decode cL_holds 201 = .ok (.if_icmp .eq 112, 3) := by decide +kernel
theorem dL_holds_204 : decode cL_holds 204 = .ok (.bipush 100, 2) := by decide +kernel
theorem dL_holds_206 : decode cL_holds 206 = .ok (.aload_n 0, 1) := by decide +kernel
theorem dL_holds_207 : decode cL_holds 207 = .ok (.iload 12, 2) := by decide +kernel
theorem dL_holds_209 : decode cL_holds 209 = .ok (.iload 13, 2) := by decide +kernel
theorem dL_holds_211 : decode cL_holds 211 = .ok (.iload 14, 2) := by decide +kernel
theorem dL_holds_213 : decode cL_holds 213 = .ok (.iconst 2, 1) := by decide +kernel
theorem dL_holds_214 : decode cL_holds 214 = .ok (.invokestatic 136, 3) := by decide +kernel
theorem dL_holds_217 : decode cL_holds 217 = .ok (.isub, 1) := by decide +kernel
theorem dL_holds_218 : decode cL_holds 218 = .ok (.iload 15, 2) := by decide +kernel
theorem dL_holds_220 : decode cL_holds 220 = .ok (.isub, 1) := by decide +kernel
theorem dL_holds_221 : decode cL_holds 221 = .ok (.istore 16, 2) := by decide +kernel
theorem dL_holds_223 : decode cL_holds 223 = .ok (.bipush 100, 2) := by decide +kernel
theorem dL_holds_225 : decode cL_holds 225 = .ok (.iload 12, 2) := by decide +kernel
theorem dL_holds_227 : decode cL_holds 227 = .ok (.imul, 1) := by decide +kernel
theorem dL_holds_228 : decode cL_holds 228 = .ok (.bipush 10, 2) := by decide +kernel
theorem dL_holds_230 : decode cL_holds 230 = .ok (.iload 13, 2) := by decide +kernel
theorem dL_holds_232 : decode cL_holds 232 = .ok (.imul, 1) := by decide +kernel
theorem dL_holds_233 : decode cL_holds 233 = .ok (.iadd, 1) := by decide +kernel
theorem dL_holds_234 : decode cL_holds 234 = .ok (.iload 14, 2) := by decide +kernel
theorem dL_holds_236 : decode cL_holds 236 = .ok (.iadd, 1) := by decide +kernel
theorem dL_holds_237 : decode cL_holds 237 = .ok (.istore 17, 2) := by decide +kernel
theorem dL_holds_239 : decode cL_holds 239 = .ok (.iinc 8 1, 3) := by decide +kernel
theorem dL_holds_242 : decode cL_holds 242 = .ok (.iload 9, 2) := by decide +kernel
theorem dL_holds_244 : decode cL_holds 244 = .ok (.iload 16, 2) := by decide +kernel
theorem dL_holds_246 : decode cL_holds 246 = .ok (.iload_n 3, 1) := by decide +kernel
theorem dL_holds_247 : decode cL_holds 247 = .ok (.if_icmp .ne 7, 3) := by decide +kernel
theorem dL_holds_250 : decode cL_holds 250 = .ok (.iconst 1, 1) := by decide +kernel
theorem dL_holds_251 : decode cL_holds 251 = .ok (.goto 4, 3) := by decide +kernel
theorem dL_holds_254 : decode cL_holds 254 = .ok (.iconst 0, 1) := by decide +kernel
theorem dL_holds_255 : decode cL_holds 255 = .ok (.iadd, 1) := by decide +kernel
theorem dL_holds_256 : decode cL_holds 256 = .ok (.istore 9, 2) := by decide +kernel
theorem dL_holds_258 : decode cL_holds 258 = .ok (.iload 16, 2) := by decide +kernel
theorem dL_holds_260 : decode cL_holds 260 = .ok (.iload_n 3, 1) := by decide +kernel
theorem dL_holds_261 : decode cL_holds 261 = .ok (.if_icmp .gt 49, 3) := by decide +kernel
theorem dL_holds_264 : decode cL_holds 264 = .ok (.iload 16, 2) := by decide +kernel
theorem dL_holds_266 : decode cL_holds 266 = .ok (.iload_n 3, 1) := by decide +kernel
theorem dL_holds_267 : decode cL_holds 267 = .ok (.if_icmp .lt 10, 3) := by decide +kernel
theorem dL_holds_270 : decode cL_holds 270 = .ok (.iload 17, 2) := by decide +kernel
theorem dL_holds_272 : decode cL_holds 272 = .ok (.iload 4, 2) := by decide +kernel
theorem dL_holds_274 : decode cL_holds 274 = .ok (.if_icmp .lt 36, 3) := by decide +kernel
theorem dL_holds_277 : decode cL_holds 277 = .ok (.iload 17, 2) := by decide +kernel
theorem dL_holds_279 : decode cL_holds 279 = .ok (.iload 4, 2) := by decide +kernel
theorem dL_holds_281 : decode cL_holds 281 = .ok (.if_icmp .ne 9, 3) := by decide +kernel
theorem dL_holds_284 : decode cL_holds 284 = .ok (.iload 16, 2) := by decide +kernel
theorem dL_holds_286 : decode cL_holds 286 = .ok (.iload_n 3, 1) := by decide +kernel
theorem dL_holds_287 : decode cL_holds 287 = .ok (.if_icmp .ne 23, 3) := by decide +kernel
theorem dL_holds_290 : decode cL_holds 290 = .ok (.aload_n 0, 1) := by decide +kernel
theorem dL_holds_291 : decode cL_holds 291 = .ok (.iload 12, 2) := by decide +kernel
theorem dL_holds_293 : decode cL_holds 293 = .ok (.iload 13, 2) := by decide +kernel
theorem dL_holds_295 : decode cL_holds 295 = .ok (.iload 14, 2) := by decide +kernel
theorem dL_holds_297 : decode cL_holds 297 = .ok (.iconst 1, 1) := by decide +kernel
theorem dL_holds_298 : decode cL_holds 298 = .ok (.invokestatic 136, 3) := by decide +kernel
theorem dL_holds_301 : decode cL_holds 301 = .ok (.iload 7, 2) := by decide +kernel
theorem dL_holds_303 : decode cL_holds 303 = .ok (.if_icmp .ge 7, 3) := by decide +kernel
theorem dL_holds_306 : decode cL_holds 306 = .ok (.iconst 1, 1) := by decide +kernel
theorem dL_holds_307 : decode cL_holds 307 = .ok (.goto 4, 3) := by decide +kernel
theorem dL_holds_310 : decode cL_holds 310 = .ok (.iconst 0, 1) := by decide +kernel
theorem dL_holds_311 : decode cL_holds 311 = .ok (.istore 10, 2) := by decide +kernel
theorem dL_holds_313 : decode cL_holds 313 = .ok (.iinc 11 1, 3) := by decide +kernel
theorem dL_holds_316 : decode cL_holds 316 = .ok (.goto (-190), 3) := by decide +kernel
theorem dL_holds_319 : decode cL_holds 319 = .ok (.aload_n 0, 1) := by decide +kernel
theorem dL_holds_320 : decode cL_holds 320 = .ok (.iconst 2, 1) := by decide +kernel
theorem dL_holds_321 : decode cL_holds 321 = .ok (.bipush 6, 2) := by decide +kernel
theorem dL_holds_323 : decode cL_holds 323 = .ok (.iconst 0, 1) := by decide +kernel
theorem dL_holds_324 : decode cL_holds 324 = .ok (.iconst 0, 1) := by decide +kernel
theorem dL_holds_325 : decode cL_holds 325 = .ok (.invokestatic 132, 3) := by decide +kernel
theorem dL_holds_328 : decode cL_holds 328 = .ok (.istore 11, 2) := by decide +kernel
theorem dL_holds_330 : decode cL_holds 330 = .ok (.aload_n 0, 1) := by decide +kernel
theorem dL_holds_331 : decode cL_holds 331 = .ok (.iconst 2, 1) := by decide +kernel
theorem dL_holds_332 : decode cL_holds 332 = .ok (.iconst 4, 1) := by decide +kernel
theorem dL_holds_333 : decode cL_holds 333 = .ok (.iconst 0, 1) := by decide +kernel
theorem dL_holds_334 : decode cL_holds 334 = .ok (.iconst 0, 1) := by decide +kernel
theorem dL_holds_335 : decode cL_holds 335 = .ok (.invokestatic 132, 3) := by decide +kernel
theorem dL_holds_338 : decode cL_holds 338 = .ok (.istore 12, 2) := by decide +kernel
theorem dL_holds_340 : decode cL_holds 340 = .ok (.aload_n 0, 1) := by decide +kernel
theorem dL_holds_341 : decode cL_holds 341 = .ok (.iconst 4, 1) := by decide +kernel
theorem dL_holds_342 : decode cL_holds 342 = .ok (.iconst 1, 1) := by decide +kernel
theorem dL_holds_343 : decode cL_holds 343 = .ok (.iload 12, 2) := by decide +kernel
theorem dL_holds_345 : decode cL_holds 345 = .ok (.isub, 1) := by decide +kernel
theorem dL_holds_346 : decode cL_holds 346 = .ok (.iconst 0, 1) := by decide +kernel
theorem dL_holds_347 : decode cL_holds 347 = .ok (.iconst 0, 1) := by decide +kernel
theorem dL_holds_348 : decode cL_holds 348 = .ok (.invokestatic 132, 3) := by decide +kernel
theorem dL_holds_351 : decode cL_holds 351 = .ok (.aload_n 0, 1) := by decide +kernel
theorem dL_holds_352 : decode cL_holds 352 = .ok (.iconst 4, 1) := by decide +kernel
theorem dL_holds_353 : decode cL_holds 353 = .ok (.iload 12, 2) := by decide +kernel
theorem dL_holds_355 : decode cL_holds 355 = .ok (.iconst 0, 1) := by decide +kernel
theorem dL_holds_356 : decode cL_holds 356 = .ok (.iconst 0, 1) := by decide +kernel
theorem dL_holds_357 : decode cL_holds 357 = .ok (.invokestatic 132, 3) := by decide +kernel
theorem dL_holds_360 : decode cL_holds 360 = .ok (.isub, 1) := by decide +kernel
theorem dL_holds_361 : decode cL_holds 361 = .ok (.iload_n 3, 1) := by decide +kernel
theorem dL_holds_362 : decode cL_holds 362 = .ok (.iadd, 1) := by decide +kernel
theorem dL_holds_363 : decode cL_holds 363 = .ok (.istore 13, 2) := by decide +kernel
theorem dL_holds_365 : decode cL_holds 365 = .ok (.aload_n 0, 1) := by decide +kernel
theorem dL_holds_366 : decode cL_holds 366 = .ok (.bipush 12, 2) := by decide +kernel
theorem dL_holds_368 : decode cL_holds 368 = .ok (.bipush 18, 2) := by decide +kernel
theorem dL_holds_370 : decode cL_holds 370 = .ok (.iconst 1, 1) := by decide +kernel
theorem dL_holds_371 : decode cL_holds 371 = .ok (.iconst 0, 1) := by decide +kernel
theorem dL_holds_372 : decode cL_holds 372 = .ok (.invokestatic 132, 3) := by decide +kernel
theorem dL_holds_375 : decode cL_holds 375 = .ok (.istore 14, 2) := by decide +kernel
theorem dL_holds_377 : decode cL_holds 377 = .ok (.iload 10, 2) := by decide +kernel
theorem dL_holds_379 : decode cL_holds 379 = .ok (.ifCond .eq 225, 3) := by decide +kernel
theorem dL_holds_382 : decode cL_holds 382 = .ok (.aload_n 0, 1) := by decide +kernel
theorem dL_holds_383 : decode cL_holds 383 = .ok (.iconst 2, 1) := by decide +kernel
theorem dL_holds_384 : decode cL_holds 384 = .ok (.iconst 1, 1) := by decide +kernel
theorem dL_holds_385 : decode cL_holds 385 = .ok (.iconst 0, 1) := by decide +kernel
theorem dL_holds_386 : decode cL_holds 386 = .ok (.iconst 0, 1) := by decide +kernel
theorem dL_holds_387 : decode cL_holds 387 = .ok (.invokestatic 132, 3) := by decide +kernel
theorem dL_holds_390 : decode cL_holds 390 = .ok (.iload 5, 2) := by decide +kernel
theorem dL_holds_392 : decode cL_holds 392 = .ok (.if_icmp .ne 212, 3) := by decide +kernel
theorem dL_holds_395 : decode cL_holds 395 = .ok (.aload_n 0, 1) := by decide +kernel
theorem dL_holds_396 : decode cL_holds 396 = .ok (.iconst 2, 1) := by decide +kernel
theorem dL_holds_397 : decode cL_holds 397 = .ok (.iconst 2, 1) := by decide +kernel
theorem dL_holds_398 : decode cL_holds 398 = .ok (.iconst 0, 1) := by decide +kernel
theorem dL_holds_399 : decode cL_holds 399 = .ok (.iconst 0, 1) := by decide +kernel
theorem dL_holds_400 : decode cL_holds 400 = .ok (.invokestatic 132, 3) := by decide +kernel
theorem dL_holds_403 : decode cL_holds 403 = .ok (.iload 6, 2) := by decide +kernel
theorem dL_holds_405 : decode cL_holds 405 = .ok (.if_icmp .ne 199, 3) := by decide +kernel
theorem dL_holds_408 : decode cL_holds 408 = .ok (.aload_n 0, 1) := by decide +kernel
theorem dL_holds_409 : decode cL_holds 409 = .ok (.iconst 2, 1) := by decide +kernel
theorem dL_holds_410 : decode cL_holds 410 = .ok (.bipush 7, 2) := by decide +kernel
theorem dL_holds_412 : decode cL_holds 412 = .ok (.iconst 0, 1) := by decide +kernel
theorem dL_holds_413 : decode cL_holds 413 = .ok (.iconst 0, 1) := by decide +kernel
theorem dL_holds_414 : decode cL_holds 414 = .ok (.invokestatic 132, 3) := by decide +kernel
theorem dL_holds_417 : decode cL_holds 417 = .ok (.iload 7, 2) := by decide +kernel
theorem dL_holds_419 : decode cL_holds 419 = .ok (.if_icmp .ne 185, 3) := by decide +kernel
theorem dL_holds_422 : decode cL_holds 422 = .ok (.aload_n 0, 1) := by decide +kernel
theorem dL_holds_423 : decode cL_holds 423 = .ok (.iconst 2, 1) := by decide +kernel
theorem dL_holds_424 : decode cL_holds 424 = .ok (.bipush 8, 2) := by decide +kernel
theorem dL_holds_426 : decode cL_holds 426 = .ok (.iconst 0, 1) := by decide +kernel
theorem dL_holds_427 : decode cL_holds 427 = .ok (.iconst 0, 1) := by decide +kernel
theorem dL_holds_428 : decode cL_holds 428 = .ok (.invokestatic 132, 3) := by decide +kernel
theorem dL_holds_431 : decode cL_holds 431 = .ok (.iload 8, 2) := by decide +kernel
theorem dL_holds_433 : decode cL_holds 433 = .ok (.if_icmp .ne 171, 3) := by decide +kernel
theorem dL_holds_436 : decode cL_holds 436 = .ok (.aload_n 0, 1) := by decide +kernel
theorem dL_holds_437 : decode cL_holds 437 = .ok (.invokevirtual 155, 3) := by decide +kernel
theorem dL_holds_440 : decode cL_holds 440 = .ok (.iload 9, 2) := by decide +kernel
theorem dL_holds_442 : decode cL_holds 442 = .ok (.if_icmp .ne 162, 3) := by decide +kernel
theorem dL_holds_445 : decode cL_holds 445 = .ok (.iload 11, 2) := by decide +kernel
theorem dL_holds_447 : decode cL_holds 447 = .ok (.iconst 1, 1) := by decide +kernel
theorem dL_holds_448 : decode cL_holds 448 = .ok (.if_icmp .ne 7, 3) := by decide +kernel
theorem dL_holds_451 : decode cL_holds 451 = .ok (.iconst 1, 1) := by decide +kernel
theorem dL_holds_452 : decode cL_holds 452 = .ok (.goto 4, 3) := by decide +kernel
theorem dL_holds_455 : decode cL_holds 455 = .ok (.iconst 0, 1) := by decide +kernel
theorem dL_holds_456 : decode cL_holds 456 = .ok (.iload 5, 2) := by decide +kernel
theorem dL_holds_458 : decode cL_holds 458 = .ok (.ifCond .ne 7, 3) := by decide +kernel
theorem dL_holds_461 : decode cL_holds 461 = .ok (.iconst 1, 1) := by decide +kernel
theorem dL_holds_462 : decode cL_holds 462 = .ok (.goto 4, 3) := by decide +kernel
theorem dL_holds_465 : decode cL_holds 465 = .ok (.iconst 0, 1) := by decide +kernel
theorem dL_holds_466 : decode cL_holds 466 = .ok (.if_icmp .ne 138, 3) := by decide +kernel
theorem dL_holds_469 : decode cL_holds 469 = .ok (.iload 4, 2) := by decide +kernel
theorem dL_holds_471 : decode cL_holds 471 = .ok (.iconst (-1), 1) := by decide +kernel
theorem dL_holds_472 : decode cL_holds 472 = .ok (.if_icmp .ne 7, 3) := by decide +kernel
theorem dL_holds_475 : decode cL_holds 475 = .ok (.iconst 1, 1) := by decide +kernel
theorem dL_holds_476 : decode cL_holds 476 = .ok (.goto 4, 3) := by decide +kernel
theorem dL_holds_479 : decode cL_holds 479 = .ok (.iconst 0, 1) := by decide +kernel
theorem dL_holds_480 : decode cL_holds 480 = .ok (.iload 11, 2) := by decide +kernel
theorem dL_holds_482 : decode cL_holds 482 = .ok (.iconst 1, 1) := by decide +kernel
theorem dL_holds_483 : decode cL_holds 483 = .ok (.if_icmp .ne 7, 3) := by decide +kernel
theorem dL_holds_486 : decode cL_holds 486 = .ok (.iconst 1, 1) := by decide +kernel
theorem dL_holds_487 : decode cL_holds 487 = .ok (.goto 4, 3) := by decide +kernel
theorem dL_holds_490 : decode cL_holds 490 = .ok (.iconst 0, 1) := by decide +kernel
theorem dL_holds_491 : decode cL_holds 491 = .ok (.if_icmp .ne 113, 3) := by decide +kernel
theorem dL_holds_494 : decode cL_holds 494 = .ok (.iload 11, 2) := by decide +kernel
theorem dL_holds_496 : decode cL_holds 496 = .ok (.ifCond .eq 12, 3) := by decide +kernel
theorem dL_holds_499 : decode cL_holds 499 = .ok (.iload_n 3, 1) := by decide +kernel
theorem dL_holds_500 : decode cL_holds 500 = .ok (.ifCond .ne 104, 3) := by decide +kernel
theorem dL_holds_503 : decode cL_holds 503 = .ok (.iload 8, 2) := by decide +kernel
theorem dL_holds_505 : decode cL_holds 505 = .ok (.ifCond .ne 99, 3) := by decide +kernel
theorem dL_holds_508 : decode cL_holds 508 = .ok (.aload_n 0, 1) := by decide +kernel
theorem dL_holds_509 : decode cL_holds 509 = .ok (.iconst 2, 1) := by decide +kernel
theorem dL_holds_510 : decode cL_holds 510 = .ok (.iconst 5, 1) := by decide +kernel
theorem dL_holds_511 : decode cL_holds 511 = .ok (.iconst 0, 1) := by decide +kernel
theorem dL_holds_512 : decode cL_holds 512 = .ok (.iconst 0, 1) := by decide +kernel
theorem dL_holds_513 : decode cL_holds 513 = .ok (.invokestatic 132, 3) := by decide +kernel
theorem dL_holds_516 : decode cL_holds 516 = .ok (.aload_n 0, 1) := by decide +kernel
theorem dL_holds_517 : decode cL_holds 517 = .ok (.iconst 4, 1) := by decide +kernel
theorem dL_holds_518 : decode cL_holds 518 = .ok (.iconst 0, 1) := by decide +kernel
theorem dL_holds_519 : decode cL_holds 519 = .ok (.iconst 1, 1) := by decide +kernel
theorem dL_holds_520 : decode cL_holds 520 = .ok (.iconst 0, 1) := by decide +kernel
theorem dL_holds_521 : decode cL_holds 521 = .ok (.invokestatic 132, 3) := by decide +kernel
theorem dL_holds_524 : decode cL_holds 524 = .ok (.aload_n 0, 1) := by decide +kernel
theorem dL_holds_525 : decode cL_holds 525 = .ok (.iconst 4, 1) := by decide +kernel
theorem dL_holds_526 : decode cL_holds 526 = .ok (.iconst 1, 1) := by decide +kernel
theorem dL_holds_527 : decode cL_holds 527 = .ok (.iconst 1, 1) := by decide +kernel
theorem dL_holds_528 : decode cL_holds 528 = .ok (.iconst 0, 1) := by decide +kernel
theorem dL_holds_529 : decode cL_holds 529 = .ok (.invokestatic 132, 3) := by decide +kernel
theorem dL_holds_532 : decode cL_holds 532 = .ok (.iadd, 1) := by decide +kernel
theorem dL_holds_533 : decode cL_holds 533 = .ok (.if_icmp .ne 71, 3) := by decide +kernel
theorem dL_holds_536 : decode cL_holds 536 = .ok (.aload_n 0, 1) := by decide +kernel
theorem dL_holds_537 : decode cL_holds 537 = .ok (.invokevirtual 158, 3) := by decide +kernel
theorem dL_holds_540 : decode cL_holds 540 = .ok (.iload 13, 2) := by decide +kernel
theorem dL_holds_542 : decode cL_holds 542 = .ok (.ifCond .le 8, 3) := by decide +kernel
theorem dL_holds_545 : decode cL_holds 545 = .ok (.iload 12, 2) := by decide +kernel
theorem dL_holds_547 : decode cL_holds 547 = .ok (.goto 16, 3) := by decide +kernel
theorem dL_holds_550 : decode cL_holds 550 = .ok (.iload 13, 2) := by decide +kernel
theorem dL_holds_552 : decode cL_holds 552 = .ok (.ifCond .ge 10, 3) := by decide +kernel
theorem dL_holds_555 : decode cL_holds 555 = .ok (.iconst 1, 1) := by decide +kernel
theorem dL_holds_556 : decode cL_holds 556 = .ok (.iload 12, 2) := by decide +kernel
theorem dL_holds_558 : decode cL_holds 558 = .ok (.isub, 1) := by decide +kernel
theorem dL_holds_559 : decode cL_holds 559 = .ok (.goto 4, 3) := by decide +kernel
theorem dL_holds_562 : decode cL_holds 562 = .ok (.iconst 2, 1) := by decide +kernel
theorem dL_holds_563 : decode cL_holds 563 = .ok (.if_icmp .ne 41, 3) := by decide +kernel
theorem dL_holds_566 : decode cL_holds 566 = .ok (.iload 14, 2) := by decide +kernel
theorem dL_holds_568 : decode cL_holds 568 = .ok (.iload 5, 2) := by decide +kernel
theorem dL_holds_570 : decode cL_holds 570 = .ok (.if_icmp .gt 34, 3) := by decide +kernel
theorem dL_holds_573 : decode cL_holds 573 = .ok (.iload 14, 2) := by decide +kernel
theorem dL_holds_575 : decode cL_holds 575 = .ok (.bipush 18, 2) := by decide +kernel
theorem dL_holds_577 : decode cL_holds 577 = .ok (.if_icmp .gt 27, 3) := by decide +kernel
theorem dL_holds_580 : decode cL_holds 580 = .ok (.aload_n 0, 1) := by decide +kernel
theorem dL_holds_581 : decode cL_holds 581 = .ok (.bipush 12, 2) := by decide +kernel
theorem dL_holds_583 : decode cL_holds 583 = .ok (.bipush 18, 2) := by decide +kernel
theorem dL_holds_585 : decode cL_holds 585 = .ok (.iconst 0, 1) := by decide +kernel
theorem dL_holds_586 : decode cL_holds 586 = .ok (.iconst 0, 1) := by decide +kernel
theorem dL_holds_587 : decode cL_holds 587 = .ok (.invokestatic 132, 3) := by decide +kernel
theorem dL_holds_590 : decode cL_holds 590 = .ok (.ifCond .eq 10, 3) := by decide +kernel
theorem dL_holds_593 : decode cL_holds 593 = .ok (.iload 14, 2) := by decide +kernel
theorem dL_holds_595 : decode cL_holds 595 = .ok (.bipush 18, 2) := by decide +kernel
theorem dL_holds_597 : decode cL_holds 597 = .ok (.if_icmp .ne 7, 3) := by decide +kernel
theorem dL_holds_600 : decode cL_holds 600 = .ok (.iconst 1, 1) := by decide +kernel
theorem dL_holds_601 : decode cL_holds 601 = .ok (.goto 4, 3) := by decide +kernel
theorem dL_holds_604 : decode cL_holds 604 = .ok (.iconst 0, 1) := by decide +kernel
theorem dL_holds_605 : decode cL_holds 605 = .ok (.ireturn, 1) := by decide +kernel
theorem dL_act_0 : decode cL_act 0 = .ok (.iload_n 1, 1) := by decide +kernel
theorem dL_act_1 : decode cL_act 1 = .ok (.bipush 16, 2) := by decide +kernel
theorem dL_act_3 : decode cL_act 3 = .ok (.idiv, 1) := by decide +kernel
theorem dL_act_4 : decode cL_act 4 = .ok (.istore_n 2, 1) := by decide +kernel
theorem dL_act_5 : decode cL_act 5 = .ok (.aload_n 0, 1) := by decide +kernel
theorem dL_act_6 : decode cL_act 6 = .ok (.iconst 2, 1) := by decide +kernel
theorem dL_act_7 : decode cL_act 7 = .ok (.iconst 0, 1) := by decide +kernel
theorem dL_act_8 : decode cL_act 8 = .ok (.iconst 0, 1) := by decide +kernel
theorem dL_act_9 : decode cL_act 9 = .ok (.iconst 0, 1) := by decide +kernel
theorem dL_act_10 : decode cL_act 10 = .ok (.invokestatic 132, 3) := by decide +kernel
theorem dL_act_13 : decode cL_act 13 = .ok (.istore_n 3, 1) := by decide +kernel
theorem dL_act_14 : decode cL_act 14 = .ok (.aload_n 0, 1) := by decide +kernel
theorem dL_act_15 : decode cL_act 15 = .ok (.iconst 5, 1) := by decide +kernel
theorem dL_act_16 : decode cL_act 16 = .ok (.iconst 1, 1) := by decide +kernel
theorem dL_act_17 : decode cL_act 17 = .ok (.iconst 0, 1) := by decide +kernel
theorem dL_act_18 : decode cL_act 18 = .ok (.iconst 0, 1) := by decide +kernel
theorem dL_act_19 : decode cL_act 19 = .ok (.invokestatic 132, 3) := by decide +kernel
theorem dL_act_22 : decode cL_act 22 = .ok (.istore 4, 2) := by decide +kernel
theorem dL_act_24 : decode cL_act 24 = .ok (.iload_n 2, 1) := by decide +kernel
theorem dL_act_25 : decode cL_act 25 = .ok (.iload_n 3, 1) := by decide +kernel
theorem dL_act_26 : decode cL_act 26 = .ok (.irem, 1) := by decide +kernel
theorem dL_act_27 : decode cL_act 27 = .ok (.istore 5, 2) := by decide +kernel
theorem dL_act_29 : decode cL_act 29 = .ok (.iload_n 1, 1) := by decide +kernel
theorem dL_act_30 : decode cL_act 30 = .ok (.bipush 16, 2) := by decide +kernel
theorem dL_act_32 : decode cL_act 32 = .ok (.irem, 1) := by decide +kernel
theorem dL_act_33 : decode cL_act 33 = .ok (.tableswitch 190 0 9 #[55, 81, 81, 81, 81, 92, 104, 109, 144, 154], 55) := by decide +kernel
theorem dL_act_88 : decode cL_act 88 = .ok (.aload_n 0, 1) := by decide +kernel
theorem dL_act_89 : decode cL_act 89 = .ok (.bipush 6, 2) := by decide +kernel
theorem dL_act_91 : decode cL_act 91 = .ok (.iconst 2, 1) := by decide +kernel
theorem dL_act_92 : decode cL_act 92 = .ok (.iload_n 2, 1) := by decide +kernel
theorem dL_act_93 : decode cL_act 93 = .ok (.iconst 3, 1) := by decide +kernel
theorem dL_act_94 : decode cL_act 94 = .ok (.irem, 1) := by decide +kernel
theorem dL_act_95 : decode cL_act 95 = .ok (.iadd, 1) := by decide +kernel
theorem dL_act_96 : decode cL_act 96 = .ok (.iload_n 2, 1) := by decide +kernel
theorem dL_act_97 : decode cL_act 97 = .ok (.iconst 3, 1) := by decide +kernel
theorem dL_act_98 : decode cL_act 98 = .ok (.idiv, 1) := by decide +kernel
theorem dL_act_99 : decode cL_act 99 = .ok (.iconst 1, 1) := by decide +kernel
theorem dL_act_100 : decode cL_act 100 = .ok (.iconst 2, 1) := by decide +kernel
theorem dL_act_101 : decode cL_act 101 = .ok (.iconst 2, 1) := by decide +kernel
theorem dL_act_102 : decode cL_act 102 = .ok (.iload_n 2, 1) := by decide +kernel
theorem dL_act_103 : decode cL_act 103 = .ok (.iconst 3, 1) := by decide +kernel
theorem dL_act_104 : decode cL_act 104 = .ok (.irem, 1) := by decide +kernel
theorem dL_act_105 : decode cL_act 105 = .ok (.iadd, 1) := by decide +kernel
theorem dL_act_106 : decode cL_act 106 = .ok (.imul, 1) := by decide +kernel
theorem dL_act_107 : decode cL_act 107 = .ok (.ishl, 1) := by decide +kernel
theorem dL_act_108 : decode cL_act 108 = .ok (.irem, 1) := by decide +kernel
theorem dL_act_109 : decode cL_act 109 = .ok (.iconst 0, 1) := by decide +kernel
theorem dL_act_110 : decode cL_act 110 = .ok (.invokestatic 132, 3) := by decide +kernel
theorem dL_act_113 : decode cL_act 113 = .ok (.ireturn, 1) := by decide +kernel
theorem dL_act_114 : decode cL_act 114 = .ok (.aload_n 0, 1) := by decide +kernel
theorem dL_act_115 : decode cL_act 115 = .ok (.bipush 8, 2) := by decide +kernel
theorem dL_act_117 : decode cL_act 117 = .ok (.iload 5, 2) := by decide +kernel
theorem dL_act_119 : decode cL_act 119 = .ok (.iconst 0, 1) := by decide +kernel
theorem dL_act_120 : decode cL_act 120 = .ok (.iconst 0, 1) := by decide +kernel
theorem dL_act_121 : decode cL_act 121 = .ok (.invokestatic 132, 3) := by decide +kernel
theorem dL_act_124 : decode cL_act 124 = .ok (.ireturn, 1) := by decide +kernel
theorem dL_act_125 : decode cL_act 125 = .ok (.aload_n 0, 1) := by decide +kernel
theorem dL_act_126 : decode cL_act 126 = .ok (.bipush 9, 2) := by decide +kernel
theorem dL_act_128 : decode cL_act 128 = .ok (.iload_n 2, 1) := by decide +kernel
theorem dL_act_129 : decode cL_act 129 = .ok (.iconst 3, 1) := by decide +kernel
theorem dL_act_130 : decode cL_act 130 = .ok (.irem, 1) := by decide +kernel
theorem dL_act_131 : decode cL_act 131 = .ok (.iconst 0, 1) := by decide +kernel
theorem dL_act_132 : decode cL_act 132 = .ok (.iconst 0, 1) := by decide +kernel
theorem dL_act_133 : decode cL_act 133 = .ok (.invokestatic 132, 3) := by decide +kernel
theorem dL_act_136 : decode cL_act 136 = .ok (.ireturn, 1) := by decide +kernel
theorem dL_act_137 : decode cL_act 137 = .ok (.aload_n 0, 1) := by decide +kernel
theorem dL_act_138 : decode cL_act 138 = .ok (.invokevirtual 161, 3) := by decide +kernel
theorem dL_act_141 : decode cL_act 141 = .ok (.ireturn, 1) := by decide +kernel
theorem dL_act_142 : decode cL_act 142 = .ok (.aload_n 0, 1) := by decide +kernel
theorem dL_act_143 : decode cL_act 143 = .ok (.bipush 10, 2) := by decide +kernel
theorem dL_act_145 : decode cL_act 145 = .ok (.iload_n 2, 1) := by decide +kernel
theorem dL_act_146 : decode cL_act 146 = .ok (.iconst 2, 1) := by decide +kernel
theorem dL_act_147 : decode cL_act 147 = .ok (.irem, 1) := by decide +kernel
theorem dL_act_148 : decode cL_act 148 = .ok (.iload_n 2, 1) := by decide +kernel
theorem dL_act_149 : decode cL_act 149 = .ok (.iconst 2, 1) := by decide +kernel
theorem dL_act_150 : decode cL_act 150 = .ok (.irem, 1) := by decide +kernel
theorem dL_act_151 : decode cL_act 151 = .ok (.ifCond .ne 14, 3) := by decide +kernel
theorem dL_act_154 : decode cL_act 154 = .ok (.iconst 1, 1) := by decide +kernel
theorem dL_act_155 : decode cL_act 155 = .ok (.iload_n 2, 1) := by decide +kernel
theorem dL_act_156 : decode cL_act 156 = .ok (.iconst 2, 1) := by decide +kernel
theorem dL_act_157 : decode cL_act 157 = .ok (.idiv, 1) := by decide +kernel
theorem dL_act_158 : decode cL_act 158 = .ok (.bipush 9, 2) := by decide +kernel
theorem dL_act_160 : decode cL_act 160 = .ok (.irem, 1) := by decide +kernel
theorem dL_act_161 : decode cL_act 161 = .ok (.iadd, 1) := by decide +kernel
theorem dL_act_162 : decode cL_act 162 = .ok (.goto 10, 3) := by decide +kernel
theorem dL_act_165 : decode cL_act 165 = .ok (.iconst 1, 1) := by decide +kernel
theorem dL_act_166 : decode cL_act 166 = .ok (.iload_n 2, 1) := by decide +kernel
theorem dL_act_167 : decode cL_act 167 = .ok (.iconst 2, 1) := by decide +kernel
theorem dL_act_168 : decode cL_act 168 = .ok (.idiv, 1) := by decide +kernel
theorem dL_act_169 : decode cL_act 169 = .ok (.iconst 3, 1) := by decide +kernel
theorem dL_act_170 : decode cL_act 170 = .ok (.irem, 1) := by decide +kernel
theorem dL_act_171 : decode cL_act 171 = .ok (.iadd, 1) := by decide +kernel
theorem dL_act_172 : decode cL_act 172 = .ok (.iconst 0, 1) := by decide +kernel
theorem dL_act_173 : decode cL_act 173 = .ok (.invokestatic 132, 3) := by decide +kernel
theorem dL_act_176 : decode cL_act 176 = .ok (.ireturn, 1) := by decide +kernel
theorem dL_act_177 : decode cL_act 177 = .ok (.aload_n 0, 1) := by decide +kernel
theorem dL_act_178 : decode cL_act 178 = .ok (.bipush 11, 2) := by decide +kernel
theorem dL_act_180 : decode cL_act 180 = .ok (.iconst 0, 1) := by decide +kernel
theorem dL_act_181 : decode cL_act 181 = .ok (.iconst 0, 1) := by decide +kernel
theorem dL_act_182 : decode cL_act 182 = .ok (.iconst 0, 1) := by decide +kernel
theorem dL_act_183 : decode cL_act 183 = .ok (.invokestatic 132, 3) := by decide +kernel
theorem dL_act_186 : decode cL_act 186 = .ok (.ireturn, 1) := by decide +kernel
theorem dL_act_187 : decode cL_act 187 = .ok (.iload_n 2, 1) := by decide +kernel
theorem dL_act_188 : decode cL_act 188 = .ok (.iconst 2, 1) := by decide +kernel
theorem dL_act_189 : decode cL_act 189 = .ok (.irem, 1) := by decide +kernel
theorem dL_act_190 : decode cL_act 190 = .ok (.ifCond .ne 19, 3) := by decide +kernel
theorem dL_act_193 : decode cL_act 193 = .ok (.aload_n 0, 1) := by decide +kernel
theorem dL_act_194 : decode cL_act 194 = .ok (.bipush 13, 2) := by decide +kernel
theorem dL_act_196 : decode cL_act 196 = .ok (.iload_n 2, 1) := by decide +kernel
theorem dL_act_197 : decode cL_act 197 = .ok (.iconst 2, 1) := by decide +kernel
theorem dL_act_198 : decode cL_act 198 = .ok (.idiv, 1) := by decide +kernel
theorem dL_act_199 : decode cL_act 199 = .ok (.iconst 2, 1) := by decide +kernel
theorem dL_act_200 : decode cL_act 200 = .ok (.irem, 1) := by decide +kernel
theorem dL_act_201 : decode cL_act 201 = .ok (.iconst 0, 1) := by decide +kernel
theorem dL_act_202 : decode cL_act 202 = .ok (.iconst 0, 1) := by decide +kernel
theorem dL_act_203 : decode cL_act 203 = .ok (.invokestatic 132, 3) := by decide +kernel
theorem dL_act_206 : decode cL_act 206 = .ok (.goto 16, 3) := by decide +kernel
theorem dL_act_209 : decode cL_act 209 = .ok (.aload_n 0, 1) := by decide +kernel
theorem dL_act_210 : decode cL_act 210 = .ok (.bipush 14, 2) := by decide +kernel
theorem dL_act_212 : decode cL_act 212 = .ok (.iload_n 2, 1) := by decide +kernel
theorem dL_act_213 : decode cL_act 213 = .ok (.iconst 2, 1) := by decide +kernel
theorem dL_act_214 : decode cL_act 214 = .ok (.idiv, 1) := by decide +kernel
theorem dL_act_215 : decode cL_act 215 = .ok (.iconst 2, 1) := by decide +kernel
theorem dL_act_216 : decode cL_act 216 = .ok (.irem, 1) := by decide +kernel
theorem dL_act_217 : decode cL_act 217 = .ok (.iconst 0, 1) := by decide +kernel
theorem dL_act_218 : decode cL_act 218 = .ok (.iconst 0, 1) := by decide +kernel
theorem dL_act_219 : decode cL_act 219 = .ok (.invokestatic 132, 3) := by decide +kernel
theorem dL_act_222 : decode cL_act 222 = .ok (.ireturn, 1) := by decide +kernel
theorem dL_act_223 : decode cL_act 223 = .ok (.aload_n 0, 1) := by decide +kernel
theorem dL_act_224 : decode cL_act 224 = .ok (.bipush 7, 2) := by decide +kernel
theorem dL_act_226 : decode cL_act 226 = .ok (.iload 5, 2) := by decide +kernel
theorem dL_act_228 : decode cL_act 228 = .ok (.iload 5, 2) := by decide +kernel
theorem dL_act_230 : decode cL_act 230 = .ok (.iload_n 2, 1) := by decide +kernel
theorem dL_act_231 : decode cL_act 231 = .ok (.bipush 8, 2) := by decide +kernel
theorem dL_act_233 : decode cL_act 233 = .ok (.idiv, 1) := by decide +kernel
theorem dL_act_234 : decode cL_act 234 = .ok (.iload 4, 2) := by decide +kernel
theorem dL_act_236 : decode cL_act 236 = .ok (.irem, 1) := by decide +kernel
theorem dL_act_237 : decode cL_act 237 = .ok (.iadd, 1) := by decide +kernel
theorem dL_act_238 : decode cL_act 238 = .ok (.iconst 1, 1) := by decide +kernel
theorem dL_act_239 : decode cL_act 239 = .ok (.iload_n 2, 1) := by decide +kernel
theorem dL_act_240 : decode cL_act 240 = .ok (.bipush 32, 2) := by decide +kernel
theorem dL_act_242 : decode cL_act 242 = .ok (.idiv, 1) := by decide +kernel
theorem dL_act_243 : decode cL_act 243 = .ok (.iconst 3, 1) := by decide +kernel
theorem dL_act_244 : decode cL_act 244 = .ok (.irem, 1) := by decide +kernel
theorem dL_act_245 : decode cL_act 245 = .ok (.iadd, 1) := by decide +kernel
theorem dL_act_246 : decode cL_act 246 = .ok (.invokestatic 132, 3) := by decide +kernel
theorem dL_act_249 : decode cL_act 249 = .ok (.ireturn, 1) := by decide +kernel
theorem dL_alike_0 : decode cL_alike 0 = .ok (.aload_n 0, 1) := by decide +kernel
theorem dL_alike_1 : decode cL_alike 1 = .ok (.iload_n 2, 1) := by decide +kernel
theorem dL_alike_2 : decode cL_alike 2 = .ok (.i2l, 1) := by decide +kernel
theorem dL_alike_3 : decode cL_alike 3 = .ok (.iconst 1, 1) := by decide +kernel
theorem dL_alike_4 : decode cL_alike 4 = .ok (.iload_n 2, 1) := by decide +kernel
theorem dL_alike_5 : decode cL_alike 5 = .ok (.bipush 30, 2) := by decide +kernel
theorem dL_alike_7 : decode cL_alike 7 = .ok (.irem, 1) := by decide +kernel
theorem dL_alike_8 : decode cL_alike 8 = .ok (.iadd, 1) := by decide +kernel
theorem dL_alike_9 : decode cL_alike 9 = .ok (.invokestatic 145, 3) := by decide +kernel
theorem dL_alike_12 : decode cL_alike 12 = .ok (.aload_n 1, 1) := by decide +kernel
theorem dL_alike_13 : decode cL_alike 13 = .ok (.iload_n 2, 1) := by decide +kernel
theorem dL_alike_14 : decode cL_alike 14 = .ok (.i2l, 1) := by decide +kernel
theorem dL_alike_15 : decode cL_alike 15 = .ok (.iconst 1, 1) := by decide +kernel
theorem dL_alike_16 : decode cL_alike 16 = .ok (.iload_n 2, 1) := by decide +kernel
theorem dL_alike_17 : decode cL_alike 17 = .ok (.bipush 30, 2) := by decide +kernel
theorem dL_alike_19 : decode cL_alike 19 = .ok (.irem, 1) := by decide +kernel
theorem dL_alike_20 : decode cL_alike 20 = .ok (.iadd, 1) := by decide +kernel
theorem dL_alike_21 : decode cL_alike 21 = .ok (.invokestatic 145, 3) := by decide +kernel
theorem dL_alike_24 : decode cL_alike 24 = .ok (.if_icmp .ne 29, 3) := by decide +kernel
theorem dL_alike_27 : decode cL_alike 27 = .ok (.aload_n 0, 1) := by decide +kernel
theorem dL_alike_28 : decode cL_alike 28 = .ok (.invokevirtual 149, 3) := by decide +kernel
theorem dL_alike_31 : decode cL_alike 31 = .ok (.aload_n 1, 1) := by decide +kernel
theorem dL_alike_32 : decode cL_alike 32 = .ok (.invokevirtual 149, 3) := by decide +kernel
theorem dL_alike_35 : decode cL_alike 35 = .ok (.if_icmp .ne 18, 3) := by decide +kernel
theorem dL_alike_38 : decode cL_alike 38 = .ok (.aload_n 0, 1) := by decide +kernel
theorem dL_alike_39 : decode cL_alike 39 = .ok (.invokevirtual 164, 3) := by decide +kernel
theorem dL_alike_42 : decode cL_alike 42 = .ok (.aload_n 1, 1) := by decide +kernel
theorem dL_alike_43 : decode cL_alike 43 = .ok (.invokevirtual 164, 3) := by decide +kernel
theorem dL_alike_46 : decode cL_alike 46 = .ok (.if_icmp .ne 7, 3) := by decide +kernel
theorem dL_alike_49 : decode cL_alike 49 = .ok (.iconst 1, 1) := by decide +kernel
theorem dL_alike_50 : decode cL_alike 50 = .ok (.goto 4, 3) := by decide +kernel
theorem dL_alike_53 : decode cL_alike 53 = .ok (.iconst 0, 1) := by decide +kernel
theorem dL_alike_54 : decode cL_alike 54 = .ok (.istore_n 3, 1) := by decide +kernel
theorem dL_alike_55 : decode cL_alike 55 = .ok (.iconst 0, 1) := by decide +kernel
theorem dL_alike_56 : decode cL_alike 56 = .ok (.istore 4, 2) := by decide +kernel
theorem dL_alike_58 : decode cL_alike 58 = .ok (.iload 4, 2) := by decide +kernel
theorem dL_alike_60 : decode cL_alike 60 = .ok (.bipush 9, 2) := by decide +kernel
theorem dL_alike_62 : decode cL_alike 62 = .ok (.if_icmp .ge 113, 3) := by decide +kernel
theorem dL_alike_65 : decode cL_alike 65 = .ok (.iload_n 3, 1) := by decide +kernel
theorem dL_alike_66 : decode cL_alike 66 = .ok (.ifCond .eq 109, 3) := by decide +kernel
theorem dL_alike_69 : decode cL_alike 69 = .ok (.aload_n 0, 1) := by decide +kernel
theorem dL_alike_70 : decode cL_alike 70 = .ok (.iconst 2, 1) := by decide +kernel
theorem dL_alike_71 : decode cL_alike 71 = .ok (.iload 4, 2) := by decide +kernel
theorem dL_alike_73 : decode cL_alike 73 = .ok (.iconst 0, 1) := by decide +kernel
theorem dL_alike_74 : decode cL_alike 74 = .ok (.iconst 0, 1) := by decide +kernel
theorem dL_alike_75 : decode cL_alike 75 = .ok (.invokestatic 132, 3) := by decide +kernel
theorem dL_alike_78 : decode cL_alike 78 = .ok (.aload_n 1, 1) := by decide +kernel
theorem dL_alike_79 : decode cL_alike 79 = .ok (.iconst 2, 1) := by decide +kernel
theorem dL_alike_80 : decode cL_alike 80 = .ok (.iload 4, 2) := by decide +kernel
theorem dL_alike_82 : decode cL_alike 82 = .ok (.iconst 0, 1) := by decide +kernel
theorem dL_alike_83 : decode cL_alike 83 = .ok (.iconst 0, 1) := by decide +kernel
theorem dL_alike_84 : decode cL_alike 84 = .ok (.invokestatic 132, 3) := by decide +kernel
theorem dL_alike_87 : decode cL_alike 87 = .ok (.if_icmp .ne 80, 3) := by decide +kernel
theorem dL_alike_90 : decode cL_alike 90 = .ok (.aload_n 0, 1) := by decide +kernel
theorem dL_alike_91 : decode cL_alike 91 = .ok (.iconst 5, 1) := by decide +kernel
theorem dL_alike_92 : decode cL_alike 92 = .ok (.iload 4, 2) := by decide +kernel
theorem dL_alike_94 : decode cL_alike 94 = .ok (.iconst 0, 1) := by decide +kernel
theorem dL_alike_95 : decode cL_alike 95 = .ok (.iconst 0, 1) := by decide +kernel
theorem dL_alike_96 : decode cL_alike 96 = .ok (.invokestatic 132, 3) := by decide +kernel
theorem dL_alike_99 : decode cL_alike 99 = .ok (.aload_n 1, 1) := by decide +kernel
theorem dL_alike_100 : decode cL_alike 100 = .ok (.iconst 5, 1) := by decide +kernel
theorem dL_alike_101 : decode cL_alike 101 = .ok (.iload 4, 2) := by decide +kernel
theorem dL_alike_103 : decode cL_alike 103 = .ok (.iconst 0, 1) := by decide +kernel
theorem dL_alike_104 : decode cL_alike 104 = .ok (.iconst 0, 1) := by decide +kernel
theorem dL_alike_105 : decode cL_alike 105 = .ok (.invokestatic 132, 3) := by decide +kernel
theorem dL_alike_108 : decode cL_alike 108 = .ok (.if_icmp .ne 59, 3) := by decide +kernel
theorem dL_alike_111 : decode cL_alike 111 = .ok (.aload_n 0, 1) := by decide +kernel
theorem dL_alike_112 : decode cL_alike 112 = .ok (.iconst 3, 1) := by decide +kernel
theorem dL_alike_113 : decode cL_alike 113 = .ok (.iload 4, 2) := by decide +kernel
theorem dL_alike_115 : decode cL_alike 115 = .ok (.iconst 0, 1) := by decide +kernel
theorem dL_alike_116 : decode cL_alike 116 = .ok (.iconst 0, 1) := by decide +kernel
theorem dL_alike_117 : decode cL_alike 117 = .ok (.invokestatic 132, 3) := by decide +kernel
theorem dL_alike_120 : decode cL_alike 120 = .ok (.aload_n 1, 1) := by decide +kernel
theorem dL_alike_121 : decode cL_alike 121 = .ok (.iconst 3, 1) := by decide +kernel
theorem dL_alike_122 : decode cL_alike 122 = .ok (.iload 4, 2) := by decide +kernel
theorem dL_alike_124 : decode cL_alike 124 = .ok (.iconst 0, 1) := by decide +kernel
theorem dL_alike_125 : decode cL_alike 125 = .ok (.iconst 0, 1) := by decide +kernel
theorem dL_alike_126 : decode cL_alike 126 = .ok (.invokestatic 132, 3) := by decide +kernel
theorem dL_alike_129 : decode cL_alike 129 = .ok (.if_icmp .ne 38, 3) := by decide +kernel
theorem dL_alike_132 : decode cL_alike 132 = .ok (.aload_n 0, 1) := by decide +kernel
theorem dL_alike_133 : decode cL_alike 133 = .ok (.iconst 4, 1) := by decide +kernel
theorem dL_alike_134 : decode cL_alike 134 = .ok (.iload 4, 2) := by decide +kernel
theorem dL_alike_136 : decode cL_alike 136 = .ok (.iconst 2, 1) := by decide +kernel
theorem dL_alike_137 : decode cL_alike 137 = .ok (.irem, 1) := by decide +kernel
theorem dL_alike_138 : decode cL_alike 138 = .ok (.iload 4, 2) := by decide +kernel
theorem dL_alike_140 : decode cL_alike 140 = .ok (.iconst 2, 1) := by decide +kernel
theorem dL_alike_141 : decode cL_alike 141 = .ok (.idiv, 1) := by decide +kernel
theorem dL_alike_142 : decode cL_alike 142 = .ok (.iconst 0, 1) := by decide +kernel
theorem dL_alike_143 : decode cL_alike 143 = .ok (.invokestatic 132, 3) := by decide +kernel
theorem dL_alike_146 : decode cL_alike 146 = .ok (.aload_n 1, 1) := by decide +kernel
theorem dL_alike_147 : decode cL_alike 147 = .ok (.iconst 4, 1) := by decide +kernel
theorem dL_alike_148 : decode cL_alike 148 = .ok (.iload 4, 2) := by decide +kernel
theorem dL_alike_150 : decode cL_alike 150 = .ok (.iconst 2, 1) := by decide +kernel
theorem dL_alike_151 : decode cL_alike 151 = .ok (.irem, 1) := by decide +kernel
theorem dL_alike_152 : decode cL_alike 152 = .ok (.iload 4, 2) := by decide +kernel
theorem dL_alike_154 : decode cL_alike 154 = .ok (.iconst 2, 1) := by decide +kernel
theorem dL_alike_155 : decode cL_alike 155 = .ok (.idiv, 1) := by decide +kernel
theorem dL_alike_156 : decode cL_alike 156 = .ok (.iconst 0, 1) := by decide +kernel
theorem dL_alike_157 : decode cL_alike 157 = .ok (.invokestatic 132, 3) := by decide +kernel
theorem dL_alike_160 : decode cL_alike 160 = .ok (.if_icmp .ne 7, 3) := by decide +kernel
theorem dL_alike_163 : decode cL_alike 163 = .ok (.iconst 1, 1) := by decide +kernel
theorem dL_alike_164 : decode cL_alike 164 = .ok (.goto 4, 3) := by decide +kernel
theorem dL_alike_167 : decode cL_alike 167 = .ok (.iconst 0, 1) := by decide +kernel
theorem dL_alike_168 : decode cL_alike 168 = .ok (.istore_n 3, 1) := by decide +kernel
theorem dL_alike_169 : decode cL_alike 169 = .ok (.iinc 4 1, 3) := by decide +kernel
theorem dL_alike_172 : decode cL_alike 172 = .ok (.goto (-114), 3) := by decide +kernel
theorem dL_alike_175 : decode cL_alike 175 = .ok (.iload_n 3, 1) := by decide +kernel
theorem dL_alike_176 : decode cL_alike 176 = .ok (.ireturn, 1) := by decide +kernel
theorem dL_law_0 : decode cL_law 0 = .ok (.new 8, 3) := by decide +kernel
theorem dL_law_3 : decode cL_law 3 = .ok (.dup, 1) := by decide +kernel
theorem dL_law_4 : decode cL_law 4 = .ok (.invokespecial 167, 3) := by decide +kernel
theorem dL_law_7 : decode cL_law 7 = .ok (.astore_n 1, 1) := by decide +kernel
theorem dL_law_8 : decode cL_law 8 = .ok (.new 8, 3) := by decide +kernel
theorem dL_law_11 : decode cL_law 11 = .ok (.dup, 1) := by decide +kernel
theorem dL_law_12 : decode cL_law 12 = .ok (.invokespecial 167, 3) := by decide +kernel
theorem dL_law_15 : decode cL_law 15 = .ok (.astore_n 2, 1) := by decide +kernel
theorem dL_law_16 : decode cL_law 16 = .ok (.bipush 10, 2) := by decide +kernel
theorem dL_law_18 : decode cL_law 18 = .ok (.aload_n 0, 1) := by decide +kernel
theorem dL_law_19 : decode cL_law 19 = .ok (.iconst 0, 1) := by decide +kernel
theorem dL_law_20 : decode cL_law 20 = .ok (.invokestatic 168, 3) := by decide +kernel
theorem dL_law_23 : decode cL_law 23 = .ok (.bipush 27, 2) := by decide +kernel
theorem dL_law_25 : decode cL_law 25 = .ok (.irem, 1) := by decide +kernel
theorem dL_law_26 : decode cL_law 26 = .ok (.iadd, 1) := by decide +kernel
theorem dL_law_27 : decode cL_law 27 = .ok (.istore_n 3, 1) := by decide +kernel
theorem dL_law_28 : decode cL_law 28 = .ok (.iconst 1, 1) := by decide +kernel
theorem dL_law_29 : decode cL_law 29 = .ok (.istore 4, 2) := by decide +kernel
theorem dL_law_31 : decode cL_law 31 = .ok (.iconst 0, 1) := by decide +kernel
theorem dL_law_32 : decode cL_law 32 = .ok (.istore 5, 2) := by decide +kernel
theorem dL_law_34 : decode cL_law 34 = .ok (.iload 5, 2) := by decide +kernel
theorem dL_law_36 : decode cL_law 36 = .ok (.iload_n 3, 1) := by decide +kernel
theorem dL_law_37 : decode cL_law 37 = .ok (.if_icmp .ge 134, 3) := by decide +kernel
theorem dL_law_40 : decode cL_law 40 = .ok (.iload 4, 2) := by decide +kernel
theorem dL_law_42 : decode cL_law 42 = .ok (.ifCond .eq 129, 3) := by decide +kernel
theorem dL_law_45 : decode cL_law 45 = .ok (.aload_n 0, 1) := by decide +kernel
theorem dL_law_46 : decode cL_law 46 = .ok (.iconst 1, 1) := by decide +kernel
theorem dL_law_47 : decode cL_law 47 = .ok (.iload 5, 2) := by decide +kernel
theorem dL_law_49 : decode cL_law 49 = .ok (.iadd, 1) := by decide +kernel
theorem dL_law_50 : decode cL_law 50 = .ok (.invokestatic 168, 3) := by decide +kernel
theorem dL_law_53 : decode cL_law 53 = .ok (.istore 6, 2) := by decide +kernel
theorem dL_law_55 : decode cL_law 55 = .ok (.aload_n 1, 1) := by decide +kernel
theorem dL_law_56 : decode cL_law 56 = .ok (.iload 6, 2) := by decide +kernel
theorem dL_law_58 : decode cL_law 58 = .ok (.invokestatic 172, 3) := by decide +kernel
theorem dL_law_61 : decode cL_law 61 = .ok (.istore 7, 2) := by decide +kernel
theorem dL_law_63 : decode cL_law 63 = .ok (.aload_n 2, 1) := by decide +kernel
theorem dL_law_64 : decode cL_law 64 = .ok (.iload 6, 2) := by decide +kernel
theorem dL_law_66 : decode cL_law 66 = .ok (.ldc 175, 2) := by decide +kernel
theorem dL_law_68 : decode cL_law 68 = .ok (.irem, 1) := by decide +kernel
theorem dL_law_69 : decode cL_law 69 = .ok (.invokestatic 176, 3) := by decide +kernel
theorem dL_law_72 : decode cL_law 72 = .ok (.ifCond .eq 90, 3) := by decide +kernel
theorem dL_law_75 : decode cL_law 75 = .ok (.aload_n 2, 1) := by decide +kernel
theorem dL_law_76 : decode cL_law 76 = .ok (.iload 6, 2) := by decide +kernel
theorem dL_law_78 : decode cL_law 78 = .ok (.invokestatic 172, 3) := by decide +kernel
theorem dL_law_81 : decode cL_law 81 = .ok (.iload 7, 2) := by decide +kernel
theorem dL_law_83 : decode cL_law 83 = .ok (.if_icmp .ne 79, 3) := by decide +kernel
theorem dL_law_86 : decode cL_law 86 = .ok (.aload_n 2, 1) := by decide +kernel
theorem dL_law_87 : decode cL_law 87 = .ok (.iload 6, 2) := by decide +kernel
theorem dL_law_89 : decode cL_law 89 = .ok (.sipush 1000, 3) := by decide +kernel
theorem dL_law_92 : decode cL_law 92 = .ok (.irem, 1) := by decide +kernel
theorem dL_law_93 : decode cL_law 93 = .ok (.invokestatic 176, 3) := by decide +kernel
theorem dL_law_96 : decode cL_law 96 = .ok (.ifCond .eq 66, 3) := by decide +kernel
theorem dL_law_99 : decode cL_law 99 = .ok (.aload_n 1, 1) := by decide +kernel
theorem dL_law_100 : decode cL_law 100 = .ok (.aload_n 2, 1) := by decide +kernel
theorem dL_law_101 : decode cL_law 101 = .ok (.iload 6, 2) := by decide +kernel
theorem dL_law_103 : decode cL_law 103 = .ok (.sipush 5000, 3) := by decide +kernel
theorem dL_law_106 : decode cL_law 106 = .ok (.irem, 1) := by decide +kernel
theorem dL_law_107 : decode cL_law 107 = .ok (.invokestatic 180, 3) := by decide +kernel
theorem dL_law_110 : decode cL_law 110 = .ok (.ifCond .eq 52, 3) := by decide +kernel
theorem dL_law_113 : decode cL_law 113 = .ok (.iload 5, 2) := by decide +kernel
theorem dL_law_115 : decode cL_law 115 = .ok (.iconst 2, 1) := by decide +kernel
theorem dL_law_116 : decode cL_law 116 = .ok (.irem, 1) := by decide +kernel
theorem dL_law_117 : decode cL_law 117 = .ok (.ifCond .ne 13, 3) := by decide +kernel
theorem dL_law_120 : decode cL_law 120 = .ok (.aload_n 1, 1) := by decide +kernel
theorem dL_law_121 : decode cL_law 121 = .ok (.invokestatic 184, 3) := by decide +kernel
theorem dL_law_124 : decode cL_law 124 = .ok (.ifCond .eq 38, 3) := by decide +kernel
theorem dL_law_127 : decode cL_law 127 = .ok (.goto 10, 3) := by decide +kernel
theorem dL_law_130 : decode cL_law 130 = .ok (.aload_n 2, 1) := by decide +kernel
theorem dL_law_131 : decode cL_law 131 = .ok (.invokestatic 184, 3) := by decide +kernel
theorem dL_law_134 : decode cL_law 134 = .ok (.ifCond .eq 28, 3) := by decide +kernel
theorem dL_law_137 : decode cL_law 137 = .ok (.aload_n 1, 1) := by decide +kernel
theorem dL_law_138 : decode cL_law 138 = .ok (.aload_n 2, 1) := by decide +kernel
theorem dL_law_139 : decode cL_law 139 = .ok (.invokestatic 188, 3) := by decide +kernel
theorem dL_law_142 : decode cL_law 142 = .ok (.ifCond .eq 20, 3) := by decide +kernel
theorem dL_law_145 : decode cL_law 145 = .ok (.aload_n 1, 1) := by decide +kernel
theorem dL_law_146 : decode cL_law 146 = .ok (.aload_n 2, 1) := by decide +kernel
theorem dL_law_147 : decode cL_law 147 = .ok (.iload 6, 2) := by decide +kernel
theorem dL_law_149 : decode cL_law 149 = .ok (.bipush 7, 2) := by decide +kernel
theorem dL_law_151 : decode cL_law 151 = .ok (.idiv, 1) := by decide +kernel
theorem dL_law_152 : decode cL_law 152 = .ok (.invokestatic 192, 3) := by decide +kernel
theorem dL_law_155 : decode cL_law 155 = .ok (.ifCond .eq 7, 3) := by decide +kernel
theorem dL_law_158 : decode cL_law 158 = .ok (.iconst 1, 1) := by decide +kernel
theorem dL_law_159 : decode cL_law 159 = .ok (.goto 4, 3) := by decide +kernel
theorem dL_law_162 : decode cL_law 162 = .ok (.iconst 0, 1) := by decide +kernel
theorem dL_law_163 : decode cL_law 163 = .ok (.istore 4, 2) := by decide +kernel
theorem dL_law_165 : decode cL_law 165 = .ok (.iinc 5 1, 3) := by decide +kernel
theorem dL_law_168 : decode cL_law 168 = .ok (.goto (-134), 3) := by decide +kernel
theorem dL_law_171 : decode cL_law 171 = .ok (.iload 4, 2) := by decide +kernel
theorem dL_law_173 : decode cL_law 173 = .ok (.ireturn, 1) := by decide +kernel
theorem dL_best_0 : decode cL_best 0 = .ok (.aload_n 0, 1) := by decide +kernel
theorem dL_best_1 : decode cL_best 1 = .ok (.invokevirtual 152, 3) := by decide +kernel
theorem dL_best_4 : decode cL_best 4 = .ok (.istore_n 2, 1) := by decide +kernel
theorem dL_best_5 : decode cL_best 5 = .ok (.iload_n 2, 1) := by decide +kernel
theorem dL_best_6 : decode cL_best 6 = .ok (.iconst (-1), 1) := by decide +kernel
theorem dL_best_7 : decode cL_best 7 = .ok (.if_icmp .ne 45, 3) := by decide +kernel
theorem dL_best_10 : decode cL_best 10 = .ok (.aload_n 1, 1) := by decide +kernel
theorem dL_best_11 : decode cL_best 11 = .ok (.invokevirtual 152, 3) := by decide +kernel
theorem dL_best_14 : decode cL_best 14 = .ok (.iconst (-1), 1) := by decide +kernel
theorem dL_best_15 : decode cL_best 15 = .ok (.if_icmp .ne 35, 3) := by decide +kernel
theorem dL_best_18 : decode cL_best 18 = .ok (.aload_n 0, 1) := by decide +kernel
theorem dL_best_19 : decode cL_best 19 = .ok (.bipush 7, 2) := by decide +kernel
theorem dL_best_21 : decode cL_best 21 = .ok (.iconst 0, 1) := by decide +kernel
theorem dL_best_22 : decode cL_best 22 = .ok (.iconst 0, 1) := by decide +kernel
theorem dL_best_23 : decode cL_best 23 = .ok (.iconst 1, 1) := by decide +kernel
theorem dL_best_24 : decode cL_best 24 = .ok (.invokestatic 132, 3) := by decide +kernel
theorem dL_best_27 : decode cL_best 27 = .ok (.ldc 33, 2) := by decide +kernel
theorem dL_best_29 : decode cL_best 29 = .ok (.if_icmp .ne 21, 3) := by decide +kernel
theorem dL_best_32 : decode cL_best 32 = .ok (.aload_n 1, 1) := by decide +kernel
theorem dL_best_33 : decode cL_best 33 = .ok (.bipush 7, 2) := by decide +kernel
theorem dL_best_35 : decode cL_best 35 = .ok (.iconst 0, 1) := by decide +kernel
theorem dL_best_36 : decode cL_best 36 = .ok (.iconst 0, 1) := by decide +kernel
theorem dL_best_37 : decode cL_best 37 = .ok (.iconst 1, 1) := by decide +kernel
theorem dL_best_38 : decode cL_best 38 = .ok (.invokestatic 132, 3) := by decide +kernel
theorem dL_best_41 : decode cL_best 41 = .ok (.ldc 33, 2) := by decide +kernel
theorem dL_best_43 : decode cL_best 43 = .ok (.if_icmp .ne 7, 3) := by decide +kernel
theorem dL_best_46 : decode cL_best 46 = .ok (.iconst 1, 1) := by decide +kernel
theorem dL_best_47 : decode cL_best 47 = .ok (.goto 4, 3) := by decide +kernel
theorem dL_best_50 : decode cL_best 50 = .ok (.iconst 0, 1) := by decide +kernel
theorem dL_best_51 : decode cL_best 51 = .ok (.ireturn, 1) := by decide +kernel
theorem dL_best_52 : decode cL_best 52 = .ok (.iload_n 2, 1) := by decide +kernel
theorem dL_best_53 : decode cL_best 53 = .ok (.bipush 100, 2) := by decide +kernel
theorem dL_best_55 : decode cL_best 55 = .ok (.idiv, 1) := by decide +kernel
theorem dL_best_56 : decode cL_best 56 = .ok (.istore_n 3, 1) := by decide +kernel
theorem dL_best_57 : decode cL_best 57 = .ok (.iload_n 2, 1) := by decide +kernel
theorem dL_best_58 : decode cL_best 58 = .ok (.bipush 10, 2) := by decide +kernel
theorem dL_best_60 : decode cL_best 60 = .ok (.idiv, 1) := by decide +kernel
theorem dL_best_61 : decode cL_best 61 = .ok (.bipush 10, 2) := by decide +kernel
theorem dL_best_63 : decode cL_best 63 = .ok (.irem, 1) := by decide +kernel
theorem dL_best_64 : decode cL_best 64 = .ok (.istore 4, 2) := by decide +kernel
theorem dL_best_66 : decode cL_best 66 = .ok (.aload_n 0, 1) := by decide +kernel
theorem dL_best_67 : decode cL_best 67 = .ok (.invokevirtual 149, 3) := by decide +kernel
theorem dL_best_70 : decode cL_best 70 = .ok (.bipush 100, 2) := by decide +kernel
theorem dL_best_72 : decode cL_best 72 = .ok (.isub, 1) := by decide +kernel
theorem dL_best_73 : decode cL_best 73 = .ok (.istore 5, 2) := by decide +kernel
theorem dL_best_75 : decode cL_best 75 = .ok (.aload_n 0, 1) := by decide +kernel
theorem dL_best_76 : decode cL_best 76 = .ok (.invokevirtual 158, 3) := by decide +kernel
theorem dL_best_79 : decode cL_best 79 = .ok (.istore 6, 2) := by decide +kernel
theorem dL_best_81 : decode cL_best 81 = .ok (.aload_n 0, 1) := by decide +kernel
theorem dL_best_82 : decode cL_best 82 = .ok (.iconst 2, 1) := by decide +kernel
theorem dL_best_83 : decode cL_best 83 = .ok (.iconst 4, 1) := by decide +kernel
theorem dL_best_84 : decode cL_best 84 = .ok (.iconst 0, 1) := by decide +kernel
theorem dL_best_85 : decode cL_best 85 = .ok (.iconst 0, 1) := by decide +kernel
theorem dL_best_86 : decode cL_best 86 = .ok (.invokestatic 132, 3) := by decide +kernel
theorem dL_best_89 : decode cL_best 89 = .ok (.istore 7, 2) := by decide +kernel
theorem dL_best_91 : decode cL_best 91 = .ok (.aload_n 0, 1) := by decide +kernel
theorem dL_best_92 : decode cL_best 92 = .ok (.iconst 4, 1) := by decide +kernel
theorem dL_best_93 : decode cL_best 93 = .ok (.iload 7, 2) := by decide +kernel
theorem dL_best_95 : decode cL_best 95 = .ok (.iconst 0, 1) := by decide +kernel
theorem dL_best_96 : decode cL_best 96 = .ok (.iconst 0, 1) := by decide +kernel
theorem dL_best_97 : decode cL_best 97 = .ok (.invokestatic 132, 3) := by decide +kernel
theorem dL_best_100 : decode cL_best 100 = .ok (.istore 8, 2) := by decide +kernel
theorem dL_best_102 : decode cL_best 102 = .ok (.aload_n 0, 1) := by decide +kernel
theorem dL_best_103 : decode cL_best 103 = .ok (.iconst 2, 1) := by decide +kernel
theorem dL_best_104 : decode cL_best 104 = .ok (.iconst 1, 1) := by decide +kernel
theorem dL_best_105 : decode cL_best 105 = .ok (.iconst 0, 1) := by decide +kernel
theorem dL_best_106 : decode cL_best 106 = .ok (.iconst 0, 1) := by decide +kernel
theorem dL_best_107 : decode cL_best 107 = .ok (.invokestatic 132, 3) := by decide +kernel
theorem dL_best_110 : decode cL_best 110 = .ok (.istore 9, 2) := by decide +kernel
theorem dL_best_112 : decode cL_best 112 = .ok (.aload_n 0, 1) := by decide +kernel
theorem dL_best_113 : decode cL_best 113 = .ok (.iconst 4, 1) := by decide +kernel
theorem dL_best_114 : decode cL_best 114 = .ok (.iload 7, 2) := by decide +kernel
theorem dL_best_116 : decode cL_best 116 = .ok (.iconst 2, 1) := by decide +kernel
theorem dL_best_117 : decode cL_best 117 = .ok (.iconst 0, 1) := by decide +kernel
theorem dL_best_118 : decode cL_best 118 = .ok (.invokestatic 132, 3) := by decide +kernel
theorem dL_best_121 : decode cL_best 121 = .ok (.istore 10, 2) := by decide +kernel
theorem dL_best_123 : decode cL_best 123 = .ok (.aload_n 0, 1) := by decide +kernel
theorem dL_best_124 : decode cL_best 124 = .ok (.iload_n 3, 1) := by decide +kernel
theorem dL_best_125 : decode cL_best 125 = .ok (.iload 4, 2) := by decide +kernel
theorem dL_best_127 : decode cL_best 127 = .ok (.iload_n 2, 1) := by decide +kernel
theorem dL_best_128 : decode cL_best 128 = .ok (.bipush 10, 2) := by decide +kernel
theorem dL_best_130 : decode cL_best 130 = .ok (.irem, 1) := by decide +kernel
theorem dL_best_131 : decode cL_best 131 = .ok (.iconst 1, 1) := by decide +kernel
theorem dL_best_132 : decode cL_best 132 = .ok (.invokestatic 136, 3) := by decide +kernel
theorem dL_best_135 : decode cL_best 135 = .ok (.istore 11, 2) := by decide +kernel
theorem dL_best_137 : decode cL_best 137 = .ok (.aload_n 0, 1) := by decide +kernel
theorem dL_best_138 : decode cL_best 138 = .ok (.bipush 7, 2) := by decide +kernel
theorem dL_best_140 : decode cL_best 140 = .ok (.iload_n 3, 1) := by decide +kernel
theorem dL_best_141 : decode cL_best 141 = .ok (.iload 4, 2) := by decide +kernel
theorem dL_best_143 : decode cL_best 143 = .ok (.iload_n 2, 1) := by decide +kernel
theorem dL_best_144 : decode cL_best 144 = .ok (.bipush 10, 2) := by decide +kernel
theorem dL_best_146 : decode cL_best 146 = .ok (.irem, 1) := by decide +kernel
theorem dL_best_147 : decode cL_best 147 = .ok (.invokestatic 132, 3) := by decide +kernel
theorem dL_best_150 : decode cL_best 150 = .ok (.istore 12, 2) := by decide +kernel
theorem dL_best_152 : decode cL_best 152 = .ok (.iload 12, 2) := by decide +kernel
theorem dL_best_154 : decode cL_best 154 = .ok (.ifCond .lt 121, 3) := by decide +kernel
theorem dL_best_157 : decode cL_best 157 = .ok (.aload_n 1, 1) := by decide +kernel
theorem dL_best_158 : decode cL_best 158 = .ok (.bipush 7, 2) := by decide +kernel
theorem dL_best_160 : decode cL_best 160 = .ok (.iload_n 3, 1) := by decide +kernel
theorem dL_best_161 : decode cL_best 161 = .ok (.iload 4, 2) := by decide +kernel
theorem dL_best_163 : decode cL_best 163 = .ok (.iload_n 2, 1) := by decide +kernel
theorem dL_best_164 : decode cL_best 164 = .ok (.bipush 10, 2) := by decide +kernel
theorem dL_best_166 : decode cL_best 166 = .ok (.irem, 1) := by decide +kernel
theorem dL_best_167 : decode cL_best 167 = .ok (.invokestatic 132, 3) := by decide +kernel
theorem dL_best_170 : decode cL_best 170 = .ok (.iload 12, 2) := by decide +kernel
theorem dL_best_172 : decode cL_best 172 = .ok (.if_icmp .ne 103, 3) := by decide +kernel
theorem dL_best_175 : decode cL_best 175 = .ok (.bipush 100, 2) := by decide +kernel
theorem dL_best_177 : decode cL_best 177 = .ok (.aload_n 0, 1) := by decide +kernel
theorem dL_best_178 : decode cL_best 178 = .ok (.invokevirtual 149, 3) := by decide +kernel
theorem dL_best_181 : decode cL_best 181 = .ok (.isub, 1) := by decide +kernel
theorem dL_best_182 : decode cL_best 182 = .ok (.iload 12, 2) := by decide +kernel
theorem dL_best_184 : decode cL_best 184 = .ok (.isub, 1) := by decide +kernel
theorem dL_best_185 : decode cL_best 185 = .ok (.iload 5, 2) := by decide +kernel
theorem dL_best_187 : decode cL_best 187 = .ok (.if_icmp .ne 88, 3) := by decide +kernel
theorem dL_best_190 : decode cL_best 190 = .ok (.aload_n 0, 1) := by decide +kernel
theorem dL_best_191 : decode cL_best 191 = .ok (.invokevirtual 158, 3) := by decide +kernel
theorem dL_best_194 : decode cL_best 194 = .ok (.iload 6, 2) := by decide +kernel
theorem dL_best_196 : decode cL_best 196 = .ok (.if_icmp .ne 79, 3) := by decide +kernel
theorem dL_best_199 : decode cL_best 199 = .ok (.aload_n 0, 1) := by decide +kernel
theorem dL_best_200 : decode cL_best 200 = .ok (.iconst 2, 1) := by decide +kernel
theorem dL_best_201 : decode cL_best 201 = .ok (.iconst 4, 1) := by decide +kernel
theorem dL_best_202 : decode cL_best 202 = .ok (.iconst 0, 1) := by decide +kernel
theorem dL_best_203 : decode cL_best 203 = .ok (.iconst 0, 1) := by decide +kernel
theorem dL_best_204 : decode cL_best 204 = .ok (.invokestatic 132, 3) := by decide +kernel
theorem dL_best_207 : decode cL_best 207 = .ok (.iconst 1, 1) := by decide +kernel
theorem dL_best_208 : decode cL_best 208 = .ok (.iload 7, 2) := by decide +kernel
theorem dL_best_210 : decode cL_best 210 = .ok (.isub, 1) := by decide +kernel
theorem dL_best_211 : decode cL_best 211 = .ok (.if_icmp .ne 64, 3) := by decide +kernel
theorem dL_best_214 : decode cL_best 214 = .ok (.aload_n 0, 1) := by decide +kernel
theorem dL_best_215 : decode cL_best 215 = .ok (.iconst 4, 1) := by decide +kernel
theorem dL_best_216 : decode cL_best 216 = .ok (.iload 7, 2) := by decide +kernel
theorem dL_best_218 : decode cL_best 218 = .ok (.iconst 0, 1) := by decide +kernel
theorem dL_best_219 : decode cL_best 219 = .ok (.iconst 0, 1) := by decide +kernel
theorem dL_best_220 : decode cL_best 220 = .ok (.invokestatic 132, 3) := by decide +kernel
theorem dL_best_223 : decode cL_best 223 = .ok (.iload 8, 2) := by decide +kernel
theorem dL_best_225 : decode cL_best 225 = .ok (.iload 12, 2) := by decide +kernel
theorem dL_best_227 : decode cL_best 227 = .ok (.iadd, 1) := by decide +kernel
theorem dL_best_228 : decode cL_best 228 = .ok (.if_icmp .ne 47, 3) := by decide +kernel
theorem dL_best_231 : decode cL_best 231 = .ok (.aload_n 0, 1) := by decide +kernel
theorem dL_best_232 : decode cL_best 232 = .ok (.iconst 2, 1) := by decide +kernel
theorem dL_best_233 : decode cL_best 233 = .ok (.bipush 7, 2) := by decide +kernel
theorem dL_best_235 : decode cL_best 235 = .ok (.iconst 0, 1) := by decide +kernel
theorem dL_best_236 : decode cL_best 236 = .ok (.iconst 0, 1) := by decide +kernel
theorem dL_best_237 : decode cL_best 237 = .ok (.invokestatic 132, 3) := by decide +kernel
theorem dL_best_240 : decode cL_best 240 = .ok (.iload 11, 2) := by decide +kernel
theorem dL_best_242 : decode cL_best 242 = .ok (.if_icmp .ne 33, 3) := by decide +kernel
theorem dL_best_245 : decode cL_best 245 = .ok (.aload_n 0, 1) := by decide +kernel
theorem dL_best_246 : decode cL_best 246 = .ok (.iconst 4, 1) := by decide +kernel
theorem dL_best_247 : decode cL_best 247 = .ok (.iload 7, 2) := by decide +kernel
theorem dL_best_249 : decode cL_best 249 = .ok (.iconst 2, 1) := by decide +kernel
theorem dL_best_250 : decode cL_best 250 = .ok (.iconst 0, 1) := by decide +kernel
theorem dL_best_251 : decode cL_best 251 = .ok (.invokestatic 132, 3) := by decide +kernel
theorem dL_best_254 : decode cL_best 254 = .ok (.iload 10, 2) := by decide +kernel
theorem dL_best_256 : decode cL_best 256 = .ok (.isub, 1) := by decide +kernel
theorem dL_best_257 : decode cL_best 257 = .ok (.iload 9, 2) := by decide +kernel
theorem dL_best_259 : decode cL_best 259 = .ok (.aload_n 0, 1) := by decide +kernel
theorem dL_best_260 : decode cL_best 260 = .ok (.iconst 2, 1) := by decide +kernel
theorem dL_best_261 : decode cL_best 261 = .ok (.iconst 1, 1) := by decide +kernel
theorem dL_best_262 : decode cL_best 262 = .ok (.iconst 0, 1) := by decide +kernel
theorem dL_best_263 : decode cL_best 263 = .ok (.iconst 0, 1) := by decide +kernel
theorem dL_best_264 : decode cL_best 264 = .ok (.invokestatic 132, 3) := by decide +kernel
theorem dL_best_267 : decode cL_best 267 = .ok (.isub, 1) := by decide +kernel
theorem dL_best_268 : decode cL_best 268 = .ok (.if_icmp .ne 7, 3) := by decide +kernel
theorem dL_best_271 : decode cL_best 271 = .ok (.iconst 1, 1) := by decide +kernel
theorem dL_best_272 : decode cL_best 272 = .ok (.goto 4, 3) := by decide +kernel
theorem dL_best_275 : decode cL_best 275 = .ok (.iconst 0, 1) := by decide +kernel
theorem dL_best_276 : decode cL_best 276 = .ok (.istore 13, 2) := by decide +kernel
theorem dL_best_278 : decode cL_best 278 = .ok (.iload 13, 2) := by decide +kernel
theorem dL_best_280 : decode cL_best 280 = .ok (.ifCond .eq 76, 3) := by decide +kernel
theorem dL_best_283 : decode cL_best 283 = .ok (.aload_n 0, 1) := by decide +kernel
theorem dL_best_284 : decode cL_best 284 = .ok (.bipush 11, 2) := by decide +kernel
theorem dL_best_286 : decode cL_best 286 = .ok (.iconst 0, 1) := by decide +kernel
theorem dL_best_287 : decode cL_best 287 = .ok (.iconst 0, 1) := by decide +kernel
theorem dL_best_288 : decode cL_best 288 = .ok (.iconst 0, 1) := by decide +kernel
theorem dL_best_289 : decode cL_best 289 = .ok (.invokestatic 132, 3) := by decide +kernel
theorem dL_best_292 : decode cL_best 292 = .ok (.invokestatic 195, 3) := by decide +kernel
theorem dL_best_295 : decode cL_best 295 = .ok (.ifCond .ne 61, 3) := by decide +kernel
theorem dL_best_298 : decode cL_best 298 = .ok (.aload_n 1, 1) := by decide +kernel
theorem dL_best_299 : decode cL_best 299 = .ok (.bipush 11, 2) := by decide +kernel
theorem dL_best_301 : decode cL_best 301 = .ok (.iconst 0, 1) := by decide +kernel
theorem dL_best_302 : decode cL_best 302 = .ok (.iconst 0, 1) := by decide +kernel
theorem dL_best_303 : decode cL_best 303 = .ok (.iconst 0, 1) := by decide +kernel
theorem dL_best_304 : decode cL_best 304 = .ok (.invokestatic 132, 3) := by decide +kernel
theorem dL_best_307 : decode cL_best 307 = .ok (.invokestatic 195, 3) := by decide +kernel
theorem dL_best_310 : decode cL_best 310 = .ok (.ifCond .ne 46, 3) := by decide +kernel
theorem dL_best_313 : decode cL_best 313 = .ok (.aload_n 0, 1) := by decide +kernel
theorem dL_best_314 : decode cL_best 314 = .ok (.invokevirtual 149, 3) := by decide +kernel
theorem dL_best_317 : decode cL_best 317 = .ok (.bipush 100, 2) := by decide +kernel
theorem dL_best_319 : decode cL_best 319 = .ok (.isub, 1) := by decide +kernel
theorem dL_best_320 : decode cL_best 320 = .ok (.iload 5, 2) := by decide +kernel
theorem dL_best_322 : decode cL_best 322 = .ok (.if_icmp .ne 34, 3) := by decide +kernel
theorem dL_best_325 : decode cL_best 325 = .ok (.aload_n 0, 1) := by decide +kernel
theorem dL_best_326 : decode cL_best 326 = .ok (.iconst 2, 1) := by decide +kernel
theorem dL_best_327 : decode cL_best 327 = .ok (.iconst 1, 1) := by decide +kernel
theorem dL_best_328 : decode cL_best 328 = .ok (.iconst 0, 1) := by decide +kernel
theorem dL_best_329 : decode cL_best 329 = .ok (.iconst 0, 1) := by decide +kernel
theorem dL_best_330 : decode cL_best 330 = .ok (.invokestatic 132, 3) := by decide +kernel
theorem dL_best_333 : decode cL_best 333 = .ok (.iload 9, 2) := by decide +kernel
theorem dL_best_335 : decode cL_best 335 = .ok (.if_icmp .ne 21, 3) := by decide +kernel
theorem dL_best_338 : decode cL_best 338 = .ok (.aload_n 0, 1) := by decide +kernel
theorem dL_best_339 : decode cL_best 339 = .ok (.iconst 4, 1) := by decide +kernel
theorem dL_best_340 : decode cL_best 340 = .ok (.iload 7, 2) := by decide +kernel
theorem dL_best_342 : decode cL_best 342 = .ok (.iconst 0, 1) := by decide +kernel
theorem dL_best_343 : decode cL_best 343 = .ok (.iconst 0, 1) := by decide +kernel
theorem dL_best_344 : decode cL_best 344 = .ok (.invokestatic 132, 3) := by decide +kernel
theorem dL_best_347 : decode cL_best 347 = .ok (.iload 8, 2) := by decide +kernel
theorem dL_best_349 : decode cL_best 349 = .ok (.if_icmp .ne 7, 3) := by decide +kernel
theorem dL_best_352 : decode cL_best 352 = .ok (.iconst 1, 1) := by decide +kernel
theorem dL_best_353 : decode cL_best 353 = .ok (.goto 4, 3) := by decide +kernel
theorem dL_best_356 : decode cL_best 356 = .ok (.iconst 0, 1) := by decide +kernel
theorem dL_best_357 : decode cL_best 357 = .ok (.ireturn, 1) := by decide +kernel
theorem dL_waters_0 : decode cL_waters 0 = .ok (.aload_n 0, 1) := by decide +kernel
theorem dL_waters_1 : decode cL_waters 1 = .ok (.iconst 2, 1) := by decide +kernel
theorem dL_waters_2 : decode cL_waters 2 = .ok (.iconst 0, 1) := by decide +kernel
theorem dL_waters_3 : decode cL_waters 3 = .ok (.iconst 0, 1) := by decide +kernel
theorem dL_waters_4 : decode cL_waters 4 = .ok (.iconst 0, 1) := by decide +kernel
theorem dL_waters_5 : decode cL_waters 5 = .ok (.invokestatic 132, 3) := by decide +kernel
theorem dL_waters_8 : decode cL_waters 8 = .ok (.istore_n 3, 1) := by decide +kernel
theorem dL_waters_9 : decode cL_waters 9 = .ok (.aload_n 0, 1) := by decide +kernel
theorem dL_waters_10 : decode cL_waters 10 = .ok (.invokevirtual 149, 3) := by decide +kernel
theorem dL_waters_13 : decode cL_waters 13 = .ok (.istore 4, 2) := by decide +kernel
theorem dL_waters_15 : decode cL_waters 15 = .ok (.aload_n 0, 1) := by decide +kernel
theorem dL_waters_16 : decode cL_waters 16 = .ok (.invokevirtual 164, 3) := by decide +kernel
theorem dL_waters_19 : decode cL_waters 19 = .ok (.istore 5, 2) := by decide +kernel
theorem dL_waters_21 : decode cL_waters 21 = .ok (.iload 4, 2) := by decide +kernel
theorem dL_waters_23 : decode cL_waters 23 = .ok (.istore 6, 2) := by decide +kernel
theorem dL_waters_25 : decode cL_waters 25 = .ok (.iload_n 2, 1) := by decide +kernel
theorem dL_waters_26 : decode cL_waters 26 = .ok (.iload_n 3, 1) := by decide +kernel
theorem dL_waters_27 : decode cL_waters 27 = .ok (.irem, 1) := by decide +kernel
theorem dL_waters_28 : decode cL_waters 28 = .ok (.istore 7, 2) := by decide +kernel
theorem dL_waters_30 : decode cL_waters 30 = .ok (.iconst 1, 1) := by decide +kernel
theorem dL_waters_31 : decode cL_waters 31 = .ok (.istore 8, 2) := by decide +kernel
theorem dL_waters_33 : decode cL_waters 33 = .ok (.iload 5, 2) := by decide +kernel
theorem dL_waters_35 : decode cL_waters 35 = .ok (.iconst (-1), 1) := by decide +kernel
theorem dL_waters_36 : decode cL_waters 36 = .ok (.if_icmp .eq 97, 3) := by decide +kernel
theorem dL_waters_39 : decode cL_waters 39 = .ok (.aload_n 0, 1) := by decide +kernel
theorem dL_waters_40 : decode cL_waters 40 = .ok (.bipush 8, 2) := by decide +kernel
theorem dL_waters_42 : decode cL_waters 42 = .ok (.iload 5, 2) := by decide +kernel
theorem dL_waters_44 : decode cL_waters 44 = .ok (.iconst 0, 1) := by decide +kernel
theorem dL_waters_45 : decode cL_waters 45 = .ok (.iconst 0, 1) := by decide +kernel
theorem dL_waters_46 : decode cL_waters 46 = .ok (.invokestatic 132, 3) := by decide +kernel
theorem dL_waters_49 : decode cL_waters 49 = .ok (.invokestatic 195, 3) := by decide +kernel
theorem dL_waters_52 : decode cL_waters 52 = .ok (.ifCond .ne 23, 3) := by decide +kernel
theorem dL_waters_55 : decode cL_waters 55 = .ok (.aload_n 1, 1) := by decide +kernel
theorem dL_waters_56 : decode cL_waters 56 = .ok (.bipush 8, 2) := by decide +kernel
theorem dL_waters_58 : decode cL_waters 58 = .ok (.iload 5, 2) := by decide +kernel
theorem dL_waters_60 : decode cL_waters 60 = .ok (.iconst 0, 1) := by decide +kernel
theorem dL_waters_61 : decode cL_waters 61 = .ok (.iconst 0, 1) := by decide +kernel
theorem dL_waters_62 : decode cL_waters 62 = .ok (.invokestatic 132, 3) := by decide +kernel
theorem dL_waters_65 : decode cL_waters 65 = .ok (.invokestatic 195, 3) := by decide +kernel
theorem dL_waters_68 : decode cL_waters 68 = .ok (.ifCond .ne 7, 3) := by decide +kernel
theorem dL_waters_71 : decode cL_waters 71 = .ok (.iconst 1, 1) := by decide +kernel
theorem dL_waters_72 : decode cL_waters 72 = .ok (.goto 4, 3) := by decide +kernel
theorem dL_waters_75 : decode cL_waters 75 = .ok (.iconst 0, 1) := by decide +kernel
theorem dL_waters_76 : decode cL_waters 76 = .ok (.istore 8, 2) := by decide +kernel
theorem dL_waters_78 : decode cL_waters 78 = .ok (.aload_n 0, 1) := by decide +kernel
theorem dL_waters_79 : decode cL_waters 79 = .ok (.invokevirtual 149, 3) := by decide +kernel
theorem dL_waters_82 : decode cL_waters 82 = .ok (.istore 6, 2) := by decide +kernel
theorem dL_waters_84 : decode cL_waters 84 = .ok (.iload 8, 2) := by decide +kernel
theorem dL_waters_86 : decode cL_waters 86 = .ok (.ifCond .eq 44, 3) := by decide +kernel
theorem dL_waters_89 : decode cL_waters 89 = .ok (.iload 6, 2) := by decide +kernel
theorem dL_waters_91 : decode cL_waters 91 = .ok (.iload 4, 2) := by decide +kernel
theorem dL_waters_93 : decode cL_waters 93 = .ok (.if_icmp .le 37, 3) := by decide +kernel
theorem dL_waters_96 : decode cL_waters 96 = .ok (.aload_n 0, 1) := by decide +kernel
theorem dL_waters_97 : decode cL_waters 97 = .ok (.bipush 11, 2) := by decide +kernel
theorem dL_waters_99 : decode cL_waters 99 = .ok (.iconst 0, 1) := by decide +kernel
theorem dL_waters_100 : decode cL_waters 100 = .ok (.iconst 0, 1) := by decide +kernel
theorem dL_waters_101 : decode cL_waters 101 = .ok (.iconst 0, 1) := by decide +kernel
theorem dL_waters_102 : decode cL_waters 102 = .ok (.invokestatic 132, 3) := by decide +kernel
theorem dL_waters_105 : decode cL_waters 105 = .ok (.invokestatic 195, 3) := by decide +kernel
theorem dL_waters_108 : decode cL_waters 108 = .ok (.ifCond .ne 22, 3) := by decide +kernel
theorem dL_waters_111 : decode cL_waters 111 = .ok (.aload_n 1, 1) := by decide +kernel
theorem dL_waters_112 : decode cL_waters 112 = .ok (.bipush 11, 2) := by decide +kernel
theorem dL_waters_114 : decode cL_waters 114 = .ok (.iconst 0, 1) := by decide +kernel
theorem dL_waters_115 : decode cL_waters 115 = .ok (.iconst 0, 1) := by decide +kernel
theorem dL_waters_116 : decode cL_waters 116 = .ok (.iconst 0, 1) := by decide +kernel
theorem dL_waters_117 : decode cL_waters 117 = .ok (.invokestatic 132, 3) := by decide +kernel
theorem dL_waters_120 : decode cL_waters 120 = .ok (.invokestatic 195, 3) := by decide +kernel
theorem dL_waters_123 : decode cL_waters 123 = .ok (.ifCond .ne 7, 3) := by decide +kernel
theorem dL_waters_126 : decode cL_waters 126 = .ok (.iconst 1, 1) := by decide +kernel
theorem dL_waters_127 : decode cL_waters 127 = .ok (.goto 4, 3) := by decide +kernel
theorem dL_waters_130 : decode cL_waters 130 = .ok (.iconst 0, 1) := by decide +kernel
theorem dL_waters_131 : decode cL_waters 131 = .ok (.istore 8, 2) := by decide +kernel
theorem dL_waters_133 : decode cL_waters 133 = .ok (.aload_n 0, 1) := by decide +kernel
theorem dL_waters_134 : decode cL_waters 134 = .ok (.bipush 8, 2) := by decide +kernel
theorem dL_waters_136 : decode cL_waters 136 = .ok (.iload 7, 2) := by decide +kernel
theorem dL_waters_138 : decode cL_waters 138 = .ok (.iconst 0, 1) := by decide +kernel
theorem dL_waters_139 : decode cL_waters 139 = .ok (.iconst 0, 1) := by decide +kernel
theorem dL_waters_140 : decode cL_waters 140 = .ok (.invokestatic 132, 3) := by decide +kernel
theorem dL_waters_143 : decode cL_waters 143 = .ok (.istore 9, 2) := by decide +kernel
theorem dL_waters_145 : decode cL_waters 145 = .ok (.iload 8, 2) := by decide +kernel
theorem dL_waters_147 : decode cL_waters 147 = .ok (.ifCond .eq 22, 3) := by decide +kernel
theorem dL_waters_150 : decode cL_waters 150 = .ok (.aload_n 1, 1) := by decide +kernel
theorem dL_waters_151 : decode cL_waters 151 = .ok (.bipush 8, 2) := by decide +kernel
theorem dL_waters_153 : decode cL_waters 153 = .ok (.iload 7, 2) := by decide +kernel
theorem dL_waters_155 : decode cL_waters 155 = .ok (.iconst 0, 1) := by decide +kernel
theorem dL_waters_156 : decode cL_waters 156 = .ok (.iconst 0, 1) := by decide +kernel
theorem dL_waters_157 : decode cL_waters 157 = .ok (.invokestatic 132, 3) := by decide +kernel
theorem dL_waters_160 : decode cL_waters 160 = .ok (.iload 9, 2) := by decide +kernel
theorem dL_waters_162 : decode cL_waters 162 = .ok (.if_icmp .ne 7, 3) := by decide +kernel
theorem dL_waters_165 : decode cL_waters 165 = .ok (.iconst 1, 1) := by decide +kernel
theorem dL_waters_166 : decode cL_waters 166 = .ok (.goto 4, 3) := by decide +kernel
theorem dL_waters_169 : decode cL_waters 169 = .ok (.iconst 0, 1) := by decide +kernel
theorem dL_waters_170 : decode cL_waters 170 = .ok (.istore 8, 2) := by decide +kernel
theorem dL_waters_172 : decode cL_waters 172 = .ok (.iload 9, 2) := by decide +kernel
theorem dL_waters_174 : decode cL_waters 174 = .ok (.ldc 33, 2) := by decide +kernel
theorem dL_waters_176 : decode cL_waters 176 = .ok (.if_icmp .ne 27, 3) := by decide +kernel
theorem dL_waters_179 : decode cL_waters 179 = .ok (.iload 8, 2) := by decide +kernel
theorem dL_waters_181 : decode cL_waters 181 = .ok (.ifCond .eq 20, 3) := by decide +kernel
theorem dL_waters_184 : decode cL_waters 184 = .ok (.aload_n 0, 1) := by decide +kernel
theorem dL_waters_185 : decode cL_waters 185 = .ok (.iconst 3, 1) := by decide +kernel
theorem dL_waters_186 : decode cL_waters 186 = .ok (.iload 7, 2) := by decide +kernel
theorem dL_waters_188 : decode cL_waters 188 = .ok (.iconst 0, 1) := by decide +kernel
theorem dL_waters_189 : decode cL_waters 189 = .ok (.iconst 0, 1) := by decide +kernel
theorem dL_waters_190 : decode cL_waters 190 = .ok (.invokestatic 132, 3) := by decide +kernel
theorem dL_waters_193 : decode cL_waters 193 = .ok (.iconst 3, 1) := by decide +kernel
theorem dL_waters_194 : decode cL_waters 194 = .ok (.if_icmp .ne 7, 3) := by decide +kernel
theorem dL_waters_197 : decode cL_waters 197 = .ok (.iconst 1, 1) := by decide +kernel
theorem dL_waters_198 : decode cL_waters 198 = .ok (.goto 4, 3) := by decide +kernel
theorem dL_waters_201 : decode cL_waters 201 = .ok (.iconst 0, 1) := by decide +kernel
theorem dL_waters_202 : decode cL_waters 202 = .ok (.ireturn, 1) := by decide +kernel
theorem dL_waters_203 : decode cL_waters 203 = .ok (.aload_n 0, 1) := by decide +kernel
theorem dL_waters_204 : decode cL_waters 204 = .ok (.invokevirtual 149, 3) := by decide +kernel
theorem dL_waters_207 : decode cL_waters 207 = .ok (.istore 10, 2) := by decide +kernel
theorem dL_waters_209 : decode cL_waters 209 = .ok (.iload 8, 2) := by decide +kernel
theorem dL_waters_211 : decode cL_waters 211 = .ok (.ifCond .eq 73, 3) := by decide +kernel
theorem dL_waters_214 : decode cL_waters 214 = .ok (.iload 10, 2) := by decide +kernel
theorem dL_waters_216 : decode cL_waters 216 = .ok (.iload 6, 2) := by decide +kernel
theorem dL_waters_218 : decode cL_waters 218 = .ok (.if_icmp .gt 66, 3) := by decide +kernel
theorem dL_waters_221 : decode cL_waters 221 = .ok (.iload 5, 2) := by decide +kernel
theorem dL_waters_223 : decode cL_waters 223 = .ok (.iconst (-1), 1) := by decide +kernel
theorem dL_waters_224 : decode cL_waters 224 = .ok (.if_icmp .eq 17, 3) := by decide +kernel
theorem dL_waters_227 : decode cL_waters 227 = .ok (.iload 10, 2) := by decide +kernel
theorem dL_waters_229 : decode cL_waters 229 = .ok (.iload 6, 2) := by decide +kernel
theorem dL_waters_231 : decode cL_waters 231 = .ok (.if_icmp .lt 10, 3) := by decide +kernel
theorem dL_waters_234 : decode cL_waters 234 = .ok (.iload 7, 2) := by decide +kernel
theorem dL_waters_236 : decode cL_waters 236 = .ok (.iload 5, 2) := by decide +kernel
theorem dL_waters_238 : decode cL_waters 238 = .ok (.if_icmp .lt 46, 3) := by decide +kernel
theorem dL_waters_241 : decode cL_waters 241 = .ok (.aload_n 0, 1) := by decide +kernel
theorem dL_waters_242 : decode cL_waters 242 = .ok (.bipush 11, 2) := by decide +kernel
theorem dL_waters_244 : decode cL_waters 244 = .ok (.iconst 0, 1) := by decide +kernel
theorem dL_waters_245 : decode cL_waters 245 = .ok (.iconst 0, 1) := by decide +kernel
theorem dL_waters_246 : decode cL_waters 246 = .ok (.iconst 0, 1) := by decide +kernel
theorem dL_waters_247 : decode cL_waters 247 = .ok (.invokestatic 132, 3) := by decide +kernel
theorem dL_waters_250 : decode cL_waters 250 = .ok (.invokestatic 195, 3) := by decide +kernel
theorem dL_waters_253 : decode cL_waters 253 = .ok (.ifCond .ne 31, 3) := by decide +kernel
theorem dL_waters_256 : decode cL_waters 256 = .ok (.aload_n 1, 1) := by decide +kernel
theorem dL_waters_257 : decode cL_waters 257 = .ok (.bipush 11, 2) := by decide +kernel
theorem dL_waters_259 : decode cL_waters 259 = .ok (.iconst 0, 1) := by decide +kernel
theorem dL_waters_260 : decode cL_waters 260 = .ok (.iconst 0, 1) := by decide +kernel
theorem dL_waters_261 : decode cL_waters 261 = .ok (.iconst 0, 1) := by decide +kernel
theorem dL_waters_262 : decode cL_waters 262 = .ok (.invokestatic 132, 3) := by decide +kernel
theorem dL_waters_265 : decode cL_waters 265 = .ok (.invokestatic 195, 3) := by decide +kernel
theorem dL_waters_268 : decode cL_waters 268 = .ok (.ifCond .ne 16, 3) := by decide +kernel
theorem dL_waters_271 : decode cL_waters 271 = .ok (.aload_n 0, 1) := by decide +kernel
theorem dL_waters_272 : decode cL_waters 272 = .ok (.invokevirtual 149, 3) := by decide +kernel
theorem dL_waters_275 : decode cL_waters 275 = .ok (.iload 4, 2) := by decide +kernel
theorem dL_waters_277 : decode cL_waters 277 = .ok (.if_icmp .ne 7, 3) := by decide +kernel
theorem dL_waters_280 : decode cL_waters 280 = .ok (.iconst 1, 1) := by decide +kernel
theorem dL_waters_281 : decode cL_waters 281 = .ok (.goto 4, 3) := by decide +kernel
theorem dL_waters_284 : decode cL_waters 284 = .ok (.iconst 0, 1) := by decide +kernel
theorem dL_waters_285 : decode cL_waters 285 = .ok (.ireturn, 1) := by decide +kernel
