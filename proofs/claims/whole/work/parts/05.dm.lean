theorem dX9_init_0 : decode cX9_init 0 = .ok (.aload_n 0, 1) := by decide +kernel
theorem dX9_init_1 : decode cX9_init 1 = .ok (.invokespecial 1, 3) := by decide +kernel
theorem dX9_init_4 : decode cX9_init 4 = .ok (.aload_n 0, 1) := by decide +kernel
theorem dX9_init_5 : decode cX9_init 5 = .ok (.bipush 120, 2) := by decide +kernel
theorem dX9_init_7 : decode cX9_init 7 = .ok (.newarray .int, 2) := by decide +kernel
theorem dX9_init_9 : decode cX9_init 9 = .ok (.putfield 7, 3) := by decide +kernel
theorem dX9_init_12 : decode cX9_init 12 = .ok (.aload_n 0, 1) := by decide +kernel
theorem dX9_init_13 : decode cX9_init 13 = .ok (.bipush 12, 2) := by decide +kernel
theorem dX9_init_15 : decode cX9_init 15 = .ok (.newarray .int, 2) := by decide +kernel
theorem dX9_init_17 : decode cX9_init 17 = .ok (.putfield 13, 3) := by decide +kernel
theorem dX9_init_20 : decode cX9_init 20 = .ok (.aload_n 0, 1) := by decide +kernel
theorem dX9_init_21 : decode cX9_init 21 = .ok (.bipush 12, 2) := by decide +kernel
theorem dX9_init_23 : decode cX9_init 23 = .ok (.newarray .int, 2) := by decide +kernel
theorem dX9_init_25 : decode cX9_init 25 = .ok (.putfield 16, 3) := by decide +kernel
theorem dX9_init_28 : decode cX9_init 28 = .ok (.aload_n 0, 1) := by decide +kernel
theorem dX9_init_29 : decode cX9_init 29 = .ok (.sipush 168, 3) := by decide +kernel
theorem dX9_init_32 : decode cX9_init 32 = .ok (.newarray .int, 2) := by decide +kernel
theorem dX9_init_34 : decode cX9_init 34 = .ok (.putfield 19, 3) := by decide +kernel
theorem dX9_init_37 : decode cX9_init 37 = .ok (.aload_n 0, 1) := by decide +kernel
theorem dX9_init_38 : decode cX9_init 38 = .ok (.bipush 24, 2) := by decide +kernel
theorem dX9_init_40 : decode cX9_init 40 = .ok (.newarray .int, 2) := by decide +kernel
theorem dX9_init_42 : decode cX9_init 42 = .ok (.putfield 22, 3) := by decide +kernel
theorem dX9_init_45 : decode cX9_init 45 = .ok (.aload_n 0, 1) := by decide +kernel
theorem dX9_init_46 : decode cX9_init 46 = .ok (.iconst 2, 1) := by decide +kernel
theorem dX9_init_47 : decode cX9_init 47 = .ok (.newarray .boolean, 2) := by decide +kernel
theorem dX9_init_49 : decode cX9_init 49 = .ok (.putfield 25, 3) := by decide +kernel
theorem dX9_init_52 : decode cX9_init 52 = .ok (.aload_n 0, 1) := by decide +kernel
theorem dX9_init_53 : decode cX9_init 53 = .ok (.sipush 4096, 3) := by decide +kernel
theorem dX9_init_56 : decode cX9_init 56 = .ok (.newarray .int, 2) := by decide +kernel
theorem dX9_init_58 : decode cX9_init 58 = .ok (.putfield 29, 3) := by decide +kernel
theorem dX9_init_61 : decode cX9_init 61 = .ok (.aload_n 0, 1) := by decide +kernel
theorem dX9_init_62 : decode cX9_init 62 = .ok (.iconst (-1), 1) := by decide +kernel
theorem dX9_init_63 : decode cX9_init 63 = .ok (.putfield 32, 3) := by decide +kernel
theorem dX9_init_66 : decode cX9_init 66 = .ok (.aload_n 0, 1) := by decide +kernel
theorem dX9_init_67 : decode cX9_init 67 = .ok (.getfield 13, 3) := by decide +kernel
theorem dX9_init_70 : decode cX9_init 70 = .ok (.invokestatic 36, 3) := by decide +kernel
theorem dX9_init_73 : decode cX9_init 73 = .ok (.return_, 1) := by decide +kernel
theorem dX9_thrown_0 : decode cX9_thrown 0 = .ok (.aload_n 0, 1) := by decide +kernel
theorem dX9_thrown_1 : decode cX9_thrown 1 = .ok (.getfield 40, 3) := by decide +kernel
theorem dX9_thrown_4 : decode cX9_thrown 4 = .ok (.ireturn, 1) := by decide +kernel
theorem dX9_refused_0 : decode cX9_refused 0 = .ok (.aload_n 0, 1) := by decide +kernel
theorem dX9_refused_1 : decode cX9_refused 1 = .ok (.iload_n 1, 1) := by decide +kernel
theorem dX9_refused_2 : decode cX9_refused 2 = .ok (.putfield 40, 3) := by decide +kernel
theorem dX9_refused_5 : decode cX9_refused 5 = .ok (.iload_n 1, 1) := by decide +kernel
theorem dX9_refused_6 : decode cX9_refused 6 = .ok (.ifCond .le 7, 3) := by decide +kernel
theorem dX9_refused_9 : decode cX9_refused 9 = .ok (.iconst 1, 1) := by decide +kernel
theorem dX9_refused_10 : decode cX9_refused 10 = .ok (.goto 4, 3) := by decide +kernel
theorem dX9_refused_13 : decode cX9_refused 13 = .ok (.iconst 0, 1) := by decide +kernel
theorem dX9_refused_14 : decode cX9_refused 14 = .ok (.ireturn, 1) := by decide +kernel
theorem dX9_in_0 : decode cX9_in 0 = .ok (.lload_n 0, 1) := by decide +kernel
theorem dX9_in_1 : decode cX9_in 1 = .ok (.lload_n 2, 1) := by decide +kernel
theorem dX9_in_2 : decode cX9_in 2 = .ok (.lcmp, 1) := by decide +kernel
theorem dX9_in_3 : decode cX9_in 3 = .ok (.ifCond .lt 14, 3) := by decide +kernel
theorem dX9_in_6 : decode cX9_in 6 = .ok (.lload_n 0, 1) := by decide +kernel
theorem dX9_in_7 : decode cX9_in 7 = .ok (.lload 4, 2) := by decide +kernel
theorem dX9_in_9 : decode cX9_in 9 = .ok (.lcmp, 1) := by decide +kernel
theorem dX9_in_10 : decode cX9_in 10 = .ok (.ifCond .gt 7, 3) := by decide +kernel
theorem dX9_in_13 : decode cX9_in 13 = .ok (.iconst 1, 1) := by decide +kernel
theorem dX9_in_14 : decode cX9_in 14 = .ok (.goto 4, 3) := by decide +kernel
theorem dX9_in_17 : decode cX9_in 17 = .ok (.iconst 0, 1) := by decide +kernel
theorem dX9_in_18 : decode cX9_in 18 = .ok (.ireturn, 1) := by decide +kernel
theorem dX9_copyState_0 : decode cX9_copyState 0 = .ok (.iconst 0, 1) := by decide +kernel
theorem dX9_copyState_1 : decode cX9_copyState 1 = .ok (.istore 4, 2) := by decide +kernel
theorem dX9_copyState_3 : decode cX9_copyState 3 = .ok (.iload 4, 2) := by decide +kernel
theorem dX9_copyState_5 : decode cX9_copyState 5 = .ok (.bipush 12, 2) := by decide +kernel
theorem dX9_copyState_7 : decode cX9_copyState 7 = .ok (.if_icmp .ge 21, 3) := by decide +kernel
theorem dX9_copyState_10 : decode cX9_copyState 10 = .ok (.aload_n 2, 1) := by decide +kernel
theorem dX9_copyState_11 : decode cX9_copyState 11 = .ok (.iload_n 3, 1) := by decide +kernel
theorem dX9_copyState_12 : decode cX9_copyState 12 = .ok (.iload 4, 2) := by decide +kernel
theorem dX9_copyState_14 : decode cX9_copyState 14 = .ok (.iadd, 1) := by decide +kernel
theorem dX9_copyState_15 : decode cX9_copyState 15 = .ok (.aload_n 0, 1) := by decide +kernel
theorem dX9_copyState_16 : decode cX9_copyState 16 = .ok (.iload_n 1, 1) := by decide +kernel
theorem dX9_copyState_17 : decode cX9_copyState 17 = .ok (.iload 4, 2) := by decide +kernel
theorem dX9_copyState_19 : decode cX9_copyState 19 = .ok (.iadd, 1) := by decide +kernel
theorem dX9_copyState_20 : decode cX9_copyState 20 = .ok (.iaload, 1) := by decide +kernel
theorem dX9_copyState_21 : decode cX9_copyState 21 = .ok (.iastore, 1) := by decide +kernel
theorem dX9_copyState_22 : decode cX9_copyState 22 = .ok (.iinc 4 1, 3) := by decide +kernel
theorem dX9_copyState_25 : decode cX9_copyState 25 = .ok (.goto (-22), 3) := by decide +kernel
theorem dX9_copyState_28 : decode cX9_copyState 28 = .ok (.return_, 1) := by decide +kernel
theorem dX9_clear_0 : decode cX9_clear 0 = .ok (.iconst 0, 1) := by decide +kernel
theorem dX9_clear_1 : decode cX9_clear 1 = .ok (.istore_n 1, 1) := by decide +kernel
theorem dX9_clear_2 : decode cX9_clear 2 = .ok (.iload_n 1, 1) := by decide +kernel
theorem dX9_clear_3 : decode cX9_clear 3 = .ok (.bipush 12, 2) := by decide +kernel
theorem dX9_clear_5 : decode cX9_clear 5 = .ok (.if_icmp .ge 13, 3) := by decide +kernel
theorem dX9_clear_8 : decode cX9_clear 8 = .ok (.aload_n 0, 1) := by decide +kernel
theorem dX9_clear_9 : decode cX9_clear 9 = .ok (.iload_n 1, 1) := by decide +kernel
theorem dX9_clear_10 : decode cX9_clear 10 = .ok (.iconst 0, 1) := by decide +kernel
theorem dX9_clear_11 : decode cX9_clear 11 = .ok (.iastore, 1) := by decide +kernel
theorem dX9_clear_12 : decode cX9_clear 12 = .ok (.iinc 1 1, 3) := by decide +kernel
theorem dX9_clear_15 : decode cX9_clear 15 = .ok (.goto (-13), 3) := by decide +kernel
theorem dX9_clear_18 : decode cX9_clear 18 = .ok (.aload_n 0, 1) := by decide +kernel
theorem dX9_clear_19 : decode cX9_clear 19 = .ok (.iconst 0, 1) := by decide +kernel
theorem dX9_clear_20 : decode cX9_clear 20 = .ok (.iconst 4, 1) := by decide +kernel
theorem dX9_clear_21 : decode cX9_clear 21 = .ok (.iastore, 1) := by decide +kernel
theorem dX9_clear_22 : decode cX9_clear 22 = .ok (.aload_n 0, 1) := by decide +kernel
theorem dX9_clear_23 : decode cX9_clear 23 = .ok (.iconst 1, 1) := by decide +kernel
theorem dX9_clear_24 : decode cX9_clear 24 = .ok (.sipush 170, 3) := by decide +kernel
theorem dX9_clear_27 : decode cX9_clear 27 = .ok (.iastore, 1) := by decide +kernel
theorem dX9_clear_28 : decode cX9_clear 28 = .ok (.aload_n 0, 1) := by decide +kernel
theorem dX9_clear_29 : decode cX9_clear 29 = .ok (.iconst 4, 1) := by decide +kernel
theorem dX9_clear_30 : decode cX9_clear 30 = .ok (.iconst 3, 1) := by decide +kernel
theorem dX9_clear_31 : decode cX9_clear 31 = .ok (.iastore, 1) := by decide +kernel
theorem dX9_clear_32 : decode cX9_clear 32 = .ok (.aload_n 0, 1) := by decide +kernel
theorem dX9_clear_33 : decode cX9_clear 33 = .ok (.iconst 5, 1) := by decide +kernel
theorem dX9_clear_34 : decode cX9_clear 34 = .ok (.iconst 2, 1) := by decide +kernel
theorem dX9_clear_35 : decode cX9_clear 35 = .ok (.iastore, 1) := by decide +kernel
theorem dX9_clear_36 : decode cX9_clear 36 = .ok (.return_, 1) := by decide +kernel
theorem dX9_isStem_0 : decode cX9_isStem 0 = .ok (.iload_n 1, 1) := by decide +kernel
theorem dX9_isStem_1 : decode cX9_isStem 1 = .ok (.i2l, 1) := by decide +kernel
theorem dX9_isStem_2 : decode cX9_isStem 2 = .ok (.lconst 0, 1) := by decide +kernel
theorem dX9_isStem_3 : decode cX9_isStem 3 = .ok (.aload_n 0, 1) := by decide +kernel
theorem dX9_isStem_4 : decode cX9_isStem 4 = .ok (.iconst 0, 1) := by decide +kernel
theorem dX9_isStem_5 : decode cX9_isStem 5 = .ok (.iaload, 1) := by decide +kernel
theorem dX9_isStem_6 : decode cX9_isStem 6 = .ok (.iconst 1, 1) := by decide +kernel
theorem dX9_isStem_7 : decode cX9_isStem 7 = .ok (.isub, 1) := by decide +kernel
theorem dX9_isStem_8 : decode cX9_isStem 8 = .ok (.i2l, 1) := by decide +kernel
theorem dX9_isStem_9 : decode cX9_isStem 9 = .ok (.invokestatic 43, 3) := by decide +kernel
theorem dX9_isStem_12 : decode cX9_isStem 12 = .ok (.ireturn, 1) := by decide +kernel
theorem dX9_all_0 : decode cX9_all 0 = .ok (.iconst 1, 1) := by decide +kernel
theorem dX9_all_1 : decode cX9_all 1 = .ok (.iconst 2, 1) := by decide +kernel
theorem dX9_all_2 : decode cX9_all 2 = .ok (.iload_n 0, 1) := by decide +kernel
theorem dX9_all_3 : decode cX9_all 3 = .ok (.imul, 1) := by decide +kernel
theorem dX9_all_4 : decode cX9_all 4 = .ok (.ishl, 1) := by decide +kernel
theorem dX9_all_5 : decode cX9_all 5 = .ok (.ireturn, 1) := by decide +kernel
theorem dX9_leavesOf_0 : decode cX9_leavesOf 0 = .ok (.iload_n 0, 1) := by decide +kernel
theorem dX9_leavesOf_1 : decode cX9_leavesOf 1 = .ok (.iconst 2, 1) := by decide +kernel
theorem dX9_leavesOf_2 : decode cX9_leavesOf 2 = .ok (.iload_n 1, 1) := by decide +kernel
theorem dX9_leavesOf_3 : decode cX9_leavesOf 3 = .ok (.imul, 1) := by decide +kernel
theorem dX9_leavesOf_4 : decode cX9_leavesOf 4 = .ok (.ishr, 1) := by decide +kernel
theorem dX9_leavesOf_5 : decode cX9_leavesOf 5 = .ok (.iconst 3, 1) := by decide +kernel
theorem dX9_leavesOf_6 : decode cX9_leavesOf 6 = .ok (.iand, 1) := by decide +kernel
theorem dX9_leavesOf_7 : decode cX9_leavesOf 7 = .ok (.ireturn, 1) := by decide +kernel
theorem dX9_count_0 : decode cX9_count 0 = .ok (.iconst 0, 1) := by decide +kernel
theorem dX9_count_1 : decode cX9_count 1 = .ok (.istore_n 1, 1) := by decide +kernel
theorem dX9_count_2 : decode cX9_count 2 = .ok (.iconst 0, 1) := by decide +kernel
theorem dX9_count_3 : decode cX9_count 3 = .ok (.istore_n 2, 1) := by decide +kernel
theorem dX9_count_4 : decode cX9_count 4 = .ok (.iload_n 2, 1) := by decide +kernel
theorem dX9_count_5 : decode cX9_count 5 = .ok (.bipush 6, 2) := by decide +kernel
theorem dX9_count_7 : decode cX9_count 7 = .ok (.if_icmp .ge 17, 3) := by decide +kernel
theorem dX9_count_10 : decode cX9_count 10 = .ok (.iload_n 1, 1) := by decide +kernel
theorem dX9_count_11 : decode cX9_count 11 = .ok (.iload_n 0, 1) := by decide +kernel
theorem dX9_count_12 : decode cX9_count 12 = .ok (.iload_n 2, 1) := by decide +kernel
theorem dX9_count_13 : decode cX9_count 13 = .ok (.invokestatic 47, 3) := by decide +kernel
theorem dX9_count_16 : decode cX9_count 16 = .ok (.iadd, 1) := by decide +kernel
theorem dX9_count_17 : decode cX9_count 17 = .ok (.istore_n 1, 1) := by decide +kernel
theorem dX9_count_18 : decode cX9_count 18 = .ok (.iinc 2 1, 3) := by decide +kernel
theorem dX9_count_21 : decode cX9_count 21 = .ok (.goto (-17), 3) := by decide +kernel
theorem dX9_count_24 : decode cX9_count 24 = .ok (.iload_n 1, 1) := by decide +kernel
theorem dX9_count_25 : decode cX9_count 25 = .ok (.ireturn, 1) := by decide +kernel
theorem dX9_bare_0 : decode cX9_bare 0 = .ok (.iconst 0, 1) := by decide +kernel
theorem dX9_bare_1 : decode cX9_bare 1 = .ok (.istore_n 2, 1) := by decide +kernel
theorem dX9_bare_2 : decode cX9_bare 2 = .ok (.iconst 0, 1) := by decide +kernel
theorem dX9_bare_3 : decode cX9_bare 3 = .ok (.istore_n 3, 1) := by decide +kernel
theorem dX9_bare_4 : decode cX9_bare 4 = .ok (.iload_n 3, 1) := by decide +kernel
theorem dX9_bare_5 : decode cX9_bare 5 = .ok (.aload_n 0, 1) := by decide +kernel
theorem dX9_bare_6 : decode cX9_bare 6 = .ok (.iconst 0, 1) := by decide +kernel
theorem dX9_bare_7 : decode cX9_bare 7 = .ok (.iaload, 1) := by decide +kernel
theorem dX9_bare_8 : decode cX9_bare 8 = .ok (.if_icmp .ge 25, 3) := by decide +kernel
theorem dX9_bare_11 : decode cX9_bare 11 = .ok (.iload_n 2, 1) := by decide +kernel
theorem dX9_bare_12 : decode cX9_bare 12 = .ok (.iload_n 1, 1) := by decide +kernel
theorem dX9_bare_13 : decode cX9_bare 13 = .ok (.iload_n 3, 1) := by decide +kernel
theorem dX9_bare_14 : decode cX9_bare 14 = .ok (.invokestatic 47, 3) := by decide +kernel
theorem dX9_bare_17 : decode cX9_bare 17 = .ok (.ifCond .ne 7, 3) := by decide +kernel
theorem dX9_bare_20 : decode cX9_bare 20 = .ok (.iconst 1, 1) := by decide +kernel
theorem dX9_bare_21 : decode cX9_bare 21 = .ok (.goto 4, 3) := by decide +kernel
theorem dX9_bare_24 : decode cX9_bare 24 = .ok (.iconst 0, 1) := by decide +kernel
theorem dX9_bare_25 : decode cX9_bare 25 = .ok (.iadd, 1) := by decide +kernel
theorem dX9_bare_26 : decode cX9_bare 26 = .ok (.istore_n 2, 1) := by decide +kernel
theorem dX9_bare_27 : decode cX9_bare 27 = .ok (.iinc 3 1, 3) := by decide +kernel
theorem dX9_bare_30 : decode cX9_bare 30 = .ok (.goto (-26), 3) := by decide +kernel
theorem dX9_bare_33 : decode cX9_bare 33 = .ok (.iload_n 2, 1) := by decide +kernel
theorem dX9_bare_34 : decode cX9_bare 34 = .ok (.ireturn, 1) := by decide +kernel
theorem dX9_isClip_0 : decode cX9_isClip 0 = .ok (.iload_n 2, 1) := by decide +kernel
theorem dX9_isClip_1 : decode cX9_isClip 1 = .ok (.iload_n 1, 1) := by decide +kernel
theorem dX9_isClip_2 : decode cX9_isClip 2 = .ok (.if_icmp .lt 28, 3) := by decide +kernel
theorem dX9_isClip_5 : decode cX9_isClip 5 = .ok (.iload_n 2, 1) := by decide +kernel
theorem dX9_isClip_6 : decode cX9_isClip 6 = .ok (.iload_n 1, 1) := by decide +kernel
theorem dX9_isClip_7 : decode cX9_isClip 7 = .ok (.isub, 1) := by decide +kernel
theorem dX9_isClip_8 : decode cX9_isClip 8 = .ok (.aload_n 0, 1) := by decide +kernel
theorem dX9_isClip_9 : decode cX9_isClip 9 = .ok (.iconst 5, 1) := by decide +kernel
theorem dX9_isClip_10 : decode cX9_isClip 10 = .ok (.iaload, 1) := by decide +kernel
theorem dX9_isClip_11 : decode cX9_isClip 11 = .ok (.if_icmp .ge 19, 3) := by decide +kernel
theorem dX9_isClip_14 : decode cX9_isClip 14 = .ok (.iload_n 3, 1) := by decide +kernel
theorem dX9_isClip_15 : decode cX9_isClip 15 = .ok (.i2l, 1) := by decide +kernel
theorem dX9_isClip_16 : decode cX9_isClip 16 = .ok (.lconst 1, 1) := by decide +kernel
theorem dX9_isClip_17 : decode cX9_isClip 17 = .ok (.ldc2_w 51, 3) := by decide +kernel
theorem dX9_isClip_20 : decode cX9_isClip 20 = .ok (.invokestatic 43, 3) := by decide +kernel
theorem dX9_isClip_23 : decode cX9_isClip 23 = .ok (.ifCond .eq 7, 3) := by decide +kernel
theorem dX9_isClip_26 : decode cX9_isClip 26 = .ok (.iconst 1, 1) := by decide +kernel
theorem dX9_isClip_27 : decode cX9_isClip 27 = .ok (.goto 4, 3) := by decide +kernel
theorem dX9_isClip_30 : decode cX9_isClip 30 = .ok (.iconst 0, 1) := by decide +kernel
theorem dX9_isClip_31 : decode cX9_isClip 31 = .ok (.ireturn, 1) := by decide +kernel
theorem dX9_cut_0 : decode cX9_cut 0 = .ok (.iload_n 0, 1) := by decide +kernel
theorem dX9_cut_1 : decode cX9_cut 1 = .ok (.istore 4, 2) := by decide +kernel
theorem dX9_cut_3 : decode cX9_cut 3 = .ok (.iload_n 1, 1) := by decide +kernel
theorem dX9_cut_4 : decode cX9_cut 4 = .ok (.istore 5, 2) := by decide +kernel
theorem dX9_cut_6 : decode cX9_cut 6 = .ok (.iload 5, 2) := by decide +kernel
theorem dX9_cut_8 : decode cX9_cut 8 = .ok (.iload_n 2, 1) := by decide +kernel
theorem dX9_cut_9 : decode cX9_cut 9 = .ok (.if_icmp .gt 39, 3) := by decide +kernel
theorem dX9_cut_12 : decode cX9_cut 12 = .ok (.iload_n 0, 1) := by decide +kernel
theorem dX9_cut_13 : decode cX9_cut 13 = .ok (.iload 5, 2) := by decide +kernel
theorem dX9_cut_15 : decode cX9_cut 15 = .ok (.invokestatic 47, 3) := by decide +kernel
theorem dX9_cut_18 : decode cX9_cut 18 = .ok (.istore 6, 2) := by decide +kernel
theorem dX9_cut_20 : decode cX9_cut 20 = .ok (.iload 4, 2) := by decide +kernel
theorem dX9_cut_22 : decode cX9_cut 22 = .ok (.iload 6, 2) := by decide +kernel
theorem dX9_cut_24 : decode cX9_cut 24 = .ok (.iload_n 3, 1) := by decide +kernel
theorem dX9_cut_25 : decode cX9_cut 25 = .ok (.if_icmp .ge 8, 3) := by decide +kernel
theorem dX9_cut_28 : decode cX9_cut 28 = .ok (.iload 6, 2) := by decide +kernel
theorem dX9_cut_30 : decode cX9_cut 30 = .ok (.goto 4, 3) := by decide +kernel
theorem dX9_cut_33 : decode cX9_cut 33 = .ok (.iload_n 3, 1) := by decide +kernel
theorem dX9_cut_34 : decode cX9_cut 34 = .ok (.iconst 2, 1) := by decide +kernel
theorem dX9_cut_35 : decode cX9_cut 35 = .ok (.iload 5, 2) := by decide +kernel
theorem dX9_cut_37 : decode cX9_cut 37 = .ok (.imul, 1) := by decide +kernel
theorem dX9_cut_38 : decode cX9_cut 38 = .ok (.ishl, 1) := by decide +kernel
theorem dX9_cut_39 : decode cX9_cut 39 = .ok (.isub, 1) := by decide +kernel
theorem dX9_cut_40 : decode cX9_cut 40 = .ok (.istore 4, 2) := by decide +kernel
theorem dX9_cut_42 : decode cX9_cut 42 = .ok (.iinc 5 1, 3) := by decide +kernel
theorem dX9_cut_45 : decode cX9_cut 45 = .ok (.goto (-39), 3) := by decide +kernel
theorem dX9_cut_48 : decode cX9_cut 48 = .ok (.iload 4, 2) := by decide +kernel
theorem dX9_cut_50 : decode cX9_cut 50 = .ok (.ireturn, 1) := by decide +kernel
theorem dX9_blown_0 : decode cX9_blown 0 = .ok (.iload_n 1, 1) := by decide +kernel
theorem dX9_blown_1 : decode cX9_blown 1 = .ok (.istore_n 2, 1) := by decide +kernel
theorem dX9_blown_2 : decode cX9_blown 2 = .ok (.aload_n 0, 1) := by decide +kernel
theorem dX9_blown_3 : decode cX9_blown 3 = .ok (.iconst 2, 1) := by decide +kernel
theorem dX9_blown_4 : decode cX9_blown 4 = .ok (.iaload, 1) := by decide +kernel
theorem dX9_blown_5 : decode cX9_blown 5 = .ok (.iconst 1, 1) := by decide +kernel
theorem dX9_blown_6 : decode cX9_blown 6 = .ok (.if_icmp .ne 7, 3) := by decide +kernel
theorem dX9_blown_9 : decode cX9_blown 9 = .ok (.iconst (-1), 1) := by decide +kernel
theorem dX9_blown_10 : decode cX9_blown 10 = .ok (.goto 4, 3) := by decide +kernel
theorem dX9_blown_13 : decode cX9_blown 13 = .ok (.iconst 1, 1) := by decide +kernel
theorem dX9_blown_14 : decode cX9_blown 14 = .ok (.istore_n 3, 1) := by decide +kernel
theorem dX9_blown_15 : decode cX9_blown 15 = .ok (.iconst 0, 1) := by decide +kernel
theorem dX9_blown_16 : decode cX9_blown 16 = .ok (.istore 4, 2) := by decide +kernel
theorem dX9_blown_18 : decode cX9_blown 18 = .ok (.iload 4, 2) := by decide +kernel
theorem dX9_blown_20 : decode cX9_blown 20 = .ok (.aload_n 0, 1) := by decide +kernel
theorem dX9_blown_21 : decode cX9_blown 21 = .ok (.iconst 0, 1) := by decide +kernel
theorem dX9_blown_22 : decode cX9_blown 22 = .ok (.iaload, 1) := by decide +kernel
theorem dX9_blown_23 : decode cX9_blown 23 = .ok (.if_icmp .ge 71, 3) := by decide +kernel
theorem dX9_blown_26 : decode cX9_blown 26 = .ok (.aload_n 0, 1) := by decide +kernel
theorem dX9_blown_27 : decode cX9_blown 27 = .ok (.iconst 2, 1) := by decide +kernel
theorem dX9_blown_28 : decode cX9_blown 28 = .ok (.iaload, 1) := by decide +kernel
theorem dX9_blown_29 : decode cX9_blown 29 = .ok (.ifCond .le 65, 3) := by decide +kernel
theorem dX9_blown_32 : decode cX9_blown 32 = .ok (.iload_n 1, 1) := by decide +kernel
theorem dX9_blown_33 : decode cX9_blown 33 = .ok (.iload 4, 2) := by decide +kernel
theorem dX9_blown_35 : decode cX9_blown 35 = .ok (.invokestatic 47, 3) := by decide +kernel
theorem dX9_blown_38 : decode cX9_blown 38 = .ok (.ifCond .le 29, 3) := by decide +kernel
theorem dX9_blown_41 : decode cX9_blown 41 = .ok (.aload_n 0, 1) := by decide +kernel
theorem dX9_blown_42 : decode cX9_blown 42 = .ok (.iload 4, 2) := by decide +kernel
theorem dX9_blown_44 : decode cX9_blown 44 = .ok (.iload_n 3, 1) := by decide +kernel
theorem dX9_blown_45 : decode cX9_blown 45 = .ok (.iadd, 1) := by decide +kernel
theorem dX9_blown_46 : decode cX9_blown 46 = .ok (.invokestatic 53, 3) := by decide +kernel
theorem dX9_blown_49 : decode cX9_blown 49 = .ok (.ifCond .eq 18, 3) := by decide +kernel
theorem dX9_blown_52 : decode cX9_blown 52 = .ok (.iload_n 1, 1) := by decide +kernel
theorem dX9_blown_53 : decode cX9_blown 53 = .ok (.iload 4, 2) := by decide +kernel
theorem dX9_blown_55 : decode cX9_blown 55 = .ok (.iload_n 3, 1) := by decide +kernel
theorem dX9_blown_56 : decode cX9_blown 56 = .ok (.iadd, 1) := by decide +kernel
theorem dX9_blown_57 : decode cX9_blown 57 = .ok (.invokestatic 47, 3) := by decide +kernel
theorem dX9_blown_60 : decode cX9_blown 60 = .ok (.ifCond .ne 7, 3) := by decide +kernel
theorem dX9_blown_63 : decode cX9_blown 63 = .ok (.iconst 1, 1) := by decide +kernel
theorem dX9_blown_64 : decode cX9_blown 64 = .ok (.goto 4, 3) := by decide +kernel
theorem dX9_blown_67 : decode cX9_blown 67 = .ok (.iconst 0, 1) := by decide +kernel
theorem dX9_blown_68 : decode cX9_blown 68 = .ok (.istore 5, 2) := by decide +kernel
theorem dX9_blown_70 : decode cX9_blown 70 = .ok (.iload_n 2, 1) := by decide +kernel
theorem dX9_blown_71 : decode cX9_blown 71 = .ok (.iload 5, 2) := by decide +kernel
theorem dX9_blown_73 : decode cX9_blown 73 = .ok (.ifCond .eq 12, 3) := by decide +kernel
theorem dX9_blown_76 : decode cX9_blown 76 = .ok (.iconst 1, 1) := by decide +kernel
theorem dX9_blown_77 : decode cX9_blown 77 = .ok (.iconst 2, 1) := by decide +kernel
theorem dX9_blown_78 : decode cX9_blown 78 = .ok (.iload 4, 2) := by decide +kernel
theorem dX9_blown_80 : decode cX9_blown 80 = .ok (.imul, 1) := by decide +kernel
theorem dX9_blown_81 : decode cX9_blown 81 = .ok (.ishl, 1) := by decide +kernel
theorem dX9_blown_82 : decode cX9_blown 82 = .ok (.goto 4, 3) := by decide +kernel
theorem dX9_blown_85 : decode cX9_blown 85 = .ok (.iconst 0, 1) := by decide +kernel
theorem dX9_blown_86 : decode cX9_blown 86 = .ok (.isub, 1) := by decide +kernel
theorem dX9_blown_87 : decode cX9_blown 87 = .ok (.istore_n 2, 1) := by decide +kernel
theorem dX9_blown_88 : decode cX9_blown 88 = .ok (.iinc 4 1, 3) := by decide +kernel
theorem dX9_blown_91 : decode cX9_blown 91 = .ok (.goto (-73), 3) := by decide +kernel
theorem dX9_blown_94 : decode cX9_blown 94 = .ok (.iload_n 2, 1) := by decide +kernel
theorem dX9_blown_95 : decode cX9_blown 95 = .ok (.ireturn, 1) := by decide +kernel
theorem dX9_canClip_0 : decode cX9_canClip 0 = .ok (.aload_n 0, 1) := by decide +kernel
theorem dX9_canClip_1 : decode cX9_canClip 1 = .ok (.iload_n 2, 1) := by decide +kernel
theorem dX9_canClip_2 : decode cX9_canClip 2 = .ok (.invokestatic 53, 3) := by decide +kernel
theorem dX9_canClip_5 : decode cX9_canClip 5 = .ok (.ifCond .eq 38, 3) := by decide +kernel
theorem dX9_canClip_8 : decode cX9_canClip 8 = .ok (.aload_n 0, 1) := by decide +kernel
theorem dX9_canClip_9 : decode cX9_canClip 9 = .ok (.iload_n 3, 1) := by decide +kernel
theorem dX9_canClip_10 : decode cX9_canClip 10 = .ok (.invokestatic 53, 3) := by decide +kernel
theorem dX9_canClip_13 : decode cX9_canClip 13 = .ok (.ifCond .eq 30, 3) := by decide +kernel
theorem dX9_canClip_16 : decode cX9_canClip 16 = .ok (.aload_n 0, 1) := by decide +kernel
theorem dX9_canClip_17 : decode cX9_canClip 17 = .ok (.iload_n 2, 1) := by decide +kernel
theorem dX9_canClip_18 : decode cX9_canClip 18 = .ok (.iload_n 3, 1) := by decide +kernel
theorem dX9_canClip_19 : decode cX9_canClip 19 = .ok (.iload 4, 2) := by decide +kernel
theorem dX9_canClip_21 : decode cX9_canClip 21 = .ok (.invokestatic 57, 3) := by decide +kernel
theorem dX9_canClip_24 : decode cX9_canClip 24 = .ok (.ifCond .eq 19, 3) := by decide +kernel
theorem dX9_canClip_27 : decode cX9_canClip 27 = .ok (.iload_n 1, 1) := by decide +kernel
theorem dX9_canClip_28 : decode cX9_canClip 28 = .ok (.iload_n 2, 1) := by decide +kernel
theorem dX9_canClip_29 : decode cX9_canClip 29 = .ok (.iload_n 3, 1) := by decide +kernel
theorem dX9_canClip_30 : decode cX9_canClip 30 = .ok (.iload 4, 2) := by decide +kernel
theorem dX9_canClip_32 : decode cX9_canClip 32 = .ok (.invokestatic 61, 3) := by decide +kernel
theorem dX9_canClip_35 : decode cX9_canClip 35 = .ok (.iload_n 1, 1) := by decide +kernel
theorem dX9_canClip_36 : decode cX9_canClip 36 = .ok (.if_icmp .eq 7, 3) := by decide +kernel
theorem dX9_canClip_39 : decode cX9_canClip 39 = .ok (.iconst 1, 1) := by decide +kernel
theorem dX9_canClip_40 : decode cX9_canClip 40 = .ok (.goto 4, 3) := by decide +kernel
theorem dX9_canClip_43 : decode cX9_canClip 43 = .ok (.iconst 0, 1) := by decide +kernel
theorem dX9_canClip_44 : decode cX9_canClip 44 = .ok (.ireturn, 1) := by decide +kernel
theorem dX9_behind_0 : decode cX9_behind 0 = .ok (.aload_n 0, 1) := by decide +kernel
theorem dX9_behind_1 : decode cX9_behind 1 = .ok (.iload_n 1, 1) := by decide +kernel
theorem dX9_behind_2 : decode cX9_behind 2 = .ok (.iload_n 2, 1) := by decide +kernel
theorem dX9_behind_3 : decode cX9_behind 3 = .ok (.iload_n 3, 1) := by decide +kernel
theorem dX9_behind_4 : decode cX9_behind 4 = .ok (.iload 4, 2) := by decide +kernel
theorem dX9_behind_6 : decode cX9_behind 6 = .ok (.invokestatic 61, 3) := by decide +kernel
theorem dX9_behind_9 : decode cX9_behind 9 = .ok (.invokestatic 65, 3) := by decide +kernel
theorem dX9_behind_12 : decode cX9_behind 12 = .ok (.ireturn, 1) := by decide +kernel
theorem dX9_brings_0 : decode cX9_brings 0 = .ok (.aload_n 0, 1) := by decide +kernel
theorem dX9_brings_1 : decode cX9_brings 1 = .ok (.iconst 4, 1) := by decide +kernel
theorem dX9_brings_2 : decode cX9_brings 2 = .ok (.iaload, 1) := by decide +kernel
theorem dX9_brings_3 : decode cX9_brings 3 = .ok (.aload_n 0, 1) := by decide +kernel
theorem dX9_brings_4 : decode cX9_brings 4 = .ok (.iload_n 2, 1) := by decide +kernel
theorem dX9_brings_5 : decode cX9_brings 5 = .ok (.invokestatic 69, 3) := by decide +kernel
theorem dX9_brings_8 : decode cX9_brings 8 = .ok (.aload_n 0, 1) := by decide +kernel
theorem dX9_brings_9 : decode cX9_brings 9 = .ok (.iload_n 1, 1) := by decide +kernel
theorem dX9_brings_10 : decode cX9_brings 10 = .ok (.invokestatic 69, 3) := by decide +kernel
theorem dX9_brings_13 : decode cX9_brings 13 = .ok (.isub, 1) := by decide +kernel
theorem dX9_brings_14 : decode cX9_brings 14 = .ok (.imul, 1) := by decide +kernel
theorem dX9_brings_15 : decode cX9_brings 15 = .ok (.ireturn, 1) := by decide +kernel
theorem dX9_tried_0 : decode cX9_tried 0 = .ok (.aload_n 1, 1) := by decide +kernel
theorem dX9_tried_1 : decode cX9_tried 1 = .ok (.iload_n 2, 1) := by decide +kernel
theorem dX9_tried_2 : decode cX9_tried 2 = .ok (.iload_n 3, 1) := by decide +kernel
theorem dX9_tried_3 : decode cX9_tried 3 = .ok (.bipush 100, 2) := by decide +kernel
theorem dX9_tried_5 : decode cX9_tried 5 = .ok (.idiv, 1) := by decide +kernel
theorem dX9_tried_6 : decode cX9_tried 6 = .ok (.iload_n 3, 1) := by decide +kernel
theorem dX9_tried_7 : decode cX9_tried 7 = .ok (.bipush 10, 2) := by decide +kernel
theorem dX9_tried_9 : decode cX9_tried 9 = .ok (.idiv, 1) := by decide +kernel
theorem dX9_tried_10 : decode cX9_tried 10 = .ok (.bipush 10, 2) := by decide +kernel
theorem dX9_tried_12 : decode cX9_tried 12 = .ok (.irem, 1) := by decide +kernel
theorem dX9_tried_13 : decode cX9_tried 13 = .ok (.iload_n 3, 1) := by decide +kernel
theorem dX9_tried_14 : decode cX9_tried 14 = .ok (.bipush 10, 2) := by decide +kernel
theorem dX9_tried_16 : decode cX9_tried 16 = .ok (.irem, 1) := by decide +kernel
theorem dX9_tried_17 : decode cX9_tried 17 = .ok (.invokestatic 72, 3) := by decide +kernel
theorem dX9_tried_20 : decode cX9_tried 20 = .ok (.istore 4, 2) := by decide +kernel
theorem dX9_tried_22 : decode cX9_tried 22 = .ok (.aload_n 0, 1) := by decide +kernel
theorem dX9_tried_23 : decode cX9_tried 23 = .ok (.getfield 29, 3) := by decide +kernel
theorem dX9_tried_26 : decode cX9_tried 26 = .ok (.iload 4, 2) := by decide +kernel
theorem dX9_tried_28 : decode cX9_tried 28 = .ok (.iaload, 1) := by decide +kernel
theorem dX9_tried_29 : decode cX9_tried 29 = .ok (.ineg, 1) := by decide +kernel
theorem dX9_tried_30 : decode cX9_tried 30 = .ok (.aload_n 1, 1) := by decide +kernel
theorem dX9_tried_31 : decode cX9_tried 31 = .ok (.iload_n 2, 1) := by decide +kernel
theorem dX9_tried_32 : decode cX9_tried 32 = .ok (.iload 4, 2) := by decide +kernel
theorem dX9_tried_34 : decode cX9_tried 34 = .ok (.invokestatic 76, 3) := by decide +kernel
theorem dX9_tried_37 : decode cX9_tried 37 = .ok (.isub, 1) := by decide +kernel
theorem dX9_tried_38 : decode cX9_tried 38 = .ok (.ireturn, 1) := by decide +kernel
theorem dX9_may_0 : decode cX9_may 0 = .ok (.aload_n 1, 1) := by decide +kernel
theorem dX9_may_1 : decode cX9_may 1 = .ok (.iload_n 2, 1) := by decide +kernel
theorem dX9_may_2 : decode cX9_may 2 = .ok (.iload_n 3, 1) := by decide +kernel
theorem dX9_may_3 : decode cX9_may 3 = .ok (.bipush 100, 2) := by decide +kernel
theorem dX9_may_5 : decode cX9_may 5 = .ok (.idiv, 1) := by decide +kernel
theorem dX9_may_6 : decode cX9_may 6 = .ok (.iload_n 3, 1) := by decide +kernel
theorem dX9_may_7 : decode cX9_may 7 = .ok (.bipush 10, 2) := by decide +kernel
theorem dX9_may_9 : decode cX9_may 9 = .ok (.idiv, 1) := by decide +kernel
theorem dX9_may_10 : decode cX9_may 10 = .ok (.bipush 10, 2) := by decide +kernel
theorem dX9_may_12 : decode cX9_may 12 = .ok (.irem, 1) := by decide +kernel
theorem dX9_may_13 : decode cX9_may 13 = .ok (.iload_n 3, 1) := by decide +kernel
theorem dX9_may_14 : decode cX9_may 14 = .ok (.bipush 10, 2) := by decide +kernel
theorem dX9_may_16 : decode cX9_may 16 = .ok (.irem, 1) := by decide +kernel
theorem dX9_may_17 : decode cX9_may 17 = .ok (.invokestatic 80, 3) := by decide +kernel
theorem dX9_may_20 : decode cX9_may 20 = .ok (.ireturn, 1) := by decide +kernel
theorem dX9_next_0 : decode cX9_next 0 = .ok (.iload_n 1, 1) := by decide +kernel
theorem dX9_next_1 : decode cX9_next 1 = .ok (.bipush 100, 2) := by decide +kernel
theorem dX9_next_3 : decode cX9_next 3 = .ok (.idiv, 1) := by decide +kernel
theorem dX9_next_4 : decode cX9_next 4 = .ok (.istore_n 2, 1) := by decide +kernel
theorem dX9_next_5 : decode cX9_next 5 = .ok (.iload_n 1, 1) := by decide +kernel
theorem dX9_next_6 : decode cX9_next 6 = .ok (.bipush 10, 2) := by decide +kernel
theorem dX9_next_8 : decode cX9_next 8 = .ok (.idiv, 1) := by decide +kernel
theorem dX9_next_9 : decode cX9_next 9 = .ok (.bipush 10, 2) := by decide +kernel
theorem dX9_next_11 : decode cX9_next 11 = .ok (.irem, 1) := by decide +kernel
theorem dX9_next_12 : decode cX9_next 12 = .ok (.istore_n 3, 1) := by decide +kernel
theorem dX9_next_13 : decode cX9_next 13 = .ok (.iload_n 1, 1) := by decide +kernel
theorem dX9_next_14 : decode cX9_next 14 = .ok (.bipush 10, 2) := by decide +kernel
theorem dX9_next_16 : decode cX9_next 16 = .ok (.irem, 1) := by decide +kernel
theorem dX9_next_17 : decode cX9_next 17 = .ok (.iconst 1, 1) := by decide +kernel
theorem dX9_next_18 : decode cX9_next 18 = .ok (.iadd, 1) := by decide +kernel
theorem dX9_next_19 : decode cX9_next 19 = .ok (.istore 4, 2) := by decide +kernel
theorem dX9_next_21 : decode cX9_next 21 = .ok (.iload_n 3, 1) := by decide +kernel
theorem dX9_next_22 : decode cX9_next 22 = .ok (.iload 4, 2) := by decide +kernel
theorem dX9_next_24 : decode cX9_next 24 = .ok (.iconst 3, 1) := by decide +kernel
theorem dX9_next_25 : decode cX9_next 25 = .ok (.if_icmp .le 7, 3) := by decide +kernel
theorem dX9_next_28 : decode cX9_next 28 = .ok (.iconst 1, 1) := by decide +kernel
theorem dX9_next_29 : decode cX9_next 29 = .ok (.goto 4, 3) := by decide +kernel
theorem dX9_next_32 : decode cX9_next 32 = .ok (.iconst 0, 1) := by decide +kernel
theorem dX9_next_33 : decode cX9_next 33 = .ok (.iadd, 1) := by decide +kernel
theorem dX9_next_34 : decode cX9_next 34 = .ok (.istore_n 3, 1) := by decide +kernel
theorem dX9_next_35 : decode cX9_next 35 = .ok (.iload 4, 2) := by decide +kernel
theorem dX9_next_37 : decode cX9_next 37 = .ok (.iconst 3, 1) := by decide +kernel
theorem dX9_next_38 : decode cX9_next 38 = .ok (.if_icmp .le 7, 3) := by decide +kernel
theorem dX9_next_41 : decode cX9_next 41 = .ok (.iconst 1, 1) := by decide +kernel
theorem dX9_next_42 : decode cX9_next 42 = .ok (.goto 5, 3) := by decide +kernel
theorem dX9_next_45 : decode cX9_next 45 = .ok (.iload 4, 2) := by decide +kernel
theorem dX9_next_47 : decode cX9_next 47 = .ok (.istore 4, 2) := by decide +kernel
theorem dX9_next_49 : decode cX9_next 49 = .ok (.iload_n 2, 1) := by decide +kernel
theorem dX9_next_50 : decode cX9_next 50 = .ok (.iload_n 3, 1) := by decide +kernel
theorem dX9_next_51 : decode cX9_next 51 = .ok (.iload_n 2, 1) := by decide +kernel
theorem dX9_next_52 : decode cX9_next 52 = .ok (.isub, 1) := by decide +kernel
theorem dX9_next_53 : decode cX9_next 53 = .ok (.aload_n 0, 1) := by decide +kernel
theorem dX9_next_54 : decode cX9_next 54 = .ok (.iconst 5, 1) := by decide +kernel
theorem dX9_next_55 : decode cX9_next 55 = .ok (.iaload, 1) := by decide +kernel
theorem dX9_next_56 : decode cX9_next 56 = .ok (.if_icmp .ge 10, 3) := by decide +kernel
theorem dX9_next_59 : decode cX9_next 59 = .ok (.iload_n 3, 1) := by decide +kernel
theorem dX9_next_60 : decode cX9_next 60 = .ok (.aload_n 0, 1) := by decide +kernel
theorem dX9_next_61 : decode cX9_next 61 = .ok (.iconst 0, 1) := by decide +kernel
theorem dX9_next_62 : decode cX9_next 62 = .ok (.iaload, 1) := by decide +kernel
theorem dX9_next_63 : decode cX9_next 63 = .ok (.if_icmp .lt 7, 3) := by decide +kernel
theorem dX9_next_66 : decode cX9_next 66 = .ok (.iconst 1, 1) := by decide +kernel
theorem dX9_next_67 : decode cX9_next 67 = .ok (.goto 4, 3) := by decide +kernel
theorem dX9_next_70 : decode cX9_next 70 = .ok (.iconst 0, 1) := by decide +kernel
theorem dX9_next_71 : decode cX9_next 71 = .ok (.iadd, 1) := by decide +kernel
theorem dX9_next_72 : decode cX9_next 72 = .ok (.istore_n 2, 1) := by decide +kernel
theorem dX9_next_73 : decode cX9_next 73 = .ok (.iload_n 2, 1) := by decide +kernel
theorem dX9_next_74 : decode cX9_next 74 = .ok (.iload_n 1, 1) := by decide +kernel
theorem dX9_next_75 : decode cX9_next 75 = .ok (.bipush 100, 2) := by decide +kernel
theorem dX9_next_77 : decode cX9_next 77 = .ok (.idiv, 1) := by decide +kernel
theorem dX9_next_78 : decode cX9_next 78 = .ok (.if_icmp .le 7, 3) := by decide +kernel
theorem dX9_next_81 : decode cX9_next 81 = .ok (.iconst 1, 1) := by decide +kernel
theorem dX9_next_82 : decode cX9_next 82 = .ok (.goto 4, 3) := by decide +kernel
theorem dX9_next_85 : decode cX9_next 85 = .ok (.iconst 0, 1) := by decide +kernel
theorem dX9_next_86 : decode cX9_next 86 = .ok (.istore 5, 2) := by decide +kernel
theorem dX9_next_88 : decode cX9_next 88 = .ok (.iload_n 2, 1) := by decide +kernel
theorem dX9_next_89 : decode cX9_next 89 = .ok (.aload_n 0, 1) := by decide +kernel
theorem dX9_next_90 : decode cX9_next 90 = .ok (.iconst 0, 1) := by decide +kernel
theorem dX9_next_91 : decode cX9_next 91 = .ok (.iaload, 1) := by decide +kernel
theorem dX9_next_92 : decode cX9_next 92 = .ok (.if_icmp .lt 9, 3) := by decide +kernel
theorem dX9_next_95 : decode cX9_next 95 = .ok (.sipush 1000, 3) := by decide +kernel
theorem dX9_next_98 : decode cX9_next 98 = .ok (.goto 24, 3) := by decide +kernel
theorem dX9_next_101 : decode cX9_next 101 = .ok (.bipush 100, 2) := by decide +kernel
theorem dX9_next_103 : decode cX9_next 103 = .ok (.iload_n 2, 1) := by decide +kernel
theorem dX9_next_104 : decode cX9_next 104 = .ok (.imul, 1) := by decide +kernel
theorem dX9_next_105 : decode cX9_next 105 = .ok (.bipush 10, 2) := by decide +kernel
theorem dX9_next_107 : decode cX9_next 107 = .ok (.iload 5, 2) := by decide +kernel
theorem dX9_next_109 : decode cX9_next 109 = .ok (.ifCond .eq 7, 3) := by decide +kernel
theorem dX9_next_112 : decode cX9_next 112 = .ok (.iload_n 2, 1) := by decide +kernel
theorem dX9_next_113 : decode cX9_next 113 = .ok (.goto 4, 3) := by decide +kernel
theorem dX9_next_116 : decode cX9_next 116 = .ok (.iload_n 3, 1) := by decide +kernel
theorem dX9_next_117 : decode cX9_next 117 = .ok (.imul, 1) := by decide +kernel
theorem dX9_next_118 : decode cX9_next 118 = .ok (.iadd, 1) := by decide +kernel
theorem dX9_next_119 : decode cX9_next 119 = .ok (.iload 4, 2) := by decide +kernel
theorem dX9_next_121 : decode cX9_next 121 = .ok (.iadd, 1) := by decide +kernel
theorem dX9_next_122 : decode cX9_next 122 = .ok (.ireturn, 1) := by decide +kernel
theorem dX9_layWorths_0 : decode cX9_layWorths 0 = .ok (.aload_n 1, 1) := by decide +kernel
theorem dX9_layWorths_1 : decode cX9_layWorths 1 = .ok (.iconst 0, 1) := by decide +kernel
theorem dX9_layWorths_2 : decode cX9_layWorths 2 = .ok (.iaload, 1) := by decide +kernel
theorem dX9_layWorths_3 : decode cX9_layWorths 3 = .ok (.bipush 10, 2) := by decide +kernel
theorem dX9_layWorths_5 : decode cX9_layWorths 5 = .ok (.aload_n 1, 1) := by decide +kernel
theorem dX9_layWorths_6 : decode cX9_layWorths 6 = .ok (.iconst 2, 1) := by decide +kernel
theorem dX9_layWorths_7 : decode cX9_layWorths 7 = .ok (.iaload, 1) := by decide +kernel
theorem dX9_layWorths_8 : decode cX9_layWorths 8 = .ok (.imul, 1) := by decide +kernel
theorem dX9_layWorths_9 : decode cX9_layWorths 9 = .ok (.iadd, 1) := by decide +kernel
theorem dX9_layWorths_10 : decode cX9_layWorths 10 = .ok (.bipush 100, 2) := by decide +kernel
theorem dX9_layWorths_12 : decode cX9_layWorths 12 = .ok (.aload_n 1, 1) := by decide +kernel
theorem dX9_layWorths_13 : decode cX9_layWorths 13 = .ok (.iconst 4, 1) := by decide +kernel
theorem dX9_layWorths_14 : decode cX9_layWorths 14 = .ok (.iaload, 1) := by decide +kernel
theorem dX9_layWorths_15 : decode cX9_layWorths 15 = .ok (.imul, 1) := by decide +kernel
theorem dX9_layWorths_16 : decode cX9_layWorths 16 = .ok (.iadd, 1) := by decide +kernel
theorem dX9_layWorths_17 : decode cX9_layWorths 17 = .ok (.sipush 1000, 3) := by decide +kernel
theorem dX9_layWorths_20 : decode cX9_layWorths 20 = .ok (.aload_n 1, 1) := by decide +kernel
theorem dX9_layWorths_21 : decode cX9_layWorths 21 = .ok (.iconst 5, 1) := by decide +kernel
theorem dX9_layWorths_22 : decode cX9_layWorths 22 = .ok (.iaload, 1) := by decide +kernel
theorem dX9_layWorths_23 : decode cX9_layWorths 23 = .ok (.imul, 1) := by decide +kernel
theorem dX9_layWorths_24 : decode cX9_layWorths 24 = .ok (.iadd, 1) := by decide +kernel
theorem dX9_layWorths_25 : decode cX9_layWorths 25 = .ok (.istore_n 2, 1) := by decide +kernel
theorem dX9_layWorths_26 : decode cX9_layWorths 26 = .ok (.iload_n 2, 1) := by decide +kernel
theorem dX9_layWorths_27 : decode cX9_layWorths 27 = .ok (.aload_n 0, 1) := by decide +kernel
theorem dX9_layWorths_28 : decode cX9_layWorths 28 = .ok (.getfield 32, 3) := by decide +kernel
theorem dX9_layWorths_31 : decode cX9_layWorths 31 = .ok (.if_icmp .ne 4, 3) := by decide +kernel
theorem dX9_layWorths_34 : decode cX9_layWorths 34 = .ok (.return_, 1) := by decide +kernel
theorem dX9_layWorths_35 : decode cX9_layWorths 35 = .ok (.aload_n 0, 1) := by decide +kernel
theorem dX9_layWorths_36 : decode cX9_layWorths 36 = .ok (.iload_n 2, 1) := by decide +kernel
theorem dX9_layWorths_37 : decode cX9_layWorths 37 = .ok (.putfield 32, 3) := by decide +kernel
theorem dX9_layWorths_40 : decode cX9_layWorths 40 = .ok (.aload_n 0, 1) := by decide +kernel
theorem dX9_layWorths_41 : decode cX9_layWorths 41 = .ok (.getfield 29, 3) := by decide +kernel
theorem dX9_layWorths_44 : decode cX9_layWorths 44 = .ok (.iconst 0, 1) := by decide +kernel
theorem dX9_layWorths_45 : decode cX9_layWorths 45 = .ok (.iconst 0, 1) := by decide +kernel
theorem dX9_layWorths_46 : decode cX9_layWorths 46 = .ok (.iastore, 1) := by decide +kernel
theorem dX9_layWorths_47 : decode cX9_layWorths 47 = .ok (.aload_n 1, 1) := by decide +kernel
theorem dX9_layWorths_48 : decode cX9_layWorths 48 = .ok (.iconst 0, 1) := by decide +kernel
theorem dX9_layWorths_49 : decode cX9_layWorths 49 = .ok (.iaload, 1) := by decide +kernel
theorem dX9_layWorths_50 : decode cX9_layWorths 50 = .ok (.invokestatic 84, 3) := by decide +kernel
theorem dX9_layWorths_53 : decode cX9_layWorths 53 = .ok (.istore_n 3, 1) := by decide +kernel
theorem dX9_layWorths_54 : decode cX9_layWorths 54 = .ok (.iconst 1, 1) := by decide +kernel
theorem dX9_layWorths_55 : decode cX9_layWorths 55 = .ok (.istore 4, 2) := by decide +kernel
theorem dX9_layWorths_57 : decode cX9_layWorths 57 = .ok (.iload 4, 2) := by decide +kernel
theorem dX9_layWorths_59 : decode cX9_layWorths 59 = .ok (.iload_n 3, 1) := by decide +kernel
theorem dX9_layWorths_60 : decode cX9_layWorths 60 = .ok (.if_icmp .ge 93, 3) := by decide +kernel
theorem dX9_layWorths_63 : decode cX9_layWorths 63 = .ok (.iconst 0, 1) := by decide +kernel
theorem dX9_layWorths_64 : decode cX9_layWorths 64 = .ok (.istore 5, 2) := by decide +kernel
theorem dX9_layWorths_66 : decode cX9_layWorths 66 = .ok (.iconst 0, 1) := by decide +kernel
theorem dX9_layWorths_67 : decode cX9_layWorths 67 = .ok (.istore 6, 2) := by decide +kernel
theorem dX9_layWorths_69 : decode cX9_layWorths 69 = .ok (.iconst 1, 1) := by decide +kernel
theorem dX9_layWorths_70 : decode cX9_layWorths 70 = .ok (.istore 7, 2) := by decide +kernel
theorem dX9_layWorths_72 : decode cX9_layWorths 72 = .ok (.iload 7, 2) := by decide +kernel
theorem dX9_layWorths_74 : decode cX9_layWorths 74 = .ok (.sipush 1000, 3) := by decide +kernel
theorem dX9_layWorths_77 : decode cX9_layWorths 77 = .ok (.if_icmp .ge 61, 3) := by decide +kernel
theorem dX9_layWorths_80 : decode cX9_layWorths 80 = .ok (.aload_n 0, 1) := by decide +kernel
theorem dX9_layWorths_81 : decode cX9_layWorths 81 = .ok (.aload_n 1, 1) := by decide +kernel
theorem dX9_layWorths_82 : decode cX9_layWorths 82 = .ok (.iload 4, 2) := by decide +kernel
theorem dX9_layWorths_84 : decode cX9_layWorths 84 = .ok (.iload 7, 2) := by decide +kernel
theorem dX9_layWorths_86 : decode cX9_layWorths 86 = .ok (.invokevirtual 88, 3) := by decide +kernel
theorem dX9_layWorths_89 : decode cX9_layWorths 89 = .ok (.ifCond .eq 38, 3) := by decide +kernel
theorem dX9_layWorths_92 : decode cX9_layWorths 92 = .ok (.aload_n 0, 1) := by decide +kernel
theorem dX9_layWorths_93 : decode cX9_layWorths 93 = .ok (.aload_n 1, 1) := by decide +kernel
theorem dX9_layWorths_94 : decode cX9_layWorths 94 = .ok (.iload 4, 2) := by decide +kernel
theorem dX9_layWorths_96 : decode cX9_layWorths 96 = .ok (.iload 7, 2) := by decide +kernel
theorem dX9_layWorths_98 : decode cX9_layWorths 98 = .ok (.invokevirtual 92, 3) := by decide +kernel
theorem dX9_layWorths_101 : decode cX9_layWorths 101 = .ok (.istore 8, 2) := by decide +kernel
theorem dX9_layWorths_103 : decode cX9_layWorths 103 = .ok (.iload 5, 2) := by decide +kernel
theorem dX9_layWorths_105 : decode cX9_layWorths 105 = .ok (.ifCond .eq 10, 3) := by decide +kernel
theorem dX9_layWorths_108 : decode cX9_layWorths 108 = .ok (.iload 8, 2) := by decide +kernel
theorem dX9_layWorths_110 : decode cX9_layWorths 110 = .ok (.iload 6, 2) := by decide +kernel
theorem dX9_layWorths_112 : decode cX9_layWorths 112 = .ok (.if_icmp .le 8, 3) := by decide +kernel
theorem dX9_layWorths_115 : decode cX9_layWorths 115 = .ok (.iload 8, 2) := by decide +kernel
theorem dX9_layWorths_117 : decode cX9_layWorths 117 = .ok (.goto 5, 3) := by decide +kernel
theorem dX9_layWorths_120 : decode cX9_layWorths 120 = .ok (.iload 6, 2) := by decide +kernel
theorem dX9_layWorths_122 : decode cX9_layWorths 122 = .ok (.istore 6, 2) := by decide +kernel
theorem dX9_layWorths_124 : decode cX9_layWorths 124 = .ok (.iconst 1, 1) := by decide +kernel
theorem dX9_layWorths_125 : decode cX9_layWorths 125 = .ok (.istore 5, 2) := by decide +kernel
theorem dX9_layWorths_127 : decode cX9_layWorths 127 = .ok (.aload_n 1, 1) := by decide +kernel
theorem dX9_layWorths_128 : decode cX9_layWorths 128 = .ok (.iload 7, 2) := by decide +kernel
theorem dX9_layWorths_130 : decode cX9_layWorths 130 = .ok (.invokestatic 95, 3) := by decide +kernel
theorem dX9_layWorths_133 : decode cX9_layWorths 133 = .ok (.istore 7, 2) := by decide +kernel
theorem dX9_layWorths_135 : decode cX9_layWorths 135 = .ok (.goto (-63), 3) := by decide +kernel
theorem dX9_layWorths_138 : decode cX9_layWorths 138 = .ok (.aload_n 0, 1) := by decide +kernel
theorem dX9_layWorths_139 : decode cX9_layWorths 139 = .ok (.getfield 29, 3) := by decide +kernel
theorem dX9_layWorths_142 : decode cX9_layWorths 142 = .ok (.iload 4, 2) := by decide +kernel
theorem dX9_layWorths_144 : decode cX9_layWorths 144 = .ok (.iload 6, 2) := by decide +kernel
theorem dX9_layWorths_146 : decode cX9_layWorths 146 = .ok (.iastore, 1) := by decide +kernel
theorem dX9_layWorths_147 : decode cX9_layWorths 147 = .ok (.iinc 4 1, 3) := by decide +kernel
theorem dX9_layWorths_150 : decode cX9_layWorths 150 = .ok (.goto (-93), 3) := by decide +kernel
theorem dX9_layWorths_153 : decode cX9_layWorths 153 = .ok (.return_, 1) := by decide +kernel
theorem dX9_worthOf_0 : decode cX9_worthOf 0 = .ok (.aload_n 0, 1) := by decide +kernel
theorem dX9_worthOf_1 : decode cX9_worthOf 1 = .ok (.aload_n 1, 1) := by decide +kernel
theorem dX9_worthOf_2 : decode cX9_worthOf 2 = .ok (.invokevirtual 98, 3) := by decide +kernel
theorem dX9_worthOf_5 : decode cX9_worthOf 5 = .ok (.aload_n 0, 1) := by decide +kernel
theorem dX9_worthOf_6 : decode cX9_worthOf 6 = .ok (.getfield 29, 3) := by decide +kernel
theorem dX9_worthOf_9 : decode cX9_worthOf 9 = .ok (.aload_n 1, 1) := by decide +kernel
theorem dX9_worthOf_10 : decode cX9_worthOf 10 = .ok (.iconst 1, 1) := by decide +kernel
theorem dX9_worthOf_11 : decode cX9_worthOf 11 = .ok (.iaload, 1) := by decide +kernel
theorem dX9_worthOf_12 : decode cX9_worthOf 12 = .ok (.iaload, 1) := by decide +kernel
theorem dX9_worthOf_13 : decode cX9_worthOf 13 = .ok (.ireturn, 1) := by decide +kernel
theorem dX9_best_0 : decode cX9_best 0 = .ok (.aload_n 0, 1) := by decide +kernel
theorem dX9_best_1 : decode cX9_best 1 = .ok (.aload_n 1, 1) := by decide +kernel
theorem dX9_best_2 : decode cX9_best 2 = .ok (.invokevirtual 98, 3) := by decide +kernel
theorem dX9_best_5 : decode cX9_best 5 = .ok (.iconst 1, 1) := by decide +kernel
theorem dX9_best_6 : decode cX9_best 6 = .ok (.istore_n 2, 1) := by decide +kernel
theorem dX9_best_7 : decode cX9_best 7 = .ok (.iload_n 2, 1) := by decide +kernel
theorem dX9_best_8 : decode cX9_best 8 = .ok (.sipush 1000, 3) := by decide +kernel
theorem dX9_best_11 : decode cX9_best 11 = .ok (.if_icmp .ge 46, 3) := by decide +kernel
theorem dX9_best_14 : decode cX9_best 14 = .ok (.aload_n 0, 1) := by decide +kernel
theorem dX9_best_15 : decode cX9_best 15 = .ok (.aload_n 1, 1) := by decide +kernel
theorem dX9_best_16 : decode cX9_best 16 = .ok (.aload_n 1, 1) := by decide +kernel
theorem dX9_best_17 : decode cX9_best 17 = .ok (.iconst 1, 1) := by decide +kernel
theorem dX9_best_18 : decode cX9_best 18 = .ok (.iaload, 1) := by decide +kernel
theorem dX9_best_19 : decode cX9_best 19 = .ok (.iload_n 2, 1) := by decide +kernel
theorem dX9_best_20 : decode cX9_best 20 = .ok (.invokevirtual 88, 3) := by decide +kernel
theorem dX9_best_23 : decode cX9_best 23 = .ok (.ifCond .eq 25, 3) := by decide +kernel
theorem dX9_best_26 : decode cX9_best 26 = .ok (.aload_n 0, 1) := by decide +kernel
theorem dX9_best_27 : decode cX9_best 27 = .ok (.aload_n 1, 1) := by decide +kernel
theorem dX9_best_28 : decode cX9_best 28 = .ok (.aload_n 1, 1) := by decide +kernel
theorem dX9_best_29 : decode cX9_best 29 = .ok (.iconst 1, 1) := by decide +kernel
theorem dX9_best_30 : decode cX9_best 30 = .ok (.iaload, 1) := by decide +kernel
theorem dX9_best_31 : decode cX9_best 31 = .ok (.iload_n 2, 1) := by decide +kernel
theorem dX9_best_32 : decode cX9_best 32 = .ok (.invokevirtual 92, 3) := by decide +kernel
theorem dX9_best_35 : decode cX9_best 35 = .ok (.aload_n 0, 1) := by decide +kernel
theorem dX9_best_36 : decode cX9_best 36 = .ok (.getfield 29, 3) := by decide +kernel
theorem dX9_best_39 : decode cX9_best 39 = .ok (.aload_n 1, 1) := by decide +kernel
theorem dX9_best_40 : decode cX9_best 40 = .ok (.iconst 1, 1) := by decide +kernel
theorem dX9_best_41 : decode cX9_best 41 = .ok (.iaload, 1) := by decide +kernel
theorem dX9_best_42 : decode cX9_best 42 = .ok (.iaload, 1) := by decide +kernel
theorem dX9_best_43 : decode cX9_best 43 = .ok (.if_icmp .ne 5, 3) := by decide +kernel
theorem dX9_best_46 : decode cX9_best 46 = .ok (.iload_n 2, 1) := by decide +kernel
theorem dX9_best_47 : decode cX9_best 47 = .ok (.ireturn, 1) := by decide +kernel
theorem dX9_best_48 : decode cX9_best 48 = .ok (.aload_n 1, 1) := by decide +kernel
theorem dX9_best_49 : decode cX9_best 49 = .ok (.iload_n 2, 1) := by decide +kernel
theorem dX9_best_50 : decode cX9_best 50 = .ok (.invokestatic 95, 3) := by decide +kernel
theorem dX9_best_53 : decode cX9_best 53 = .ok (.istore_n 2, 1) := by decide +kernel
theorem dX9_best_54 : decode cX9_best 54 = .ok (.goto (-47), 3) := by decide +kernel
theorem dX9_best_57 : decode cX9_best 57 = .ok (.iconst (-1), 1) := by decide +kernel
theorem dX9_best_58 : decode cX9_best 58 = .ok (.ireturn, 1) := by decide +kernel
theorem dX9_clipOn_0 : decode cX9_clipOn 0 = .ok (.aload_n 0, 1) := by decide +kernel
theorem dX9_clipOn_1 : decode cX9_clipOn 1 = .ok (.iconst 3, 1) := by decide +kernel
theorem dX9_clipOn_2 : decode cX9_clipOn 2 = .ok (.iaload, 1) := by decide +kernel
theorem dX9_clipOn_3 : decode cX9_clipOn 3 = .ok (.istore 4, 2) := by decide +kernel
theorem dX9_clipOn_5 : decode cX9_clipOn 5 = .ok (.aload_n 0, 1) := by decide +kernel
theorem dX9_clipOn_6 : decode cX9_clipOn 6 = .ok (.aload_n 0, 1) := by decide +kernel
theorem dX9_clipOn_7 : decode cX9_clipOn 7 = .ok (.iconst 1, 1) := by decide +kernel
theorem dX9_clipOn_8 : decode cX9_clipOn 8 = .ok (.iaload, 1) := by decide +kernel
theorem dX9_clipOn_9 : decode cX9_clipOn 9 = .ok (.iload_n 1, 1) := by decide +kernel
theorem dX9_clipOn_10 : decode cX9_clipOn 10 = .ok (.iload_n 2, 1) := by decide +kernel
theorem dX9_clipOn_11 : decode cX9_clipOn 11 = .ok (.iload_n 3, 1) := by decide +kernel
theorem dX9_clipOn_12 : decode cX9_clipOn 12 = .ok (.invokestatic 72, 3) := by decide +kernel
theorem dX9_clipOn_15 : decode cX9_clipOn 15 = .ok (.istore 5, 2) := by decide +kernel
theorem dX9_clipOn_17 : decode cX9_clipOn 17 = .ok (.aload_n 0, 1) := by decide +kernel
theorem dX9_clipOn_18 : decode cX9_clipOn 18 = .ok (.aload_n 0, 1) := by decide +kernel
theorem dX9_clipOn_19 : decode cX9_clipOn 19 = .ok (.iconst 1, 1) := by decide +kernel
theorem dX9_clipOn_20 : decode cX9_clipOn 20 = .ok (.iaload, 1) := by decide +kernel
theorem dX9_clipOn_21 : decode cX9_clipOn 21 = .ok (.iload 5, 2) := by decide +kernel
theorem dX9_clipOn_23 : decode cX9_clipOn 23 = .ok (.invokestatic 76, 3) := by decide +kernel
theorem dX9_clipOn_26 : decode cX9_clipOn 26 = .ok (.istore 6, 2) := by decide +kernel
theorem dX9_clipOn_28 : decode cX9_clipOn 28 = .ok (.aload_n 0, 1) := by decide +kernel
theorem dX9_clipOn_29 : decode cX9_clipOn 29 = .ok (.bipush 6, 2) := by decide +kernel
theorem dX9_clipOn_31 : decode cX9_clipOn 31 = .ok (.iload 4, 2) := by decide +kernel
theorem dX9_clipOn_33 : decode cX9_clipOn 33 = .ok (.iadd, 1) := by decide +kernel
theorem dX9_clipOn_34 : decode cX9_clipOn 34 = .ok (.dup2, 1) := by decide +kernel
theorem dX9_clipOn_35 : decode cX9_clipOn 35 = .ok (.iaload, 1) := by decide +kernel
theorem dX9_clipOn_36 : decode cX9_clipOn 36 = .ok (.iload 6, 2) := by decide +kernel
theorem dX9_clipOn_38 : decode cX9_clipOn 38 = .ok (.iadd, 1) := by decide +kernel
theorem dX9_clipOn_39 : decode cX9_clipOn 39 = .ok (.iastore, 1) := by decide +kernel
theorem dX9_clipOn_40 : decode cX9_clipOn 40 = .ok (.aload_n 0, 1) := by decide +kernel
theorem dX9_clipOn_41 : decode cX9_clipOn 41 = .ok (.bipush 8, 2) := by decide +kernel
theorem dX9_clipOn_43 : decode cX9_clipOn 43 = .ok (.iload 4, 2) := by decide +kernel
theorem dX9_clipOn_45 : decode cX9_clipOn 45 = .ok (.iadd, 1) := by decide +kernel
theorem dX9_clipOn_46 : decode cX9_clipOn 46 = .ok (.dup2, 1) := by decide +kernel
theorem dX9_clipOn_47 : decode cX9_clipOn 47 = .ok (.iaload, 1) := by decide +kernel
theorem dX9_clipOn_48 : decode cX9_clipOn 48 = .ok (.iconst 1, 1) := by decide +kernel
theorem dX9_clipOn_49 : decode cX9_clipOn 49 = .ok (.iadd, 1) := by decide +kernel
theorem dX9_clipOn_50 : decode cX9_clipOn 50 = .ok (.iastore, 1) := by decide +kernel
theorem dX9_clipOn_51 : decode cX9_clipOn 51 = .ok (.aload_n 0, 1) := by decide +kernel
theorem dX9_clipOn_52 : decode cX9_clipOn 52 = .ok (.bipush 10, 2) := by decide +kernel
theorem dX9_clipOn_54 : decode cX9_clipOn 54 = .ok (.iload 4, 2) := by decide +kernel
theorem dX9_clipOn_56 : decode cX9_clipOn 56 = .ok (.iadd, 1) := by decide +kernel
theorem dX9_clipOn_57 : decode cX9_clipOn 57 = .ok (.dup2, 1) := by decide +kernel
theorem dX9_clipOn_58 : decode cX9_clipOn 58 = .ok (.iaload, 1) := by decide +kernel
theorem dX9_clipOn_59 : decode cX9_clipOn 59 = .ok (.aload_n 0, 1) := by decide +kernel
theorem dX9_clipOn_60 : decode cX9_clipOn 60 = .ok (.iconst 1, 1) := by decide +kernel
theorem dX9_clipOn_61 : decode cX9_clipOn 61 = .ok (.iaload, 1) := by decide +kernel
theorem dX9_clipOn_62 : decode cX9_clipOn 62 = .ok (.invokestatic 101, 3) := by decide +kernel
theorem dX9_clipOn_65 : decode cX9_clipOn 65 = .ok (.iload 5, 2) := by decide +kernel
theorem dX9_clipOn_67 : decode cX9_clipOn 67 = .ok (.invokestatic 101, 3) := by decide +kernel
theorem dX9_clipOn_70 : decode cX9_clipOn 70 = .ok (.isub, 1) := by decide +kernel
theorem dX9_clipOn_71 : decode cX9_clipOn 71 = .ok (.iadd, 1) := by decide +kernel
theorem dX9_clipOn_72 : decode cX9_clipOn 72 = .ok (.iastore, 1) := by decide +kernel
theorem dX9_clipOn_73 : decode cX9_clipOn 73 = .ok (.aload_n 0, 1) := by decide +kernel
theorem dX9_clipOn_74 : decode cX9_clipOn 74 = .ok (.iconst 1, 1) := by decide +kernel
theorem dX9_clipOn_75 : decode cX9_clipOn 75 = .ok (.iload 5, 2) := by decide +kernel
theorem dX9_clipOn_77 : decode cX9_clipOn 77 = .ok (.iastore, 1) := by decide +kernel
theorem dX9_clipOn_78 : decode cX9_clipOn 78 = .ok (.aload_n 0, 1) := by decide +kernel
theorem dX9_clipOn_79 : decode cX9_clipOn 79 = .ok (.iconst 3, 1) := by decide +kernel
theorem dX9_clipOn_80 : decode cX9_clipOn 80 = .ok (.iconst 1, 1) := by decide +kernel
theorem dX9_clipOn_81 : decode cX9_clipOn 81 = .ok (.iload 4, 2) := by decide +kernel
theorem dX9_clipOn_83 : decode cX9_clipOn 83 = .ok (.isub, 1) := by decide +kernel
theorem dX9_clipOn_84 : decode cX9_clipOn 84 = .ok (.iastore, 1) := by decide +kernel
theorem dX9_clipOn_85 : decode cX9_clipOn 85 = .ok (.iload 6, 2) := by decide +kernel
theorem dX9_clipOn_87 : decode cX9_clipOn 87 = .ok (.ireturn, 1) := by decide +kernel
theorem dX9_bestOn_0 : decode cX9_bestOn 0 = .ok (.aload_n 0, 1) := by decide +kernel
theorem dX9_bestOn_1 : decode cX9_bestOn 1 = .ok (.aload_n 1, 1) := by decide +kernel
theorem dX9_bestOn_2 : decode cX9_bestOn 2 = .ok (.invokevirtual 104, 3) := by decide +kernel
theorem dX9_bestOn_5 : decode cX9_bestOn 5 = .ok (.istore_n 2, 1) := by decide +kernel
theorem dX9_bestOn_6 : decode cX9_bestOn 6 = .ok (.iload_n 2, 1) := by decide +kernel
theorem dX9_bestOn_7 : decode cX9_bestOn 7 = .ok (.iconst (-1), 1) := by decide +kernel
theorem dX9_bestOn_8 : decode cX9_bestOn 8 = .ok (.if_icmp .eq 23, 3) := by decide +kernel
theorem dX9_bestOn_11 : decode cX9_bestOn 11 = .ok (.aload_n 1, 1) := by decide +kernel
theorem dX9_bestOn_12 : decode cX9_bestOn 12 = .ok (.iload_n 2, 1) := by decide +kernel
theorem dX9_bestOn_13 : decode cX9_bestOn 13 = .ok (.bipush 100, 2) := by decide +kernel
theorem dX9_bestOn_15 : decode cX9_bestOn 15 = .ok (.idiv, 1) := by decide +kernel
theorem dX9_bestOn_16 : decode cX9_bestOn 16 = .ok (.iload_n 2, 1) := by decide +kernel
theorem dX9_bestOn_17 : decode cX9_bestOn 17 = .ok (.bipush 10, 2) := by decide +kernel
theorem dX9_bestOn_19 : decode cX9_bestOn 19 = .ok (.idiv, 1) := by decide +kernel
theorem dX9_bestOn_20 : decode cX9_bestOn 20 = .ok (.bipush 10, 2) := by decide +kernel
theorem dX9_bestOn_22 : decode cX9_bestOn 22 = .ok (.irem, 1) := by decide +kernel
theorem dX9_bestOn_23 : decode cX9_bestOn 23 = .ok (.iload_n 2, 1) := by decide +kernel
theorem dX9_bestOn_24 : decode cX9_bestOn 24 = .ok (.bipush 10, 2) := by decide +kernel
theorem dX9_bestOn_26 : decode cX9_bestOn 26 = .ok (.irem, 1) := by decide +kernel
theorem dX9_bestOn_27 : decode cX9_bestOn 27 = .ok (.invokestatic 108, 3) := by decide +kernel
theorem dX9_bestOn_30 : decode cX9_bestOn 30 = .ok (.pop, 1) := by decide +kernel
theorem dX9_bestOn_31 : decode cX9_bestOn 31 = .ok (.iload_n 2, 1) := by decide +kernel
theorem dX9_bestOn_32 : decode cX9_bestOn 32 = .ok (.iconst (-1), 1) := by decide +kernel
theorem dX9_bestOn_33 : decode cX9_bestOn 33 = .ok (.if_icmp .eq 7, 3) := by decide +kernel
theorem dX9_bestOn_36 : decode cX9_bestOn 36 = .ok (.iconst 1, 1) := by decide +kernel
theorem dX9_bestOn_37 : decode cX9_bestOn 37 = .ok (.goto 4, 3) := by decide +kernel
theorem dX9_bestOn_40 : decode cX9_bestOn 40 = .ok (.iconst 0, 1) := by decide +kernel
theorem dX9_bestOn_41 : decode cX9_bestOn 41 = .ok (.ireturn, 1) := by decide +kernel
theorem dX9_canWater_0 : decode cX9_canWater 0 = .ok (.aload_n 0, 1) := by decide +kernel
theorem dX9_canWater_1 : decode cX9_canWater 1 = .ok (.iload_n 1, 1) := by decide +kernel
theorem dX9_canWater_2 : decode cX9_canWater 2 = .ok (.invokestatic 53, 3) := by decide +kernel
theorem dX9_canWater_5 : decode cX9_canWater 5 = .ok (.ifCond .eq 18, 3) := by decide +kernel
theorem dX9_canWater_8 : decode cX9_canWater 8 = .ok (.aload_n 0, 1) := by decide +kernel
theorem dX9_canWater_9 : decode cX9_canWater 9 = .ok (.iconst 1, 1) := by decide +kernel
theorem dX9_canWater_10 : decode cX9_canWater 10 = .ok (.iaload, 1) := by decide +kernel
theorem dX9_canWater_11 : decode cX9_canWater 11 = .ok (.iload_n 1, 1) := by decide +kernel
theorem dX9_canWater_12 : decode cX9_canWater 12 = .ok (.invokestatic 47, 3) := by decide +kernel
theorem dX9_canWater_15 : decode cX9_canWater 15 = .ok (.iconst 3, 1) := by decide +kernel
theorem dX9_canWater_16 : decode cX9_canWater 16 = .ok (.if_icmp .ge 7, 3) := by decide +kernel
theorem dX9_canWater_19 : decode cX9_canWater 19 = .ok (.iconst 1, 1) := by decide +kernel
theorem dX9_canWater_20 : decode cX9_canWater 20 = .ok (.goto 4, 3) := by decide +kernel
theorem dX9_canWater_23 : decode cX9_canWater 23 = .ok (.iconst 0, 1) := by decide +kernel
theorem dX9_canWater_24 : decode cX9_canWater 24 = .ok (.ireturn, 1) := by decide +kernel
theorem dX9_waterOn_0 : decode cX9_waterOn 0 = .ok (.aload_n 0, 1) := by decide +kernel
theorem dX9_waterOn_1 : decode cX9_waterOn 1 = .ok (.iconst 1, 1) := by decide +kernel
theorem dX9_waterOn_2 : decode cX9_waterOn 2 = .ok (.dup2, 1) := by decide +kernel
theorem dX9_waterOn_3 : decode cX9_waterOn 3 = .ok (.iaload, 1) := by decide +kernel
theorem dX9_waterOn_4 : decode cX9_waterOn 4 = .ok (.iconst 1, 1) := by decide +kernel
theorem dX9_waterOn_5 : decode cX9_waterOn 5 = .ok (.iconst 2, 1) := by decide +kernel
theorem dX9_waterOn_6 : decode cX9_waterOn 6 = .ok (.iload_n 1, 1) := by decide +kernel
theorem dX9_waterOn_7 : decode cX9_waterOn 7 = .ok (.imul, 1) := by decide +kernel
theorem dX9_waterOn_8 : decode cX9_waterOn 8 = .ok (.ishl, 1) := by decide +kernel
theorem dX9_waterOn_9 : decode cX9_waterOn 9 = .ok (.iadd, 1) := by decide +kernel
theorem dX9_waterOn_10 : decode cX9_waterOn 10 = .ok (.iastore, 1) := by decide +kernel
theorem dX9_waterOn_11 : decode cX9_waterOn 11 = .ok (.aload_n 0, 1) := by decide +kernel
theorem dX9_waterOn_12 : decode cX9_waterOn 12 = .ok (.iconst 1, 1) := by decide +kernel
theorem dX9_waterOn_13 : decode cX9_waterOn 13 = .ok (.iaload, 1) := by decide +kernel
theorem dX9_waterOn_14 : decode cX9_waterOn 14 = .ok (.iload_n 1, 1) := by decide +kernel
theorem dX9_waterOn_15 : decode cX9_waterOn 15 = .ok (.invokestatic 47, 3) := by decide +kernel
theorem dX9_waterOn_18 : decode cX9_waterOn 18 = .ok (.ireturn, 1) := by decide +kernel
theorem dX9_windOn_0 : decode cX9_windOn 0 = .ok (.aload_n 0, 1) := by decide +kernel
theorem dX9_windOn_1 : decode cX9_windOn 1 = .ok (.iconst 2, 1) := by decide +kernel
theorem dX9_windOn_2 : decode cX9_windOn 2 = .ok (.iaload, 1) := by decide +kernel
theorem dX9_windOn_3 : decode cX9_windOn 3 = .ok (.istore_n 2, 1) := by decide +kernel
theorem dX9_windOn_4 : decode cX9_windOn 4 = .ok (.aload_n 0, 1) := by decide +kernel
theorem dX9_windOn_5 : decode cX9_windOn 5 = .ok (.iconst 2, 1) := by decide +kernel
theorem dX9_windOn_6 : decode cX9_windOn 6 = .ok (.iload_n 1, 1) := by decide +kernel
theorem dX9_windOn_7 : decode cX9_windOn 7 = .ok (.iastore, 1) := by decide +kernel
theorem dX9_windOn_8 : decode cX9_windOn 8 = .ok (.iload_n 2, 1) := by decide +kernel
theorem dX9_windOn_9 : decode cX9_windOn 9 = .ok (.ireturn, 1) := by decide +kernel
theorem dX9_passOn_0 : decode cX9_passOn 0 = .ok (.aload_n 0, 1) := by decide +kernel
theorem dX9_passOn_1 : decode cX9_passOn 1 = .ok (.iconst 3, 1) := by decide +kernel
theorem dX9_passOn_2 : decode cX9_passOn 2 = .ok (.iconst 1, 1) := by decide +kernel
theorem dX9_passOn_3 : decode cX9_passOn 3 = .ok (.aload_n 0, 1) := by decide +kernel
theorem dX9_passOn_4 : decode cX9_passOn 4 = .ok (.iconst 3, 1) := by decide +kernel
theorem dX9_passOn_5 : decode cX9_passOn 5 = .ok (.iaload, 1) := by decide +kernel
theorem dX9_passOn_6 : decode cX9_passOn 6 = .ok (.isub, 1) := by decide +kernel
theorem dX9_passOn_7 : decode cX9_passOn 7 = .ok (.iastore, 1) := by decide +kernel
theorem dX9_passOn_8 : decode cX9_passOn 8 = .ok (.aload_n 0, 1) := by decide +kernel
theorem dX9_passOn_9 : decode cX9_passOn 9 = .ok (.iconst 3, 1) := by decide +kernel
theorem dX9_passOn_10 : decode cX9_passOn 10 = .ok (.iaload, 1) := by decide +kernel
theorem dX9_passOn_11 : decode cX9_passOn 11 = .ok (.ireturn, 1) := by decide +kernel
theorem dX9_isSetting_0 : decode cX9_isSetting 0 = .ok (.iload_n 0, 1) := by decide +kernel
theorem dX9_isSetting_1 : decode cX9_isSetting 1 = .ok (.ifCond .ne 15, 3) := by decide +kernel
theorem dX9_isSetting_4 : decode cX9_isSetting 4 = .ok (.iload_n 1, 1) := by decide +kernel
theorem dX9_isSetting_5 : decode cX9_isSetting 5 = .ok (.i2l, 1) := by decide +kernel
theorem dX9_isSetting_6 : decode cX9_isSetting 6 = .ok (.lconst 1, 1) := by decide +kernel
theorem dX9_isSetting_7 : decode cX9_isSetting 7 = .ok (.ldc2_w 112, 3) := by decide +kernel
theorem dX9_isSetting_10 : decode cX9_isSetting 10 = .ok (.invokestatic 43, 3) := by decide +kernel
theorem dX9_isSetting_13 : decode cX9_isSetting 13 = .ok (.ifCond .ne 20, 3) := by decide +kernel
theorem dX9_isSetting_16 : decode cX9_isSetting 16 = .ok (.iload_n 0, 1) := by decide +kernel
theorem dX9_isSetting_17 : decode cX9_isSetting 17 = .ok (.iconst 1, 1) := by decide +kernel
theorem dX9_isSetting_18 : decode cX9_isSetting 18 = .ok (.if_icmp .ne 19, 3) := by decide +kernel
theorem dX9_isSetting_21 : decode cX9_isSetting 21 = .ok (.iload_n 1, 1) := by decide +kernel
theorem dX9_isSetting_22 : decode cX9_isSetting 22 = .ok (.i2l, 1) := by decide +kernel
theorem dX9_isSetting_23 : decode cX9_isSetting 23 = .ok (.lconst 1, 1) := by decide +kernel
theorem dX9_isSetting_24 : decode cX9_isSetting 24 = .ok (.ldc2_w 51, 3) := by decide +kernel
theorem dX9_isSetting_27 : decode cX9_isSetting 27 = .ok (.invokestatic 43, 3) := by decide +kernel
theorem dX9_isSetting_30 : decode cX9_isSetting 30 = .ok (.ifCond .eq 7, 3) := by decide +kernel
theorem dX9_isSetting_33 : decode cX9_isSetting 33 = .ok (.iconst 1, 1) := by decide +kernel
theorem dX9_isSetting_34 : decode cX9_isSetting 34 = .ok (.goto 4, 3) := by decide +kernel
theorem dX9_isSetting_37 : decode cX9_isSetting 37 = .ok (.iconst 0, 1) := by decide +kernel
theorem dX9_isSetting_38 : decode cX9_isSetting 38 = .ok (.ireturn, 1) := by decide +kernel
theorem dX9_winnerOf_0 : decode cX9_winnerOf 0 = .ok (.aload_n 1, 1) := by decide +kernel
theorem dX9_winnerOf_1 : decode cX9_winnerOf 1 = .ok (.iconst 3, 1) := by decide +kernel
theorem dX9_winnerOf_2 : decode cX9_winnerOf 2 = .ok (.iaload, 1) := by decide +kernel
theorem dX9_winnerOf_3 : decode cX9_winnerOf 3 = .ok (.istore_n 2, 1) := by decide +kernel
theorem dX9_winnerOf_4 : decode cX9_winnerOf 4 = .ok (.aload_n 1, 1) := by decide +kernel
theorem dX9_winnerOf_5 : decode cX9_winnerOf 5 = .ok (.bipush 7, 2) := by decide +kernel
theorem dX9_winnerOf_7 : decode cX9_winnerOf 7 = .ok (.iload_n 2, 1) := by decide +kernel
theorem dX9_winnerOf_8 : decode cX9_winnerOf 8 = .ok (.isub, 1) := by decide +kernel
theorem dX9_winnerOf_9 : decode cX9_winnerOf 9 = .ok (.iaload, 1) := by decide +kernel
theorem dX9_winnerOf_10 : decode cX9_winnerOf 10 = .ok (.aload_n 1, 1) := by decide +kernel
theorem dX9_winnerOf_11 : decode cX9_winnerOf 11 = .ok (.bipush 6, 2) := by decide +kernel
theorem dX9_winnerOf_13 : decode cX9_winnerOf 13 = .ok (.iload_n 2, 1) := by decide +kernel
theorem dX9_winnerOf_14 : decode cX9_winnerOf 14 = .ok (.iadd, 1) := by decide +kernel
theorem dX9_winnerOf_15 : decode cX9_winnerOf 15 = .ok (.iaload, 1) := by decide +kernel
theorem dX9_winnerOf_16 : decode cX9_winnerOf 16 = .ok (.isub, 1) := by decide +kernel
theorem dX9_winnerOf_17 : decode cX9_winnerOf 17 = .ok (.aload_n 0, 1) := by decide +kernel
theorem dX9_winnerOf_18 : decode cX9_winnerOf 18 = .ok (.aload_n 1, 1) := by decide +kernel
theorem dX9_winnerOf_19 : decode cX9_winnerOf 19 = .ok (.invokevirtual 114, 3) := by decide +kernel
theorem dX9_winnerOf_22 : decode cX9_winnerOf 22 = .ok (.iadd, 1) := by decide +kernel
theorem dX9_winnerOf_23 : decode cX9_winnerOf 23 = .ok (.istore_n 3, 1) := by decide +kernel
theorem dX9_winnerOf_24 : decode cX9_winnerOf 24 = .ok (.iload_n 3, 1) := by decide +kernel
theorem dX9_winnerOf_25 : decode cX9_winnerOf 25 = .ok (.ifCond .le 7, 3) := by decide +kernel
theorem dX9_winnerOf_28 : decode cX9_winnerOf 28 = .ok (.iload_n 2, 1) := by decide +kernel
theorem dX9_winnerOf_29 : decode cX9_winnerOf 29 = .ok (.goto 14, 3) := by decide +kernel
theorem dX9_winnerOf_32 : decode cX9_winnerOf 32 = .ok (.iload_n 3, 1) := by decide +kernel
theorem dX9_winnerOf_33 : decode cX9_winnerOf 33 = .ok (.ifCond .ge 9, 3) := by decide +kernel
theorem dX9_winnerOf_36 : decode cX9_winnerOf 36 = .ok (.iconst 1, 1) := by decide +kernel
theorem dX9_winnerOf_37 : decode cX9_winnerOf 37 = .ok (.iload_n 2, 1) := by decide +kernel
theorem dX9_winnerOf_38 : decode cX9_winnerOf 38 = .ok (.isub, 1) := by decide +kernel
theorem dX9_winnerOf_39 : decode cX9_winnerOf 39 = .ok (.goto 4, 3) := by decide +kernel
theorem dX9_winnerOf_42 : decode cX9_winnerOf 42 = .ok (.iconst 2, 1) := by decide +kernel
theorem dX9_winnerOf_43 : decode cX9_winnerOf 43 = .ok (.ireturn, 1) := by decide +kernel
theorem dX9_append_0 : decode cX9_append 0 = .ok (.aload_n 0, 1) := by decide +kernel
theorem dX9_append_1 : decode cX9_append 1 = .ok (.iload_n 1, 1) := by decide +kernel
theorem dX9_append_2 : decode cX9_append 2 = .ok (.i2l, 1) := by decide +kernel
theorem dX9_append_3 : decode cX9_append 3 = .ok (.lconst 0, 1) := by decide +kernel
theorem dX9_append_4 : decode cX9_append 4 = .ok (.ldc2_w 117, 3) := by decide +kernel
theorem dX9_append_7 : decode cX9_append 7 = .ok (.invokestatic 43, 3) := by decide +kernel
theorem dX9_append_10 : decode cX9_append 10 = .ok (.ifCond .ne 7, 3) := by decide +kernel
theorem dX9_append_13 : decode cX9_append 13 = .ok (.iconst 1, 1) := by decide +kernel
theorem dX9_append_14 : decode cX9_append 14 = .ok (.goto 17, 3) := by decide +kernel
theorem dX9_append_17 : decode cX9_append 17 = .ok (.aload_n 0, 1) := by decide +kernel
theorem dX9_append_18 : decode cX9_append 18 = .ok (.getfield 119, 3) := by decide +kernel
theorem dX9_append_21 : decode cX9_append 21 = .ok (.bipush 120, 2) := by decide +kernel
theorem dX9_append_23 : decode cX9_append 23 = .ok (.if_icmp .ne 7, 3) := by decide +kernel
theorem dX9_append_26 : decode cX9_append 26 = .ok (.iconst 2, 1) := by decide +kernel
theorem dX9_append_27 : decode cX9_append 27 = .ok (.goto 4, 3) := by decide +kernel
theorem dX9_append_30 : decode cX9_append 30 = .ok (.iconst 0, 1) := by decide +kernel
theorem dX9_append_31 : decode cX9_append 31 = .ok (.invokevirtual 122, 3) := by decide +kernel
theorem dX9_append_34 : decode cX9_append 34 = .ok (.ifCond .eq 5, 3) := by decide +kernel
theorem dX9_append_37 : decode cX9_append 37 = .ok (.iconst 0, 1) := by decide +kernel
theorem dX9_append_38 : decode cX9_append 38 = .ok (.ireturn, 1) := by decide +kernel
theorem dX9_append_39 : decode cX9_append 39 = .ok (.aload_n 0, 1) := by decide +kernel
theorem dX9_append_40 : decode cX9_append 40 = .ok (.getfield 7, 3) := by decide +kernel
theorem dX9_append_43 : decode cX9_append 43 = .ok (.aload_n 0, 1) := by decide +kernel
theorem dX9_append_44 : decode cX9_append 44 = .ok (.getfield 119, 3) := by decide +kernel
theorem dX9_append_47 : decode cX9_append 47 = .ok (.iload_n 1, 1) := by decide +kernel
theorem dX9_append_48 : decode cX9_append 48 = .ok (.iastore, 1) := by decide +kernel
theorem dX9_append_49 : decode cX9_append 49 = .ok (.aload_n 0, 1) := by decide +kernel
theorem dX9_append_50 : decode cX9_append 50 = .ok (.dup, 1) := by decide +kernel
theorem dX9_append_51 : decode cX9_append 51 = .ok (.getfield 119, 3) := by decide +kernel
theorem dX9_append_54 : decode cX9_append 54 = .ok (.iconst 1, 1) := by decide +kernel
theorem dX9_append_55 : decode cX9_append 55 = .ok (.iadd, 1) := by decide +kernel
theorem dX9_append_56 : decode cX9_append 56 = .ok (.putfield 119, 3) := by decide +kernel
theorem dX9_append_59 : decode cX9_append 59 = .ok (.aload_n 0, 1) := by decide +kernel
theorem dX9_append_60 : decode cX9_append 60 = .ok (.getfield 119, 3) := by decide +kernel
theorem dX9_append_63 : decode cX9_append 63 = .ok (.ireturn, 1) := by decide +kernel
theorem dX9_clearText_0 : decode cX9_clearText 0 = .ok (.aload_n 0, 1) := by decide +kernel
theorem dX9_clearText_1 : decode cX9_clearText 1 = .ok (.iconst 0, 1) := by decide +kernel
theorem dX9_clearText_2 : decode cX9_clearText 2 = .ok (.putfield 40, 3) := by decide +kernel
theorem dX9_clearText_5 : decode cX9_clearText 5 = .ok (.aload_n 0, 1) := by decide +kernel
theorem dX9_clearText_6 : decode cX9_clearText 6 = .ok (.getfield 119, 3) := by decide +kernel
theorem dX9_clearText_9 : decode cX9_clearText 9 = .ok (.istore_n 1, 1) := by decide +kernel
theorem dX9_clearText_10 : decode cX9_clearText 10 = .ok (.aload_n 0, 1) := by decide +kernel
theorem dX9_clearText_11 : decode cX9_clearText 11 = .ok (.iconst 0, 1) := by decide +kernel
theorem dX9_clearText_12 : decode cX9_clearText 12 = .ok (.putfield 119, 3) := by decide +kernel
theorem dX9_clearText_15 : decode cX9_clearText 15 = .ok (.iload_n 1, 1) := by decide +kernel
theorem dX9_clearText_16 : decode cX9_clearText 16 = .ok (.ireturn, 1) := by decide +kernel
theorem dX9_digit_0 : decode cX9_digit 0 = .ok (.aload_n 0, 1) := by decide +kernel
theorem dX9_digit_1 : decode cX9_digit 1 = .ok (.getfield 126, 3) := by decide +kernel
theorem dX9_digit_4 : decode cX9_digit 4 = .ok (.aload_n 0, 1) := by decide +kernel
theorem dX9_digit_5 : decode cX9_digit 5 = .ok (.getfield 119, 3) := by decide +kernel
theorem dX9_digit_8 : decode cX9_digit 8 = .ok (.if_icmp .ge 18, 3) := by decide +kernel
theorem dX9_digit_11 : decode cX9_digit 11 = .ok (.aload_n 0, 1) := by decide +kernel
theorem dX9_digit_12 : decode cX9_digit 12 = .ok (.getfield 7, 3) := by decide +kernel
theorem dX9_digit_15 : decode cX9_digit 15 = .ok (.aload_n 0, 1) := by decide +kernel
theorem dX9_digit_16 : decode cX9_digit 16 = .ok (.getfield 126, 3) := by decide +kernel
theorem dX9_digit_19 : decode cX9_digit 19 = .ok (.iaload, 1) := by decide +kernel
theorem dX9_digit_20 : decode cX9_digit 20 = .ok (.bipush 48, 2) := by decide +kernel
theorem dX9_digit_22 : decode cX9_digit 22 = .ok (.isub, 1) := by decide +kernel
theorem dX9_digit_23 : decode cX9_digit 23 = .ok (.goto 4, 3) := by decide +kernel
theorem dX9_digit_26 : decode cX9_digit 26 = .ok (.iconst (-1), 1) := by decide +kernel
theorem dX9_digit_27 : decode cX9_digit 27 = .ok (.istore 4, 2) := by decide +kernel
theorem dX9_digit_29 : decode cX9_digit 29 = .ok (.iload_n 1, 1) := by decide +kernel
theorem dX9_digit_30 : decode cX9_digit 30 = .ok (.iconst (-1), 1) := by decide +kernel
theorem dX9_digit_31 : decode cX9_digit 31 = .ok (.if_icmp .eq 16, 3) := by decide +kernel
theorem dX9_digit_34 : decode cX9_digit 34 = .ok (.iload 4, 2) := by decide +kernel
theorem dX9_digit_36 : decode cX9_digit 36 = .ok (.i2l, 1) := by decide +kernel
theorem dX9_digit_37 : decode cX9_digit 37 = .ok (.iload_n 2, 1) := by decide +kernel
theorem dX9_digit_38 : decode cX9_digit 38 = .ok (.i2l, 1) := by decide +kernel
theorem dX9_digit_39 : decode cX9_digit 39 = .ok (.iload_n 3, 1) := by decide +kernel
theorem dX9_digit_40 : decode cX9_digit 40 = .ok (.i2l, 1) := by decide +kernel
theorem dX9_digit_41 : decode cX9_digit 41 = .ok (.invokestatic 43, 3) := by decide +kernel
theorem dX9_digit_44 : decode cX9_digit 44 = .ok (.ifCond .ne 5, 3) := by decide +kernel
theorem dX9_digit_47 : decode cX9_digit 47 = .ok (.iconst (-1), 1) := by decide +kernel
theorem dX9_digit_48 : decode cX9_digit 48 = .ok (.ireturn, 1) := by decide +kernel
theorem dX9_digit_49 : decode cX9_digit 49 = .ok (.aload_n 0, 1) := by decide +kernel
theorem dX9_digit_50 : decode cX9_digit 50 = .ok (.dup, 1) := by decide +kernel
theorem dX9_digit_51 : decode cX9_digit 51 = .ok (.getfield 126, 3) := by decide +kernel
theorem dX9_digit_54 : decode cX9_digit 54 = .ok (.iconst 1, 1) := by decide +kernel
theorem dX9_digit_55 : decode cX9_digit 55 = .ok (.iadd, 1) := by decide +kernel
theorem dX9_digit_56 : decode cX9_digit 56 = .ok (.putfield 126, 3) := by decide +kernel
theorem dX9_digit_59 : decode cX9_digit 59 = .ok (.iload 4, 2) := by decide +kernel
theorem dX9_digit_61 : decode cX9_digit 61 = .ok (.ireturn, 1) := by decide +kernel
theorem dX9_done_0 : decode cX9_done 0 = .ok (.aload_n 0, 1) := by decide +kernel
theorem dX9_done_1 : decode cX9_done 1 = .ok (.dup, 1) := by decide +kernel
theorem dX9_done_2 : decode cX9_done 2 = .ok (.getfield 129, 3) := by decide +kernel
theorem dX9_done_5 : decode cX9_done 5 = .ok (.iload_n 1, 1) := by decide +kernel
theorem dX9_done_6 : decode cX9_done 6 = .ok (.ifCond .eq 7, 3) := by decide +kernel
theorem dX9_done_9 : decode cX9_done 9 = .ok (.iconst 0, 1) := by decide +kernel
theorem dX9_done_10 : decode cX9_done 10 = .ok (.goto 4, 3) := by decide +kernel
theorem dX9_done_13 : decode cX9_done 13 = .ok (.iconst 1, 1) := by decide +kernel
theorem dX9_done_14 : decode cX9_done 14 = .ok (.iadd, 1) := by decide +kernel
theorem dX9_done_15 : decode cX9_done 15 = .ok (.putfield 129, 3) := by decide +kernel
theorem dX9_done_18 : decode cX9_done 18 = .ok (.iconst 1, 1) := by decide +kernel
theorem dX9_done_19 : decode cX9_done 19 = .ok (.ireturn, 1) := by decide +kernel
theorem dX9_readCommand_0 : decode cX9_readCommand 0 = .ok (.aload_n 0, 1) := by decide +kernel
theorem dX9_readCommand_1 : decode cX9_readCommand 1 = .ok (.getfield 7, 3) := by decide +kernel
theorem dX9_readCommand_4 : decode cX9_readCommand 4 = .ok (.aload_n 0, 1) := by decide +kernel
theorem dX9_readCommand_5 : decode cX9_readCommand 5 = .ok (.getfield 126, 3) := by decide +kernel
theorem dX9_readCommand_8 : decode cX9_readCommand 8 = .ok (.iaload, 1) := by decide +kernel
theorem dX9_readCommand_9 : decode cX9_readCommand 9 = .ok (.istore_n 2, 1) := by decide +kernel
theorem dX9_readCommand_10 : decode cX9_readCommand 10 = .ok (.aload_n 0, 1) := by decide +kernel
theorem dX9_readCommand_11 : decode cX9_readCommand 11 = .ok (.dup, 1) := by decide +kernel
theorem dX9_readCommand_12 : decode cX9_readCommand 12 = .ok (.getfield 126, 3) := by decide +kernel
theorem dX9_readCommand_15 : decode cX9_readCommand 15 = .ok (.iconst 1, 1) := by decide +kernel
theorem dX9_readCommand_16 : decode cX9_readCommand 16 = .ok (.iadd, 1) := by decide +kernel
theorem dX9_readCommand_17 : decode cX9_readCommand 17 = .ok (.putfield 126, 3) := by decide +kernel
theorem dX9_readCommand_20 : decode cX9_readCommand 20 = .ok (.iload_n 2, 1) := by decide +kernel
theorem dX9_readCommand_21 : decode cX9_readCommand 21 = .ok (.lookupswitch 242 #[(98, 232), (99, 51), (103, 176), (112, 215), (119, 129)], 51) := by decide +kernel
theorem dX9_readCommand_72 : decode cX9_readCommand 72 = .ok (.aload_n 0, 1) := by decide +kernel
theorem dX9_readCommand_73 : decode cX9_readCommand 73 = .ok (.iconst 0, 1) := by decide +kernel
theorem dX9_readCommand_74 : decode cX9_readCommand 74 = .ok (.iconst 0, 1) := by decide +kernel
theorem dX9_readCommand_75 : decode cX9_readCommand 75 = .ok (.iconst 5, 1) := by decide +kernel
theorem dX9_readCommand_76 : decode cX9_readCommand 76 = .ok (.invokevirtual 132, 3) := by decide +kernel
theorem dX9_readCommand_79 : decode cX9_readCommand 79 = .ok (.istore_n 3, 1) := by decide +kernel
theorem dX9_readCommand_80 : decode cX9_readCommand 80 = .ok (.aload_n 0, 1) := by decide +kernel
theorem dX9_readCommand_81 : decode cX9_readCommand 81 = .ok (.iload_n 3, 1) := by decide +kernel
theorem dX9_readCommand_82 : decode cX9_readCommand 82 = .ok (.iconst 0, 1) := by decide +kernel
theorem dX9_readCommand_83 : decode cX9_readCommand 83 = .ok (.iconst 5, 1) := by decide +kernel
theorem dX9_readCommand_84 : decode cX9_readCommand 84 = .ok (.invokevirtual 132, 3) := by decide +kernel
theorem dX9_readCommand_87 : decode cX9_readCommand 87 = .ok (.istore 4, 2) := by decide +kernel
theorem dX9_readCommand_89 : decode cX9_readCommand 89 = .ok (.aload_n 0, 1) := by decide +kernel
theorem dX9_readCommand_90 : decode cX9_readCommand 90 = .ok (.iload 4, 2) := by decide +kernel
theorem dX9_readCommand_92 : decode cX9_readCommand 92 = .ok (.iconst 1, 1) := by decide +kernel
theorem dX9_readCommand_93 : decode cX9_readCommand 93 = .ok (.iconst 3, 1) := by decide +kernel
theorem dX9_readCommand_94 : decode cX9_readCommand 94 = .ok (.invokevirtual 132, 3) := by decide +kernel
theorem dX9_readCommand_97 : decode cX9_readCommand 97 = .ok (.istore 5, 2) := by decide +kernel
theorem dX9_readCommand_99 : decode cX9_readCommand 99 = .ok (.iload 5, 2) := by decide +kernel
theorem dX9_readCommand_101 : decode cX9_readCommand 101 = .ok (.iconst (-1), 1) := by decide +kernel
theorem dX9_readCommand_102 : decode cX9_readCommand 102 = .ok (.if_icmp .eq 46, 3) := by decide +kernel
theorem dX9_readCommand_105 : decode cX9_readCommand 105 = .ok (.aload_n 0, 1) := by decide +kernel
theorem dX9_readCommand_106 : decode cX9_readCommand 106 = .ok (.aload_n 1, 1) := by decide +kernel
theorem dX9_readCommand_107 : decode cX9_readCommand 107 = .ok (.aload_n 1, 1) := by decide +kernel
theorem dX9_readCommand_108 : decode cX9_readCommand 108 = .ok (.iconst 1, 1) := by decide +kernel
theorem dX9_readCommand_109 : decode cX9_readCommand 109 = .ok (.iaload, 1) := by decide +kernel
theorem dX9_readCommand_110 : decode cX9_readCommand 110 = .ok (.iload_n 3, 1) := by decide +kernel
theorem dX9_readCommand_111 : decode cX9_readCommand 111 = .ok (.iload 4, 2) := by decide +kernel
theorem dX9_readCommand_113 : decode cX9_readCommand 113 = .ok (.iload 5, 2) := by decide +kernel
theorem dX9_readCommand_115 : decode cX9_readCommand 115 = .ok (.invokestatic 80, 3) := by decide +kernel
theorem dX9_readCommand_118 : decode cX9_readCommand 118 = .ok (.ifCond .eq 19, 3) := by decide +kernel
theorem dX9_readCommand_121 : decode cX9_readCommand 121 = .ok (.aload_n 1, 1) := by decide +kernel
theorem dX9_readCommand_122 : decode cX9_readCommand 122 = .ok (.iload_n 3, 1) := by decide +kernel
theorem dX9_readCommand_123 : decode cX9_readCommand 123 = .ok (.iload 4, 2) := by decide +kernel
theorem dX9_readCommand_125 : decode cX9_readCommand 125 = .ok (.iload 5, 2) := by decide +kernel
theorem dX9_readCommand_127 : decode cX9_readCommand 127 = .ok (.invokestatic 108, 3) := by decide +kernel
theorem dX9_readCommand_130 : decode cX9_readCommand 130 = .ok (.ifCond .lt 7, 3) := by decide +kernel
theorem dX9_readCommand_133 : decode cX9_readCommand 133 = .ok (.iconst 1, 1) := by decide +kernel
theorem dX9_readCommand_134 : decode cX9_readCommand 134 = .ok (.goto 4, 3) := by decide +kernel
theorem dX9_readCommand_137 : decode cX9_readCommand 137 = .ok (.iconst 0, 1) := by decide +kernel
theorem dX9_readCommand_138 : decode cX9_readCommand 138 = .ok (.invokevirtual 136, 3) := by decide +kernel
theorem dX9_readCommand_141 : decode cX9_readCommand 141 = .ok (.ifCond .eq 7, 3) := by decide +kernel
theorem dX9_readCommand_144 : decode cX9_readCommand 144 = .ok (.iconst 1, 1) := by decide +kernel
theorem dX9_readCommand_145 : decode cX9_readCommand 145 = .ok (.goto 4, 3) := by decide +kernel
theorem dX9_readCommand_148 : decode cX9_readCommand 148 = .ok (.iconst 0, 1) := by decide +kernel
theorem dX9_readCommand_149 : decode cX9_readCommand 149 = .ok (.ireturn, 1) := by decide +kernel
theorem dX9_readCommand_150 : decode cX9_readCommand 150 = .ok (.aload_n 0, 1) := by decide +kernel
theorem dX9_readCommand_151 : decode cX9_readCommand 151 = .ok (.iconst 0, 1) := by decide +kernel
theorem dX9_readCommand_152 : decode cX9_readCommand 152 = .ok (.iconst 0, 1) := by decide +kernel
theorem dX9_readCommand_153 : decode cX9_readCommand 153 = .ok (.iconst 5, 1) := by decide +kernel
theorem dX9_readCommand_154 : decode cX9_readCommand 154 = .ok (.invokevirtual 132, 3) := by decide +kernel
theorem dX9_readCommand_157 : decode cX9_readCommand 157 = .ok (.istore_n 3, 1) := by decide +kernel
theorem dX9_readCommand_158 : decode cX9_readCommand 158 = .ok (.iload_n 3, 1) := by decide +kernel
theorem dX9_readCommand_159 : decode cX9_readCommand 159 = .ok (.iconst (-1), 1) := by decide +kernel
theorem dX9_readCommand_160 : decode cX9_readCommand 160 = .ok (.if_icmp .eq 35, 3) := by decide +kernel
theorem dX9_readCommand_163 : decode cX9_readCommand 163 = .ok (.aload_n 0, 1) := by decide +kernel
theorem dX9_readCommand_164 : decode cX9_readCommand 164 = .ok (.aload_n 1, 1) := by decide +kernel
theorem dX9_readCommand_165 : decode cX9_readCommand 165 = .ok (.iload_n 3, 1) := by decide +kernel
theorem dX9_readCommand_166 : decode cX9_readCommand 166 = .ok (.invokestatic 140, 3) := by decide +kernel
theorem dX9_readCommand_169 : decode cX9_readCommand 169 = .ok (.ifCond .eq 15, 3) := by decide +kernel
theorem dX9_readCommand_172 : decode cX9_readCommand 172 = .ok (.aload_n 1, 1) := by decide +kernel
theorem dX9_readCommand_173 : decode cX9_readCommand 173 = .ok (.iload_n 3, 1) := by decide +kernel
theorem dX9_readCommand_174 : decode cX9_readCommand 174 = .ok (.invokestatic 143, 3) := by decide +kernel
theorem dX9_readCommand_177 : decode cX9_readCommand 177 = .ok (.ifCond .le 7, 3) := by decide +kernel
theorem dX9_readCommand_180 : decode cX9_readCommand 180 = .ok (.iconst 1, 1) := by decide +kernel
theorem dX9_readCommand_181 : decode cX9_readCommand 181 = .ok (.goto 4, 3) := by decide +kernel
theorem dX9_readCommand_184 : decode cX9_readCommand 184 = .ok (.iconst 0, 1) := by decide +kernel
theorem dX9_readCommand_185 : decode cX9_readCommand 185 = .ok (.invokevirtual 136, 3) := by decide +kernel
theorem dX9_readCommand_188 : decode cX9_readCommand 188 = .ok (.ifCond .eq 7, 3) := by decide +kernel
theorem dX9_readCommand_191 : decode cX9_readCommand 191 = .ok (.iconst 1, 1) := by decide +kernel
theorem dX9_readCommand_192 : decode cX9_readCommand 192 = .ok (.goto 4, 3) := by decide +kernel
theorem dX9_readCommand_195 : decode cX9_readCommand 195 = .ok (.iconst 0, 1) := by decide +kernel
theorem dX9_readCommand_196 : decode cX9_readCommand 196 = .ok (.ireturn, 1) := by decide +kernel
theorem dX9_readCommand_197 : decode cX9_readCommand 197 = .ok (.aload_n 0, 1) := by decide +kernel
theorem dX9_readCommand_198 : decode cX9_readCommand 198 = .ok (.iconst 0, 1) := by decide +kernel
theorem dX9_readCommand_199 : decode cX9_readCommand 199 = .ok (.iconst 0, 1) := by decide +kernel
theorem dX9_readCommand_200 : decode cX9_readCommand 200 = .ok (.iconst 2, 1) := by decide +kernel
theorem dX9_readCommand_201 : decode cX9_readCommand 201 = .ok (.invokevirtual 132, 3) := by decide +kernel
theorem dX9_readCommand_204 : decode cX9_readCommand 204 = .ok (.istore_n 3, 1) := by decide +kernel
theorem dX9_readCommand_205 : decode cX9_readCommand 205 = .ok (.iload_n 3, 1) := by decide +kernel
theorem dX9_readCommand_206 : decode cX9_readCommand 206 = .ok (.iconst (-1), 1) := by decide +kernel
theorem dX9_readCommand_207 : decode cX9_readCommand 207 = .ok (.if_icmp .eq 27, 3) := by decide +kernel
theorem dX9_readCommand_210 : decode cX9_readCommand 210 = .ok (.aload_n 0, 1) := by decide +kernel
theorem dX9_readCommand_211 : decode cX9_readCommand 211 = .ok (.aload_n 1, 1) := by decide +kernel
theorem dX9_readCommand_212 : decode cX9_readCommand 212 = .ok (.iload_n 3, 1) := by decide +kernel
theorem dX9_readCommand_213 : decode cX9_readCommand 213 = .ok (.invokestatic 146, 3) := by decide +kernel
theorem dX9_readCommand_216 : decode cX9_readCommand 216 = .ok (.ifCond .lt 7, 3) := by decide +kernel
theorem dX9_readCommand_219 : decode cX9_readCommand 219 = .ok (.iconst 1, 1) := by decide +kernel
theorem dX9_readCommand_220 : decode cX9_readCommand 220 = .ok (.goto 4, 3) := by decide +kernel
theorem dX9_readCommand_223 : decode cX9_readCommand 223 = .ok (.iconst 0, 1) := by decide +kernel
theorem dX9_readCommand_224 : decode cX9_readCommand 224 = .ok (.invokevirtual 136, 3) := by decide +kernel
theorem dX9_readCommand_227 : decode cX9_readCommand 227 = .ok (.ifCond .eq 7, 3) := by decide +kernel
theorem dX9_readCommand_230 : decode cX9_readCommand 230 = .ok (.iconst 1, 1) := by decide +kernel
theorem dX9_readCommand_231 : decode cX9_readCommand 231 = .ok (.goto 4, 3) := by decide +kernel
theorem dX9_readCommand_234 : decode cX9_readCommand 234 = .ok (.iconst 0, 1) := by decide +kernel
theorem dX9_readCommand_235 : decode cX9_readCommand 235 = .ok (.ireturn, 1) := by decide +kernel
theorem dX9_readCommand_236 : decode cX9_readCommand 236 = .ok (.aload_n 0, 1) := by decide +kernel
theorem dX9_readCommand_237 : decode cX9_readCommand 237 = .ok (.aload_n 1, 1) := by decide +kernel
theorem dX9_readCommand_238 : decode cX9_readCommand 238 = .ok (.invokestatic 149, 3) := by decide +kernel
theorem dX9_readCommand_241 : decode cX9_readCommand 241 = .ok (.ifCond .lt 7, 3) := by decide +kernel
theorem dX9_readCommand_244 : decode cX9_readCommand 244 = .ok (.iconst 1, 1) := by decide +kernel
theorem dX9_readCommand_245 : decode cX9_readCommand 245 = .ok (.goto 4, 3) := by decide +kernel
theorem dX9_readCommand_248 : decode cX9_readCommand 248 = .ok (.iconst 0, 1) := by decide +kernel
theorem dX9_readCommand_249 : decode cX9_readCommand 249 = .ok (.invokevirtual 136, 3) := by decide +kernel
theorem dX9_readCommand_252 : decode cX9_readCommand 252 = .ok (.ireturn, 1) := by decide +kernel
theorem dX9_readCommand_253 : decode cX9_readCommand 253 = .ok (.aload_n 0, 1) := by decide +kernel
theorem dX9_readCommand_254 : decode cX9_readCommand 254 = .ok (.aload_n 0, 1) := by decide +kernel
theorem dX9_readCommand_255 : decode cX9_readCommand 255 = .ok (.aload_n 1, 1) := by decide +kernel
theorem dX9_readCommand_256 : decode cX9_readCommand 256 = .ok (.invokevirtual 152, 3) := by decide +kernel
theorem dX9_readCommand_259 : decode cX9_readCommand 259 = .ok (.invokevirtual 136, 3) := by decide +kernel
theorem dX9_readCommand_262 : decode cX9_readCommand 262 = .ok (.ireturn, 1) := by decide +kernel
theorem dX9_readCommand_263 : decode cX9_readCommand 263 = .ok (.aload_n 0, 1) := by decide +kernel
theorem dX9_readCommand_264 : decode cX9_readCommand 264 = .ok (.dup, 1) := by decide +kernel
theorem dX9_readCommand_265 : decode cX9_readCommand 265 = .ok (.getfield 126, 3) := by decide +kernel
theorem dX9_readCommand_268 : decode cX9_readCommand 268 = .ok (.iconst 1, 1) := by decide +kernel
theorem dX9_readCommand_269 : decode cX9_readCommand 269 = .ok (.isub, 1) := by decide +kernel
theorem dX9_readCommand_270 : decode cX9_readCommand 270 = .ok (.putfield 126, 3) := by decide +kernel
theorem dX9_readCommand_273 : decode cX9_readCommand 273 = .ok (.iconst 0, 1) := by decide +kernel
theorem dX9_readCommand_274 : decode cX9_readCommand 274 = .ok (.ireturn, 1) := by decide +kernel
theorem dX9_readText_0 : decode cX9_readText 0 = .ok (.aload_n 1, 1) := by decide +kernel
theorem dX9_readText_1 : decode cX9_readText 1 = .ok (.invokestatic 36, 3) := by decide +kernel
theorem dX9_readText_4 : decode cX9_readText 4 = .ok (.aload_n 0, 1) := by decide +kernel
theorem dX9_readText_5 : decode cX9_readText 5 = .ok (.iconst 0, 1) := by decide +kernel
theorem dX9_readText_6 : decode cX9_readText 6 = .ok (.putfield 129, 3) := by decide +kernel
theorem dX9_readText_9 : decode cX9_readText 9 = .ok (.aload_n 0, 1) := by decide +kernel
theorem dX9_readText_10 : decode cX9_readText 10 = .ok (.iconst 0, 1) := by decide +kernel
theorem dX9_readText_11 : decode cX9_readText 11 = .ok (.putfield 126, 3) := by decide +kernel
theorem dX9_readText_14 : decode cX9_readText 14 = .ok (.aload_n 0, 1) := by decide +kernel
theorem dX9_readText_15 : decode cX9_readText 15 = .ok (.getfield 119, 3) := by decide +kernel
theorem dX9_readText_18 : decode cX9_readText 18 = .ok (.ifCond .eq 14, 3) := by decide +kernel
theorem dX9_readText_21 : decode cX9_readText 21 = .ok (.aload_n 0, 1) := by decide +kernel
theorem dX9_readText_22 : decode cX9_readText 22 = .ok (.getfield 7, 3) := by decide +kernel
theorem dX9_readText_25 : decode cX9_readText 25 = .ok (.iconst 0, 1) := by decide +kernel
theorem dX9_readText_26 : decode cX9_readText 26 = .ok (.iaload, 1) := by decide +kernel
theorem dX9_readText_27 : decode cX9_readText 27 = .ok (.bipush 72, 2) := by decide +kernel
theorem dX9_readText_29 : decode cX9_readText 29 = .ok (.if_icmp .eq 5, 3) := by decide +kernel
theorem dX9_readText_32 : decode cX9_readText 32 = .ok (.iconst 0, 1) := by decide +kernel
theorem dX9_readText_33 : decode cX9_readText 33 = .ok (.ireturn, 1) := by decide +kernel
theorem dX9_readText_34 : decode cX9_readText 34 = .ok (.aload_n 0, 1) := by decide +kernel
theorem dX9_readText_35 : decode cX9_readText 35 = .ok (.iconst 1, 1) := by decide +kernel
theorem dX9_readText_36 : decode cX9_readText 36 = .ok (.putfield 126, 3) := by decide +kernel
theorem dX9_readText_39 : decode cX9_readText 39 = .ok (.aload_n 1, 1) := by decide +kernel
theorem dX9_readText_40 : decode cX9_readText 40 = .ok (.iconst 0, 1) := by decide +kernel
theorem dX9_readText_41 : decode cX9_readText 41 = .ok (.iconst 0, 1) := by decide +kernel
theorem dX9_readText_42 : decode cX9_readText 42 = .ok (.iastore, 1) := by decide +kernel
theorem dX9_readText_43 : decode cX9_readText 43 = .ok (.aload_n 1, 1) := by decide +kernel
theorem dX9_readText_44 : decode cX9_readText 44 = .ok (.iconst 1, 1) := by decide +kernel
theorem dX9_readText_45 : decode cX9_readText 45 = .ok (.iconst 0, 1) := by decide +kernel
theorem dX9_readText_46 : decode cX9_readText 46 = .ok (.iastore, 1) := by decide +kernel
theorem dX9_readText_47 : decode cX9_readText 47 = .ok (.aload_n 0, 1) := by decide +kernel
theorem dX9_readText_48 : decode cX9_readText 48 = .ok (.iconst 0, 1) := by decide +kernel
theorem dX9_readText_49 : decode cX9_readText 49 = .ok (.iconst 0, 1) := by decide +kernel
theorem dX9_readText_50 : decode cX9_readText 50 = .ok (.iconst 3, 1) := by decide +kernel
theorem dX9_readText_51 : decode cX9_readText 51 = .ok (.invokevirtual 132, 3) := by decide +kernel
theorem dX9_readText_54 : decode cX9_readText 54 = .ok (.istore_n 2, 1) := by decide +kernel
theorem dX9_readText_55 : decode cX9_readText 55 = .ok (.iload_n 2, 1) := by decide +kernel
theorem dX9_readText_56 : decode cX9_readText 56 = .ok (.iconst (-1), 1) := by decide +kernel
theorem dX9_readText_57 : decode cX9_readText 57 = .ok (.if_icmp .eq 46, 3) := by decide +kernel
theorem dX9_readText_60 : decode cX9_readText 60 = .ok (.aload_n 1, 1) := by decide +kernel
theorem dX9_readText_61 : decode cX9_readText 61 = .ok (.iconst 1, 1) := by decide +kernel
theorem dX9_readText_62 : decode cX9_readText 62 = .ok (.dup2, 1) := by decide +kernel
theorem dX9_readText_63 : decode cX9_readText 63 = .ok (.iaload, 1) := by decide +kernel
theorem dX9_readText_64 : decode cX9_readText 64 = .ok (.iload_n 2, 1) := by decide +kernel
theorem dX9_readText_65 : decode cX9_readText 65 = .ok (.iconst 2, 1) := by decide +kernel
theorem dX9_readText_66 : decode cX9_readText 66 = .ok (.aload_n 1, 1) := by decide +kernel
theorem dX9_readText_67 : decode cX9_readText 67 = .ok (.iconst 0, 1) := by decide +kernel
theorem dX9_readText_68 : decode cX9_readText 68 = .ok (.iaload, 1) := by decide +kernel
theorem dX9_readText_69 : decode cX9_readText 69 = .ok (.imul, 1) := by decide +kernel
theorem dX9_readText_70 : decode cX9_readText 70 = .ok (.ishl, 1) := by decide +kernel
theorem dX9_readText_71 : decode cX9_readText 71 = .ok (.iadd, 1) := by decide +kernel
theorem dX9_readText_72 : decode cX9_readText 72 = .ok (.iastore, 1) := by decide +kernel
theorem dX9_readText_73 : decode cX9_readText 73 = .ok (.aload_n 1, 1) := by decide +kernel
theorem dX9_readText_74 : decode cX9_readText 74 = .ok (.iconst 0, 1) := by decide +kernel
theorem dX9_readText_75 : decode cX9_readText 75 = .ok (.dup2, 1) := by decide +kernel
theorem dX9_readText_76 : decode cX9_readText 76 = .ok (.iaload, 1) := by decide +kernel
theorem dX9_readText_77 : decode cX9_readText 77 = .ok (.iconst 1, 1) := by decide +kernel
theorem dX9_readText_78 : decode cX9_readText 78 = .ok (.iadd, 1) := by decide +kernel
theorem dX9_readText_79 : decode cX9_readText 79 = .ok (.iastore, 1) := by decide +kernel
theorem dX9_readText_80 : decode cX9_readText 80 = .ok (.aload_n 1, 1) := by decide +kernel
theorem dX9_readText_81 : decode cX9_readText 81 = .ok (.iconst 0, 1) := by decide +kernel
theorem dX9_readText_82 : decode cX9_readText 82 = .ok (.iaload, 1) := by decide +kernel
theorem dX9_readText_83 : decode cX9_readText 83 = .ok (.bipush 6, 2) := by decide +kernel
theorem dX9_readText_85 : decode cX9_readText 85 = .ok (.if_icmp .ge 13, 3) := by decide +kernel
theorem dX9_readText_88 : decode cX9_readText 88 = .ok (.aload_n 0, 1) := by decide +kernel
theorem dX9_readText_89 : decode cX9_readText 89 = .ok (.iconst 0, 1) := by decide +kernel
theorem dX9_readText_90 : decode cX9_readText 90 = .ok (.iconst 0, 1) := by decide +kernel
theorem dX9_readText_91 : decode cX9_readText 91 = .ok (.iconst 3, 1) := by decide +kernel
theorem dX9_readText_92 : decode cX9_readText 92 = .ok (.invokevirtual 132, 3) := by decide +kernel
theorem dX9_readText_95 : decode cX9_readText 95 = .ok (.goto 4, 3) := by decide +kernel
theorem dX9_readText_98 : decode cX9_readText 98 = .ok (.iconst (-1), 1) := by decide +kernel
theorem dX9_readText_99 : decode cX9_readText 99 = .ok (.istore_n 2, 1) := by decide +kernel
theorem dX9_readText_100 : decode cX9_readText 100 = .ok (.goto (-45), 3) := by decide +kernel
theorem dX9_readText_103 : decode cX9_readText 103 = .ok (.aload_n 1, 1) := by decide +kernel
theorem dX9_readText_104 : decode cX9_readText 104 = .ok (.iconst 0, 1) := by decide +kernel
theorem dX9_readText_105 : decode cX9_readText 105 = .ok (.iaload, 1) := by decide +kernel
theorem dX9_readText_106 : decode cX9_readText 106 = .ok (.iconst 2, 1) := by decide +kernel
theorem dX9_readText_107 : decode cX9_readText 107 = .ok (.if_icmp .ge 8, 3) := by decide +kernel
theorem dX9_readText_110 : decode cX9_readText 110 = .ok (.aload_n 0, 1) := by decide +kernel
theorem dX9_readText_111 : decode cX9_readText 111 = .ok (.getfield 126, 3) := by decide +kernel
theorem dX9_readText_114 : decode cX9_readText 114 = .ok (.ireturn, 1) := by decide +kernel
theorem dX9_readText_115 : decode cX9_readText 115 = .ok (.aload_n 0, 1) := by decide +kernel
theorem dX9_readText_116 : decode cX9_readText 116 = .ok (.getfield 126, 3) := by decide +kernel
theorem dX9_readText_119 : decode cX9_readText 119 = .ok (.aload_n 0, 1) := by decide +kernel
theorem dX9_readText_120 : decode cX9_readText 120 = .ok (.getfield 119, 3) := by decide +kernel
theorem dX9_readText_123 : decode cX9_readText 123 = .ok (.if_icmp .ge 16, 3) := by decide +kernel
theorem dX9_readText_126 : decode cX9_readText 126 = .ok (.aload_n 0, 1) := by decide +kernel
theorem dX9_readText_127 : decode cX9_readText 127 = .ok (.aload_n 1, 1) := by decide +kernel
theorem dX9_readText_128 : decode cX9_readText 128 = .ok (.invokevirtual 156, 3) := by decide +kernel
theorem dX9_readText_131 : decode cX9_readText 131 = .ok (.ifCond .ne (-16), 3) := by decide +kernel
theorem dX9_readText_134 : decode cX9_readText 134 = .ok (.aload_n 0, 1) := by decide +kernel
theorem dX9_readText_135 : decode cX9_readText 135 = .ok (.getfield 126, 3) := by decide +kernel
theorem dX9_readText_138 : decode cX9_readText 138 = .ok (.ireturn, 1) := by decide +kernel
theorem dX9_readText_139 : decode cX9_readText 139 = .ok (.iconst (-1), 1) := by decide +kernel
theorem dX9_readText_140 : decode cX9_readText 140 = .ok (.ireturn, 1) := by decide +kernel
theorem dX9_errorPosition_0 : decode cX9_errorPosition 0 = .ok (.aload_n 0, 1) := by decide +kernel
theorem dX9_errorPosition_1 : decode cX9_errorPosition 1 = .ok (.iconst 0, 1) := by decide +kernel
theorem dX9_errorPosition_2 : decode cX9_errorPosition 2 = .ok (.putfield 40, 3) := by decide +kernel
theorem dX9_errorPosition_5 : decode cX9_errorPosition 5 = .ok (.aload_n 0, 1) := by decide +kernel
theorem dX9_errorPosition_6 : decode cX9_errorPosition 6 = .ok (.aload_n 0, 1) := by decide +kernel
theorem dX9_errorPosition_7 : decode cX9_errorPosition 7 = .ok (.getfield 16, 3) := by decide +kernel
theorem dX9_errorPosition_10 : decode cX9_errorPosition 10 = .ok (.invokevirtual 159, 3) := by decide +kernel
theorem dX9_errorPosition_13 : decode cX9_errorPosition 13 = .ok (.ireturn, 1) := by decide +kernel
theorem dX9_load_0 : decode cX9_load 0 = .ok (.aload_n 0, 1) := by decide +kernel
theorem dX9_load_1 : decode cX9_load 1 = .ok (.aload_n 0, 1) := by decide +kernel
theorem dX9_load_2 : decode cX9_load 2 = .ok (.aload_n 0, 1) := by decide +kernel
theorem dX9_load_3 : decode cX9_load 3 = .ok (.getfield 16, 3) := by decide +kernel
theorem dX9_load_6 : decode cX9_load 6 = .ok (.invokevirtual 159, 3) := by decide +kernel
theorem dX9_load_9 : decode cX9_load 9 = .ok (.iconst (-1), 1) := by decide +kernel
theorem dX9_load_10 : decode cX9_load 10 = .ok (.if_icmp .ne 7, 3) := by decide +kernel
theorem dX9_load_13 : decode cX9_load 13 = .ok (.iconst 0, 1) := by decide +kernel
theorem dX9_load_14 : decode cX9_load 14 = .ok (.goto 4, 3) := by decide +kernel
theorem dX9_load_17 : decode cX9_load 17 = .ok (.iconst 1, 1) := by decide +kernel
theorem dX9_load_18 : decode cX9_load 18 = .ok (.invokevirtual 122, 3) := by decide +kernel
theorem dX9_load_21 : decode cX9_load 21 = .ok (.ifCond .eq 5, 3) := by decide +kernel
theorem dX9_load_24 : decode cX9_load 24 = .ok (.iconst 0, 1) := by decide +kernel
theorem dX9_load_25 : decode cX9_load 25 = .ok (.ireturn, 1) := by decide +kernel
theorem dX9_load_26 : decode cX9_load 26 = .ok (.aload_n 0, 1) := by decide +kernel
theorem dX9_load_27 : decode cX9_load 27 = .ok (.getfield 16, 3) := by decide +kernel
theorem dX9_load_30 : decode cX9_load 30 = .ok (.iconst 0, 1) := by decide +kernel
theorem dX9_load_31 : decode cX9_load 31 = .ok (.aload_n 0, 1) := by decide +kernel
theorem dX9_load_32 : decode cX9_load 32 = .ok (.getfield 13, 3) := by decide +kernel
theorem dX9_load_35 : decode cX9_load 35 = .ok (.iconst 0, 1) := by decide +kernel
theorem dX9_load_36 : decode cX9_load 36 = .ok (.invokestatic 162, 3) := by decide +kernel
theorem dX9_load_39 : decode cX9_load 39 = .ok (.aload_n 0, 1) := by decide +kernel
theorem dX9_load_40 : decode cX9_load 40 = .ok (.iconst 0, 1) := by decide +kernel
theorem dX9_load_41 : decode cX9_load 41 = .ok (.putfield 166, 3) := by decide +kernel
theorem dX9_load_44 : decode cX9_load 44 = .ok (.aload_n 0, 1) := by decide +kernel
theorem dX9_load_45 : decode cX9_load 45 = .ok (.getfield 25, 3) := by decide +kernel
theorem dX9_load_48 : decode cX9_load 48 = .ok (.iconst 0, 1) := by decide +kernel
theorem dX9_load_49 : decode cX9_load 49 = .ok (.iconst 0, 1) := by decide +kernel
theorem dX9_load_50 : decode cX9_load 50 = .ok (.bastore, 1) := by decide +kernel
theorem dX9_load_51 : decode cX9_load 51 = .ok (.aload_n 0, 1) := by decide +kernel
theorem dX9_load_52 : decode cX9_load 52 = .ok (.getfield 25, 3) := by decide +kernel
theorem dX9_load_55 : decode cX9_load 55 = .ok (.iconst 1, 1) := by decide +kernel
theorem dX9_load_56 : decode cX9_load 56 = .ok (.iconst 0, 1) := by decide +kernel
theorem dX9_load_57 : decode cX9_load 57 = .ok (.bastore, 1) := by decide +kernel
theorem dX9_load_58 : decode cX9_load 58 = .ok (.aload_n 0, 1) := by decide +kernel
theorem dX9_load_59 : decode cX9_load 59 = .ok (.getfield 129, 3) := by decide +kernel
theorem dX9_load_62 : decode cX9_load 62 = .ok (.ireturn, 1) := by decide +kernel
theorem dX9_about_0 : decode cX9_about 0 = .ok (.aload_n 0, 1) := by decide +kernel
theorem dX9_about_1 : decode cX9_about 1 = .ok (.iload_n 1, 1) := by decide +kernel
theorem dX9_about_2 : decode cX9_about 2 = .ok (.i2l, 1) := by decide +kernel
theorem dX9_about_3 : decode cX9_about 3 = .ok (.lconst 0, 1) := by decide +kernel
theorem dX9_about_4 : decode cX9_about 4 = .ok (.ldc2_w 169, 3) := by decide +kernel
theorem dX9_about_7 : decode cX9_about 7 = .ok (.invokestatic 43, 3) := by decide +kernel
theorem dX9_about_10 : decode cX9_about 10 = .ok (.ifCond .eq 7, 3) := by decide +kernel
theorem dX9_about_13 : decode cX9_about 13 = .ok (.iconst 0, 1) := by decide +kernel
theorem dX9_about_14 : decode cX9_about 14 = .ok (.goto 4, 3) := by decide +kernel
theorem dX9_about_17 : decode cX9_about 17 = .ok (.iconst 1, 1) := by decide +kernel
theorem dX9_about_18 : decode cX9_about 18 = .ok (.invokevirtual 122, 3) := by decide +kernel
theorem dX9_about_21 : decode cX9_about 21 = .ok (.ifCond .eq 5, 3) := by decide +kernel
theorem dX9_about_24 : decode cX9_about 24 = .ok (.iconst 0, 1) := by decide +kernel
theorem dX9_about_25 : decode cX9_about 25 = .ok (.ireturn, 1) := by decide +kernel
theorem dX9_about_26 : decode cX9_about 26 = .ok (.iconst 0, 1) := by decide +kernel
theorem dX9_about_27 : decode cX9_about 27 = .ok (.istore_n 2, 1) := by decide +kernel
theorem dX9_about_28 : decode cX9_about 28 = .ok (.iconst 1, 1) := by decide +kernel
theorem dX9_about_29 : decode cX9_about 29 = .ok (.istore_n 3, 1) := by decide +kernel
theorem dX9_about_30 : decode cX9_about 30 = .ok (.iload_n 3, 1) := by decide +kernel
theorem dX9_about_31 : decode cX9_about 31 = .ok (.sipush 1000, 3) := by decide +kernel
theorem dX9_about_34 : decode cX9_about 34 = .ok (.if_icmp .ge 41, 3) := by decide +kernel
theorem dX9_about_37 : decode cX9_about 37 = .ok (.iload_n 2, 1) := by decide +kernel
theorem dX9_about_38 : decode cX9_about 38 = .ok (.aload_n 0, 1) := by decide +kernel
theorem dX9_about_39 : decode cX9_about 39 = .ok (.aload_n 0, 1) := by decide +kernel
theorem dX9_about_40 : decode cX9_about 40 = .ok (.getfield 13, 3) := by decide +kernel
theorem dX9_about_43 : decode cX9_about 43 = .ok (.aload_n 0, 1) := by decide +kernel
theorem dX9_about_44 : decode cX9_about 44 = .ok (.getfield 13, 3) := by decide +kernel
theorem dX9_about_47 : decode cX9_about 47 = .ok (.iconst 1, 1) := by decide +kernel
theorem dX9_about_48 : decode cX9_about 48 = .ok (.iaload, 1) := by decide +kernel
theorem dX9_about_49 : decode cX9_about 49 = .ok (.iload_n 3, 1) := by decide +kernel
theorem dX9_about_50 : decode cX9_about 50 = .ok (.invokevirtual 88, 3) := by decide +kernel
theorem dX9_about_53 : decode cX9_about 53 = .ok (.ifCond .eq 7, 3) := by decide +kernel
theorem dX9_about_56 : decode cX9_about 56 = .ok (.iconst 1, 1) := by decide +kernel
theorem dX9_about_57 : decode cX9_about 57 = .ok (.goto 4, 3) := by decide +kernel
theorem dX9_about_60 : decode cX9_about 60 = .ok (.iconst 0, 1) := by decide +kernel
theorem dX9_about_61 : decode cX9_about 61 = .ok (.iadd, 1) := by decide +kernel
theorem dX9_about_62 : decode cX9_about 62 = .ok (.istore_n 2, 1) := by decide +kernel
theorem dX9_about_63 : decode cX9_about 63 = .ok (.aload_n 0, 1) := by decide +kernel
theorem dX9_about_64 : decode cX9_about 64 = .ok (.getfield 13, 3) := by decide +kernel
theorem dX9_about_67 : decode cX9_about 67 = .ok (.iload_n 3, 1) := by decide +kernel
theorem dX9_about_68 : decode cX9_about 68 = .ok (.invokestatic 95, 3) := by decide +kernel
theorem dX9_about_71 : decode cX9_about 71 = .ok (.istore_n 3, 1) := by decide +kernel
theorem dX9_about_72 : decode cX9_about 72 = .ok (.goto (-42), 3) := by decide +kernel
theorem dX9_about_75 : decode cX9_about 75 = .ok (.iload_n 1, 1) := by decide +kernel
theorem dX9_about_76 : decode cX9_about 76 = .ok (.tableswitch 126 0 7 #[48, 55, 65, 79, 79, 88, 104, 119], 48) := by decide +kernel
theorem dX9_about_124 : decode cX9_about 124 = .ok (.aload_n 0, 1) := by decide +kernel
theorem dX9_about_125 : decode cX9_about 125 = .ok (.getfield 13, 3) := by decide +kernel
theorem dX9_about_128 : decode cX9_about 128 = .ok (.iconst 0, 1) := by decide +kernel
theorem dX9_about_129 : decode cX9_about 129 = .ok (.iaload, 1) := by decide +kernel
theorem dX9_about_130 : decode cX9_about 130 = .ok (.ireturn, 1) := by decide +kernel
theorem dX9_about_131 : decode cX9_about 131 = .ok (.aload_n 0, 1) := by decide +kernel
theorem dX9_about_132 : decode cX9_about 132 = .ok (.getfield 13, 3) := by decide +kernel
theorem dX9_about_135 : decode cX9_about 135 = .ok (.iconst 1, 1) := by decide +kernel
theorem dX9_about_136 : decode cX9_about 136 = .ok (.iaload, 1) := by decide +kernel
theorem dX9_about_137 : decode cX9_about 137 = .ok (.invokestatic 101, 3) := by decide +kernel
theorem dX9_about_140 : decode cX9_about 140 = .ok (.ireturn, 1) := by decide +kernel
theorem dX9_about_141 : decode cX9_about 141 = .ok (.aload_n 0, 1) := by decide +kernel
theorem dX9_about_142 : decode cX9_about 142 = .ok (.getfield 13, 3) := by decide +kernel
theorem dX9_about_145 : decode cX9_about 145 = .ok (.aload_n 0, 1) := by decide +kernel
theorem dX9_about_146 : decode cX9_about 146 = .ok (.getfield 13, 3) := by decide +kernel
theorem dX9_about_149 : decode cX9_about 149 = .ok (.iconst 1, 1) := by decide +kernel
theorem dX9_about_150 : decode cX9_about 150 = .ok (.iaload, 1) := by decide +kernel
theorem dX9_about_151 : decode cX9_about 151 = .ok (.invokestatic 69, 3) := by decide +kernel
theorem dX9_about_154 : decode cX9_about 154 = .ok (.ireturn, 1) := by decide +kernel
theorem dX9_about_155 : decode cX9_about 155 = .ok (.aload_n 0, 1) := by decide +kernel
theorem dX9_about_156 : decode cX9_about 156 = .ok (.getfield 13, 3) := by decide +kernel
theorem dX9_about_159 : decode cX9_about 159 = .ok (.iload_n 1, 1) := by decide +kernel
theorem dX9_about_160 : decode cX9_about 160 = .ok (.iconst 1, 1) := by decide +kernel
theorem dX9_about_161 : decode cX9_about 161 = .ok (.isub, 1) := by decide +kernel
theorem dX9_about_162 : decode cX9_about 162 = .ok (.iaload, 1) := by decide +kernel
theorem dX9_about_163 : decode cX9_about 163 = .ok (.ireturn, 1) := by decide +kernel
theorem dX9_about_164 : decode cX9_about 164 = .ok (.aload_n 0, 1) := by decide +kernel
theorem dX9_about_165 : decode cX9_about 165 = .ok (.getfield 13, 3) := by decide +kernel
theorem dX9_about_168 : decode cX9_about 168 = .ok (.bipush 8, 2) := by decide +kernel
theorem dX9_about_170 : decode cX9_about 170 = .ok (.iaload, 1) := by decide +kernel
theorem dX9_about_171 : decode cX9_about 171 = .ok (.aload_n 0, 1) := by decide +kernel
theorem dX9_about_172 : decode cX9_about 172 = .ok (.getfield 13, 3) := by decide +kernel
theorem dX9_about_175 : decode cX9_about 175 = .ok (.bipush 9, 2) := by decide +kernel
theorem dX9_about_177 : decode cX9_about 177 = .ok (.iaload, 1) := by decide +kernel
theorem dX9_about_178 : decode cX9_about 178 = .ok (.iadd, 1) := by decide +kernel
theorem dX9_about_179 : decode cX9_about 179 = .ok (.ireturn, 1) := by decide +kernel
theorem dX9_about_180 : decode cX9_about 180 = .ok (.aload_n 0, 1) := by decide +kernel
theorem dX9_about_181 : decode cX9_about 181 = .ok (.getfield 13, 3) := by decide +kernel
theorem dX9_about_184 : decode cX9_about 184 = .ok (.iconst 1, 1) := by decide +kernel
theorem dX9_about_185 : decode cX9_about 185 = .ok (.iaload, 1) := by decide +kernel
theorem dX9_about_186 : decode cX9_about 186 = .ok (.ifCond .ne 7, 3) := by decide +kernel
theorem dX9_about_189 : decode cX9_about 189 = .ok (.iconst 1, 1) := by decide +kernel
theorem dX9_about_190 : decode cX9_about 190 = .ok (.goto 4, 3) := by decide +kernel
theorem dX9_about_193 : decode cX9_about 193 = .ok (.iconst 0, 1) := by decide +kernel
theorem dX9_about_194 : decode cX9_about 194 = .ok (.ireturn, 1) := by decide +kernel
theorem dX9_about_195 : decode cX9_about 195 = .ok (.aload_n 0, 1) := by decide +kernel
theorem dX9_about_196 : decode cX9_about 196 = .ok (.getfield 13, 3) := by decide +kernel
theorem dX9_about_199 : decode cX9_about 199 = .ok (.iconst 1, 1) := by decide +kernel
theorem dX9_about_200 : decode cX9_about 200 = .ok (.iaload, 1) := by decide +kernel
theorem dX9_about_201 : decode cX9_about 201 = .ok (.ireturn, 1) := by decide +kernel
theorem dX9_about_202 : decode cX9_about 202 = .ok (.iload_n 2, 1) := by decide +kernel
theorem dX9_about_203 : decode cX9_about 203 = .ok (.ireturn, 1) := by decide +kernel
theorem dX9_leaves_0 : decode cX9_leaves 0 = .ok (.aload_n 0, 1) := by decide +kernel
theorem dX9_leaves_1 : decode cX9_leaves 1 = .ok (.aload_n 0, 1) := by decide +kernel
theorem dX9_leaves_2 : decode cX9_leaves 2 = .ok (.getfield 13, 3) := by decide +kernel
theorem dX9_leaves_5 : decode cX9_leaves 5 = .ok (.iload_n 1, 1) := by decide +kernel
theorem dX9_leaves_6 : decode cX9_leaves 6 = .ok (.invokestatic 53, 3) := by decide +kernel
theorem dX9_leaves_9 : decode cX9_leaves 9 = .ok (.ifCond .eq 7, 3) := by decide +kernel
theorem dX9_leaves_12 : decode cX9_leaves 12 = .ok (.iconst 0, 1) := by decide +kernel
theorem dX9_leaves_13 : decode cX9_leaves 13 = .ok (.goto 4, 3) := by decide +kernel
theorem dX9_leaves_16 : decode cX9_leaves 16 = .ok (.iconst 1, 1) := by decide +kernel
theorem dX9_leaves_17 : decode cX9_leaves 17 = .ok (.invokevirtual 122, 3) := by decide +kernel
theorem dX9_leaves_20 : decode cX9_leaves 20 = .ok (.ifCond .eq 5, 3) := by decide +kernel
theorem dX9_leaves_23 : decode cX9_leaves 23 = .ok (.iconst 0, 1) := by decide +kernel
theorem dX9_leaves_24 : decode cX9_leaves 24 = .ok (.ireturn, 1) := by decide +kernel
theorem dX9_leaves_25 : decode cX9_leaves 25 = .ok (.aload_n 0, 1) := by decide +kernel
theorem dX9_leaves_26 : decode cX9_leaves 26 = .ok (.getfield 13, 3) := by decide +kernel
theorem dX9_leaves_29 : decode cX9_leaves 29 = .ok (.iconst 1, 1) := by decide +kernel
theorem dX9_leaves_30 : decode cX9_leaves 30 = .ok (.iaload, 1) := by decide +kernel
theorem dX9_leaves_31 : decode cX9_leaves 31 = .ok (.iload_n 1, 1) := by decide +kernel
theorem dX9_leaves_32 : decode cX9_leaves 32 = .ok (.invokestatic 47, 3) := by decide +kernel
theorem dX9_leaves_35 : decode cX9_leaves 35 = .ok (.ireturn, 1) := by decide +kernel
theorem dX9_gardener_0 : decode cX9_gardener 0 = .ok (.aload_n 0, 1) := by decide +kernel
theorem dX9_gardener_1 : decode cX9_gardener 1 = .ok (.iload_n 1, 1) := by decide +kernel
theorem dX9_gardener_2 : decode cX9_gardener 2 = .ok (.i2l, 1) := by decide +kernel
theorem dX9_gardener_3 : decode cX9_gardener 3 = .ok (.lconst 0, 1) := by decide +kernel
theorem dX9_gardener_4 : decode cX9_gardener 4 = .ok (.lconst 1, 1) := by decide +kernel
theorem dX9_gardener_5 : decode cX9_gardener 5 = .ok (.invokestatic 43, 3) := by decide +kernel
theorem dX9_gardener_8 : decode cX9_gardener 8 = .ok (.ifCond .ne 7, 3) := by decide +kernel
theorem dX9_gardener_11 : decode cX9_gardener 11 = .ok (.iconst 1, 1) := by decide +kernel
theorem dX9_gardener_12 : decode cX9_gardener 12 = .ok (.goto 20, 3) := by decide +kernel
theorem dX9_gardener_15 : decode cX9_gardener 15 = .ok (.iload_n 2, 1) := by decide +kernel
theorem dX9_gardener_16 : decode cX9_gardener 16 = .ok (.i2l, 1) := by decide +kernel
theorem dX9_gardener_17 : decode cX9_gardener 17 = .ok (.lconst 0, 1) := by decide +kernel
theorem dX9_gardener_18 : decode cX9_gardener 18 = .ok (.ldc2_w 171, 3) := by decide +kernel
theorem dX9_gardener_21 : decode cX9_gardener 21 = .ok (.invokestatic 43, 3) := by decide +kernel
theorem dX9_gardener_24 : decode cX9_gardener 24 = .ok (.ifCond .eq 7, 3) := by decide +kernel
theorem dX9_gardener_27 : decode cX9_gardener 27 = .ok (.iconst 0, 1) := by decide +kernel
theorem dX9_gardener_28 : decode cX9_gardener 28 = .ok (.goto 4, 3) := by decide +kernel
theorem dX9_gardener_31 : decode cX9_gardener 31 = .ok (.iconst 2, 1) := by decide +kernel
theorem dX9_gardener_32 : decode cX9_gardener 32 = .ok (.invokevirtual 122, 3) := by decide +kernel
theorem dX9_gardener_35 : decode cX9_gardener 35 = .ok (.ifCond .eq 5, 3) := by decide +kernel
theorem dX9_gardener_38 : decode cX9_gardener 38 = .ok (.iconst 0, 1) := by decide +kernel
theorem dX9_gardener_39 : decode cX9_gardener 39 = .ok (.ireturn, 1) := by decide +kernel
theorem dX9_gardener_40 : decode cX9_gardener 40 = .ok (.aload_n 0, 1) := by decide +kernel
theorem dX9_gardener_41 : decode cX9_gardener 41 = .ok (.getfield 13, 3) := by decide +kernel
theorem dX9_gardener_44 : decode cX9_gardener 44 = .ok (.bipush 6, 2) := by decide +kernel
theorem dX9_gardener_46 : decode cX9_gardener 46 = .ok (.iconst 2, 1) := by decide +kernel
theorem dX9_gardener_47 : decode cX9_gardener 47 = .ok (.iload_n 2, 1) := by decide +kernel
theorem dX9_gardener_48 : decode cX9_gardener 48 = .ok (.imul, 1) := by decide +kernel
theorem dX9_gardener_49 : decode cX9_gardener 49 = .ok (.iadd, 1) := by decide +kernel
theorem dX9_gardener_50 : decode cX9_gardener 50 = .ok (.iload_n 1, 1) := by decide +kernel
theorem dX9_gardener_51 : decode cX9_gardener 51 = .ok (.iadd, 1) := by decide +kernel
theorem dX9_gardener_52 : decode cX9_gardener 52 = .ok (.iaload, 1) := by decide +kernel
theorem dX9_gardener_53 : decode cX9_gardener 53 = .ok (.ireturn, 1) := by decide +kernel
theorem dX9_setting_0 : decode cX9_setting 0 = .ok (.aload_n 0, 1) := by decide +kernel
theorem dX9_setting_1 : decode cX9_setting 1 = .ok (.iload_n 1, 1) := by decide +kernel
theorem dX9_setting_2 : decode cX9_setting 2 = .ok (.i2l, 1) := by decide +kernel
theorem dX9_setting_3 : decode cX9_setting 3 = .ok (.lconst 0, 1) := by decide +kernel
theorem dX9_setting_4 : decode cX9_setting 4 = .ok (.lconst 1, 1) := by decide +kernel
theorem dX9_setting_5 : decode cX9_setting 5 = .ok (.invokestatic 43, 3) := by decide +kernel
theorem dX9_setting_8 : decode cX9_setting 8 = .ok (.ifCond .eq 7, 3) := by decide +kernel
theorem dX9_setting_11 : decode cX9_setting 11 = .ok (.iconst 0, 1) := by decide +kernel
theorem dX9_setting_12 : decode cX9_setting 12 = .ok (.goto 4, 3) := by decide +kernel
theorem dX9_setting_15 : decode cX9_setting 15 = .ok (.iconst 1, 1) := by decide +kernel
theorem dX9_setting_16 : decode cX9_setting 16 = .ok (.invokevirtual 122, 3) := by decide +kernel
theorem dX9_setting_19 : decode cX9_setting 19 = .ok (.ifCond .eq 5, 3) := by decide +kernel
theorem dX9_setting_22 : decode cX9_setting 22 = .ok (.iconst 0, 1) := by decide +kernel
theorem dX9_setting_23 : decode cX9_setting 23 = .ok (.ireturn, 1) := by decide +kernel
theorem dX9_setting_24 : decode cX9_setting 24 = .ok (.aload_n 0, 1) := by decide +kernel
theorem dX9_setting_25 : decode cX9_setting 25 = .ok (.getfield 13, 3) := by decide +kernel
theorem dX9_setting_28 : decode cX9_setting 28 = .ok (.iconst 4, 1) := by decide +kernel
theorem dX9_setting_29 : decode cX9_setting 29 = .ok (.iload_n 1, 1) := by decide +kernel
theorem dX9_setting_30 : decode cX9_setting 30 = .ok (.iadd, 1) := by decide +kernel
theorem dX9_setting_31 : decode cX9_setting 31 = .ok (.iaload, 1) := by decide +kernel
theorem dX9_setting_32 : decode cX9_setting 32 = .ok (.ireturn, 1) := by decide +kernel
theorem dX9_remember_0 : decode cX9_remember 0 = .ok (.aload_n 0, 1) := by decide +kernel
theorem dX9_remember_1 : decode cX9_remember 1 = .ok (.getfield 166, 3) := by decide +kernel
theorem dX9_remember_4 : decode cX9_remember 4 = .ok (.bipush 14, 2) := by decide +kernel
theorem dX9_remember_6 : decode cX9_remember 6 = .ok (.if_icmp .ne 43, 3) := by decide +kernel
theorem dX9_remember_9 : decode cX9_remember 9 = .ok (.iconst 0, 1) := by decide +kernel
theorem dX9_remember_10 : decode cX9_remember 10 = .ok (.istore_n 1, 1) := by decide +kernel
theorem dX9_remember_11 : decode cX9_remember 11 = .ok (.iload_n 1, 1) := by decide +kernel
theorem dX9_remember_12 : decode cX9_remember 12 = .ok (.sipush 156, 3) := by decide +kernel
theorem dX9_remember_15 : decode cX9_remember 15 = .ok (.if_icmp .ge 24, 3) := by decide +kernel
theorem dX9_remember_18 : decode cX9_remember 18 = .ok (.aload_n 0, 1) := by decide +kernel
theorem dX9_remember_19 : decode cX9_remember 19 = .ok (.getfield 19, 3) := by decide +kernel
theorem dX9_remember_22 : decode cX9_remember 22 = .ok (.iload_n 1, 1) := by decide +kernel
theorem dX9_remember_23 : decode cX9_remember 23 = .ok (.aload_n 0, 1) := by decide +kernel
theorem dX9_remember_24 : decode cX9_remember 24 = .ok (.getfield 19, 3) := by decide +kernel
theorem dX9_remember_27 : decode cX9_remember 27 = .ok (.iload_n 1, 1) := by decide +kernel
theorem dX9_remember_28 : decode cX9_remember 28 = .ok (.bipush 12, 2) := by decide +kernel
theorem dX9_remember_30 : decode cX9_remember 30 = .ok (.iadd, 1) := by decide +kernel
theorem dX9_remember_31 : decode cX9_remember 31 = .ok (.iaload, 1) := by decide +kernel
theorem dX9_remember_32 : decode cX9_remember 32 = .ok (.iastore, 1) := by decide +kernel
theorem dX9_remember_33 : decode cX9_remember 33 = .ok (.iinc 1 1, 3) := by decide +kernel
theorem dX9_remember_36 : decode cX9_remember 36 = .ok (.goto (-25), 3) := by decide +kernel
theorem dX9_remember_39 : decode cX9_remember 39 = .ok (.aload_n 0, 1) := by decide +kernel
theorem dX9_remember_40 : decode cX9_remember 40 = .ok (.dup, 1) := by decide +kernel
theorem dX9_remember_41 : decode cX9_remember 41 = .ok (.getfield 166, 3) := by decide +kernel
theorem dX9_remember_44 : decode cX9_remember 44 = .ok (.iconst 1, 1) := by decide +kernel
theorem dX9_remember_45 : decode cX9_remember 45 = .ok (.isub, 1) := by decide +kernel
theorem dX9_remember_46 : decode cX9_remember 46 = .ok (.putfield 166, 3) := by decide +kernel
theorem dX9_remember_49 : decode cX9_remember 49 = .ok (.aload_n 0, 1) := by decide +kernel
theorem dX9_remember_50 : decode cX9_remember 50 = .ok (.getfield 13, 3) := by decide +kernel
theorem dX9_remember_53 : decode cX9_remember 53 = .ok (.iconst 0, 1) := by decide +kernel
theorem dX9_remember_54 : decode cX9_remember 54 = .ok (.aload_n 0, 1) := by decide +kernel
theorem dX9_remember_55 : decode cX9_remember 55 = .ok (.getfield 19, 3) := by decide +kernel
theorem dX9_remember_58 : decode cX9_remember 58 = .ok (.bipush 12, 2) := by decide +kernel
theorem dX9_remember_60 : decode cX9_remember 60 = .ok (.aload_n 0, 1) := by decide +kernel
theorem dX9_remember_61 : decode cX9_remember 61 = .ok (.getfield 166, 3) := by decide +kernel
theorem dX9_remember_64 : decode cX9_remember 64 = .ok (.imul, 1) := by decide +kernel
theorem dX9_remember_65 : decode cX9_remember 65 = .ok (.invokestatic 162, 3) := by decide +kernel
theorem dX9_remember_68 : decode cX9_remember 68 = .ok (.aload_n 0, 1) := by decide +kernel
theorem dX9_remember_69 : decode cX9_remember 69 = .ok (.dup, 1) := by decide +kernel
theorem dX9_remember_70 : decode cX9_remember 70 = .ok (.getfield 166, 3) := by decide +kernel
theorem dX9_remember_73 : decode cX9_remember 73 = .ok (.iconst 1, 1) := by decide +kernel
theorem dX9_remember_74 : decode cX9_remember 74 = .ok (.iadd, 1) := by decide +kernel
theorem dX9_remember_75 : decode cX9_remember 75 = .ok (.putfield 166, 3) := by decide +kernel
theorem dX9_remember_78 : decode cX9_remember 78 = .ok (.return_, 1) := by decide +kernel
theorem dX9_plant_0 : decode cX9_plant 0 = .ok (.aload_n 0, 1) := by decide +kernel
theorem dX9_plant_1 : decode cX9_plant 1 = .ok (.iload_n 1, 1) := by decide +kernel
theorem dX9_plant_2 : decode cX9_plant 2 = .ok (.i2l, 1) := by decide +kernel
theorem dX9_plant_3 : decode cX9_plant 3 = .ok (.ldc2_w 171, 3) := by decide +kernel
theorem dX9_plant_6 : decode cX9_plant 6 = .ok (.ldc2_w 173, 3) := by decide +kernel
theorem dX9_plant_9 : decode cX9_plant 9 = .ok (.invokestatic 43, 3) := by decide +kernel
theorem dX9_plant_12 : decode cX9_plant 12 = .ok (.ifCond .eq 23, 3) := by decide +kernel
theorem dX9_plant_15 : decode cX9_plant 15 = .ok (.iload_n 2, 1) := by decide +kernel
theorem dX9_plant_16 : decode cX9_plant 16 = .ok (.i2l, 1) := by decide +kernel
theorem dX9_plant_17 : decode cX9_plant 17 = .ok (.lconst 0, 1) := by decide +kernel
theorem dX9_plant_18 : decode cX9_plant 18 = .ok (.iload_n 1, 1) := by decide +kernel
theorem dX9_plant_19 : decode cX9_plant 19 = .ok (.invokestatic 84, 3) := by decide +kernel
theorem dX9_plant_22 : decode cX9_plant 22 = .ok (.iconst 1, 1) := by decide +kernel
theorem dX9_plant_23 : decode cX9_plant 23 = .ok (.isub, 1) := by decide +kernel
theorem dX9_plant_24 : decode cX9_plant 24 = .ok (.i2l, 1) := by decide +kernel
theorem dX9_plant_25 : decode cX9_plant 25 = .ok (.invokestatic 43, 3) := by decide +kernel
theorem dX9_plant_28 : decode cX9_plant 28 = .ok (.ifCond .eq 7, 3) := by decide +kernel
theorem dX9_plant_31 : decode cX9_plant 31 = .ok (.iconst 0, 1) := by decide +kernel
theorem dX9_plant_32 : decode cX9_plant 32 = .ok (.goto 4, 3) := by decide +kernel
theorem dX9_plant_35 : decode cX9_plant 35 = .ok (.iconst 1, 1) := by decide +kernel
theorem dX9_plant_36 : decode cX9_plant 36 = .ok (.invokevirtual 122, 3) := by decide +kernel
theorem dX9_plant_39 : decode cX9_plant 39 = .ok (.ifCond .eq 5, 3) := by decide +kernel
theorem dX9_plant_42 : decode cX9_plant 42 = .ok (.iconst 0, 1) := by decide +kernel
theorem dX9_plant_43 : decode cX9_plant 43 = .ok (.ireturn, 1) := by decide +kernel
theorem dX9_plant_44 : decode cX9_plant 44 = .ok (.aload_n 0, 1) := by decide +kernel
theorem dX9_plant_45 : decode cX9_plant 45 = .ok (.invokevirtual 175, 3) := by decide +kernel
theorem dX9_plant_48 : decode cX9_plant 48 = .ok (.aload_n 0, 1) := by decide +kernel
theorem dX9_plant_49 : decode cX9_plant 49 = .ok (.getfield 13, 3) := by decide +kernel
theorem dX9_plant_52 : decode cX9_plant 52 = .ok (.iconst 0, 1) := by decide +kernel
theorem dX9_plant_53 : decode cX9_plant 53 = .ok (.iload_n 1, 1) := by decide +kernel
theorem dX9_plant_54 : decode cX9_plant 54 = .ok (.iastore, 1) := by decide +kernel
theorem dX9_plant_55 : decode cX9_plant 55 = .ok (.aload_n 0, 1) := by decide +kernel
theorem dX9_plant_56 : decode cX9_plant 56 = .ok (.getfield 13, 3) := by decide +kernel
theorem dX9_plant_59 : decode cX9_plant 59 = .ok (.iconst 1, 1) := by decide +kernel
theorem dX9_plant_60 : decode cX9_plant 60 = .ok (.iload_n 2, 1) := by decide +kernel
theorem dX9_plant_61 : decode cX9_plant 61 = .ok (.iastore, 1) := by decide +kernel
theorem dX9_plant_62 : decode cX9_plant 62 = .ok (.aload_n 0, 1) := by decide +kernel
theorem dX9_plant_63 : decode cX9_plant 63 = .ok (.getfield 13, 3) := by decide +kernel
theorem dX9_plant_66 : decode cX9_plant 66 = .ok (.iconst 3, 1) := by decide +kernel
theorem dX9_plant_67 : decode cX9_plant 67 = .ok (.iconst 0, 1) := by decide +kernel
theorem dX9_plant_68 : decode cX9_plant 68 = .ok (.iastore, 1) := by decide +kernel
theorem dX9_plant_69 : decode cX9_plant 69 = .ok (.bipush 6, 2) := by decide +kernel
theorem dX9_plant_71 : decode cX9_plant 71 = .ok (.istore_n 3, 1) := by decide +kernel
theorem dX9_plant_72 : decode cX9_plant 72 = .ok (.iload_n 3, 1) := by decide +kernel
theorem dX9_plant_73 : decode cX9_plant 73 = .ok (.bipush 12, 2) := by decide +kernel
theorem dX9_plant_75 : decode cX9_plant 75 = .ok (.if_icmp .ge 16, 3) := by decide +kernel
theorem dX9_plant_78 : decode cX9_plant 78 = .ok (.aload_n 0, 1) := by decide +kernel
theorem dX9_plant_79 : decode cX9_plant 79 = .ok (.getfield 13, 3) := by decide +kernel
theorem dX9_plant_82 : decode cX9_plant 82 = .ok (.iload_n 3, 1) := by decide +kernel
theorem dX9_plant_83 : decode cX9_plant 83 = .ok (.iconst 0, 1) := by decide +kernel
theorem dX9_plant_84 : decode cX9_plant 84 = .ok (.iastore, 1) := by decide +kernel
theorem dX9_plant_85 : decode cX9_plant 85 = .ok (.iinc 3 1, 3) := by decide +kernel
theorem dX9_plant_88 : decode cX9_plant 88 = .ok (.goto (-16), 3) := by decide +kernel
theorem dX9_plant_91 : decode cX9_plant 91 = .ok (.iload_n 2, 1) := by decide +kernel
theorem dX9_plant_92 : decode cX9_plant 92 = .ok (.invokestatic 101, 3) := by decide +kernel
theorem dX9_plant_95 : decode cX9_plant 95 = .ok (.ireturn, 1) := by decide +kernel
theorem dX9_clip_0 : decode cX9_clip 0 = .ok (.aload_n 0, 1) := by decide +kernel
theorem dX9_clip_1 : decode cX9_clip 1 = .ok (.aload_n 0, 1) := by decide +kernel
theorem dX9_clip_2 : decode cX9_clip 2 = .ok (.getfield 13, 3) := by decide +kernel
theorem dX9_clip_5 : decode cX9_clip 5 = .ok (.iload_n 1, 1) := by decide +kernel
theorem dX9_clip_6 : decode cX9_clip 6 = .ok (.invokestatic 53, 3) := by decide +kernel
theorem dX9_clip_9 : decode cX9_clip 9 = .ok (.ifCond .eq 14, 3) := by decide +kernel
theorem dX9_clip_12 : decode cX9_clip 12 = .ok (.aload_n 0, 1) := by decide +kernel
theorem dX9_clip_13 : decode cX9_clip 13 = .ok (.getfield 13, 3) := by decide +kernel
theorem dX9_clip_16 : decode cX9_clip 16 = .ok (.iload_n 2, 1) := by decide +kernel
theorem dX9_clip_17 : decode cX9_clip 17 = .ok (.invokestatic 53, 3) := by decide +kernel
theorem dX9_clip_20 : decode cX9_clip 20 = .ok (.ifCond .ne 7, 3) := by decide +kernel
theorem dX9_clip_23 : decode cX9_clip 23 = .ok (.iconst 1, 1) := by decide +kernel
theorem dX9_clip_24 : decode cX9_clip 24 = .ok (.goto 44, 3) := by decide +kernel
theorem dX9_clip_27 : decode cX9_clip 27 = .ok (.aload_n 0, 1) := by decide +kernel
theorem dX9_clip_28 : decode cX9_clip 28 = .ok (.getfield 13, 3) := by decide +kernel
theorem dX9_clip_31 : decode cX9_clip 31 = .ok (.iload_n 1, 1) := by decide +kernel
theorem dX9_clip_32 : decode cX9_clip 32 = .ok (.iload_n 2, 1) := by decide +kernel
theorem dX9_clip_33 : decode cX9_clip 33 = .ok (.iload_n 3, 1) := by decide +kernel
theorem dX9_clip_34 : decode cX9_clip 34 = .ok (.invokestatic 57, 3) := by decide +kernel
theorem dX9_clip_37 : decode cX9_clip 37 = .ok (.ifCond .ne 7, 3) := by decide +kernel
theorem dX9_clip_40 : decode cX9_clip 40 = .ok (.iconst 2, 1) := by decide +kernel
theorem dX9_clip_41 : decode cX9_clip 41 = .ok (.goto 27, 3) := by decide +kernel
theorem dX9_clip_44 : decode cX9_clip 44 = .ok (.aload_n 0, 1) := by decide +kernel
theorem dX9_clip_45 : decode cX9_clip 45 = .ok (.getfield 13, 3) := by decide +kernel
theorem dX9_clip_48 : decode cX9_clip 48 = .ok (.aload_n 0, 1) := by decide +kernel
theorem dX9_clip_49 : decode cX9_clip 49 = .ok (.getfield 13, 3) := by decide +kernel
theorem dX9_clip_52 : decode cX9_clip 52 = .ok (.iconst 1, 1) := by decide +kernel
theorem dX9_clip_53 : decode cX9_clip 53 = .ok (.iaload, 1) := by decide +kernel
theorem dX9_clip_54 : decode cX9_clip 54 = .ok (.iload_n 1, 1) := by decide +kernel
theorem dX9_clip_55 : decode cX9_clip 55 = .ok (.iload_n 2, 1) := by decide +kernel
theorem dX9_clip_56 : decode cX9_clip 56 = .ok (.iload_n 3, 1) := by decide +kernel
theorem dX9_clip_57 : decode cX9_clip 57 = .ok (.invokestatic 80, 3) := by decide +kernel
theorem dX9_clip_60 : decode cX9_clip 60 = .ok (.ifCond .eq 7, 3) := by decide +kernel
theorem dX9_clip_63 : decode cX9_clip 63 = .ok (.iconst 0, 1) := by decide +kernel
theorem dX9_clip_64 : decode cX9_clip 64 = .ok (.goto 4, 3) := by decide +kernel
theorem dX9_clip_67 : decode cX9_clip 67 = .ok (.iconst 3, 1) := by decide +kernel
theorem dX9_clip_68 : decode cX9_clip 68 = .ok (.invokevirtual 122, 3) := by decide +kernel
theorem dX9_clip_71 : decode cX9_clip 71 = .ok (.ifCond .eq 5, 3) := by decide +kernel
theorem dX9_clip_74 : decode cX9_clip 74 = .ok (.iconst 0, 1) := by decide +kernel
theorem dX9_clip_75 : decode cX9_clip 75 = .ok (.ireturn, 1) := by decide +kernel
theorem dX9_clip_76 : decode cX9_clip 76 = .ok (.aload_n 0, 1) := by decide +kernel
theorem dX9_clip_77 : decode cX9_clip 77 = .ok (.invokevirtual 175, 3) := by decide +kernel
theorem dX9_clip_80 : decode cX9_clip 80 = .ok (.aload_n 0, 1) := by decide +kernel
theorem dX9_clip_81 : decode cX9_clip 81 = .ok (.getfield 13, 3) := by decide +kernel
theorem dX9_clip_84 : decode cX9_clip 84 = .ok (.iload_n 1, 1) := by decide +kernel
theorem dX9_clip_85 : decode cX9_clip 85 = .ok (.iload_n 2, 1) := by decide +kernel
theorem dX9_clip_86 : decode cX9_clip 86 = .ok (.iload_n 3, 1) := by decide +kernel
theorem dX9_clip_87 : decode cX9_clip 87 = .ok (.invokestatic 108, 3) := by decide +kernel
theorem dX9_clip_90 : decode cX9_clip 90 = .ok (.ireturn, 1) := by decide +kernel
theorem dX9_water_0 : decode cX9_water 0 = .ok (.aload_n 0, 1) := by decide +kernel
theorem dX9_water_1 : decode cX9_water 1 = .ok (.aload_n 0, 1) := by decide +kernel
theorem dX9_water_2 : decode cX9_water 2 = .ok (.getfield 13, 3) := by decide +kernel
theorem dX9_water_5 : decode cX9_water 5 = .ok (.iload_n 1, 1) := by decide +kernel
theorem dX9_water_6 : decode cX9_water 6 = .ok (.invokestatic 53, 3) := by decide +kernel
theorem dX9_water_9 : decode cX9_water 9 = .ok (.ifCond .ne 7, 3) := by decide +kernel
theorem dX9_water_12 : decode cX9_water 12 = .ok (.iconst 1, 1) := by decide +kernel
theorem dX9_water_13 : decode cX9_water 13 = .ok (.goto 19, 3) := by decide +kernel
theorem dX9_water_16 : decode cX9_water 16 = .ok (.aload_n 0, 1) := by decide +kernel
theorem dX9_water_17 : decode cX9_water 17 = .ok (.getfield 13, 3) := by decide +kernel
theorem dX9_water_20 : decode cX9_water 20 = .ok (.iload_n 1, 1) := by decide +kernel
theorem dX9_water_21 : decode cX9_water 21 = .ok (.invokestatic 140, 3) := by decide +kernel
theorem dX9_water_24 : decode cX9_water 24 = .ok (.ifCond .eq 7, 3) := by decide +kernel
theorem dX9_water_27 : decode cX9_water 27 = .ok (.iconst 0, 1) := by decide +kernel
theorem dX9_water_28 : decode cX9_water 28 = .ok (.goto 4, 3) := by decide +kernel
theorem dX9_water_31 : decode cX9_water 31 = .ok (.iconst 2, 1) := by decide +kernel
theorem dX9_water_32 : decode cX9_water 32 = .ok (.invokevirtual 122, 3) := by decide +kernel
theorem dX9_water_35 : decode cX9_water 35 = .ok (.ifCond .eq 5, 3) := by decide +kernel
theorem dX9_water_38 : decode cX9_water 38 = .ok (.iconst 0, 1) := by decide +kernel
theorem dX9_water_39 : decode cX9_water 39 = .ok (.ireturn, 1) := by decide +kernel
theorem dX9_water_40 : decode cX9_water 40 = .ok (.aload_n 0, 1) := by decide +kernel
theorem dX9_water_41 : decode cX9_water 41 = .ok (.invokevirtual 175, 3) := by decide +kernel
theorem dX9_water_44 : decode cX9_water 44 = .ok (.aload_n 0, 1) := by decide +kernel
theorem dX9_water_45 : decode cX9_water 45 = .ok (.getfield 13, 3) := by decide +kernel
theorem dX9_water_48 : decode cX9_water 48 = .ok (.iload_n 1, 1) := by decide +kernel
theorem dX9_water_49 : decode cX9_water 49 = .ok (.invokestatic 143, 3) := by decide +kernel
theorem dX9_water_52 : decode cX9_water 52 = .ok (.ireturn, 1) := by decide +kernel
theorem dX9_wind_0 : decode cX9_wind 0 = .ok (.aload_n 0, 1) := by decide +kernel
theorem dX9_wind_1 : decode cX9_wind 1 = .ok (.iload_n 1, 1) := by decide +kernel
theorem dX9_wind_2 : decode cX9_wind 2 = .ok (.i2l, 1) := by decide +kernel
theorem dX9_wind_3 : decode cX9_wind 3 = .ok (.lconst 0, 1) := by decide +kernel
theorem dX9_wind_4 : decode cX9_wind 4 = .ok (.ldc2_w 171, 3) := by decide +kernel
theorem dX9_wind_7 : decode cX9_wind 7 = .ok (.invokestatic 43, 3) := by decide +kernel
theorem dX9_wind_10 : decode cX9_wind 10 = .ok (.ifCond .eq 7, 3) := by decide +kernel
theorem dX9_wind_13 : decode cX9_wind 13 = .ok (.iconst 0, 1) := by decide +kernel
theorem dX9_wind_14 : decode cX9_wind 14 = .ok (.goto 4, 3) := by decide +kernel
theorem dX9_wind_17 : decode cX9_wind 17 = .ok (.iconst 1, 1) := by decide +kernel
theorem dX9_wind_18 : decode cX9_wind 18 = .ok (.invokevirtual 122, 3) := by decide +kernel
theorem dX9_wind_21 : decode cX9_wind 21 = .ok (.ifCond .eq 5, 3) := by decide +kernel
theorem dX9_wind_24 : decode cX9_wind 24 = .ok (.iconst 0, 1) := by decide +kernel
theorem dX9_wind_25 : decode cX9_wind 25 = .ok (.ireturn, 1) := by decide +kernel
theorem dX9_wind_26 : decode cX9_wind 26 = .ok (.aload_n 0, 1) := by decide +kernel
theorem dX9_wind_27 : decode cX9_wind 27 = .ok (.invokevirtual 175, 3) := by decide +kernel
theorem dX9_wind_30 : decode cX9_wind 30 = .ok (.aload_n 0, 1) := by decide +kernel
theorem dX9_wind_31 : decode cX9_wind 31 = .ok (.getfield 13, 3) := by decide +kernel
theorem dX9_wind_34 : decode cX9_wind 34 = .ok (.iload_n 1, 1) := by decide +kernel
theorem dX9_wind_35 : decode cX9_wind 35 = .ok (.invokestatic 146, 3) := by decide +kernel
theorem dX9_wind_38 : decode cX9_wind 38 = .ok (.ireturn, 1) := by decide +kernel
theorem dX9_pass_0 : decode cX9_pass 0 = .ok (.aload_n 0, 1) := by decide +kernel
theorem dX9_pass_1 : decode cX9_pass 1 = .ok (.iconst 0, 1) := by decide +kernel
theorem dX9_pass_2 : decode cX9_pass 2 = .ok (.putfield 40, 3) := by decide +kernel
theorem dX9_pass_5 : decode cX9_pass 5 = .ok (.aload_n 0, 1) := by decide +kernel
theorem dX9_pass_6 : decode cX9_pass 6 = .ok (.invokevirtual 175, 3) := by decide +kernel
theorem dX9_pass_9 : decode cX9_pass 9 = .ok (.aload_n 0, 1) := by decide +kernel
theorem dX9_pass_10 : decode cX9_pass 10 = .ok (.getfield 13, 3) := by decide +kernel
theorem dX9_pass_13 : decode cX9_pass 13 = .ok (.invokestatic 149, 3) := by decide +kernel
theorem dX9_pass_16 : decode cX9_pass 16 = .ok (.ireturn, 1) := by decide +kernel
theorem dX9_set_0 : decode cX9_set 0 = .ok (.aload_n 0, 1) := by decide +kernel
theorem dX9_set_1 : decode cX9_set 1 = .ok (.iload_n 1, 1) := by decide +kernel
theorem dX9_set_2 : decode cX9_set 2 = .ok (.iload_n 2, 1) := by decide +kernel
theorem dX9_set_3 : decode cX9_set 3 = .ok (.invokestatic 178, 3) := by decide +kernel
theorem dX9_set_6 : decode cX9_set 6 = .ok (.ifCond .eq 7, 3) := by decide +kernel
theorem dX9_set_9 : decode cX9_set 9 = .ok (.iconst 0, 1) := by decide +kernel
theorem dX9_set_10 : decode cX9_set 10 = .ok (.goto 4, 3) := by decide +kernel
theorem dX9_set_13 : decode cX9_set 13 = .ok (.iconst 1, 1) := by decide +kernel
theorem dX9_set_14 : decode cX9_set 14 = .ok (.invokevirtual 122, 3) := by decide +kernel
theorem dX9_set_17 : decode cX9_set 17 = .ok (.ifCond .eq 5, 3) := by decide +kernel
theorem dX9_set_20 : decode cX9_set 20 = .ok (.iconst 0, 1) := by decide +kernel
theorem dX9_set_21 : decode cX9_set 21 = .ok (.ireturn, 1) := by decide +kernel
theorem dX9_set_22 : decode cX9_set 22 = .ok (.aload_n 0, 1) := by decide +kernel
theorem dX9_set_23 : decode cX9_set 23 = .ok (.invokevirtual 175, 3) := by decide +kernel
theorem dX9_set_26 : decode cX9_set 26 = .ok (.aload_n 0, 1) := by decide +kernel
theorem dX9_set_27 : decode cX9_set 27 = .ok (.getfield 13, 3) := by decide +kernel
theorem dX9_set_30 : decode cX9_set 30 = .ok (.iconst 4, 1) := by decide +kernel
theorem dX9_set_31 : decode cX9_set 31 = .ok (.iload_n 1, 1) := by decide +kernel
theorem dX9_set_32 : decode cX9_set 32 = .ok (.iadd, 1) := by decide +kernel
theorem dX9_set_33 : decode cX9_set 33 = .ok (.iaload, 1) := by decide +kernel
theorem dX9_set_34 : decode cX9_set 34 = .ok (.istore_n 3, 1) := by decide +kernel
theorem dX9_set_35 : decode cX9_set 35 = .ok (.aload_n 0, 1) := by decide +kernel
theorem dX9_set_36 : decode cX9_set 36 = .ok (.getfield 13, 3) := by decide +kernel
theorem dX9_set_39 : decode cX9_set 39 = .ok (.iconst 4, 1) := by decide +kernel
theorem dX9_set_40 : decode cX9_set 40 = .ok (.iload_n 1, 1) := by decide +kernel
theorem dX9_set_41 : decode cX9_set 41 = .ok (.iadd, 1) := by decide +kernel
theorem dX9_set_42 : decode cX9_set 42 = .ok (.iload_n 2, 1) := by decide +kernel
theorem dX9_set_43 : decode cX9_set 43 = .ok (.iastore, 1) := by decide +kernel
theorem dX9_set_44 : decode cX9_set 44 = .ok (.iload_n 3, 1) := by decide +kernel
theorem dX9_set_45 : decode cX9_set 45 = .ok (.ireturn, 1) := by decide +kernel
theorem dX9_undo_0 : decode cX9_undo 0 = .ok (.aload_n 0, 1) := by decide +kernel
theorem dX9_undo_1 : decode cX9_undo 1 = .ok (.aload_n 0, 1) := by decide +kernel
theorem dX9_undo_2 : decode cX9_undo 2 = .ok (.getfield 166, 3) := by decide +kernel
theorem dX9_undo_5 : decode cX9_undo 5 = .ok (.ifCond .ne 7, 3) := by decide +kernel
theorem dX9_undo_8 : decode cX9_undo 8 = .ok (.iconst 1, 1) := by decide +kernel
theorem dX9_undo_9 : decode cX9_undo 9 = .ok (.goto 4, 3) := by decide +kernel
theorem dX9_undo_12 : decode cX9_undo 12 = .ok (.iconst 0, 1) := by decide +kernel
theorem dX9_undo_13 : decode cX9_undo 13 = .ok (.invokevirtual 122, 3) := by decide +kernel
theorem dX9_undo_16 : decode cX9_undo 16 = .ok (.ifCond .eq 5, 3) := by decide +kernel
theorem dX9_undo_19 : decode cX9_undo 19 = .ok (.iconst 0, 1) := by decide +kernel
theorem dX9_undo_20 : decode cX9_undo 20 = .ok (.ireturn, 1) := by decide +kernel
theorem dX9_undo_21 : decode cX9_undo 21 = .ok (.aload_n 0, 1) := by decide +kernel
theorem dX9_undo_22 : decode cX9_undo 22 = .ok (.dup, 1) := by decide +kernel
theorem dX9_undo_23 : decode cX9_undo 23 = .ok (.getfield 166, 3) := by decide +kernel
theorem dX9_undo_26 : decode cX9_undo 26 = .ok (.iconst 1, 1) := by decide +kernel
theorem dX9_undo_27 : decode cX9_undo 27 = .ok (.isub, 1) := by decide +kernel
theorem dX9_undo_28 : decode cX9_undo 28 = .ok (.putfield 166, 3) := by decide +kernel
theorem dX9_undo_31 : decode cX9_undo 31 = .ok (.aload_n 0, 1) := by decide +kernel
theorem dX9_undo_32 : decode cX9_undo 32 = .ok (.getfield 19, 3) := by decide +kernel
theorem dX9_undo_35 : decode cX9_undo 35 = .ok (.bipush 12, 2) := by decide +kernel
theorem dX9_undo_37 : decode cX9_undo 37 = .ok (.aload_n 0, 1) := by decide +kernel
theorem dX9_undo_38 : decode cX9_undo 38 = .ok (.getfield 166, 3) := by decide +kernel
theorem dX9_undo_41 : decode cX9_undo 41 = .ok (.imul, 1) := by decide +kernel
theorem dX9_undo_42 : decode cX9_undo 42 = .ok (.aload_n 0, 1) := by decide +kernel
theorem dX9_undo_43 : decode cX9_undo 43 = .ok (.getfield 13, 3) := by decide +kernel
theorem dX9_undo_46 : decode cX9_undo 46 = .ok (.iconst 0, 1) := by decide +kernel
theorem dX9_undo_47 : decode cX9_undo 47 = .ok (.invokestatic 162, 3) := by decide +kernel
theorem dX9_undo_50 : decode cX9_undo 50 = .ok (.aload_n 0, 1) := by decide +kernel
theorem dX9_undo_51 : decode cX9_undo 51 = .ok (.getfield 166, 3) := by decide +kernel
theorem dX9_undo_54 : decode cX9_undo 54 = .ok (.ireturn, 1) := by decide +kernel
theorem dX9_ifClipped_0 : decode cX9_ifClipped 0 = .ok (.aload_n 0, 1) := by decide +kernel
theorem dX9_ifClipped_1 : decode cX9_ifClipped 1 = .ok (.aload_n 0, 1) := by decide +kernel
theorem dX9_ifClipped_2 : decode cX9_ifClipped 2 = .ok (.getfield 13, 3) := by decide +kernel
theorem dX9_ifClipped_5 : decode cX9_ifClipped 5 = .ok (.iload_n 1, 1) := by decide +kernel
theorem dX9_ifClipped_6 : decode cX9_ifClipped 6 = .ok (.invokestatic 53, 3) := by decide +kernel
theorem dX9_ifClipped_9 : decode cX9_ifClipped 9 = .ok (.ifCond .eq 14, 3) := by decide +kernel
theorem dX9_ifClipped_12 : decode cX9_ifClipped 12 = .ok (.aload_n 0, 1) := by decide +kernel
theorem dX9_ifClipped_13 : decode cX9_ifClipped 13 = .ok (.getfield 13, 3) := by decide +kernel
theorem dX9_ifClipped_16 : decode cX9_ifClipped 16 = .ok (.iload_n 2, 1) := by decide +kernel
theorem dX9_ifClipped_17 : decode cX9_ifClipped 17 = .ok (.invokestatic 53, 3) := by decide +kernel
theorem dX9_ifClipped_20 : decode cX9_ifClipped 20 = .ok (.ifCond .ne 7, 3) := by decide +kernel
theorem dX9_ifClipped_23 : decode cX9_ifClipped 23 = .ok (.iconst 1, 1) := by decide +kernel
theorem dX9_ifClipped_24 : decode cX9_ifClipped 24 = .ok (.goto 34, 3) := by decide +kernel
theorem dX9_ifClipped_27 : decode cX9_ifClipped 27 = .ok (.aload_n 0, 1) := by decide +kernel
theorem dX9_ifClipped_28 : decode cX9_ifClipped 28 = .ok (.getfield 13, 3) := by decide +kernel
theorem dX9_ifClipped_31 : decode cX9_ifClipped 31 = .ok (.iload_n 1, 1) := by decide +kernel
theorem dX9_ifClipped_32 : decode cX9_ifClipped 32 = .ok (.iload_n 2, 1) := by decide +kernel
theorem dX9_ifClipped_33 : decode cX9_ifClipped 33 = .ok (.iload_n 3, 1) := by decide +kernel
theorem dX9_ifClipped_34 : decode cX9_ifClipped 34 = .ok (.invokestatic 57, 3) := by decide +kernel
theorem dX9_ifClipped_37 : decode cX9_ifClipped 37 = .ok (.ifCond .eq 20, 3) := by decide +kernel
theorem dX9_ifClipped_40 : decode cX9_ifClipped 40 = .ok (.iload 4, 2) := by decide +kernel
theorem dX9_ifClipped_42 : decode cX9_ifClipped 42 = .ok (.i2l, 1) := by decide +kernel
theorem dX9_ifClipped_43 : decode cX9_ifClipped 43 = .ok (.lconst 0, 1) := by decide +kernel
theorem dX9_ifClipped_44 : decode cX9_ifClipped 44 = .ok (.ldc2_w 51, 3) := by decide +kernel
theorem dX9_ifClipped_47 : decode cX9_ifClipped 47 = .ok (.invokestatic 43, 3) := by decide +kernel
theorem dX9_ifClipped_50 : decode cX9_ifClipped 50 = .ok (.ifCond .eq 7, 3) := by decide +kernel
theorem dX9_ifClipped_53 : decode cX9_ifClipped 53 = .ok (.iconst 0, 1) := by decide +kernel
theorem dX9_ifClipped_54 : decode cX9_ifClipped 54 = .ok (.goto 4, 3) := by decide +kernel
theorem dX9_ifClipped_57 : decode cX9_ifClipped 57 = .ok (.iconst 2, 1) := by decide +kernel
theorem dX9_ifClipped_58 : decode cX9_ifClipped 58 = .ok (.invokevirtual 122, 3) := by decide +kernel
theorem dX9_ifClipped_61 : decode cX9_ifClipped 61 = .ok (.ifCond .eq 5, 3) := by decide +kernel
theorem dX9_ifClipped_64 : decode cX9_ifClipped 64 = .ok (.iconst 0, 1) := by decide +kernel
theorem dX9_ifClipped_65 : decode cX9_ifClipped 65 = .ok (.ireturn, 1) := by decide +kernel
theorem dX9_ifClipped_66 : decode cX9_ifClipped 66 = .ok (.aload_n 0, 1) := by decide +kernel
theorem dX9_ifClipped_67 : decode cX9_ifClipped 67 = .ok (.getfield 13, 3) := by decide +kernel
theorem dX9_ifClipped_70 : decode cX9_ifClipped 70 = .ok (.aload_n 0, 1) := by decide +kernel
theorem dX9_ifClipped_71 : decode cX9_ifClipped 71 = .ok (.getfield 13, 3) := by decide +kernel
theorem dX9_ifClipped_74 : decode cX9_ifClipped 74 = .ok (.iconst 1, 1) := by decide +kernel
theorem dX9_ifClipped_75 : decode cX9_ifClipped 75 = .ok (.iaload, 1) := by decide +kernel
theorem dX9_ifClipped_76 : decode cX9_ifClipped 76 = .ok (.iload_n 1, 1) := by decide +kernel
theorem dX9_ifClipped_77 : decode cX9_ifClipped 77 = .ok (.iload_n 2, 1) := by decide +kernel
theorem dX9_ifClipped_78 : decode cX9_ifClipped 78 = .ok (.iload_n 3, 1) := by decide +kernel
theorem dX9_ifClipped_79 : decode cX9_ifClipped 79 = .ok (.invokestatic 80, 3) := by decide +kernel
theorem dX9_ifClipped_82 : decode cX9_ifClipped 82 = .ok (.ifCond .ne 5, 3) := by decide +kernel
theorem dX9_ifClipped_85 : decode cX9_ifClipped 85 = .ok (.iconst (-1), 1) := by decide +kernel
theorem dX9_ifClipped_86 : decode cX9_ifClipped 86 = .ok (.ireturn, 1) := by decide +kernel
theorem dX9_ifClipped_87 : decode cX9_ifClipped 87 = .ok (.aload_n 0, 1) := by decide +kernel
theorem dX9_ifClipped_88 : decode cX9_ifClipped 88 = .ok (.getfield 13, 3) := by decide +kernel
theorem dX9_ifClipped_91 : decode cX9_ifClipped 91 = .ok (.iconst 1, 1) := by decide +kernel
theorem dX9_ifClipped_92 : decode cX9_ifClipped 92 = .ok (.iaload, 1) := by decide +kernel
theorem dX9_ifClipped_93 : decode cX9_ifClipped 93 = .ok (.iload_n 1, 1) := by decide +kernel
theorem dX9_ifClipped_94 : decode cX9_ifClipped 94 = .ok (.iload_n 2, 1) := by decide +kernel
theorem dX9_ifClipped_95 : decode cX9_ifClipped 95 = .ok (.iload_n 3, 1) := by decide +kernel
theorem dX9_ifClipped_96 : decode cX9_ifClipped 96 = .ok (.invokestatic 61, 3) := by decide +kernel
theorem dX9_ifClipped_99 : decode cX9_ifClipped 99 = .ok (.istore 5, 2) := by decide +kernel
theorem dX9_ifClipped_101 : decode cX9_ifClipped 101 = .ok (.aload_n 0, 1) := by decide +kernel
theorem dX9_ifClipped_102 : decode cX9_ifClipped 102 = .ok (.getfield 13, 3) := by decide +kernel
theorem dX9_ifClipped_105 : decode cX9_ifClipped 105 = .ok (.iload 5, 2) := by decide +kernel
theorem dX9_ifClipped_107 : decode cX9_ifClipped 107 = .ok (.invokestatic 65, 3) := by decide +kernel
theorem dX9_ifClipped_110 : decode cX9_ifClipped 110 = .ok (.istore 6, 2) := by decide +kernel
theorem dX9_ifClipped_112 : decode cX9_ifClipped 112 = .ok (.aload_n 0, 1) := by decide +kernel
theorem dX9_ifClipped_113 : decode cX9_ifClipped 113 = .ok (.aload_n 0, 1) := by decide +kernel
theorem dX9_ifClipped_114 : decode cX9_ifClipped 114 = .ok (.getfield 13, 3) := by decide +kernel
theorem dX9_ifClipped_117 : decode cX9_ifClipped 117 = .ok (.invokevirtual 98, 3) := by decide +kernel
theorem dX9_ifClipped_120 : decode cX9_ifClipped 120 = .ok (.iload 4, 2) := by decide +kernel
theorem dX9_ifClipped_122 : decode cX9_ifClipped 122 = .ok (.ifCond .ne 21, 3) := by decide +kernel
theorem dX9_ifClipped_125 : decode cX9_ifClipped 125 = .ok (.aload_n 0, 1) := by decide +kernel
theorem dX9_ifClipped_126 : decode cX9_ifClipped 126 = .ok (.getfield 13, 3) := by decide +kernel
theorem dX9_ifClipped_129 : decode cX9_ifClipped 129 = .ok (.aload_n 0, 1) := by decide +kernel
theorem dX9_ifClipped_130 : decode cX9_ifClipped 130 = .ok (.getfield 13, 3) := by decide +kernel
theorem dX9_ifClipped_133 : decode cX9_ifClipped 133 = .ok (.iconst 1, 1) := by decide +kernel
theorem dX9_ifClipped_134 : decode cX9_ifClipped 134 = .ok (.iaload, 1) := by decide +kernel
theorem dX9_ifClipped_135 : decode cX9_ifClipped 135 = .ok (.iload 6, 2) := by decide +kernel
theorem dX9_ifClipped_137 : decode cX9_ifClipped 137 = .ok (.invokestatic 76, 3) := by decide +kernel
theorem dX9_ifClipped_140 : decode cX9_ifClipped 140 = .ok (.goto 44, 3) := by decide +kernel
theorem dX9_ifClipped_143 : decode cX9_ifClipped 143 = .ok (.iload 4, 2) := by decide +kernel
theorem dX9_ifClipped_145 : decode cX9_ifClipped 145 = .ok (.iconst 1, 1) := by decide +kernel
theorem dX9_ifClipped_146 : decode cX9_ifClipped 146 = .ok (.if_icmp .ne 8, 3) := by decide +kernel
theorem dX9_ifClipped_149 : decode cX9_ifClipped 149 = .ok (.iload 6, 2) := by decide +kernel
theorem dX9_ifClipped_151 : decode cX9_ifClipped 151 = .ok (.goto 33, 3) := by decide +kernel
theorem dX9_ifClipped_154 : decode cX9_ifClipped 154 = .ok (.iload 4, 2) := by decide +kernel
theorem dX9_ifClipped_156 : decode cX9_ifClipped 156 = .ok (.iconst 2, 1) := by decide +kernel
theorem dX9_ifClipped_157 : decode cX9_ifClipped 157 = .ok (.if_icmp .ne 16, 3) := by decide +kernel
theorem dX9_ifClipped_160 : decode cX9_ifClipped 160 = .ok (.bipush 100, 2) := by decide +kernel
theorem dX9_ifClipped_162 : decode cX9_ifClipped 162 = .ok (.aload_n 0, 1) := by decide +kernel
theorem dX9_ifClipped_163 : decode cX9_ifClipped 163 = .ok (.getfield 29, 3) := by decide +kernel
theorem dX9_ifClipped_166 : decode cX9_ifClipped 166 = .ok (.iload 6, 2) := by decide +kernel
theorem dX9_ifClipped_168 : decode cX9_ifClipped 168 = .ok (.iaload, 1) := by decide +kernel
theorem dX9_ifClipped_169 : decode cX9_ifClipped 169 = .ok (.iadd, 1) := by decide +kernel
theorem dX9_ifClipped_170 : decode cX9_ifClipped 170 = .ok (.goto 14, 3) := by decide +kernel
theorem dX9_ifClipped_173 : decode cX9_ifClipped 173 = .ok (.iload 5, 2) := by decide +kernel
theorem dX9_ifClipped_175 : decode cX9_ifClipped 175 = .ok (.invokestatic 101, 3) := by decide +kernel
theorem dX9_ifClipped_178 : decode cX9_ifClipped 178 = .ok (.iload 6, 2) := by decide +kernel
theorem dX9_ifClipped_180 : decode cX9_ifClipped 180 = .ok (.invokestatic 101, 3) := by decide +kernel
theorem dX9_ifClipped_183 : decode cX9_ifClipped 183 = .ok (.isub, 1) := by decide +kernel
theorem dX9_ifClipped_184 : decode cX9_ifClipped 184 = .ok (.ireturn, 1) := by decide +kernel
theorem dX9_worth_0 : decode cX9_worth 0 = .ok (.aload_n 0, 1) := by decide +kernel
theorem dX9_worth_1 : decode cX9_worth 1 = .ok (.iconst 0, 1) := by decide +kernel
theorem dX9_worth_2 : decode cX9_worth 2 = .ok (.putfield 40, 3) := by decide +kernel
theorem dX9_worth_5 : decode cX9_worth 5 = .ok (.bipush 100, 2) := by decide +kernel
theorem dX9_worth_7 : decode cX9_worth 7 = .ok (.aload_n 0, 1) := by decide +kernel
theorem dX9_worth_8 : decode cX9_worth 8 = .ok (.aload_n 0, 1) := by decide +kernel
theorem dX9_worth_9 : decode cX9_worth 9 = .ok (.getfield 13, 3) := by decide +kernel
theorem dX9_worth_12 : decode cX9_worth 12 = .ok (.invokevirtual 114, 3) := by decide +kernel
theorem dX9_worth_15 : decode cX9_worth 15 = .ok (.iadd, 1) := by decide +kernel
theorem dX9_worth_16 : decode cX9_worth 16 = .ok (.ireturn, 1) := by decide +kernel
theorem dX9_bestClip_0 : decode cX9_bestClip 0 = .ok (.aload_n 0, 1) := by decide +kernel
theorem dX9_bestClip_1 : decode cX9_bestClip 1 = .ok (.iconst 0, 1) := by decide +kernel
theorem dX9_bestClip_2 : decode cX9_bestClip 2 = .ok (.putfield 40, 3) := by decide +kernel
theorem dX9_bestClip_5 : decode cX9_bestClip 5 = .ok (.aload_n 0, 1) := by decide +kernel
theorem dX9_bestClip_6 : decode cX9_bestClip 6 = .ok (.aload_n 0, 1) := by decide +kernel
theorem dX9_bestClip_7 : decode cX9_bestClip 7 = .ok (.getfield 13, 3) := by decide +kernel
theorem dX9_bestClip_10 : decode cX9_bestClip 10 = .ok (.invokevirtual 104, 3) := by decide +kernel
theorem dX9_bestClip_13 : decode cX9_bestClip 13 = .ok (.ireturn, 1) := by decide +kernel
theorem dX9_bestClips_0 : decode cX9_bestClips 0 = .ok (.aload_n 0, 1) := by decide +kernel
theorem dX9_bestClips_1 : decode cX9_bestClips 1 = .ok (.iconst 0, 1) := by decide +kernel
theorem dX9_bestClips_2 : decode cX9_bestClips 2 = .ok (.putfield 40, 3) := by decide +kernel
theorem dX9_bestClips_5 : decode cX9_bestClips 5 = .ok (.aload_n 0, 1) := by decide +kernel
theorem dX9_bestClips_6 : decode cX9_bestClips 6 = .ok (.aload_n 0, 1) := by decide +kernel
theorem dX9_bestClips_7 : decode cX9_bestClips 7 = .ok (.getfield 13, 3) := by decide +kernel
theorem dX9_bestClips_10 : decode cX9_bestClips 10 = .ok (.invokevirtual 98, 3) := by decide +kernel
theorem dX9_bestClips_13 : decode cX9_bestClips 13 = .ok (.iconst 0, 1) := by decide +kernel
theorem dX9_bestClips_14 : decode cX9_bestClips 14 = .ok (.istore_n 1, 1) := by decide +kernel
theorem dX9_bestClips_15 : decode cX9_bestClips 15 = .ok (.iconst 1, 1) := by decide +kernel
theorem dX9_bestClips_16 : decode cX9_bestClips 16 = .ok (.istore_n 2, 1) := by decide +kernel
theorem dX9_bestClips_17 : decode cX9_bestClips 17 = .ok (.iload_n 2, 1) := by decide +kernel
theorem dX9_bestClips_18 : decode cX9_bestClips 18 = .ok (.sipush 1000, 3) := by decide +kernel
theorem dX9_bestClips_21 : decode cX9_bestClips 21 = .ok (.if_icmp .ge 70, 3) := by decide +kernel
theorem dX9_bestClips_24 : decode cX9_bestClips 24 = .ok (.iload_n 1, 1) := by decide +kernel
theorem dX9_bestClips_25 : decode cX9_bestClips 25 = .ok (.aload_n 0, 1) := by decide +kernel
theorem dX9_bestClips_26 : decode cX9_bestClips 26 = .ok (.aload_n 0, 1) := by decide +kernel
theorem dX9_bestClips_27 : decode cX9_bestClips 27 = .ok (.getfield 13, 3) := by decide +kernel
theorem dX9_bestClips_30 : decode cX9_bestClips 30 = .ok (.aload_n 0, 1) := by decide +kernel
theorem dX9_bestClips_31 : decode cX9_bestClips 31 = .ok (.getfield 13, 3) := by decide +kernel
theorem dX9_bestClips_34 : decode cX9_bestClips 34 = .ok (.iconst 1, 1) := by decide +kernel
theorem dX9_bestClips_35 : decode cX9_bestClips 35 = .ok (.iaload, 1) := by decide +kernel
theorem dX9_bestClips_36 : decode cX9_bestClips 36 = .ok (.iload_n 2, 1) := by decide +kernel
theorem dX9_bestClips_37 : decode cX9_bestClips 37 = .ok (.invokevirtual 88, 3) := by decide +kernel
theorem dX9_bestClips_40 : decode cX9_bestClips 40 = .ok (.ifCond .eq 36, 3) := by decide +kernel
theorem dX9_bestClips_43 : decode cX9_bestClips 43 = .ok (.aload_n 0, 1) := by decide +kernel
theorem dX9_bestClips_44 : decode cX9_bestClips 44 = .ok (.aload_n 0, 1) := by decide +kernel
theorem dX9_bestClips_45 : decode cX9_bestClips 45 = .ok (.getfield 13, 3) := by decide +kernel
theorem dX9_bestClips_48 : decode cX9_bestClips 48 = .ok (.aload_n 0, 1) := by decide +kernel
theorem dX9_bestClips_49 : decode cX9_bestClips 49 = .ok (.getfield 13, 3) := by decide +kernel
theorem dX9_bestClips_52 : decode cX9_bestClips 52 = .ok (.iconst 1, 1) := by decide +kernel
theorem dX9_bestClips_53 : decode cX9_bestClips 53 = .ok (.iaload, 1) := by decide +kernel
theorem dX9_bestClips_54 : decode cX9_bestClips 54 = .ok (.iload_n 2, 1) := by decide +kernel
theorem dX9_bestClips_55 : decode cX9_bestClips 55 = .ok (.invokevirtual 92, 3) := by decide +kernel
theorem dX9_bestClips_58 : decode cX9_bestClips 58 = .ok (.aload_n 0, 1) := by decide +kernel
theorem dX9_bestClips_59 : decode cX9_bestClips 59 = .ok (.getfield 29, 3) := by decide +kernel
theorem dX9_bestClips_62 : decode cX9_bestClips 62 = .ok (.aload_n 0, 1) := by decide +kernel
theorem dX9_bestClips_63 : decode cX9_bestClips 63 = .ok (.getfield 13, 3) := by decide +kernel
theorem dX9_bestClips_66 : decode cX9_bestClips 66 = .ok (.iconst 1, 1) := by decide +kernel
theorem dX9_bestClips_67 : decode cX9_bestClips 67 = .ok (.iaload, 1) := by decide +kernel
theorem dX9_bestClips_68 : decode cX9_bestClips 68 = .ok (.iaload, 1) := by decide +kernel
theorem dX9_bestClips_69 : decode cX9_bestClips 69 = .ok (.if_icmp .ne 7, 3) := by decide +kernel
theorem dX9_bestClips_72 : decode cX9_bestClips 72 = .ok (.iconst 1, 1) := by decide +kernel
theorem dX9_bestClips_73 : decode cX9_bestClips 73 = .ok (.goto 4, 3) := by decide +kernel
theorem dX9_bestClips_76 : decode cX9_bestClips 76 = .ok (.iconst 0, 1) := by decide +kernel
theorem dX9_bestClips_77 : decode cX9_bestClips 77 = .ok (.iadd, 1) := by decide +kernel
theorem dX9_bestClips_78 : decode cX9_bestClips 78 = .ok (.istore_n 1, 1) := by decide +kernel
theorem dX9_bestClips_79 : decode cX9_bestClips 79 = .ok (.aload_n 0, 1) := by decide +kernel
theorem dX9_bestClips_80 : decode cX9_bestClips 80 = .ok (.getfield 13, 3) := by decide +kernel
theorem dX9_bestClips_83 : decode cX9_bestClips 83 = .ok (.iload_n 2, 1) := by decide +kernel
theorem dX9_bestClips_84 : decode cX9_bestClips 84 = .ok (.invokestatic 95, 3) := by decide +kernel
theorem dX9_bestClips_87 : decode cX9_bestClips 87 = .ok (.istore_n 2, 1) := by decide +kernel
theorem dX9_bestClips_88 : decode cX9_bestClips 88 = .ok (.goto (-71), 3) := by decide +kernel
theorem dX9_bestClips_91 : decode cX9_bestClips 91 = .ok (.iload_n 1, 1) := by decide +kernel
theorem dX9_bestClips_92 : decode cX9_bestClips 92 = .ok (.ireturn, 1) := by decide +kernel
theorem dX9_goesOn_0 : decode cX9_goesOn 0 = .ok (.aload_n 0, 1) := by decide +kernel
theorem dX9_goesOn_1 : decode cX9_goesOn 1 = .ok (.iload_n 1, 1) := by decide +kernel
theorem dX9_goesOn_2 : decode cX9_goesOn 2 = .ok (.i2l, 1) := by decide +kernel
theorem dX9_goesOn_3 : decode cX9_goesOn 3 = .ok (.lconst 1, 1) := by decide +kernel
theorem dX9_goesOn_4 : decode cX9_goesOn 4 = .ok (.ldc2_w 182, 3) := by decide +kernel
theorem dX9_goesOn_7 : decode cX9_goesOn 7 = .ok (.invokestatic 43, 3) := by decide +kernel
theorem dX9_goesOn_10 : decode cX9_goesOn 10 = .ok (.ifCond .eq 17, 3) := by decide +kernel
theorem dX9_goesOn_13 : decode cX9_goesOn 13 = .ok (.iload_n 2, 1) := by decide +kernel
theorem dX9_goesOn_14 : decode cX9_goesOn 14 = .ok (.i2l, 1) := by decide +kernel
theorem dX9_goesOn_15 : decode cX9_goesOn 15 = .ok (.lconst 0, 1) := by decide +kernel
theorem dX9_goesOn_16 : decode cX9_goesOn 16 = .ok (.lconst 1, 1) := by decide +kernel
theorem dX9_goesOn_17 : decode cX9_goesOn 17 = .ok (.invokestatic 43, 3) := by decide +kernel
theorem dX9_goesOn_20 : decode cX9_goesOn 20 = .ok (.ifCond .eq 7, 3) := by decide +kernel
theorem dX9_goesOn_23 : decode cX9_goesOn 23 = .ok (.iconst 0, 1) := by decide +kernel
theorem dX9_goesOn_24 : decode cX9_goesOn 24 = .ok (.goto 4, 3) := by decide +kernel
theorem dX9_goesOn_27 : decode cX9_goesOn 27 = .ok (.iconst 1, 1) := by decide +kernel
theorem dX9_goesOn_28 : decode cX9_goesOn 28 = .ok (.invokevirtual 122, 3) := by decide +kernel
theorem dX9_goesOn_31 : decode cX9_goesOn 31 = .ok (.ifCond .eq 5, 3) := by decide +kernel
theorem dX9_goesOn_34 : decode cX9_goesOn 34 = .ok (.iconst 0, 1) := by decide +kernel
theorem dX9_goesOn_35 : decode cX9_goesOn 35 = .ok (.ireturn, 1) := by decide +kernel
theorem dX9_goesOn_36 : decode cX9_goesOn 36 = .ok (.aload_n 0, 1) := by decide +kernel
theorem dX9_goesOn_37 : decode cX9_goesOn 37 = .ok (.getfield 13, 3) := by decide +kernel
theorem dX9_goesOn_40 : decode cX9_goesOn 40 = .ok (.iconst 0, 1) := by decide +kernel
theorem dX9_goesOn_41 : decode cX9_goesOn 41 = .ok (.aload_n 0, 1) := by decide +kernel
theorem dX9_goesOn_42 : decode cX9_goesOn 42 = .ok (.getfield 16, 3) := by decide +kernel
theorem dX9_goesOn_45 : decode cX9_goesOn 45 = .ok (.iconst 0, 1) := by decide +kernel
theorem dX9_goesOn_46 : decode cX9_goesOn 46 = .ok (.invokestatic 162, 3) := by decide +kernel
theorem dX9_goesOn_49 : decode cX9_goesOn 49 = .ok (.iconst 0, 1) := by decide +kernel
theorem dX9_goesOn_50 : decode cX9_goesOn 50 = .ok (.istore_n 3, 1) := by decide +kernel
theorem dX9_goesOn_51 : decode cX9_goesOn 51 = .ok (.iload_n 3, 1) := by decide +kernel
theorem dX9_goesOn_52 : decode cX9_goesOn 52 = .ok (.iload_n 1, 1) := by decide +kernel
theorem dX9_goesOn_53 : decode cX9_goesOn 53 = .ok (.if_icmp .ge 20, 3) := by decide +kernel
theorem dX9_goesOn_56 : decode cX9_goesOn 56 = .ok (.aload_n 0, 1) := by decide +kernel
theorem dX9_goesOn_57 : decode cX9_goesOn 57 = .ok (.aload_n 0, 1) := by decide +kernel
theorem dX9_goesOn_58 : decode cX9_goesOn 58 = .ok (.getfield 16, 3) := by decide +kernel
theorem dX9_goesOn_61 : decode cX9_goesOn 61 = .ok (.invokevirtual 152, 3) := by decide +kernel
theorem dX9_goesOn_64 : decode cX9_goesOn 64 = .ok (.ifCond .eq 9, 3) := by decide +kernel
theorem dX9_goesOn_67 : decode cX9_goesOn 67 = .ok (.iinc 3 1, 3) := by decide +kernel
theorem dX9_goesOn_70 : decode cX9_goesOn 70 = .ok (.goto (-19), 3) := by decide +kernel
theorem dX9_goesOn_73 : decode cX9_goesOn 73 = .ok (.iload_n 2, 1) := by decide +kernel
theorem dX9_goesOn_74 : decode cX9_goesOn 74 = .ok (.ifCond .ne 12, 3) := by decide +kernel
theorem dX9_goesOn_77 : decode cX9_goesOn 77 = .ok (.aload_n 0, 1) := by decide +kernel
theorem dX9_goesOn_78 : decode cX9_goesOn 78 = .ok (.getfield 16, 3) := by decide +kernel
theorem dX9_goesOn_81 : decode cX9_goesOn 81 = .ok (.iconst 1, 1) := by decide +kernel
theorem dX9_goesOn_82 : decode cX9_goesOn 82 = .ok (.iaload, 1) := by decide +kernel
theorem dX9_goesOn_83 : decode cX9_goesOn 83 = .ok (.goto 4, 3) := by decide +kernel
theorem dX9_goesOn_86 : decode cX9_goesOn 86 = .ok (.iload_n 3, 1) := by decide +kernel
theorem dX9_goesOn_87 : decode cX9_goesOn 87 = .ok (.ireturn, 1) := by decide +kernel
theorem dX9_bestWater_0 : decode cX9_bestWater 0 = .ok (.aload_n 0, 1) := by decide +kernel
theorem dX9_bestWater_1 : decode cX9_bestWater 1 = .ok (.iconst 0, 1) := by decide +kernel
theorem dX9_bestWater_2 : decode cX9_bestWater 2 = .ok (.putfield 40, 3) := by decide +kernel
theorem dX9_bestWater_5 : decode cX9_bestWater 5 = .ok (.aload_n 0, 1) := by decide +kernel
theorem dX9_bestWater_6 : decode cX9_bestWater 6 = .ok (.aload_n 0, 1) := by decide +kernel
theorem dX9_bestWater_7 : decode cX9_bestWater 7 = .ok (.getfield 13, 3) := by decide +kernel
theorem dX9_bestWater_10 : decode cX9_bestWater 10 = .ok (.invokevirtual 98, 3) := by decide +kernel
theorem dX9_bestWater_13 : decode cX9_bestWater 13 = .ok (.iconst (-1), 1) := by decide +kernel
theorem dX9_bestWater_14 : decode cX9_bestWater 14 = .ok (.istore_n 1, 1) := by decide +kernel
theorem dX9_bestWater_15 : decode cX9_bestWater 15 = .ok (.aload_n 0, 1) := by decide +kernel
theorem dX9_bestWater_16 : decode cX9_bestWater 16 = .ok (.getfield 29, 3) := by decide +kernel
theorem dX9_bestWater_19 : decode cX9_bestWater 19 = .ok (.aload_n 0, 1) := by decide +kernel
theorem dX9_bestWater_20 : decode cX9_bestWater 20 = .ok (.getfield 13, 3) := by decide +kernel
theorem dX9_bestWater_23 : decode cX9_bestWater 23 = .ok (.iconst 1, 1) := by decide +kernel
theorem dX9_bestWater_24 : decode cX9_bestWater 24 = .ok (.iaload, 1) := by decide +kernel
theorem dX9_bestWater_25 : decode cX9_bestWater 25 = .ok (.iaload, 1) := by decide +kernel
theorem dX9_bestWater_26 : decode cX9_bestWater 26 = .ok (.istore_n 2, 1) := by decide +kernel
theorem dX9_bestWater_27 : decode cX9_bestWater 27 = .ok (.iconst 0, 1) := by decide +kernel
theorem dX9_bestWater_28 : decode cX9_bestWater 28 = .ok (.istore_n 3, 1) := by decide +kernel
theorem dX9_bestWater_29 : decode cX9_bestWater 29 = .ok (.iload_n 3, 1) := by decide +kernel
theorem dX9_bestWater_30 : decode cX9_bestWater 30 = .ok (.aload_n 0, 1) := by decide +kernel
theorem dX9_bestWater_31 : decode cX9_bestWater 31 = .ok (.getfield 13, 3) := by decide +kernel
theorem dX9_bestWater_34 : decode cX9_bestWater 34 = .ok (.iconst 0, 1) := by decide +kernel
theorem dX9_bestWater_35 : decode cX9_bestWater 35 = .ok (.iaload, 1) := by decide +kernel
theorem dX9_bestWater_36 : decode cX9_bestWater 36 = .ok (.if_icmp .ge 64, 3) := by decide +kernel
theorem dX9_bestWater_39 : decode cX9_bestWater 39 = .ok (.aload_n 0, 1) := by decide +kernel
theorem dX9_bestWater_40 : decode cX9_bestWater 40 = .ok (.getfield 13, 3) := by decide +kernel
theorem dX9_bestWater_43 : decode cX9_bestWater 43 = .ok (.iload_n 3, 1) := by decide +kernel
theorem dX9_bestWater_44 : decode cX9_bestWater 44 = .ok (.invokestatic 140, 3) := by decide +kernel
theorem dX9_bestWater_47 : decode cX9_bestWater 47 = .ok (.ifCond .eq 47, 3) := by decide +kernel
theorem dX9_bestWater_50 : decode cX9_bestWater 50 = .ok (.aload_n 0, 1) := by decide +kernel
theorem dX9_bestWater_51 : decode cX9_bestWater 51 = .ok (.getfield 29, 3) := by decide +kernel
theorem dX9_bestWater_54 : decode cX9_bestWater 54 = .ok (.aload_n 0, 1) := by decide +kernel
theorem dX9_bestWater_55 : decode cX9_bestWater 55 = .ok (.getfield 13, 3) := by decide +kernel
theorem dX9_bestWater_58 : decode cX9_bestWater 58 = .ok (.iconst 1, 1) := by decide +kernel
theorem dX9_bestWater_59 : decode cX9_bestWater 59 = .ok (.iaload, 1) := by decide +kernel
theorem dX9_bestWater_60 : decode cX9_bestWater 60 = .ok (.iconst 1, 1) := by decide +kernel
theorem dX9_bestWater_61 : decode cX9_bestWater 61 = .ok (.iconst 2, 1) := by decide +kernel
theorem dX9_bestWater_62 : decode cX9_bestWater 62 = .ok (.iload_n 3, 1) := by decide +kernel
theorem dX9_bestWater_63 : decode cX9_bestWater 63 = .ok (.imul, 1) := by decide +kernel
theorem dX9_bestWater_64 : decode cX9_bestWater 64 = .ok (.ishl, 1) := by decide +kernel
theorem dX9_bestWater_65 : decode cX9_bestWater 65 = .ok (.iadd, 1) := by decide +kernel
theorem dX9_bestWater_66 : decode cX9_bestWater 66 = .ok (.iaload, 1) := by decide +kernel
theorem dX9_bestWater_67 : decode cX9_bestWater 67 = .ok (.istore 4, 2) := by decide +kernel
theorem dX9_bestWater_69 : decode cX9_bestWater 69 = .ok (.iload 4, 2) := by decide +kernel
theorem dX9_bestWater_71 : decode cX9_bestWater 71 = .ok (.iload_n 2, 1) := by decide +kernel
theorem dX9_bestWater_72 : decode cX9_bestWater 72 = .ok (.if_icmp .le 7, 3) := by decide +kernel
theorem dX9_bestWater_75 : decode cX9_bestWater 75 = .ok (.iload_n 3, 1) := by decide +kernel
theorem dX9_bestWater_76 : decode cX9_bestWater 76 = .ok (.goto 4, 3) := by decide +kernel
theorem dX9_bestWater_79 : decode cX9_bestWater 79 = .ok (.iload_n 1, 1) := by decide +kernel
theorem dX9_bestWater_80 : decode cX9_bestWater 80 = .ok (.istore_n 1, 1) := by decide +kernel
theorem dX9_bestWater_81 : decode cX9_bestWater 81 = .ok (.iload 4, 2) := by decide +kernel
theorem dX9_bestWater_83 : decode cX9_bestWater 83 = .ok (.iload_n 2, 1) := by decide +kernel
theorem dX9_bestWater_84 : decode cX9_bestWater 84 = .ok (.if_icmp .le 8, 3) := by decide +kernel
theorem dX9_bestWater_87 : decode cX9_bestWater 87 = .ok (.iload 4, 2) := by decide +kernel
theorem dX9_bestWater_89 : decode cX9_bestWater 89 = .ok (.goto 4, 3) := by decide +kernel
theorem dX9_bestWater_92 : decode cX9_bestWater 92 = .ok (.iload_n 2, 1) := by decide +kernel
theorem dX9_bestWater_93 : decode cX9_bestWater 93 = .ok (.istore_n 2, 1) := by decide +kernel
theorem dX9_bestWater_94 : decode cX9_bestWater 94 = .ok (.iinc 3 1, 3) := by decide +kernel
theorem dX9_bestWater_97 : decode cX9_bestWater 97 = .ok (.goto (-68), 3) := by decide +kernel
theorem dX9_bestWater_100 : decode cX9_bestWater 100 = .ok (.iload_n 1, 1) := by decide +kernel
theorem dX9_bestWater_101 : decode cX9_bestWater 101 = .ok (.ireturn, 1) := by decide +kernel
theorem dX9_winner_0 : decode cX9_winner 0 = .ok (.aload_n 0, 1) := by decide +kernel
theorem dX9_winner_1 : decode cX9_winner 1 = .ok (.iconst 0, 1) := by decide +kernel
theorem dX9_winner_2 : decode cX9_winner 2 = .ok (.putfield 40, 3) := by decide +kernel
theorem dX9_winner_5 : decode cX9_winner 5 = .ok (.aload_n 0, 1) := by decide +kernel
theorem dX9_winner_6 : decode cX9_winner 6 = .ok (.aload_n 0, 1) := by decide +kernel
theorem dX9_winner_7 : decode cX9_winner 7 = .ok (.getfield 13, 3) := by decide +kernel
theorem dX9_winner_10 : decode cX9_winner 10 = .ok (.invokevirtual 184, 3) := by decide +kernel
theorem dX9_winner_13 : decode cX9_winner 13 = .ok (.ireturn, 1) := by decide +kernel
theorem dX9_command_0 : decode cX9_command 0 = .ok (.iload_n 2, 1) := by decide +kernel
theorem dX9_command_1 : decode cX9_command 1 = .ok (.bipush 100, 2) := by decide +kernel
theorem dX9_command_3 : decode cX9_command 3 = .ok (.idiv, 1) := by decide +kernel
theorem dX9_command_4 : decode cX9_command 4 = .ok (.istore_n 3, 1) := by decide +kernel
theorem dX9_command_5 : decode cX9_command 5 = .ok (.iload_n 2, 1) := by decide +kernel
theorem dX9_command_6 : decode cX9_command 6 = .ok (.bipush 10, 2) := by decide +kernel
theorem dX9_command_8 : decode cX9_command 8 = .ok (.idiv, 1) := by decide +kernel
theorem dX9_command_9 : decode cX9_command 9 = .ok (.bipush 10, 2) := by decide +kernel
theorem dX9_command_11 : decode cX9_command 11 = .ok (.irem, 1) := by decide +kernel
theorem dX9_command_12 : decode cX9_command 12 = .ok (.istore 4, 2) := by decide +kernel
theorem dX9_command_14 : decode cX9_command 14 = .ok (.iload_n 2, 1) := by decide +kernel
theorem dX9_command_15 : decode cX9_command 15 = .ok (.bipush 10, 2) := by decide +kernel
theorem dX9_command_17 : decode cX9_command 17 = .ok (.irem, 1) := by decide +kernel
theorem dX9_command_18 : decode cX9_command 18 = .ok (.istore 5, 2) := by decide +kernel
theorem dX9_command_20 : decode cX9_command 20 = .ok (.iload_n 1, 1) := by decide +kernel
theorem dX9_command_21 : decode cX9_command 21 = .ok (.tableswitch 302 1 9 #[51, 93, 128, 150, 170, 191, 218, 255, 278], 51) := by decide +kernel
theorem dX9_command_72 : decode cX9_command 72 = .ok (.aload_n 0, 1) := by decide +kernel
theorem dX9_command_73 : decode cX9_command 73 = .ok (.getfield 16, 3) := by decide +kernel
theorem dX9_command_76 : decode cX9_command 76 = .ok (.aload_n 0, 1) := by decide +kernel
theorem dX9_command_77 : decode cX9_command 77 = .ok (.getfield 16, 3) := by decide +kernel
theorem dX9_command_80 : decode cX9_command 80 = .ok (.iconst 1, 1) := by decide +kernel
theorem dX9_command_81 : decode cX9_command 81 = .ok (.iaload, 1) := by decide +kernel
theorem dX9_command_82 : decode cX9_command 82 = .ok (.iload_n 3, 1) := by decide +kernel
theorem dX9_command_83 : decode cX9_command 83 = .ok (.iload 4, 2) := by decide +kernel
theorem dX9_command_85 : decode cX9_command 85 = .ok (.iload 5, 2) := by decide +kernel
theorem dX9_command_87 : decode cX9_command 87 = .ok (.invokestatic 80, 3) := by decide +kernel
theorem dX9_command_90 : decode cX9_command 90 = .ok (.ifCond .eq 22, 3) := by decide +kernel
theorem dX9_command_93 : decode cX9_command 93 = .ok (.aload_n 0, 1) := by decide +kernel
theorem dX9_command_94 : decode cX9_command 94 = .ok (.getfield 16, 3) := by decide +kernel
theorem dX9_command_97 : decode cX9_command 97 = .ok (.iload_n 3, 1) := by decide +kernel
theorem dX9_command_98 : decode cX9_command 98 = .ok (.iload 4, 2) := by decide +kernel
theorem dX9_command_100 : decode cX9_command 100 = .ok (.iload 5, 2) := by decide +kernel
theorem dX9_command_102 : decode cX9_command 102 = .ok (.invokestatic 108, 3) := by decide +kernel
theorem dX9_command_105 : decode cX9_command 105 = .ok (.ifCond .lt 7, 3) := by decide +kernel
theorem dX9_command_108 : decode cX9_command 108 = .ok (.iconst 1, 1) := by decide +kernel
theorem dX9_command_109 : decode cX9_command 109 = .ok (.goto 4, 3) := by decide +kernel
theorem dX9_command_112 : decode cX9_command 112 = .ok (.iconst 0, 1) := by decide +kernel
theorem dX9_command_113 : decode cX9_command 113 = .ok (.ireturn, 1) := by decide +kernel
theorem dX9_command_114 : decode cX9_command 114 = .ok (.iload_n 2, 1) := by decide +kernel
theorem dX9_command_115 : decode cX9_command 115 = .ok (.bipush 100, 2) := by decide +kernel
theorem dX9_command_117 : decode cX9_command 117 = .ok (.irem, 1) := by decide +kernel
theorem dX9_command_118 : decode cX9_command 118 = .ok (.ifCond .ne 29, 3) := by decide +kernel
theorem dX9_command_121 : decode cX9_command 121 = .ok (.aload_n 0, 1) := by decide +kernel
theorem dX9_command_122 : decode cX9_command 122 = .ok (.getfield 16, 3) := by decide +kernel
theorem dX9_command_125 : decode cX9_command 125 = .ok (.iload_n 3, 1) := by decide +kernel
theorem dX9_command_126 : decode cX9_command 126 = .ok (.invokestatic 140, 3) := by decide +kernel
theorem dX9_command_129 : decode cX9_command 129 = .ok (.ifCond .eq 18, 3) := by decide +kernel
theorem dX9_command_132 : decode cX9_command 132 = .ok (.aload_n 0, 1) := by decide +kernel
theorem dX9_command_133 : decode cX9_command 133 = .ok (.getfield 16, 3) := by decide +kernel
theorem dX9_command_136 : decode cX9_command 136 = .ok (.iload_n 3, 1) := by decide +kernel
theorem dX9_command_137 : decode cX9_command 137 = .ok (.invokestatic 143, 3) := by decide +kernel
theorem dX9_command_140 : decode cX9_command 140 = .ok (.ifCond .le 7, 3) := by decide +kernel
theorem dX9_command_143 : decode cX9_command 143 = .ok (.iconst 1, 1) := by decide +kernel
theorem dX9_command_144 : decode cX9_command 144 = .ok (.goto 4, 3) := by decide +kernel
theorem dX9_command_147 : decode cX9_command 147 = .ok (.iconst 0, 1) := by decide +kernel
theorem dX9_command_148 : decode cX9_command 148 = .ok (.ireturn, 1) := by decide +kernel
theorem dX9_command_149 : decode cX9_command 149 = .ok (.iload_n 2, 1) := by decide +kernel
theorem dX9_command_150 : decode cX9_command 150 = .ok (.iconst 3, 1) := by decide +kernel
theorem dX9_command_151 : decode cX9_command 151 = .ok (.if_icmp .ge 18, 3) := by decide +kernel
theorem dX9_command_154 : decode cX9_command 154 = .ok (.aload_n 0, 1) := by decide +kernel
theorem dX9_command_155 : decode cX9_command 155 = .ok (.getfield 16, 3) := by decide +kernel
theorem dX9_command_158 : decode cX9_command 158 = .ok (.iload_n 2, 1) := by decide +kernel
theorem dX9_command_159 : decode cX9_command 159 = .ok (.invokestatic 146, 3) := by decide +kernel
theorem dX9_command_162 : decode cX9_command 162 = .ok (.ifCond .lt 7, 3) := by decide +kernel
theorem dX9_command_165 : decode cX9_command 165 = .ok (.iconst 1, 1) := by decide +kernel
theorem dX9_command_166 : decode cX9_command 166 = .ok (.goto 4, 3) := by decide +kernel
theorem dX9_command_169 : decode cX9_command 169 = .ok (.iconst 0, 1) := by decide +kernel
theorem dX9_command_170 : decode cX9_command 170 = .ok (.ireturn, 1) := by decide +kernel
theorem dX9_command_171 : decode cX9_command 171 = .ok (.iload_n 2, 1) := by decide +kernel
theorem dX9_command_172 : decode cX9_command 172 = .ok (.ifCond .ne 17, 3) := by decide +kernel
theorem dX9_command_175 : decode cX9_command 175 = .ok (.aload_n 0, 1) := by decide +kernel
theorem dX9_command_176 : decode cX9_command 176 = .ok (.getfield 16, 3) := by decide +kernel
theorem dX9_command_179 : decode cX9_command 179 = .ok (.invokestatic 149, 3) := by decide +kernel
theorem dX9_command_182 : decode cX9_command 182 = .ok (.ifCond .lt 7, 3) := by decide +kernel
theorem dX9_command_185 : decode cX9_command 185 = .ok (.iconst 1, 1) := by decide +kernel
theorem dX9_command_186 : decode cX9_command 186 = .ok (.goto 4, 3) := by decide +kernel
theorem dX9_command_189 : decode cX9_command 189 = .ok (.iconst 0, 1) := by decide +kernel
theorem dX9_command_190 : decode cX9_command 190 = .ok (.ireturn, 1) := by decide +kernel
theorem dX9_command_191 : decode cX9_command 191 = .ok (.iload_n 2, 1) := by decide +kernel
theorem dX9_command_192 : decode cX9_command 192 = .ok (.ifCond .ne 18, 3) := by decide +kernel
theorem dX9_command_195 : decode cX9_command 195 = .ok (.aload_n 0, 1) := by decide +kernel
theorem dX9_command_196 : decode cX9_command 196 = .ok (.aload_n 0, 1) := by decide +kernel
theorem dX9_command_197 : decode cX9_command 197 = .ok (.getfield 16, 3) := by decide +kernel
theorem dX9_command_200 : decode cX9_command 200 = .ok (.invokevirtual 152, 3) := by decide +kernel
theorem dX9_command_203 : decode cX9_command 203 = .ok (.ifCond .eq 7, 3) := by decide +kernel
theorem dX9_command_206 : decode cX9_command 206 = .ok (.iconst 1, 1) := by decide +kernel
theorem dX9_command_207 : decode cX9_command 207 = .ok (.goto 4, 3) := by decide +kernel
theorem dX9_command_210 : decode cX9_command 210 = .ok (.iconst 0, 1) := by decide +kernel
theorem dX9_command_211 : decode cX9_command 211 = .ok (.ireturn, 1) := by decide +kernel
theorem dX9_command_212 : decode cX9_command 212 = .ok (.iload_n 3, 1) := by decide +kernel
theorem dX9_command_213 : decode cX9_command 213 = .ok (.iconst 2, 1) := by decide +kernel
theorem dX9_command_214 : decode cX9_command 214 = .ok (.if_icmp .ge 23, 3) := by decide +kernel
theorem dX9_command_217 : decode cX9_command 217 = .ok (.aload_n 0, 1) := by decide +kernel
theorem dX9_command_218 : decode cX9_command 218 = .ok (.getfield 16, 3) := by decide +kernel
theorem dX9_command_221 : decode cX9_command 221 = .ok (.bipush 6, 2) := by decide +kernel
theorem dX9_command_223 : decode cX9_command 223 = .ok (.iload_n 3, 1) := by decide +kernel
theorem dX9_command_224 : decode cX9_command 224 = .ok (.iadd, 1) := by decide +kernel
theorem dX9_command_225 : decode cX9_command 225 = .ok (.iaload, 1) := by decide +kernel
theorem dX9_command_226 : decode cX9_command 226 = .ok (.iload_n 2, 1) := by decide +kernel
theorem dX9_command_227 : decode cX9_command 227 = .ok (.bipush 100, 2) := by decide +kernel
theorem dX9_command_229 : decode cX9_command 229 = .ok (.irem, 1) := by decide +kernel
theorem dX9_command_230 : decode cX9_command 230 = .ok (.if_icmp .gt 7, 3) := by decide +kernel
theorem dX9_command_233 : decode cX9_command 233 = .ok (.iconst 1, 1) := by decide +kernel
theorem dX9_command_234 : decode cX9_command 234 = .ok (.goto 4, 3) := by decide +kernel
theorem dX9_command_237 : decode cX9_command 237 = .ok (.iconst 0, 1) := by decide +kernel
theorem dX9_command_238 : decode cX9_command 238 = .ok (.ireturn, 1) := by decide +kernel
theorem dX9_command_239 : decode cX9_command 239 = .ok (.iload 4, 2) := by decide +kernel
theorem dX9_command_241 : decode cX9_command 241 = .ok (.ifCond .ne 33, 3) := by decide +kernel
theorem dX9_command_244 : decode cX9_command 244 = .ok (.aload_n 0, 1) := by decide +kernel
theorem dX9_command_245 : decode cX9_command 245 = .ok (.getfield 16, 3) := by decide +kernel
theorem dX9_command_248 : decode cX9_command 248 = .ok (.iload_n 3, 1) := by decide +kernel
theorem dX9_command_249 : decode cX9_command 249 = .ok (.invokestatic 53, 3) := by decide +kernel
theorem dX9_command_252 : decode cX9_command 252 = .ok (.ifCond .eq 22, 3) := by decide +kernel
theorem dX9_command_255 : decode cX9_command 255 = .ok (.aload_n 0, 1) := by decide +kernel
theorem dX9_command_256 : decode cX9_command 256 = .ok (.getfield 16, 3) := by decide +kernel
theorem dX9_command_259 : decode cX9_command 259 = .ok (.iconst 1, 1) := by decide +kernel
theorem dX9_command_260 : decode cX9_command 260 = .ok (.iaload, 1) := by decide +kernel
theorem dX9_command_261 : decode cX9_command 261 = .ok (.iload_n 3, 1) := by decide +kernel
theorem dX9_command_262 : decode cX9_command 262 = .ok (.invokestatic 47, 3) := by decide +kernel
theorem dX9_command_265 : decode cX9_command 265 = .ok (.iload 5, 2) := by decide +kernel
theorem dX9_command_267 : decode cX9_command 267 = .ok (.if_icmp .ne 7, 3) := by decide +kernel
theorem dX9_command_270 : decode cX9_command 270 = .ok (.iconst 1, 1) := by decide +kernel
theorem dX9_command_271 : decode cX9_command 271 = .ok (.goto 4, 3) := by decide +kernel
theorem dX9_command_274 : decode cX9_command 274 = .ok (.iconst 0, 1) := by decide +kernel
theorem dX9_command_275 : decode cX9_command 275 = .ok (.ireturn, 1) := by decide +kernel
theorem dX9_command_276 : decode cX9_command 276 = .ok (.iload_n 3, 1) := by decide +kernel
theorem dX9_command_277 : decode cX9_command 277 = .ok (.ifCond .ne 20, 3) := by decide +kernel
theorem dX9_command_280 : decode cX9_command 280 = .ok (.aload_n 0, 1) := by decide +kernel
theorem dX9_command_281 : decode cX9_command 281 = .ok (.aload_n 0, 1) := by decide +kernel
theorem dX9_command_282 : decode cX9_command 282 = .ok (.getfield 16, 3) := by decide +kernel
theorem dX9_command_285 : decode cX9_command 285 = .ok (.invokevirtual 114, 3) := by decide +kernel
theorem dX9_command_288 : decode cX9_command 288 = .ok (.iload_n 2, 1) := by decide +kernel
theorem dX9_command_289 : decode cX9_command 289 = .ok (.ineg, 1) := by decide +kernel
theorem dX9_command_290 : decode cX9_command 290 = .ok (.if_icmp .lt 7, 3) := by decide +kernel
theorem dX9_command_293 : decode cX9_command 293 = .ok (.iconst 1, 1) := by decide +kernel
theorem dX9_command_294 : decode cX9_command 294 = .ok (.goto 4, 3) := by decide +kernel
theorem dX9_command_297 : decode cX9_command 297 = .ok (.iconst 0, 1) := by decide +kernel
theorem dX9_command_298 : decode cX9_command 298 = .ok (.ireturn, 1) := by decide +kernel
theorem dX9_command_299 : decode cX9_command 299 = .ok (.iload_n 2, 1) := by decide +kernel
theorem dX9_command_300 : decode cX9_command 300 = .ok (.bipush 10, 2) := by decide +kernel
theorem dX9_command_302 : decode cX9_command 302 = .ok (.if_icmp .ge 19, 3) := by decide +kernel
theorem dX9_command_305 : decode cX9_command 305 = .ok (.aload_n 0, 1) := by decide +kernel
theorem dX9_command_306 : decode cX9_command 306 = .ok (.aload_n 0, 1) := by decide +kernel
theorem dX9_command_307 : decode cX9_command 307 = .ok (.getfield 16, 3) := by decide +kernel
theorem dX9_command_310 : decode cX9_command 310 = .ok (.invokevirtual 184, 3) := by decide +kernel
theorem dX9_command_313 : decode cX9_command 313 = .ok (.iload_n 2, 1) := by decide +kernel
theorem dX9_command_314 : decode cX9_command 314 = .ok (.if_icmp .ne 7, 3) := by decide +kernel
theorem dX9_command_317 : decode cX9_command 317 = .ok (.iconst 1, 1) := by decide +kernel
theorem dX9_command_318 : decode cX9_command 318 = .ok (.goto 4, 3) := by decide +kernel
theorem dX9_command_321 : decode cX9_command 321 = .ok (.iconst 0, 1) := by decide +kernel
theorem dX9_command_322 : decode cX9_command 322 = .ok (.ireturn, 1) := by decide +kernel
theorem dX9_command_323 : decode cX9_command 323 = .ok (.iconst 0, 1) := by decide +kernel
theorem dX9_command_324 : decode cX9_command 324 = .ok (.ireturn, 1) := by decide +kernel
theorem dX9_runScript_0 : decode cX9_runScript 0 = .ok (.lconst 1, 1) := by decide +kernel
theorem dX9_runScript_1 : decode cX9_runScript 1 = .ok (.lstore 4, 2) := by decide +kernel
theorem dX9_runScript_3 : decode cX9_runScript 3 = .ok (.iconst 0, 1) := by decide +kernel
theorem dX9_runScript_4 : decode cX9_runScript 4 = .ok (.istore 6, 2) := by decide +kernel
theorem dX9_runScript_6 : decode cX9_runScript 6 = .ok (.iload 6, 2) := by decide +kernel
theorem dX9_runScript_8 : decode cX9_runScript 8 = .ok (.iload_n 1, 1) := by decide +kernel
theorem dX9_runScript_9 : decode cX9_runScript 9 = .ok (.if_icmp .ge 23, 3) := by decide +kernel
theorem dX9_runScript_12 : decode cX9_runScript 12 = .ok (.iload 6, 2) := by decide +kernel
theorem dX9_runScript_14 : decode cX9_runScript 14 = .ok (.iconst 3, 1) := by decide +kernel
theorem dX9_runScript_15 : decode cX9_runScript 15 = .ok (.if_icmp .ge 17, 3) := by decide +kernel
theorem dX9_runScript_18 : decode cX9_runScript 18 = .ok (.lload 4, 2) := by decide +kernel
theorem dX9_runScript_20 : decode cX9_runScript 20 = .ok (.ldc2_w 187, 3) := by decide +kernel
theorem dX9_runScript_23 : decode cX9_runScript 23 = .ok (.lmul, 1) := by decide +kernel
theorem dX9_runScript_24 : decode cX9_runScript 24 = .ok (.lstore 4, 2) := by decide +kernel
theorem dX9_runScript_26 : decode cX9_runScript 26 = .ok (.iinc 6 1, 3) := by decide +kernel
theorem dX9_runScript_29 : decode cX9_runScript 29 = .ok (.goto (-23), 3) := by decide +kernel
theorem dX9_runScript_32 : decode cX9_runScript 32 = .ok (.aload_n 0, 1) := by decide +kernel
theorem dX9_runScript_33 : decode cX9_runScript 33 = .ok (.iload_n 1, 1) := by decide +kernel
theorem dX9_runScript_34 : decode cX9_runScript 34 = .ok (.i2l, 1) := by decide +kernel
theorem dX9_runScript_35 : decode cX9_runScript 35 = .ok (.lconst 1, 1) := by decide +kernel
theorem dX9_runScript_36 : decode cX9_runScript 36 = .ok (.ldc2_w 51, 3) := by decide +kernel
theorem dX9_runScript_39 : decode cX9_runScript 39 = .ok (.invokestatic 43, 3) := by decide +kernel
theorem dX9_runScript_42 : decode cX9_runScript 42 = .ok (.ifCond .eq 19, 3) := by decide +kernel
theorem dX9_runScript_45 : decode cX9_runScript 45 = .ok (.lload_n 2, 1) := by decide +kernel
theorem dX9_runScript_46 : decode cX9_runScript 46 = .ok (.lconst 0, 1) := by decide +kernel
theorem dX9_runScript_47 : decode cX9_runScript 47 = .ok (.lload 4, 2) := by decide +kernel
theorem dX9_runScript_49 : decode cX9_runScript 49 = .ok (.lconst 1, 1) := by decide +kernel
theorem dX9_runScript_50 : decode cX9_runScript 50 = .ok (.lsub, 1) := by decide +kernel
theorem dX9_runScript_51 : decode cX9_runScript 51 = .ok (.invokestatic 43, 3) := by decide +kernel
theorem dX9_runScript_54 : decode cX9_runScript 54 = .ok (.ifCond .eq 7, 3) := by decide +kernel
theorem dX9_runScript_57 : decode cX9_runScript 57 = .ok (.iconst 0, 1) := by decide +kernel
theorem dX9_runScript_58 : decode cX9_runScript 58 = .ok (.goto 4, 3) := by decide +kernel
theorem dX9_runScript_61 : decode cX9_runScript 61 = .ok (.iconst 1, 1) := by decide +kernel
theorem dX9_runScript_62 : decode cX9_runScript 62 = .ok (.invokevirtual 122, 3) := by decide +kernel
theorem dX9_runScript_65 : decode cX9_runScript 65 = .ok (.ifCond .eq 5, 3) := by decide +kernel
theorem dX9_runScript_68 : decode cX9_runScript 68 = .ok (.iconst 0, 1) := by decide +kernel
theorem dX9_runScript_69 : decode cX9_runScript 69 = .ok (.ireturn, 1) := by decide +kernel
theorem dX9_runScript_70 : decode cX9_runScript 70 = .ok (.aload_n 0, 1) := by decide +kernel
theorem dX9_runScript_71 : decode cX9_runScript 71 = .ok (.getfield 13, 3) := by decide +kernel
theorem dX9_runScript_74 : decode cX9_runScript 74 = .ok (.iconst 0, 1) := by decide +kernel
theorem dX9_runScript_75 : decode cX9_runScript 75 = .ok (.aload_n 0, 1) := by decide +kernel
theorem dX9_runScript_76 : decode cX9_runScript 76 = .ok (.getfield 16, 3) := by decide +kernel
theorem dX9_runScript_79 : decode cX9_runScript 79 = .ok (.iconst 0, 1) := by decide +kernel
theorem dX9_runScript_80 : decode cX9_runScript 80 = .ok (.invokestatic 162, 3) := by decide +kernel
theorem dX9_runScript_83 : decode cX9_runScript 83 = .ok (.iconst 0, 1) := by decide +kernel
theorem dX9_runScript_84 : decode cX9_runScript 84 = .ok (.istore 6, 2) := by decide +kernel
theorem dX9_runScript_86 : decode cX9_runScript 86 = .ok (.iload 6, 2) := by decide +kernel
theorem dX9_runScript_88 : decode cX9_runScript 88 = .ok (.iload_n 1, 1) := by decide +kernel
theorem dX9_runScript_89 : decode cX9_runScript 89 = .ok (.if_icmp .ge 50, 3) := by decide +kernel
theorem dX9_runScript_92 : decode cX9_runScript 92 = .ok (.lload 4, 2) := by decide +kernel
theorem dX9_runScript_94 : decode cX9_runScript 94 = .ok (.ldc2_w 187, 3) := by decide +kernel
theorem dX9_runScript_97 : decode cX9_runScript 97 = .ok (.ldiv, 1) := by decide +kernel
theorem dX9_runScript_98 : decode cX9_runScript 98 = .ok (.lstore 4, 2) := by decide +kernel
theorem dX9_runScript_100 : decode cX9_runScript 100 = .ok (.lload_n 2, 1) := by decide +kernel
theorem dX9_runScript_101 : decode cX9_runScript 101 = .ok (.lload 4, 2) := by decide +kernel
theorem dX9_runScript_103 : decode cX9_runScript 103 = .ok (.ldiv, 1) := by decide +kernel
theorem dX9_runScript_104 : decode cX9_runScript 104 = .ok (.ldc2_w 187, 3) := by decide +kernel
theorem dX9_runScript_107 : decode cX9_runScript 107 = .ok (.lrem, 1) := by decide +kernel
theorem dX9_runScript_108 : decode cX9_runScript 108 = .ok (.l2i, 1) := by decide +kernel
theorem dX9_runScript_109 : decode cX9_runScript 109 = .ok (.istore 7, 2) := by decide +kernel
theorem dX9_runScript_111 : decode cX9_runScript 111 = .ok (.aload_n 0, 1) := by decide +kernel
theorem dX9_runScript_112 : decode cX9_runScript 112 = .ok (.iload 7, 2) := by decide +kernel
theorem dX9_runScript_114 : decode cX9_runScript 114 = .ok (.sipush 1000, 3) := by decide +kernel
theorem dX9_runScript_117 : decode cX9_runScript 117 = .ok (.idiv, 1) := by decide +kernel
theorem dX9_runScript_118 : decode cX9_runScript 118 = .ok (.iload 7, 2) := by decide +kernel
theorem dX9_runScript_120 : decode cX9_runScript 120 = .ok (.sipush 1000, 3) := by decide +kernel
theorem dX9_runScript_123 : decode cX9_runScript 123 = .ok (.irem, 1) := by decide +kernel
theorem dX9_runScript_124 : decode cX9_runScript 124 = .ok (.invokevirtual 189, 3) := by decide +kernel
theorem dX9_runScript_127 : decode cX9_runScript 127 = .ok (.ifCond .ne 6, 3) := by decide +kernel
theorem dX9_runScript_130 : decode cX9_runScript 130 = .ok (.iload 6, 2) := by decide +kernel
theorem dX9_runScript_132 : decode cX9_runScript 132 = .ok (.ireturn, 1) := by decide +kernel
theorem dX9_runScript_133 : decode cX9_runScript 133 = .ok (.iinc 6 1, 3) := by decide +kernel
theorem dX9_runScript_136 : decode cX9_runScript 136 = .ok (.goto (-50), 3) := by decide +kernel
theorem dX9_runScript_139 : decode cX9_runScript 139 = .ok (.iconst (-1), 1) := by decide +kernel
theorem dX9_runScript_140 : decode cX9_runScript 140 = .ok (.ireturn, 1) := by decide +kernel
theorem dX9_turn_0 : decode cX9_turn 0 = .ok (.iload_n 1, 1) := by decide +kernel
theorem dX9_turn_1 : decode cX9_turn 1 = .ok (.bipush 8, 2) := by decide +kernel
theorem dX9_turn_3 : decode cX9_turn 3 = .ok (.idiv, 1) := by decide +kernel
theorem dX9_turn_4 : decode cX9_turn 4 = .ok (.istore_n 2, 1) := by decide +kernel
theorem dX9_turn_5 : decode cX9_turn 5 = .ok (.iload_n 1, 1) := by decide +kernel
theorem dX9_turn_6 : decode cX9_turn 6 = .ok (.bipush 8, 2) := by decide +kernel
theorem dX9_turn_8 : decode cX9_turn 8 = .ok (.irem, 1) := by decide +kernel
theorem dX9_turn_9 : decode cX9_turn 9 = .ok (.tableswitch 87 0 2 #[27, 50, 61], 27) := by decide +kernel
theorem dX9_turn_36 : decode cX9_turn 36 = .ok (.aload_n 0, 1) := by decide +kernel
theorem dX9_turn_37 : decode cX9_turn 37 = .ok (.iload_n 2, 1) := by decide +kernel
theorem dX9_turn_38 : decode cX9_turn 38 = .ok (.bipush 6, 2) := by decide +kernel
theorem dX9_turn_40 : decode cX9_turn 40 = .ok (.irem, 1) := by decide +kernel
theorem dX9_turn_41 : decode cX9_turn 41 = .ok (.invokestatic 140, 3) := by decide +kernel
theorem dX9_turn_44 : decode cX9_turn 44 = .ok (.ifCond .eq 104, 3) := by decide +kernel
theorem dX9_turn_47 : decode cX9_turn 47 = .ok (.aload_n 0, 1) := by decide +kernel
theorem dX9_turn_48 : decode cX9_turn 48 = .ok (.iload_n 2, 1) := by decide +kernel
theorem dX9_turn_49 : decode cX9_turn 49 = .ok (.bipush 6, 2) := by decide +kernel
theorem dX9_turn_51 : decode cX9_turn 51 = .ok (.irem, 1) := by decide +kernel
theorem dX9_turn_52 : decode cX9_turn 52 = .ok (.invokestatic 143, 3) := by decide +kernel
theorem dX9_turn_55 : decode cX9_turn 55 = .ok (.pop, 1) := by decide +kernel
theorem dX9_turn_56 : decode cX9_turn 56 = .ok (.goto 92, 3) := by decide +kernel
theorem dX9_turn_59 : decode cX9_turn 59 = .ok (.aload_n 0, 1) := by decide +kernel
theorem dX9_turn_60 : decode cX9_turn 60 = .ok (.iload_n 2, 1) := by decide +kernel
theorem dX9_turn_61 : decode cX9_turn 61 = .ok (.iconst 3, 1) := by decide +kernel
theorem dX9_turn_62 : decode cX9_turn 62 = .ok (.irem, 1) := by decide +kernel
theorem dX9_turn_63 : decode cX9_turn 63 = .ok (.invokestatic 146, 3) := by decide +kernel
theorem dX9_turn_66 : decode cX9_turn 66 = .ok (.pop, 1) := by decide +kernel
theorem dX9_turn_67 : decode cX9_turn 67 = .ok (.goto 81, 3) := by decide +kernel
theorem dX9_turn_70 : decode cX9_turn 70 = .ok (.iload_n 2, 1) := by decide +kernel
theorem dX9_turn_71 : decode cX9_turn 71 = .ok (.iconst 4, 1) := by decide +kernel
theorem dX9_turn_72 : decode cX9_turn 72 = .ok (.irem, 1) := by decide +kernel
theorem dX9_turn_73 : decode cX9_turn 73 = .ok (.ifCond .ne 11, 3) := by decide +kernel
theorem dX9_turn_76 : decode cX9_turn 76 = .ok (.aload_n 0, 1) := by decide +kernel
theorem dX9_turn_77 : decode cX9_turn 77 = .ok (.invokestatic 149, 3) := by decide +kernel
theorem dX9_turn_80 : decode cX9_turn 80 = .ok (.pop, 1) := by decide +kernel
theorem dX9_turn_81 : decode cX9_turn 81 = .ok (.goto 67, 3) := by decide +kernel
theorem dX9_turn_84 : decode cX9_turn 84 = .ok (.aload_n 0, 1) := by decide +kernel
theorem dX9_turn_85 : decode cX9_turn 85 = .ok (.iconst 4, 1) := by decide +kernel
theorem dX9_turn_86 : decode cX9_turn 86 = .ok (.iconst 1, 1) := by decide +kernel
theorem dX9_turn_87 : decode cX9_turn 87 = .ok (.iload_n 2, 1) := by decide +kernel
theorem dX9_turn_88 : decode cX9_turn 88 = .ok (.bipush 9, 2) := by decide +kernel
theorem dX9_turn_90 : decode cX9_turn 90 = .ok (.irem, 1) := by decide +kernel
theorem dX9_turn_91 : decode cX9_turn 91 = .ok (.iadd, 1) := by decide +kernel
theorem dX9_turn_92 : decode cX9_turn 92 = .ok (.iastore, 1) := by decide +kernel
theorem dX9_turn_93 : decode cX9_turn 93 = .ok (.goto 55, 3) := by decide +kernel
theorem dX9_turn_96 : decode cX9_turn 96 = .ok (.iload_n 2, 1) := by decide +kernel
theorem dX9_turn_97 : decode cX9_turn 97 = .ok (.bipush 6, 2) := by decide +kernel
theorem dX9_turn_99 : decode cX9_turn 99 = .ok (.irem, 1) := by decide +kernel
theorem dX9_turn_100 : decode cX9_turn 100 = .ok (.istore_n 3, 1) := by decide +kernel
theorem dX9_turn_101 : decode cX9_turn 101 = .ok (.iload_n 3, 1) := by decide +kernel
theorem dX9_turn_102 : decode cX9_turn 102 = .ok (.iload_n 2, 1) := by decide +kernel
theorem dX9_turn_103 : decode cX9_turn 103 = .ok (.bipush 8, 2) := by decide +kernel
theorem dX9_turn_105 : decode cX9_turn 105 = .ok (.idiv, 1) := by decide +kernel
theorem dX9_turn_106 : decode cX9_turn 106 = .ok (.iconst 3, 1) := by decide +kernel
theorem dX9_turn_107 : decode cX9_turn 107 = .ok (.irem, 1) := by decide +kernel
theorem dX9_turn_108 : decode cX9_turn 108 = .ok (.iadd, 1) := by decide +kernel
theorem dX9_turn_109 : decode cX9_turn 109 = .ok (.istore 4, 2) := by decide +kernel
theorem dX9_turn_111 : decode cX9_turn 111 = .ok (.aload_n 0, 1) := by decide +kernel
theorem dX9_turn_112 : decode cX9_turn 112 = .ok (.aload_n 0, 1) := by decide +kernel
theorem dX9_turn_113 : decode cX9_turn 113 = .ok (.iconst 1, 1) := by decide +kernel
theorem dX9_turn_114 : decode cX9_turn 114 = .ok (.iaload, 1) := by decide +kernel
theorem dX9_turn_115 : decode cX9_turn 115 = .ok (.iload_n 3, 1) := by decide +kernel
theorem dX9_turn_116 : decode cX9_turn 116 = .ok (.iload 4, 2) := by decide +kernel
theorem dX9_turn_118 : decode cX9_turn 118 = .ok (.iconst 1, 1) := by decide +kernel
theorem dX9_turn_119 : decode cX9_turn 119 = .ok (.iload_n 2, 1) := by decide +kernel
theorem dX9_turn_120 : decode cX9_turn 120 = .ok (.bipush 32, 2) := by decide +kernel
theorem dX9_turn_122 : decode cX9_turn 122 = .ok (.idiv, 1) := by decide +kernel
theorem dX9_turn_123 : decode cX9_turn 123 = .ok (.iconst 3, 1) := by decide +kernel
theorem dX9_turn_124 : decode cX9_turn 124 = .ok (.irem, 1) := by decide +kernel
theorem dX9_turn_125 : decode cX9_turn 125 = .ok (.iadd, 1) := by decide +kernel
theorem dX9_turn_126 : decode cX9_turn 126 = .ok (.invokestatic 80, 3) := by decide +kernel
theorem dX9_turn_129 : decode cX9_turn 129 = .ok (.ifCond .eq 19, 3) := by decide +kernel
theorem dX9_turn_132 : decode cX9_turn 132 = .ok (.aload_n 0, 1) := by decide +kernel
theorem dX9_turn_133 : decode cX9_turn 133 = .ok (.iload_n 3, 1) := by decide +kernel
theorem dX9_turn_134 : decode cX9_turn 134 = .ok (.iload 4, 2) := by decide +kernel
theorem dX9_turn_136 : decode cX9_turn 136 = .ok (.iconst 1, 1) := by decide +kernel
theorem dX9_turn_137 : decode cX9_turn 137 = .ok (.iload_n 2, 1) := by decide +kernel
theorem dX9_turn_138 : decode cX9_turn 138 = .ok (.bipush 32, 2) := by decide +kernel
theorem dX9_turn_140 : decode cX9_turn 140 = .ok (.idiv, 1) := by decide +kernel
theorem dX9_turn_141 : decode cX9_turn 141 = .ok (.iconst 3, 1) := by decide +kernel
theorem dX9_turn_142 : decode cX9_turn 142 = .ok (.irem, 1) := by decide +kernel
theorem dX9_turn_143 : decode cX9_turn 143 = .ok (.iadd, 1) := by decide +kernel
theorem dX9_turn_144 : decode cX9_turn 144 = .ok (.invokestatic 108, 3) := by decide +kernel
theorem dX9_turn_147 : decode cX9_turn 147 = .ok (.pop, 1) := by decide +kernel
theorem dX9_turn_148 : decode cX9_turn 148 = .ok (.return_, 1) := by decide +kernel
theorem dX9_both_0 : decode cX9_both 0 = .ok (.aload_n 0, 1) := by decide +kernel
theorem dX9_both_1 : decode cX9_both 1 = .ok (.iload_n 1, 1) := by decide +kernel
theorem dX9_both_2 : decode cX9_both 2 = .ok (.iaload, 1) := by decide +kernel
theorem dX9_both_3 : decode cX9_both 3 = .ok (.aload_n 0, 1) := by decide +kernel
theorem dX9_both_4 : decode cX9_both 4 = .ok (.iload_n 1, 1) := by decide +kernel
theorem dX9_both_5 : decode cX9_both 5 = .ok (.iconst 1, 1) := by decide +kernel
theorem dX9_both_6 : decode cX9_both 6 = .ok (.iadd, 1) := by decide +kernel
theorem dX9_both_7 : decode cX9_both 7 = .ok (.iaload, 1) := by decide +kernel
theorem dX9_both_8 : decode cX9_both 8 = .ok (.iadd, 1) := by decide +kernel
theorem dX9_both_9 : decode cX9_both 9 = .ok (.ireturn, 1) := by decide +kernel
theorem dX9_simulate_0 : decode cX9_simulate 0 = .ok (.aload_n 0, 1) := by decide +kernel
theorem dX9_simulate_1 : decode cX9_simulate 1 = .ok (.iload_n 3, 1) := by decide +kernel
theorem dX9_simulate_2 : decode cX9_simulate 2 = .ok (.i2l, 1) := by decide +kernel
theorem dX9_simulate_3 : decode cX9_simulate 3 = .ok (.lconst 1, 1) := by decide +kernel
theorem dX9_simulate_4 : decode cX9_simulate 4 = .ok (.ldc2_w 192, 3) := by decide +kernel
theorem dX9_simulate_7 : decode cX9_simulate 7 = .ok (.invokestatic 43, 3) := by decide +kernel
theorem dX9_simulate_10 : decode cX9_simulate 10 = .ok (.ifCond .eq 7, 3) := by decide +kernel
theorem dX9_simulate_13 : decode cX9_simulate 13 = .ok (.iconst 0, 1) := by decide +kernel
theorem dX9_simulate_14 : decode cX9_simulate 14 = .ok (.goto 4, 3) := by decide +kernel
theorem dX9_simulate_17 : decode cX9_simulate 17 = .ok (.iconst 1, 1) := by decide +kernel
theorem dX9_simulate_18 : decode cX9_simulate 18 = .ok (.invokevirtual 122, 3) := by decide +kernel
theorem dX9_simulate_21 : decode cX9_simulate 21 = .ok (.ifCond .eq 5, 3) := by decide +kernel
theorem dX9_simulate_24 : decode cX9_simulate 24 = .ok (.iconst 0, 1) := by decide +kernel
theorem dX9_simulate_25 : decode cX9_simulate 25 = .ok (.ireturn, 1) := by decide +kernel
theorem dX9_simulate_26 : decode cX9_simulate 26 = .ok (.aload_n 0, 1) := by decide +kernel
theorem dX9_simulate_27 : decode cX9_simulate 27 = .ok (.getfield 13, 3) := by decide +kernel
theorem dX9_simulate_30 : decode cX9_simulate 30 = .ok (.iconst 0, 1) := by decide +kernel
theorem dX9_simulate_31 : decode cX9_simulate 31 = .ok (.aload_n 0, 1) := by decide +kernel
theorem dX9_simulate_32 : decode cX9_simulate 32 = .ok (.getfield 16, 3) := by decide +kernel
theorem dX9_simulate_35 : decode cX9_simulate 35 = .ok (.iconst 0, 1) := by decide +kernel
theorem dX9_simulate_36 : decode cX9_simulate 36 = .ok (.invokestatic 162, 3) := by decide +kernel
theorem dX9_simulate_39 : decode cX9_simulate 39 = .ok (.lload_n 1, 1) := by decide +kernel
theorem dX9_simulate_40 : decode cX9_simulate 40 = .ok (.lstore 4, 2) := by decide +kernel
theorem dX9_simulate_42 : decode cX9_simulate 42 = .ok (.iconst 0, 1) := by decide +kernel
theorem dX9_simulate_43 : decode cX9_simulate 43 = .ok (.istore 6, 2) := by decide +kernel
theorem dX9_simulate_45 : decode cX9_simulate 45 = .ok (.iload 6, 2) := by decide +kernel
theorem dX9_simulate_47 : decode cX9_simulate 47 = .ok (.iload_n 3, 1) := by decide +kernel
theorem dX9_simulate_48 : decode cX9_simulate 48 = .ok (.if_icmp .ge 34, 3) := by decide +kernel
theorem dX9_simulate_51 : decode cX9_simulate 51 = .ok (.lload 4, 2) := by decide +kernel
theorem dX9_simulate_53 : decode cX9_simulate 53 = .ok (.ldc2_w 194, 3) := by decide +kernel
theorem dX9_simulate_56 : decode cX9_simulate 56 = .ok (.lmul, 1) := by decide +kernel
theorem dX9_simulate_57 : decode cX9_simulate 57 = .ok (.ldc2_w 196, 3) := by decide +kernel
theorem dX9_simulate_60 : decode cX9_simulate 60 = .ok (.ladd, 1) := by decide +kernel
theorem dX9_simulate_61 : decode cX9_simulate 61 = .ok (.lstore 4, 2) := by decide +kernel
theorem dX9_simulate_63 : decode cX9_simulate 63 = .ok (.aload_n 0, 1) := by decide +kernel
theorem dX9_simulate_64 : decode cX9_simulate 64 = .ok (.getfield 16, 3) := by decide +kernel
theorem dX9_simulate_67 : decode cX9_simulate 67 = .ok (.lload 4, 2) := by decide +kernel
theorem dX9_simulate_69 : decode cX9_simulate 69 = .ok (.bipush 33, 2) := by decide +kernel
theorem dX9_simulate_71 : decode cX9_simulate 71 = .ok (.lushr, 1) := by decide +kernel
theorem dX9_simulate_72 : decode cX9_simulate 72 = .ok (.l2i, 1) := by decide +kernel
theorem dX9_simulate_73 : decode cX9_simulate 73 = .ok (.invokestatic 198, 3) := by decide +kernel
theorem dX9_simulate_76 : decode cX9_simulate 76 = .ok (.iinc 6 1, 3) := by decide +kernel
theorem dX9_simulate_79 : decode cX9_simulate 79 = .ok (.goto (-34), 3) := by decide +kernel
theorem dX9_simulate_82 : decode cX9_simulate 82 = .ok (.aload_n 0, 1) := by decide +kernel
theorem dX9_simulate_83 : decode cX9_simulate 83 = .ok (.getfield 16, 3) := by decide +kernel
theorem dX9_simulate_86 : decode cX9_simulate 86 = .ok (.bipush 6, 2) := by decide +kernel
theorem dX9_simulate_88 : decode cX9_simulate 88 = .ok (.invokestatic 202, 3) := by decide +kernel
theorem dX9_simulate_91 : decode cX9_simulate 91 = .ok (.aload_n 0, 1) := by decide +kernel
theorem dX9_simulate_92 : decode cX9_simulate 92 = .ok (.getfield 13, 3) := by decide +kernel
theorem dX9_simulate_95 : decode cX9_simulate 95 = .ok (.bipush 6, 2) := by decide +kernel
theorem dX9_simulate_97 : decode cX9_simulate 97 = .ok (.invokestatic 202, 3) := by decide +kernel
theorem dX9_simulate_100 : decode cX9_simulate 100 = .ok (.isub, 1) := by decide +kernel
theorem dX9_simulate_101 : decode cX9_simulate 101 = .ok (.istore 6, 2) := by decide +kernel
theorem dX9_simulate_103 : decode cX9_simulate 103 = .ok (.sipush 10000, 3) := by decide +kernel
theorem dX9_simulate_106 : decode cX9_simulate 106 = .ok (.aload_n 0, 1) := by decide +kernel
theorem dX9_simulate_107 : decode cX9_simulate 107 = .ok (.getfield 16, 3) := by decide +kernel
theorem dX9_simulate_110 : decode cX9_simulate 110 = .ok (.bipush 8, 2) := by decide +kernel
theorem dX9_simulate_112 : decode cX9_simulate 112 = .ok (.invokestatic 202, 3) := by decide +kernel
theorem dX9_simulate_115 : decode cX9_simulate 115 = .ok (.aload_n 0, 1) := by decide +kernel
theorem dX9_simulate_116 : decode cX9_simulate 116 = .ok (.getfield 13, 3) := by decide +kernel
theorem dX9_simulate_119 : decode cX9_simulate 119 = .ok (.bipush 8, 2) := by decide +kernel
theorem dX9_simulate_121 : decode cX9_simulate 121 = .ok (.invokestatic 202, 3) := by decide +kernel
theorem dX9_simulate_124 : decode cX9_simulate 124 = .ok (.isub, 1) := by decide +kernel
theorem dX9_simulate_125 : decode cX9_simulate 125 = .ok (.imul, 1) := by decide +kernel
theorem dX9_simulate_126 : decode cX9_simulate 126 = .ok (.iload 6, 2) := by decide +kernel
theorem dX9_simulate_128 : decode cX9_simulate 128 = .ok (.sipush 9999, 3) := by decide +kernel
theorem dX9_simulate_131 : decode cX9_simulate 131 = .ok (.if_icmp .le 9, 3) := by decide +kernel
theorem dX9_simulate_134 : decode cX9_simulate 134 = .ok (.sipush 9999, 3) := by decide +kernel
theorem dX9_simulate_137 : decode cX9_simulate 137 = .ok (.goto 5, 3) := by decide +kernel
theorem dX9_simulate_140 : decode cX9_simulate 140 = .ok (.iload 6, 2) := by decide +kernel
theorem dX9_simulate_142 : decode cX9_simulate 142 = .ok (.iadd, 1) := by decide +kernel
theorem dX9_simulate_143 : decode cX9_simulate 143 = .ok (.ireturn, 1) := by decide +kernel
theorem dX9_save_0 : decode cX9_save 0 = .ok (.aload_n 0, 1) := by decide +kernel
theorem dX9_save_1 : decode cX9_save 1 = .ok (.iload_n 1, 1) := by decide +kernel
theorem dX9_save_2 : decode cX9_save 2 = .ok (.i2l, 1) := by decide +kernel
theorem dX9_save_3 : decode cX9_save 3 = .ok (.lconst 0, 1) := by decide +kernel
theorem dX9_save_4 : decode cX9_save 4 = .ok (.lconst 1, 1) := by decide +kernel
theorem dX9_save_5 : decode cX9_save 5 = .ok (.invokestatic 43, 3) := by decide +kernel
theorem dX9_save_8 : decode cX9_save 8 = .ok (.ifCond .eq 7, 3) := by decide +kernel
theorem dX9_save_11 : decode cX9_save 11 = .ok (.iconst 0, 1) := by decide +kernel
theorem dX9_save_12 : decode cX9_save 12 = .ok (.goto 4, 3) := by decide +kernel
theorem dX9_save_15 : decode cX9_save 15 = .ok (.iconst 1, 1) := by decide +kernel
theorem dX9_save_16 : decode cX9_save 16 = .ok (.invokevirtual 122, 3) := by decide +kernel
theorem dX9_save_19 : decode cX9_save 19 = .ok (.ifCond .eq 5, 3) := by decide +kernel
theorem dX9_save_22 : decode cX9_save 22 = .ok (.iconst 0, 1) := by decide +kernel
theorem dX9_save_23 : decode cX9_save 23 = .ok (.ireturn, 1) := by decide +kernel
theorem dX9_save_24 : decode cX9_save 24 = .ok (.aload_n 0, 1) := by decide +kernel
theorem dX9_save_25 : decode cX9_save 25 = .ok (.getfield 13, 3) := by decide +kernel
theorem dX9_save_28 : decode cX9_save 28 = .ok (.iconst 0, 1) := by decide +kernel
theorem dX9_save_29 : decode cX9_save 29 = .ok (.aload_n 0, 1) := by decide +kernel
theorem dX9_save_30 : decode cX9_save 30 = .ok (.getfield 22, 3) := by decide +kernel
theorem dX9_save_33 : decode cX9_save 33 = .ok (.bipush 12, 2) := by decide +kernel
theorem dX9_save_35 : decode cX9_save 35 = .ok (.iload_n 1, 1) := by decide +kernel
theorem dX9_save_36 : decode cX9_save 36 = .ok (.imul, 1) := by decide +kernel
theorem dX9_save_37 : decode cX9_save 37 = .ok (.invokestatic 162, 3) := by decide +kernel
theorem dX9_save_40 : decode cX9_save 40 = .ok (.aload_n 0, 1) := by decide +kernel
theorem dX9_save_41 : decode cX9_save 41 = .ok (.getfield 25, 3) := by decide +kernel
theorem dX9_save_44 : decode cX9_save 44 = .ok (.iload_n 1, 1) := by decide +kernel
theorem dX9_save_45 : decode cX9_save 45 = .ok (.iconst 1, 1) := by decide +kernel
theorem dX9_save_46 : decode cX9_save 46 = .ok (.bastore, 1) := by decide +kernel
theorem dX9_save_47 : decode cX9_save 47 = .ok (.aload_n 0, 1) := by decide +kernel
theorem dX9_save_48 : decode cX9_save 48 = .ok (.getfield 13, 3) := by decide +kernel
theorem dX9_save_51 : decode cX9_save 51 = .ok (.bipush 8, 2) := by decide +kernel
theorem dX9_save_53 : decode cX9_save 53 = .ok (.invokestatic 202, 3) := by decide +kernel
theorem dX9_save_56 : decode cX9_save 56 = .ok (.ireturn, 1) := by decide +kernel
theorem dX9_restore_0 : decode cX9_restore 0 = .ok (.aload_n 0, 1) := by decide +kernel
theorem dX9_restore_1 : decode cX9_restore 1 = .ok (.iload_n 1, 1) := by decide +kernel
theorem dX9_restore_2 : decode cX9_restore 2 = .ok (.i2l, 1) := by decide +kernel
theorem dX9_restore_3 : decode cX9_restore 3 = .ok (.lconst 0, 1) := by decide +kernel
theorem dX9_restore_4 : decode cX9_restore 4 = .ok (.lconst 1, 1) := by decide +kernel
theorem dX9_restore_5 : decode cX9_restore 5 = .ok (.invokestatic 43, 3) := by decide +kernel
theorem dX9_restore_8 : decode cX9_restore 8 = .ok (.ifCond .ne 7, 3) := by decide +kernel
theorem dX9_restore_11 : decode cX9_restore 11 = .ok (.iconst 1, 1) := by decide +kernel
theorem dX9_restore_12 : decode cX9_restore 12 = .ok (.goto 17, 3) := by decide +kernel
theorem dX9_restore_15 : decode cX9_restore 15 = .ok (.aload_n 0, 1) := by decide +kernel
theorem dX9_restore_16 : decode cX9_restore 16 = .ok (.getfield 25, 3) := by decide +kernel
theorem dX9_restore_19 : decode cX9_restore 19 = .ok (.iload_n 1, 1) := by decide +kernel
theorem dX9_restore_20 : decode cX9_restore 20 = .ok (.baload, 1) := by decide +kernel
theorem dX9_restore_21 : decode cX9_restore 21 = .ok (.ifCond .ne 7, 3) := by decide +kernel
theorem dX9_restore_24 : decode cX9_restore 24 = .ok (.iconst 2, 1) := by decide +kernel
theorem dX9_restore_25 : decode cX9_restore 25 = .ok (.goto 4, 3) := by decide +kernel
theorem dX9_restore_28 : decode cX9_restore 28 = .ok (.iconst 0, 1) := by decide +kernel
theorem dX9_restore_29 : decode cX9_restore 29 = .ok (.invokevirtual 122, 3) := by decide +kernel
theorem dX9_restore_32 : decode cX9_restore 32 = .ok (.ifCond .eq 5, 3) := by decide +kernel
theorem dX9_restore_35 : decode cX9_restore 35 = .ok (.iconst 0, 1) := by decide +kernel
theorem dX9_restore_36 : decode cX9_restore 36 = .ok (.ireturn, 1) := by decide +kernel
theorem dX9_restore_37 : decode cX9_restore 37 = .ok (.aload_n 0, 1) := by decide +kernel
theorem dX9_restore_38 : decode cX9_restore 38 = .ok (.getfield 22, 3) := by decide +kernel
theorem dX9_restore_41 : decode cX9_restore 41 = .ok (.bipush 12, 2) := by decide +kernel
theorem dX9_restore_43 : decode cX9_restore 43 = .ok (.iload_n 1, 1) := by decide +kernel
theorem dX9_restore_44 : decode cX9_restore 44 = .ok (.imul, 1) := by decide +kernel
theorem dX9_restore_45 : decode cX9_restore 45 = .ok (.aload_n 0, 1) := by decide +kernel
theorem dX9_restore_46 : decode cX9_restore 46 = .ok (.getfield 13, 3) := by decide +kernel
theorem dX9_restore_49 : decode cX9_restore 49 = .ok (.iconst 0, 1) := by decide +kernel
theorem dX9_restore_50 : decode cX9_restore 50 = .ok (.invokestatic 162, 3) := by decide +kernel
theorem dX9_restore_53 : decode cX9_restore 53 = .ok (.aload_n 0, 1) := by decide +kernel
theorem dX9_restore_54 : decode cX9_restore 54 = .ok (.iconst 0, 1) := by decide +kernel
theorem dX9_restore_55 : decode cX9_restore 55 = .ok (.putfield 166, 3) := by decide +kernel
theorem dX9_restore_58 : decode cX9_restore 58 = .ok (.aload_n 0, 1) := by decide +kernel
theorem dX9_restore_59 : decode cX9_restore 59 = .ok (.getfield 13, 3) := by decide +kernel
theorem dX9_restore_62 : decode cX9_restore 62 = .ok (.bipush 8, 2) := by decide +kernel
theorem dX9_restore_64 : decode cX9_restore 64 = .ok (.invokestatic 202, 3) := by decide +kernel
theorem dX9_restore_67 : decode cX9_restore 67 = .ok (.ireturn, 1) := by decide +kernel
