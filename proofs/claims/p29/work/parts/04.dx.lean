theorem dX0_number_0 : decode cX0_number 0 = .ok (.bipush 100, 2) := by decide +kernel
theorem dX0_number_2 : decode cX0_number 2 = .ok (.iload_n 0, 1) := by decide +kernel
theorem dX0_number_3 : decode cX0_number 3 = .ok (.imul, 1) := by decide +kernel
theorem dX0_number_4 : decode cX0_number 4 = .ok (.bipush 10, 2) := by decide +kernel
theorem dX0_number_6 : decode cX0_number 6 = .ok (.iload_n 1, 1) := by decide +kernel
theorem dX0_number_7 : decode cX0_number 7 = .ok (.imul, 1) := by decide +kernel
theorem dX0_number_8 : decode cX0_number 8 = .ok (.iadd, 1) := by decide +kernel
theorem dX0_number_9 : decode cX0_number 9 = .ok (.iload_n 2, 1) := by decide +kernel
theorem dX0_number_10 : decode cX0_number 10 = .ok (.iadd, 1) := by decide +kernel
theorem dX0_number_11 : decode cX0_number 11 = .ok (.ireturn, 1) := by decide +kernel
theorem dX0_from_0 : decode cX0_from 0 = .ok (.iload_n 0, 1) := by decide +kernel
theorem dX0_from_1 : decode cX0_from 1 = .ok (.bipush 100, 2) := by decide +kernel
theorem dX0_from_3 : decode cX0_from 3 = .ok (.idiv, 1) := by decide +kernel
theorem dX0_from_4 : decode cX0_from 4 = .ok (.ireturn, 1) := by decide +kernel
theorem dX0_to_0 : decode cX0_to 0 = .ok (.iload_n 0, 1) := by decide +kernel
theorem dX0_to_1 : decode cX0_to 1 = .ok (.bipush 10, 2) := by decide +kernel
theorem dX0_to_3 : decode cX0_to 3 = .ok (.idiv, 1) := by decide +kernel
theorem dX0_to_4 : decode cX0_to 4 = .ok (.bipush 10, 2) := by decide +kernel
theorem dX0_to_6 : decode cX0_to 6 = .ok (.irem, 1) := by decide +kernel
theorem dX0_to_7 : decode cX0_to 7 = .ok (.ireturn, 1) := by decide +kernel
theorem dX0_lost_0 : decode cX0_lost 0 = .ok (.iload_n 0, 1) := by decide +kernel
theorem dX0_lost_1 : decode cX0_lost 1 = .ok (.bipush 10, 2) := by decide +kernel
theorem dX0_lost_3 : decode cX0_lost 3 = .ok (.irem, 1) := by decide +kernel
theorem dX0_lost_4 : decode cX0_lost 4 = .ok (.ireturn, 1) := by decide +kernel
theorem dX1_init_0 : decode cX1_init 0 = .ok (.aload_n 0, 1) := by decide +kernel
theorem dX1_init_1 : decode cX1_init 1 = .ok (.invokespecial 3, 3) := by decide +kernel
theorem dX1_init_4 : decode cX1_init 4 = .ok (.aload_n 0, 1) := by decide +kernel
theorem dX1_init_5 : decode cX1_init 5 = .ok (.new 9, 3) := by decide +kernel
theorem dX1_init_8 : decode cX1_init 8 = .ok (.dup, 1) := by decide +kernel
theorem dX1_init_9 : decode cX1_init 9 = .ok (.invokespecial 11, 3) := by decide +kernel
theorem dX1_init_12 : decode cX1_init 12 = .ok (.putfield 12, 3) := by decide +kernel
theorem dX1_init_15 : decode cX1_init 15 = .ok (.aload_n 0, 1) := by decide +kernel
theorem dX1_init_16 : decode cX1_init 16 = .ok (.new 9, 3) := by decide +kernel
theorem dX1_init_19 : decode cX1_init 19 = .ok (.dup, 1) := by decide +kernel
theorem dX1_init_20 : decode cX1_init 20 = .ok (.invokespecial 11, 3) := by decide +kernel
theorem dX1_init_23 : decode cX1_init 23 = .ok (.putfield 18, 3) := by decide +kernel
theorem dX1_init_26 : decode cX1_init 26 = .ok (.aload_n 0, 1) := by decide +kernel
theorem dX1_init_27 : decode cX1_init 27 = .ok (.iconst 4, 1) := by decide +kernel
theorem dX1_init_28 : decode cX1_init 28 = .ok (.sipush 170, 3) := by decide +kernel
theorem dX1_init_31 : decode cX1_init 31 = .ok (.invokevirtual 21, 3) := by decide +kernel
theorem dX1_init_34 : decode cX1_init 34 = .ok (.return_, 1) := by decide +kernel
theorem dX1_makeNew_0 : decode cX1_makeNew 0 = .ok (.aload_n 0, 1) := by decide +kernel
theorem dX1_makeNew_1 : decode cX1_makeNew 1 = .ok (.iconst 0, 1) := by decide +kernel
theorem dX1_makeNew_2 : decode cX1_makeNew 2 = .ok (.putfield 25, 3) := by decide +kernel
theorem dX1_makeNew_5 : decode cX1_makeNew 5 = .ok (.aload_n 0, 1) := by decide +kernel
theorem dX1_makeNew_6 : decode cX1_makeNew 6 = .ok (.iconst 3, 1) := by decide +kernel
theorem dX1_makeNew_7 : decode cX1_makeNew 7 = .ok (.putfield 29, 3) := by decide +kernel
theorem dX1_makeNew_10 : decode cX1_makeNew 10 = .ok (.aload_n 0, 1) := by decide +kernel
theorem dX1_makeNew_11 : decode cX1_makeNew 11 = .ok (.iconst 2, 1) := by decide +kernel
theorem dX1_makeNew_12 : decode cX1_makeNew 12 = .ok (.putfield 32, 3) := by decide +kernel
theorem dX1_makeNew_15 : decode cX1_makeNew 15 = .ok (.aload_n 0, 1) := by decide +kernel
theorem dX1_makeNew_16 : decode cX1_makeNew 16 = .ok (.iload_n 1, 1) := by decide +kernel
theorem dX1_makeNew_17 : decode cX1_makeNew 17 = .ok (.iload_n 2, 1) := by decide +kernel
theorem dX1_makeNew_18 : decode cX1_makeNew 18 = .ok (.invokevirtual 35, 3) := by decide +kernel
theorem dX1_makeNew_21 : decode cX1_makeNew 21 = .ok (.return_, 1) := by decide +kernel
theorem dX1_replant_0 : decode cX1_replant 0 = .ok (.aload_n 0, 1) := by decide +kernel
theorem dX1_replant_1 : decode cX1_replant 1 = .ok (.iload_n 1, 1) := by decide +kernel
theorem dX1_replant_2 : decode cX1_replant 2 = .ok (.putfield 38, 3) := by decide +kernel
theorem dX1_replant_5 : decode cX1_replant 5 = .ok (.aload_n 0, 1) := by decide +kernel
theorem dX1_replant_6 : decode cX1_replant 6 = .ok (.iload_n 2, 1) := by decide +kernel
theorem dX1_replant_7 : decode cX1_replant 7 = .ok (.putfield 41, 3) := by decide +kernel
theorem dX1_replant_10 : decode cX1_replant 10 = .ok (.aload_n 0, 1) := by decide +kernel
theorem dX1_replant_11 : decode cX1_replant 11 = .ok (.iconst 0, 1) := by decide +kernel
theorem dX1_replant_12 : decode cX1_replant 12 = .ok (.putfield 44, 3) := by decide +kernel
theorem dX1_replant_15 : decode cX1_replant 15 = .ok (.aload_n 0, 1) := by decide +kernel
theorem dX1_replant_16 : decode cX1_replant 16 = .ok (.getfield 12, 3) := by decide +kernel
theorem dX1_replant_19 : decode cX1_replant 19 = .ok (.invokevirtual 47, 3) := by decide +kernel
theorem dX1_replant_22 : decode cX1_replant 22 = .ok (.aload_n 0, 1) := by decide +kernel
theorem dX1_replant_23 : decode cX1_replant 23 = .ok (.getfield 18, 3) := by decide +kernel
theorem dX1_replant_26 : decode cX1_replant 26 = .ok (.invokevirtual 47, 3) := by decide +kernel
theorem dX1_replant_29 : decode cX1_replant 29 = .ok (.return_, 1) := by decide +kernel
theorem dX1_becomes_0 : decode cX1_becomes 0 = .ok (.aload_n 0, 1) := by decide +kernel
theorem dX1_becomes_1 : decode cX1_becomes 1 = .ok (.aload_n 1, 1) := by decide +kernel
theorem dX1_becomes_2 : decode cX1_becomes 2 = .ok (.getfield 38, 3) := by decide +kernel
theorem dX1_becomes_5 : decode cX1_becomes 5 = .ok (.putfield 38, 3) := by decide +kernel
theorem dX1_becomes_8 : decode cX1_becomes 8 = .ok (.aload_n 0, 1) := by decide +kernel
theorem dX1_becomes_9 : decode cX1_becomes 9 = .ok (.aload_n 1, 1) := by decide +kernel
theorem dX1_becomes_10 : decode cX1_becomes 10 = .ok (.getfield 41, 3) := by decide +kernel
theorem dX1_becomes_13 : decode cX1_becomes 13 = .ok (.putfield 41, 3) := by decide +kernel
theorem dX1_becomes_16 : decode cX1_becomes 16 = .ok (.aload_n 0, 1) := by decide +kernel
theorem dX1_becomes_17 : decode cX1_becomes 17 = .ok (.aload_n 1, 1) := by decide +kernel
theorem dX1_becomes_18 : decode cX1_becomes 18 = .ok (.getfield 25, 3) := by decide +kernel
theorem dX1_becomes_21 : decode cX1_becomes 21 = .ok (.putfield 25, 3) := by decide +kernel
theorem dX1_becomes_24 : decode cX1_becomes 24 = .ok (.aload_n 0, 1) := by decide +kernel
theorem dX1_becomes_25 : decode cX1_becomes 25 = .ok (.aload_n 1, 1) := by decide +kernel
theorem dX1_becomes_26 : decode cX1_becomes 26 = .ok (.getfield 44, 3) := by decide +kernel
theorem dX1_becomes_29 : decode cX1_becomes 29 = .ok (.putfield 44, 3) := by decide +kernel
theorem dX1_becomes_32 : decode cX1_becomes 32 = .ok (.aload_n 0, 1) := by decide +kernel
theorem dX1_becomes_33 : decode cX1_becomes 33 = .ok (.aload_n 1, 1) := by decide +kernel
theorem dX1_becomes_34 : decode cX1_becomes 34 = .ok (.getfield 29, 3) := by decide +kernel
theorem dX1_becomes_37 : decode cX1_becomes 37 = .ok (.putfield 29, 3) := by decide +kernel
theorem dX1_becomes_40 : decode cX1_becomes 40 = .ok (.aload_n 0, 1) := by decide +kernel
theorem dX1_becomes_41 : decode cX1_becomes 41 = .ok (.aload_n 1, 1) := by decide +kernel
theorem dX1_becomes_42 : decode cX1_becomes 42 = .ok (.getfield 32, 3) := by decide +kernel
theorem dX1_becomes_45 : decode cX1_becomes 45 = .ok (.putfield 32, 3) := by decide +kernel
theorem dX1_becomes_48 : decode cX1_becomes 48 = .ok (.aload_n 0, 1) := by decide +kernel
theorem dX1_becomes_49 : decode cX1_becomes 49 = .ok (.getfield 12, 3) := by decide +kernel
theorem dX1_becomes_52 : decode cX1_becomes 52 = .ok (.aload_n 1, 1) := by decide +kernel
theorem dX1_becomes_53 : decode cX1_becomes 53 = .ok (.getfield 12, 3) := by decide +kernel
theorem dX1_becomes_56 : decode cX1_becomes 56 = .ok (.invokevirtual 49, 3) := by decide +kernel
theorem dX1_becomes_59 : decode cX1_becomes 59 = .ok (.aload_n 0, 1) := by decide +kernel
theorem dX1_becomes_60 : decode cX1_becomes 60 = .ok (.getfield 18, 3) := by decide +kernel
theorem dX1_becomes_63 : decode cX1_becomes 63 = .ok (.aload_n 1, 1) := by decide +kernel
theorem dX1_becomes_64 : decode cX1_becomes 64 = .ok (.getfield 18, 3) := by decide +kernel
theorem dX1_becomes_67 : decode cX1_becomes 67 = .ok (.invokevirtual 49, 3) := by decide +kernel
theorem dX1_becomes_70 : decode cX1_becomes 70 = .ok (.return_, 1) := by decide +kernel
theorem dX1_hasGardener_0 : decode cX1_hasGardener 0 = .ok (.iload_n 0, 1) := by decide +kernel
theorem dX1_hasGardener_1 : decode cX1_hasGardener 1 = .ok (.ifCond .eq 8, 3) := by decide +kernel
theorem dX1_hasGardener_4 : decode cX1_hasGardener 4 = .ok (.iload_n 0, 1) := by decide +kernel
theorem dX1_hasGardener_5 : decode cX1_hasGardener 5 = .ok (.iconst 1, 1) := by decide +kernel
theorem dX1_hasGardener_6 : decode cX1_hasGardener 6 = .ok (.if_icmp .ne 7, 3) := by decide +kernel
theorem dX1_hasGardener_9 : decode cX1_hasGardener 9 = .ok (.iconst 1, 1) := by decide +kernel
theorem dX1_hasGardener_10 : decode cX1_hasGardener 10 = .ok (.goto 4, 3) := by decide +kernel
theorem dX1_hasGardener_13 : decode cX1_hasGardener 13 = .ok (.iconst 0, 1) := by decide +kernel
theorem dX1_hasGardener_14 : decode cX1_hasGardener 14 = .ok (.ireturn, 1) := by decide +kernel
theorem dX1_isWind_0 : decode cX1_isWind 0 = .ok (.iload_n 0, 1) := by decide +kernel
theorem dX1_isWind_1 : decode cX1_isWind 1 = .ok (.ifCond .lt 12, 3) := by decide +kernel
theorem dX1_isWind_4 : decode cX1_isWind 4 = .ok (.iload_n 0, 1) := by decide +kernel
theorem dX1_isWind_5 : decode cX1_isWind 5 = .ok (.iconst 3, 1) := by decide +kernel
theorem dX1_isWind_6 : decode cX1_isWind 6 = .ok (.if_icmp .ge 7, 3) := by decide +kernel
theorem dX1_isWind_9 : decode cX1_isWind 9 = .ok (.iconst 1, 1) := by decide +kernel
theorem dX1_isWind_10 : decode cX1_isWind 10 = .ok (.goto 4, 3) := by decide +kernel
theorem dX1_isWind_13 : decode cX1_isWind 13 = .ok (.iconst 0, 1) := by decide +kernel
theorem dX1_isWind_14 : decode cX1_isWind 14 = .ok (.ireturn, 1) := by decide +kernel
theorem dX1_who_0 : decode cX1_who 0 = .ok (.iload_n 1, 1) := by decide +kernel
theorem dX1_who_1 : decode cX1_who 1 = .ok (.ifCond .ne 10, 3) := by decide +kernel
theorem dX1_who_4 : decode cX1_who 4 = .ok (.aload_n 0, 1) := by decide +kernel
theorem dX1_who_5 : decode cX1_who 5 = .ok (.getfield 12, 3) := by decide +kernel
theorem dX1_who_8 : decode cX1_who 8 = .ok (.goto 7, 3) := by decide +kernel
theorem dX1_who_11 : decode cX1_who 11 = .ok (.aload_n 0, 1) := by decide +kernel
theorem dX1_who_12 : decode cX1_who 12 = .ok (.getfield 18, 3) := by decide +kernel
theorem dX1_who_15 : decode cX1_who 15 = .ok (.areturn, 1) := by decide +kernel
theorem dX1_hasStem_0 : decode cX1_hasStem 0 = .ok (.iload_n 1, 1) := by decide +kernel
theorem dX1_hasStem_1 : decode cX1_hasStem 1 = .ok (.ifCond .lt 15, 3) := by decide +kernel
theorem dX1_hasStem_4 : decode cX1_hasStem 4 = .ok (.iload_n 1, 1) := by decide +kernel
theorem dX1_hasStem_5 : decode cX1_hasStem 5 = .ok (.aload_n 0, 1) := by decide +kernel
theorem dX1_hasStem_6 : decode cX1_hasStem 6 = .ok (.getfield 38, 3) := by decide +kernel
theorem dX1_hasStem_9 : decode cX1_hasStem 9 = .ok (.if_icmp .ge 7, 3) := by decide +kernel
theorem dX1_hasStem_12 : decode cX1_hasStem 12 = .ok (.iconst 1, 1) := by decide +kernel
theorem dX1_hasStem_13 : decode cX1_hasStem 13 = .ok (.goto 4, 3) := by decide +kernel
theorem dX1_hasStem_16 : decode cX1_hasStem 16 = .ok (.iconst 0, 1) := by decide +kernel
theorem dX1_hasStem_17 : decode cX1_hasStem 17 = .ok (.ireturn, 1) := by decide +kernel
theorem dX1_allowsClip_0 : decode cX1_allowsClip 0 = .ok (.iload_n 3, 1) := by decide +kernel
theorem dX1_allowsClip_1 : decode cX1_allowsClip 1 = .ok (.iconst 1, 1) := by decide +kernel
theorem dX1_allowsClip_2 : decode cX1_allowsClip 2 = .ok (.if_icmp .lt 27, 3) := by decide +kernel
theorem dX1_allowsClip_5 : decode cX1_allowsClip 5 = .ok (.iload_n 3, 1) := by decide +kernel
theorem dX1_allowsClip_6 : decode cX1_allowsClip 6 = .ok (.iconst 3, 1) := by decide +kernel
theorem dX1_allowsClip_7 : decode cX1_allowsClip 7 = .ok (.if_icmp .gt 22, 3) := by decide +kernel
theorem dX1_allowsClip_10 : decode cX1_allowsClip 10 = .ok (.iload_n 2, 1) := by decide +kernel
theorem dX1_allowsClip_11 : decode cX1_allowsClip 11 = .ok (.iload_n 1, 1) := by decide +kernel
theorem dX1_allowsClip_12 : decode cX1_allowsClip 12 = .ok (.if_icmp .lt 17, 3) := by decide +kernel
theorem dX1_allowsClip_15 : decode cX1_allowsClip 15 = .ok (.iload_n 2, 1) := by decide +kernel
theorem dX1_allowsClip_16 : decode cX1_allowsClip 16 = .ok (.iload_n 1, 1) := by decide +kernel
theorem dX1_allowsClip_17 : decode cX1_allowsClip 17 = .ok (.isub, 1) := by decide +kernel
theorem dX1_allowsClip_18 : decode cX1_allowsClip 18 = .ok (.aload_n 0, 1) := by decide +kernel
theorem dX1_allowsClip_19 : decode cX1_allowsClip 19 = .ok (.getfield 32, 3) := by decide +kernel
theorem dX1_allowsClip_22 : decode cX1_allowsClip 22 = .ok (.if_icmp .ge 7, 3) := by decide +kernel
theorem dX1_allowsClip_25 : decode cX1_allowsClip 25 = .ok (.iconst 1, 1) := by decide +kernel
theorem dX1_allowsClip_26 : decode cX1_allowsClip 26 = .ok (.goto 4, 3) := by decide +kernel
theorem dX1_allowsClip_29 : decode cX1_allowsClip 29 = .ok (.iconst 0, 1) := by decide +kernel
theorem dX1_allowsClip_30 : decode cX1_allowsClip 30 = .ok (.ireturn, 1) := by decide +kernel
theorem dX1_isOver_0 : decode cX1_isOver 0 = .ok (.aload_n 0, 1) := by decide +kernel
theorem dX1_isOver_1 : decode cX1_isOver 1 = .ok (.getfield 41, 3) := by decide +kernel
theorem dX1_isOver_4 : decode cX1_isOver 4 = .ok (.ifCond .ne 7, 3) := by decide +kernel
theorem dX1_isOver_7 : decode cX1_isOver 7 = .ok (.iconst 1, 1) := by decide +kernel
theorem dX1_isOver_8 : decode cX1_isOver 8 = .ok (.goto 4, 3) := by decide +kernel
theorem dX1_isOver_11 : decode cX1_isOver 11 = .ok (.iconst 0, 1) := by decide +kernel
theorem dX1_isOver_12 : decode cX1_isOver 12 = .ok (.ireturn, 1) := by decide +kernel
theorem dX1_allClips_0 : decode cX1_allClips 0 = .ok (.aload_n 0, 1) := by decide +kernel
theorem dX1_allClips_1 : decode cX1_allClips 1 = .ok (.getfield 12, 3) := by decide +kernel
theorem dX1_allClips_4 : decode cX1_allClips 4 = .ok (.getfield 53, 3) := by decide +kernel
theorem dX1_allClips_7 : decode cX1_allClips 7 = .ok (.aload_n 0, 1) := by decide +kernel
theorem dX1_allClips_8 : decode cX1_allClips 8 = .ok (.getfield 18, 3) := by decide +kernel
theorem dX1_allClips_11 : decode cX1_allClips 11 = .ok (.getfield 53, 3) := by decide +kernel
theorem dX1_allClips_14 : decode cX1_allClips 14 = .ok (.iadd, 1) := by decide +kernel
theorem dX1_allClips_15 : decode cX1_allClips 15 = .ok (.ireturn, 1) := by decide +kernel
theorem dX1_allFines_0 : decode cX1_allFines 0 = .ok (.aload_n 0, 1) := by decide +kernel
theorem dX1_allFines_1 : decode cX1_allFines 1 = .ok (.getfield 12, 3) := by decide +kernel
theorem dX1_allFines_4 : decode cX1_allFines 4 = .ok (.getfield 56, 3) := by decide +kernel
theorem dX1_allFines_7 : decode cX1_allFines 7 = .ok (.aload_n 0, 1) := by decide +kernel
theorem dX1_allFines_8 : decode cX1_allFines 8 = .ok (.getfield 18, 3) := by decide +kernel
theorem dX1_allFines_11 : decode cX1_allFines 11 = .ok (.getfield 56, 3) := by decide +kernel
theorem dX1_allFines_14 : decode cX1_allFines 14 = .ok (.iadd, 1) := by decide +kernel
theorem dX1_allFines_15 : decode cX1_allFines 15 = .ok (.ireturn, 1) := by decide +kernel
theorem dX1_doClip_0 : decode cX1_doClip 0 = .ok (.aload_n 0, 1) := by decide +kernel
theorem dX1_doClip_1 : decode cX1_doClip 1 = .ok (.getfield 41, 3) := by decide +kernel
theorem dX1_doClip_4 : decode cX1_doClip 4 = .ok (.iload_n 1, 1) := by decide +kernel
theorem dX1_doClip_5 : decode cX1_doClip 5 = .ok (.invokestatic 59, 3) := by decide +kernel
theorem dX1_doClip_8 : decode cX1_doClip 8 = .ok (.aload_n 0, 1) := by decide +kernel
theorem dX1_doClip_9 : decode cX1_doClip 9 = .ok (.getfield 38, 3) := by decide +kernel
theorem dX1_doClip_12 : decode cX1_doClip 12 = .ok (.aload_n 0, 1) := by decide +kernel
theorem dX1_doClip_13 : decode cX1_doClip 13 = .ok (.getfield 25, 3) := by decide +kernel
theorem dX1_doClip_16 : decode cX1_doClip 16 = .ok (.invokestatic 65, 3) := by decide +kernel
theorem dX1_doClip_19 : decode cX1_doClip 19 = .ok (.istore_n 2, 1) := by decide +kernel
theorem dX1_doClip_20 : decode cX1_doClip 20 = .ok (.aload_n 0, 1) := by decide +kernel
theorem dX1_doClip_21 : decode cX1_doClip 21 = .ok (.getfield 29, 3) := by decide +kernel
theorem dX1_doClip_24 : decode cX1_doClip 24 = .ok (.aload_n 0, 1) := by decide +kernel
theorem dX1_doClip_25 : decode cX1_doClip 25 = .ok (.getfield 41, 3) := by decide +kernel
theorem dX1_doClip_28 : decode cX1_doClip 28 = .ok (.iload_n 2, 1) := by decide +kernel
theorem dX1_doClip_29 : decode cX1_doClip 29 = .ok (.invokestatic 69, 3) := by decide +kernel
theorem dX1_doClip_32 : decode cX1_doClip 32 = .ok (.imul, 1) := by decide +kernel
theorem dX1_doClip_33 : decode cX1_doClip 33 = .ok (.istore_n 3, 1) := by decide +kernel
theorem dX1_doClip_34 : decode cX1_doClip 34 = .ok (.aload_n 0, 1) := by decide +kernel
theorem dX1_doClip_35 : decode cX1_doClip 35 = .ok (.aload_n 0, 1) := by decide +kernel
theorem dX1_doClip_36 : decode cX1_doClip 36 = .ok (.getfield 44, 3) := by decide +kernel
theorem dX1_doClip_39 : decode cX1_doClip 39 = .ok (.invokevirtual 72, 3) := by decide +kernel
theorem dX1_doClip_42 : decode cX1_doClip 42 = .ok (.astore 4, 2) := by decide +kernel
theorem dX1_doClip_44 : decode cX1_doClip 44 = .ok (.aload 4, 2) := by decide +kernel
theorem dX1_doClip_46 : decode cX1_doClip 46 = .ok (.dup, 1) := by decide +kernel
theorem dX1_doClip_47 : decode cX1_doClip 47 = .ok (.getfield 56, 3) := by decide +kernel
theorem dX1_doClip_50 : decode cX1_doClip 50 = .ok (.iload_n 3, 1) := by decide +kernel
theorem dX1_doClip_51 : decode cX1_doClip 51 = .ok (.iadd, 1) := by decide +kernel
theorem dX1_doClip_52 : decode cX1_doClip 52 = .ok (.putfield 56, 3) := by decide +kernel
theorem dX1_doClip_55 : decode cX1_doClip 55 = .ok (.aload 4, 2) := by decide +kernel
theorem dX1_doClip_57 : decode cX1_doClip 57 = .ok (.dup, 1) := by decide +kernel
theorem dX1_doClip_58 : decode cX1_doClip 58 = .ok (.getfield 53, 3) := by decide +kernel
theorem dX1_doClip_61 : decode cX1_doClip 61 = .ok (.iconst 1, 1) := by decide +kernel
theorem dX1_doClip_62 : decode cX1_doClip 62 = .ok (.iadd, 1) := by decide +kernel
theorem dX1_doClip_63 : decode cX1_doClip 63 = .ok (.putfield 53, 3) := by decide +kernel
theorem dX1_doClip_66 : decode cX1_doClip 66 = .ok (.aload 4, 2) := by decide +kernel
theorem dX1_doClip_68 : decode cX1_doClip 68 = .ok (.dup, 1) := by decide +kernel
theorem dX1_doClip_69 : decode cX1_doClip 69 = .ok (.getfield 76, 3) := by decide +kernel
theorem dX1_doClip_72 : decode cX1_doClip 72 = .ok (.aload_n 0, 1) := by decide +kernel
theorem dX1_doClip_73 : decode cX1_doClip 73 = .ok (.getfield 41, 3) := by decide +kernel
theorem dX1_doClip_76 : decode cX1_doClip 76 = .ok (.invokestatic 79, 3) := by decide +kernel
theorem dX1_doClip_79 : decode cX1_doClip 79 = .ok (.iload_n 2, 1) := by decide +kernel
theorem dX1_doClip_80 : decode cX1_doClip 80 = .ok (.invokestatic 79, 3) := by decide +kernel
theorem dX1_doClip_83 : decode cX1_doClip 83 = .ok (.isub, 1) := by decide +kernel
theorem dX1_doClip_84 : decode cX1_doClip 84 = .ok (.iadd, 1) := by decide +kernel
theorem dX1_doClip_85 : decode cX1_doClip 85 = .ok (.putfield 76, 3) := by decide +kernel
theorem dX1_doClip_88 : decode cX1_doClip 88 = .ok (.aload_n 0, 1) := by decide +kernel
theorem dX1_doClip_89 : decode cX1_doClip 89 = .ok (.iload_n 2, 1) := by decide +kernel
theorem dX1_doClip_90 : decode cX1_doClip 90 = .ok (.putfield 41, 3) := by decide +kernel
theorem dX1_doClip_93 : decode cX1_doClip 93 = .ok (.aload_n 0, 1) := by decide +kernel
theorem dX1_doClip_94 : decode cX1_doClip 94 = .ok (.invokevirtual 83, 3) := by decide +kernel
theorem dX1_doClip_97 : decode cX1_doClip 97 = .ok (.iload_n 3, 1) := by decide +kernel
theorem dX1_doClip_98 : decode cX1_doClip 98 = .ok (.ireturn, 1) := by decide +kernel
theorem dX1_turnOver_0 : decode cX1_turnOver 0 = .ok (.aload_n 0, 1) := by decide +kernel
theorem dX1_turnOver_1 : decode cX1_turnOver 1 = .ok (.iconst 1, 1) := by decide +kernel
theorem dX1_turnOver_2 : decode cX1_turnOver 2 = .ok (.aload_n 0, 1) := by decide +kernel
theorem dX1_turnOver_3 : decode cX1_turnOver 3 = .ok (.getfield 44, 3) := by decide +kernel
theorem dX1_turnOver_6 : decode cX1_turnOver 6 = .ok (.isub, 1) := by decide +kernel
theorem dX1_turnOver_7 : decode cX1_turnOver 7 = .ok (.putfield 44, 3) := by decide +kernel
theorem dX1_turnOver_10 : decode cX1_turnOver 10 = .ok (.return_, 1) := by decide +kernel
theorem dX1_triesClip_0 : decode cX1_triesClip 0 = .ok (.aload_n 0, 1) := by decide +kernel
theorem dX1_triesClip_1 : decode cX1_triesClip 1 = .ok (.iload_n 1, 1) := by decide +kernel
theorem dX1_triesClip_2 : decode cX1_triesClip 2 = .ok (.invokevirtual 86, 3) := by decide +kernel
theorem dX1_triesClip_5 : decode cX1_triesClip 5 = .ok (.ifCond .eq 33, 3) := by decide +kernel
theorem dX1_triesClip_8 : decode cX1_triesClip 8 = .ok (.aload_n 0, 1) := by decide +kernel
theorem dX1_triesClip_9 : decode cX1_triesClip 9 = .ok (.iload_n 2, 1) := by decide +kernel
theorem dX1_triesClip_10 : decode cX1_triesClip 10 = .ok (.invokevirtual 86, 3) := by decide +kernel
theorem dX1_triesClip_13 : decode cX1_triesClip 13 = .ok (.ifCond .eq 25, 3) := by decide +kernel
theorem dX1_triesClip_16 : decode cX1_triesClip 16 = .ok (.aload_n 0, 1) := by decide +kernel
theorem dX1_triesClip_17 : decode cX1_triesClip 17 = .ok (.iload_n 1, 1) := by decide +kernel
theorem dX1_triesClip_18 : decode cX1_triesClip 18 = .ok (.iload_n 2, 1) := by decide +kernel
theorem dX1_triesClip_19 : decode cX1_triesClip 19 = .ok (.iload_n 3, 1) := by decide +kernel
theorem dX1_triesClip_20 : decode cX1_triesClip 20 = .ok (.invokevirtual 90, 3) := by decide +kernel
theorem dX1_triesClip_23 : decode cX1_triesClip 23 = .ok (.ifCond .eq 15, 3) := by decide +kernel
theorem dX1_triesClip_26 : decode cX1_triesClip 26 = .ok (.aload_n 0, 1) := by decide +kernel
theorem dX1_triesClip_27 : decode cX1_triesClip 27 = .ok (.getfield 41, 3) := by decide +kernel
theorem dX1_triesClip_30 : decode cX1_triesClip 30 = .ok (.iload_n 1, 1) := by decide +kernel
theorem dX1_triesClip_31 : decode cX1_triesClip 31 = .ok (.iload_n 2, 1) := by decide +kernel
theorem dX1_triesClip_32 : decode cX1_triesClip 32 = .ok (.invokestatic 94, 3) := by decide +kernel
theorem dX1_triesClip_35 : decode cX1_triesClip 35 = .ok (.ifCond .ne 5, 3) := by decide +kernel
theorem dX1_triesClip_38 : decode cX1_triesClip 38 = .ok (.iconst 0, 1) := by decide +kernel
theorem dX1_triesClip_39 : decode cX1_triesClip 39 = .ok (.ireturn, 1) := by decide +kernel
theorem dX1_triesClip_40 : decode cX1_triesClip 40 = .ok (.aload_n 0, 1) := by decide +kernel
theorem dX1_triesClip_41 : decode cX1_triesClip 41 = .ok (.iload_n 1, 1) := by decide +kernel
theorem dX1_triesClip_42 : decode cX1_triesClip 42 = .ok (.iload_n 2, 1) := by decide +kernel
theorem dX1_triesClip_43 : decode cX1_triesClip 43 = .ok (.iload_n 3, 1) := by decide +kernel
theorem dX1_triesClip_44 : decode cX1_triesClip 44 = .ok (.invokestatic 97, 3) := by decide +kernel
theorem dX1_triesClip_47 : decode cX1_triesClip 47 = .ok (.invokevirtual 102, 3) := by decide +kernel
theorem dX1_triesClip_50 : decode cX1_triesClip 50 = .ok (.pop, 1) := by decide +kernel
theorem dX1_triesClip_51 : decode cX1_triesClip 51 = .ok (.iconst 1, 1) := by decide +kernel
theorem dX1_triesClip_52 : decode cX1_triesClip 52 = .ok (.ireturn, 1) := by decide +kernel
theorem dX1_triesWater_0 : decode cX1_triesWater 0 = .ok (.aload_n 0, 1) := by decide +kernel
theorem dX1_triesWater_1 : decode cX1_triesWater 1 = .ok (.iload_n 1, 1) := by decide +kernel
theorem dX1_triesWater_2 : decode cX1_triesWater 2 = .ok (.invokevirtual 86, 3) := by decide +kernel
theorem dX1_triesWater_5 : decode cX1_triesWater 5 = .ok (.ifCond .eq 14, 3) := by decide +kernel
theorem dX1_triesWater_8 : decode cX1_triesWater 8 = .ok (.aload_n 0, 1) := by decide +kernel
theorem dX1_triesWater_9 : decode cX1_triesWater 9 = .ok (.getfield 41, 3) := by decide +kernel
theorem dX1_triesWater_12 : decode cX1_triesWater 12 = .ok (.iload_n 1, 1) := by decide +kernel
theorem dX1_triesWater_13 : decode cX1_triesWater 13 = .ok (.invokestatic 105, 3) := by decide +kernel
theorem dX1_triesWater_16 : decode cX1_triesWater 16 = .ok (.ifCond .eq 5, 3) := by decide +kernel
theorem dX1_triesWater_19 : decode cX1_triesWater 19 = .ok (.iconst 0, 1) := by decide +kernel
theorem dX1_triesWater_20 : decode cX1_triesWater 20 = .ok (.ireturn, 1) := by decide +kernel
theorem dX1_triesWater_21 : decode cX1_triesWater 21 = .ok (.aload_n 0, 1) := by decide +kernel
theorem dX1_triesWater_22 : decode cX1_triesWater 22 = .ok (.aload_n 0, 1) := by decide +kernel
theorem dX1_triesWater_23 : decode cX1_triesWater 23 = .ok (.getfield 41, 3) := by decide +kernel
theorem dX1_triesWater_26 : decode cX1_triesWater 26 = .ok (.iload_n 1, 1) := by decide +kernel
theorem dX1_triesWater_27 : decode cX1_triesWater 27 = .ok (.invokestatic 109, 3) := by decide +kernel
theorem dX1_triesWater_30 : decode cX1_triesWater 30 = .ok (.putfield 41, 3) := by decide +kernel
theorem dX1_triesWater_33 : decode cX1_triesWater 33 = .ok (.iconst 1, 1) := by decide +kernel
theorem dX1_triesWater_34 : decode cX1_triesWater 34 = .ok (.ireturn, 1) := by decide +kernel
theorem dX1_triesWind_0 : decode cX1_triesWind 0 = .ok (.iload_n 1, 1) := by decide +kernel
theorem dX1_triesWind_1 : decode cX1_triesWind 1 = .ok (.invokestatic 112, 3) := by decide +kernel
theorem dX1_triesWind_4 : decode cX1_triesWind 4 = .ok (.ifCond .ne 5, 3) := by decide +kernel
theorem dX1_triesWind_7 : decode cX1_triesWind 7 = .ok (.iconst 0, 1) := by decide +kernel
theorem dX1_triesWind_8 : decode cX1_triesWind 8 = .ok (.ireturn, 1) := by decide +kernel
theorem dX1_triesWind_9 : decode cX1_triesWind 9 = .ok (.aload_n 0, 1) := by decide +kernel
theorem dX1_triesWind_10 : decode cX1_triesWind 10 = .ok (.iload_n 1, 1) := by decide +kernel
theorem dX1_triesWind_11 : decode cX1_triesWind 11 = .ok (.putfield 25, 3) := by decide +kernel
theorem dX1_triesWind_14 : decode cX1_triesWind 14 = .ok (.iconst 1, 1) := by decide +kernel
theorem dX1_triesWind_15 : decode cX1_triesWind 15 = .ok (.ireturn, 1) := by decide +kernel
theorem dX2_init_0 : decode cX2_init 0 = .ok (.aload_n 0, 1) := by decide +kernel
theorem dX2_init_1 : decode cX2_init 1 = .ok (.invokespecial 1, 3) := by decide +kernel
theorem dX2_init_4 : decode cX2_init 4 = .ok (.return_, 1) := by decide +kernel
theorem dX2_becomes_0 : decode cX2_becomes 0 = .ok (.aload_n 0, 1) := by decide +kernel
theorem dX2_becomes_1 : decode cX2_becomes 1 = .ok (.aload_n 1, 1) := by decide +kernel
theorem dX2_becomes_2 : decode cX2_becomes 2 = .ok (.getfield 7, 3) := by decide +kernel
theorem dX2_becomes_5 : decode cX2_becomes 5 = .ok (.putfield 7, 3) := by decide +kernel
theorem dX2_becomes_8 : decode cX2_becomes 8 = .ok (.aload_n 0, 1) := by decide +kernel
theorem dX2_becomes_9 : decode cX2_becomes 9 = .ok (.aload_n 1, 1) := by decide +kernel
theorem dX2_becomes_10 : decode cX2_becomes 10 = .ok (.getfield 13, 3) := by decide +kernel
theorem dX2_becomes_13 : decode cX2_becomes 13 = .ok (.putfield 13, 3) := by decide +kernel
theorem dX2_becomes_16 : decode cX2_becomes 16 = .ok (.aload_n 0, 1) := by decide +kernel
theorem dX2_becomes_17 : decode cX2_becomes 17 = .ok (.aload_n 1, 1) := by decide +kernel
theorem dX2_becomes_18 : decode cX2_becomes 18 = .ok (.getfield 16, 3) := by decide +kernel
theorem dX2_becomes_21 : decode cX2_becomes 21 = .ok (.putfield 16, 3) := by decide +kernel
theorem dX2_becomes_24 : decode cX2_becomes 24 = .ok (.return_, 1) := by decide +kernel
theorem dX2_makeNew_0 : decode cX2_makeNew 0 = .ok (.aload_n 0, 1) := by decide +kernel
theorem dX2_makeNew_1 : decode cX2_makeNew 1 = .ok (.iconst 0, 1) := by decide +kernel
theorem dX2_makeNew_2 : decode cX2_makeNew 2 = .ok (.putfield 7, 3) := by decide +kernel
theorem dX2_makeNew_5 : decode cX2_makeNew 5 = .ok (.aload_n 0, 1) := by decide +kernel
theorem dX2_makeNew_6 : decode cX2_makeNew 6 = .ok (.iconst 0, 1) := by decide +kernel
theorem dX2_makeNew_7 : decode cX2_makeNew 7 = .ok (.putfield 13, 3) := by decide +kernel
theorem dX2_makeNew_10 : decode cX2_makeNew 10 = .ok (.aload_n 0, 1) := by decide +kernel
theorem dX2_makeNew_11 : decode cX2_makeNew 11 = .ok (.iconst 0, 1) := by decide +kernel
theorem dX2_makeNew_12 : decode cX2_makeNew 12 = .ok (.putfield 16, 3) := by decide +kernel
theorem dX2_makeNew_15 : decode cX2_makeNew 15 = .ok (.return_, 1) := by decide +kernel
theorem dX3_hedges_0 : decode cX3_hedges 0 = .ok (.iconst 1, 1) := by decide +kernel
theorem dX3_hedges_1 : decode cX3_hedges 1 = .ok (.iconst 2, 1) := by decide +kernel
theorem dX3_hedges_2 : decode cX3_hedges 2 = .ok (.iload_n 0, 1) := by decide +kernel
theorem dX3_hedges_3 : decode cX3_hedges 3 = .ok (.imul, 1) := by decide +kernel
theorem dX3_hedges_4 : decode cX3_hedges 4 = .ok (.ishl, 1) := by decide +kernel
theorem dX3_hedges_5 : decode cX3_hedges 5 = .ok (.ireturn, 1) := by decide +kernel
theorem dX3_leavesOf_0 : decode cX3_leavesOf 0 = .ok (.iload_n 0, 1) := by decide +kernel
theorem dX3_leavesOf_1 : decode cX3_leavesOf 1 = .ok (.iconst 2, 1) := by decide +kernel
theorem dX3_leavesOf_2 : decode cX3_leavesOf 2 = .ok (.iload_n 1, 1) := by decide +kernel
theorem dX3_leavesOf_3 : decode cX3_leavesOf 3 = .ok (.imul, 1) := by decide +kernel
theorem dX3_leavesOf_4 : decode cX3_leavesOf 4 = .ok (.ishr, 1) := by decide +kernel
theorem dX3_leavesOf_5 : decode cX3_leavesOf 5 = .ok (.iconst 3, 1) := by decide +kernel
theorem dX3_leavesOf_6 : decode cX3_leavesOf 6 = .ok (.iand, 1) := by decide +kernel
theorem dX3_leavesOf_7 : decode cX3_leavesOf 7 = .ok (.ireturn, 1) := by decide +kernel
theorem dX3_isFull_0 : decode cX3_isFull 0 = .ok (.iload_n 0, 1) := by decide +kernel
theorem dX3_isFull_1 : decode cX3_isFull 1 = .ok (.iload_n 1, 1) := by decide +kernel
theorem dX3_isFull_2 : decode cX3_isFull 2 = .ok (.invokestatic 9, 3) := by decide +kernel
theorem dX3_isFull_5 : decode cX3_isFull 5 = .ok (.iconst 3, 1) := by decide +kernel
theorem dX3_isFull_6 : decode cX3_isFull 6 = .ok (.if_icmp .ne 7, 3) := by decide +kernel
theorem dX3_isFull_9 : decode cX3_isFull 9 = .ok (.iconst 1, 1) := by decide +kernel
theorem dX3_isFull_10 : decode cX3_isFull 10 = .ok (.goto 4, 3) := by decide +kernel
theorem dX3_isFull_13 : decode cX3_isFull 13 = .ok (.iconst 0, 1) := by decide +kernel
theorem dX3_isFull_14 : decode cX3_isFull 14 = .ok (.ireturn, 1) := by decide +kernel
theorem dX3_watered_0 : decode cX3_watered 0 = .ok (.iload_n 0, 1) := by decide +kernel
theorem dX3_watered_1 : decode cX3_watered 1 = .ok (.iconst 1, 1) := by decide +kernel
theorem dX3_watered_2 : decode cX3_watered 2 = .ok (.iconst 2, 1) := by decide +kernel
theorem dX3_watered_3 : decode cX3_watered 3 = .ok (.iload_n 1, 1) := by decide +kernel
theorem dX3_watered_4 : decode cX3_watered 4 = .ok (.imul, 1) := by decide +kernel
theorem dX3_watered_5 : decode cX3_watered 5 = .ok (.ishl, 1) := by decide +kernel
theorem dX3_watered_6 : decode cX3_watered 6 = .ok (.iadd, 1) := by decide +kernel
theorem dX3_watered_7 : decode cX3_watered 7 = .ok (.ireturn, 1) := by decide +kernel
theorem dX3_allLeaves_0 : decode cX3_allLeaves 0 = .ok (.iload_n 0, 1) := by decide +kernel
theorem dX3_allLeaves_1 : decode cX3_allLeaves 1 = .ok (.sipush 1365, 3) := by decide +kernel
theorem dX3_allLeaves_4 : decode cX3_allLeaves 4 = .ok (.iand, 1) := by decide +kernel
theorem dX3_allLeaves_5 : decode cX3_allLeaves 5 = .ok (.invokestatic 15, 3) := by decide +kernel
theorem dX3_allLeaves_8 : decode cX3_allLeaves 8 = .ok (.iconst 2, 1) := by decide +kernel
theorem dX3_allLeaves_9 : decode cX3_allLeaves 9 = .ok (.iload_n 0, 1) := by decide +kernel
theorem dX3_allLeaves_10 : decode cX3_allLeaves 10 = .ok (.iconst 1, 1) := by decide +kernel
theorem dX3_allLeaves_11 : decode cX3_allLeaves 11 = .ok (.ishr, 1) := by decide +kernel
theorem dX3_allLeaves_12 : decode cX3_allLeaves 12 = .ok (.sipush 1365, 3) := by decide +kernel
theorem dX3_allLeaves_15 : decode cX3_allLeaves 15 = .ok (.iand, 1) := by decide +kernel
theorem dX3_allLeaves_16 : decode cX3_allLeaves 16 = .ok (.invokestatic 15, 3) := by decide +kernel
theorem dX3_allLeaves_19 : decode cX3_allLeaves 19 = .ok (.imul, 1) := by decide +kernel
theorem dX3_allLeaves_20 : decode cX3_allLeaves 20 = .ok (.iadd, 1) := by decide +kernel
theorem dX3_allLeaves_21 : decode cX3_allLeaves 21 = .ok (.ireturn, 1) := by decide +kernel
theorem dX3_leafy_0 : decode cX3_leafy 0 = .ok (.iload_n 0, 1) := by decide +kernel
theorem dX3_leafy_1 : decode cX3_leafy 1 = .ok (.iload_n 0, 1) := by decide +kernel
theorem dX3_leafy_2 : decode cX3_leafy 2 = .ok (.iconst 1, 1) := by decide +kernel
theorem dX3_leafy_3 : decode cX3_leafy 3 = .ok (.ishr, 1) := by decide +kernel
theorem dX3_leafy_4 : decode cX3_leafy 4 = .ok (.ior, 1) := by decide +kernel
theorem dX3_leafy_5 : decode cX3_leafy 5 = .ok (.sipush 1365, 3) := by decide +kernel
theorem dX3_leafy_8 : decode cX3_leafy 8 = .ok (.iand, 1) := by decide +kernel
theorem dX3_leafy_9 : decode cX3_leafy 9 = .ok (.ireturn, 1) := by decide +kernel
theorem dX3_hasLeaves_0 : decode cX3_hasLeaves 0 = .ok (.iload_n 0, 1) := by decide +kernel
theorem dX3_hasLeaves_1 : decode cX3_hasLeaves 1 = .ok (.iload_n 1, 1) := by decide +kernel
theorem dX3_hasLeaves_2 : decode cX3_hasLeaves 2 = .ok (.iload_n 2, 1) := by decide +kernel
theorem dX3_hasLeaves_3 : decode cX3_hasLeaves 3 = .ok (.iconst 3, 1) := by decide +kernel
theorem dX3_hasLeaves_4 : decode cX3_hasLeaves 4 = .ok (.invokestatic 21, 3) := by decide +kernel
theorem dX3_hasLeaves_7 : decode cX3_hasLeaves 7 = .ok (.invokestatic 27, 3) := by decide +kernel
theorem dX3_hasLeaves_10 : decode cX3_hasLeaves 10 = .ok (.iload_n 0, 1) := by decide +kernel
theorem dX3_hasLeaves_11 : decode cX3_hasLeaves 11 = .ok (.if_icmp .eq 7, 3) := by decide +kernel
theorem dX3_hasLeaves_14 : decode cX3_hasLeaves 14 = .ok (.iconst 1, 1) := by decide +kernel
theorem dX3_hasLeaves_15 : decode cX3_hasLeaves 15 = .ok (.goto 4, 3) := by decide +kernel
theorem dX3_hasLeaves_18 : decode cX3_hasLeaves 18 = .ok (.iconst 0, 1) := by decide +kernel
theorem dX3_hasLeaves_19 : decode cX3_hasLeaves 19 = .ok (.ireturn, 1) := by decide +kernel
theorem dX3_clipped_0 : decode cX3_clipped 0 = .ok (.iload_n 0, 1) := by decide +kernel
theorem dX3_clipped_1 : decode cX3_clipped 1 = .ok (.istore_n 2, 1) := by decide +kernel
theorem dX3_clipped_2 : decode cX3_clipped 2 = .ok (.iload_n 1, 1) := by decide +kernel
theorem dX3_clipped_3 : decode cX3_clipped 3 = .ok (.invokestatic 30, 3) := by decide +kernel
theorem dX3_clipped_6 : decode cX3_clipped 6 = .ok (.istore_n 3, 1) := by decide +kernel
theorem dX3_clipped_7 : decode cX3_clipped 7 = .ok (.iload_n 1, 1) := by decide +kernel
theorem dX3_clipped_8 : decode cX3_clipped 8 = .ok (.invokestatic 33, 3) := by decide +kernel
theorem dX3_clipped_11 : decode cX3_clipped 11 = .ok (.istore 4, 2) := by decide +kernel
theorem dX3_clipped_13 : decode cX3_clipped 13 = .ok (.iload_n 1, 1) := by decide +kernel
theorem dX3_clipped_14 : decode cX3_clipped 14 = .ok (.invokestatic 36, 3) := by decide +kernel
theorem dX3_clipped_17 : decode cX3_clipped 17 = .ok (.istore 5, 2) := by decide +kernel
theorem dX3_clipped_19 : decode cX3_clipped 19 = .ok (.iload 5, 2) := by decide +kernel
theorem dX3_clipped_21 : decode cX3_clipped 21 = .ok (.iload_n 3, 1) := by decide +kernel
theorem dX3_clipped_22 : decode cX3_clipped 22 = .ok (.if_icmp .gt 28, 3) := by decide +kernel
theorem dX3_clipped_25 : decode cX3_clipped 25 = .ok (.iload_n 2, 1) := by decide +kernel
theorem dX3_clipped_26 : decode cX3_clipped 26 = .ok (.iload 4, 2) := by decide +kernel
theorem dX3_clipped_28 : decode cX3_clipped 28 = .ok (.iload_n 0, 1) := by decide +kernel
theorem dX3_clipped_29 : decode cX3_clipped 29 = .ok (.iload 5, 2) := by decide +kernel
theorem dX3_clipped_31 : decode cX3_clipped 31 = .ok (.invokestatic 9, 3) := by decide +kernel
theorem dX3_clipped_34 : decode cX3_clipped 34 = .ok (.invokestatic 39, 3) := by decide +kernel
theorem dX3_clipped_37 : decode cX3_clipped 37 = .ok (.iconst 2, 1) := by decide +kernel
theorem dX3_clipped_38 : decode cX3_clipped 38 = .ok (.iload 5, 2) := by decide +kernel
theorem dX3_clipped_40 : decode cX3_clipped 40 = .ok (.imul, 1) := by decide +kernel
theorem dX3_clipped_41 : decode cX3_clipped 41 = .ok (.ishl, 1) := by decide +kernel
theorem dX3_clipped_42 : decode cX3_clipped 42 = .ok (.isub, 1) := by decide +kernel
theorem dX3_clipped_43 : decode cX3_clipped 43 = .ok (.istore_n 2, 1) := by decide +kernel
theorem dX3_clipped_44 : decode cX3_clipped 44 = .ok (.iinc 5 1, 3) := by decide +kernel
theorem dX3_clipped_47 : decode cX3_clipped 47 = .ok (.goto (-28), 3) := by decide +kernel
theorem dX3_clipped_50 : decode cX3_clipped 50 = .ok (.iload_n 2, 1) := by decide +kernel
theorem dX3_clipped_51 : decode cX3_clipped 51 = .ok (.ireturn, 1) := by decide +kernel
theorem dX3_blown_0 : decode cX3_blown 0 = .ok (.iload_n 2, 1) := by decide +kernel
theorem dX3_blown_1 : decode cX3_blown 1 = .ok (.ifCond .ne 5, 3) := by decide +kernel
theorem dX3_blown_4 : decode cX3_blown 4 = .ok (.iload_n 0, 1) := by decide +kernel
theorem dX3_blown_5 : decode cX3_blown 5 = .ok (.ireturn, 1) := by decide +kernel
theorem dX3_blown_6 : decode cX3_blown 6 = .ok (.iload_n 0, 1) := by decide +kernel
theorem dX3_blown_7 : decode cX3_blown 7 = .ok (.invokestatic 44, 3) := by decide +kernel
theorem dX3_blown_10 : decode cX3_blown 10 = .ok (.istore_n 3, 1) := by decide +kernel
theorem dX3_blown_11 : decode cX3_blown 11 = .ok (.iload_n 2, 1) := by decide +kernel
theorem dX3_blown_12 : decode cX3_blown 12 = .ok (.iconst 1, 1) := by decide +kernel
theorem dX3_blown_13 : decode cX3_blown 13 = .ok (.if_icmp .ne 11, 3) := by decide +kernel
theorem dX3_blown_16 : decode cX3_blown 16 = .ok (.iload_n 3, 1) := by decide +kernel
theorem dX3_blown_17 : decode cX3_blown 17 = .ok (.iconst 2, 1) := by decide +kernel
theorem dX3_blown_18 : decode cX3_blown 18 = .ok (.ishl, 1) := by decide +kernel
theorem dX3_blown_19 : decode cX3_blown 19 = .ok (.iconst 1, 1) := by decide +kernel
theorem dX3_blown_20 : decode cX3_blown 20 = .ok (.ior, 1) := by decide +kernel
theorem dX3_blown_21 : decode cX3_blown 21 = .ok (.goto 14, 3) := by decide +kernel
theorem dX3_blown_24 : decode cX3_blown 24 = .ok (.iload_n 3, 1) := by decide +kernel
theorem dX3_blown_25 : decode cX3_blown 25 = .ok (.iconst 2, 1) := by decide +kernel
theorem dX3_blown_26 : decode cX3_blown 26 = .ok (.ishr, 1) := by decide +kernel
theorem dX3_blown_27 : decode cX3_blown 27 = .ok (.iconst 1, 1) := by decide +kernel
theorem dX3_blown_28 : decode cX3_blown 28 = .ok (.iconst 2, 1) := by decide +kernel
theorem dX3_blown_29 : decode cX3_blown 29 = .ok (.iload_n 1, 1) := by decide +kernel
theorem dX3_blown_30 : decode cX3_blown 30 = .ok (.iconst 1, 1) := by decide +kernel
theorem dX3_blown_31 : decode cX3_blown 31 = .ok (.isub, 1) := by decide +kernel
theorem dX3_blown_32 : decode cX3_blown 32 = .ok (.imul, 1) := by decide +kernel
theorem dX3_blown_33 : decode cX3_blown 33 = .ok (.ishl, 1) := by decide +kernel
theorem dX3_blown_34 : decode cX3_blown 34 = .ok (.ior, 1) := by decide +kernel
theorem dX3_blown_35 : decode cX3_blown 35 = .ok (.istore 4, 2) := by decide +kernel
theorem dX3_blown_37 : decode cX3_blown 37 = .ok (.iload_n 0, 1) := by decide +kernel
theorem dX3_blown_38 : decode cX3_blown 38 = .ok (.iload_n 3, 1) := by decide +kernel
theorem dX3_blown_39 : decode cX3_blown 39 = .ok (.iload 4, 2) := by decide +kernel
theorem dX3_blown_41 : decode cX3_blown 41 = .ok (.iconst (-1), 1) := by decide +kernel
theorem dX3_blown_42 : decode cX3_blown 42 = .ok (.ixor, 1) := by decide +kernel
theorem dX3_blown_43 : decode cX3_blown 43 = .ok (.iand, 1) := by decide +kernel
theorem dX3_blown_44 : decode cX3_blown 44 = .ok (.isub, 1) := by decide +kernel
theorem dX3_blown_45 : decode cX3_blown 45 = .ok (.ireturn, 1) := by decide +kernel
theorem dX3_bared_0 : decode cX3_bared 0 = .ok (.iload_n 0, 1) := by decide +kernel
theorem dX3_bared_1 : decode cX3_bared 1 = .ok (.invokestatic 44, 3) := by decide +kernel
theorem dX3_bared_4 : decode cX3_bared 4 = .ok (.invokestatic 15, 3) := by decide +kernel
theorem dX3_bared_7 : decode cX3_bared 7 = .ok (.iload_n 1, 1) := by decide +kernel
theorem dX3_bared_8 : decode cX3_bared 8 = .ok (.invokestatic 44, 3) := by decide +kernel
theorem dX3_bared_11 : decode cX3_bared 11 = .ok (.invokestatic 15, 3) := by decide +kernel
theorem dX3_bared_14 : decode cX3_bared 14 = .ok (.isub, 1) := by decide +kernel
theorem dX3_bared_15 : decode cX3_bared 15 = .ok (.ireturn, 1) := by decide +kernel
theorem dX4_init_0 : decode cX4_init 0 = .ok (.aload_n 0, 1) := by decide +kernel
theorem dX4_init_1 : decode cX4_init 1 = .ok (.invokespecial 1, 3) := by decide +kernel
theorem dX4_init_4 : decode cX4_init 4 = .ok (.aload_n 0, 1) := by decide +kernel
theorem dX4_init_5 : decode cX4_init 5 = .ok (.bipush 14, 2) := by decide +kernel
theorem dX4_init_7 : decode cX4_init 7 = .ok (.anewarray 7, 3) := by decide +kernel
theorem dX4_init_10 : decode cX4_init 10 = .ok (.putfield 9, 3) := by decide +kernel
theorem dX4_init_13 : decode cX4_init 13 = .ok (.return_, 1) := by decide +kernel
theorem dX4_forget_0 : decode cX4_forget 0 = .ok (.aload_n 0, 1) := by decide +kernel
theorem dX4_forget_1 : decode cX4_forget 1 = .ok (.iconst 0, 1) := by decide +kernel
theorem dX4_forget_2 : decode cX4_forget 2 = .ok (.putfield 15, 3) := by decide +kernel
theorem dX4_forget_5 : decode cX4_forget 5 = .ok (.return_, 1) := by decide +kernel
theorem dX4_keep_0 : decode cX4_keep 0 = .ok (.aload_n 0, 1) := by decide +kernel
theorem dX4_keep_1 : decode cX4_keep 1 = .ok (.getfield 19, 3) := by decide +kernel
theorem dX4_keep_4 : decode cX4_keep 4 = .ok (.ifCond .lt 15, 3) := by decide +kernel
theorem dX4_keep_7 : decode cX4_keep 7 = .ok (.aload_n 0, 1) := by decide +kernel
theorem dX4_keep_8 : decode cX4_keep 8 = .ok (.getfield 19, 3) := by decide +kernel
theorem dX4_keep_11 : decode cX4_keep 11 = .ok (.aload_n 0, 1) := by decide +kernel
theorem dX4_keep_12 : decode cX4_keep 12 = .ok (.getfield 9, 3) := by decide +kernel
theorem dX4_keep_15 : decode cX4_keep 15 = .ok (.arraylength, 1) := by decide +kernel
theorem dX4_keep_16 : decode cX4_keep 16 = .ok (.if_icmp .lt 8, 3) := by decide +kernel
theorem dX4_keep_19 : decode cX4_keep 19 = .ok (.aload_n 0, 1) := by decide +kernel
theorem dX4_keep_20 : decode cX4_keep 20 = .ok (.iconst 0, 1) := by decide +kernel
theorem dX4_keep_21 : decode cX4_keep 21 = .ok (.putfield 19, 3) := by decide +kernel
theorem dX4_keep_24 : decode cX4_keep 24 = .ok (.aload_n 0, 1) := by decide +kernel
theorem dX4_keep_25 : decode cX4_keep 25 = .ok (.getfield 9, 3) := by decide +kernel
theorem dX4_keep_28 : decode cX4_keep 28 = .ok (.aload_n 0, 1) := by decide +kernel
theorem dX4_keep_29 : decode cX4_keep 29 = .ok (.getfield 19, 3) := by decide +kernel
theorem dX4_keep_32 : decode cX4_keep 32 = .ok (.aaload, 1) := by decide +kernel
theorem dX4_keep_33 : decode cX4_keep 33 = .ok (.astore_n 2, 1) := by decide +kernel
theorem dX4_keep_34 : decode cX4_keep 34 = .ok (.aload_n 2, 1) := by decide +kernel
theorem dX4_keep_35 : decode cX4_keep 35 = .ok (.ifnonnull 21, 3) := by decide +kernel
theorem dX4_keep_38 : decode cX4_keep 38 = .ok (.new 7, 3) := by decide +kernel
theorem dX4_keep_41 : decode cX4_keep 41 = .ok (.dup, 1) := by decide +kernel
theorem dX4_keep_42 : decode cX4_keep 42 = .ok (.invokespecial 22, 3) := by decide +kernel
theorem dX4_keep_45 : decode cX4_keep 45 = .ok (.astore_n 2, 1) := by decide +kernel
theorem dX4_keep_46 : decode cX4_keep 46 = .ok (.aload_n 0, 1) := by decide +kernel
theorem dX4_keep_47 : decode cX4_keep 47 = .ok (.getfield 9, 3) := by decide +kernel
theorem dX4_keep_50 : decode cX4_keep 50 = .ok (.aload_n 0, 1) := by decide +kernel
theorem dX4_keep_51 : decode cX4_keep 51 = .ok (.getfield 19, 3) := by decide +kernel
theorem dX4_keep_54 : decode cX4_keep 54 = .ok (.aload_n 2, 1) := by decide +kernel
theorem dX4_keep_55 : decode cX4_keep 55 = .ok (.aastore, 1) := by decide +kernel
theorem dX4_keep_56 : decode cX4_keep 56 = .ok (.aload_n 2, 1) := by decide +kernel
theorem dX4_keep_57 : decode cX4_keep 57 = .ok (.aload_n 1, 1) := by decide +kernel
theorem dX4_keep_58 : decode cX4_keep 58 = .ok (.invokevirtual 23, 3) := by decide +kernel
theorem dX4_keep_61 : decode cX4_keep 61 = .ok (.aload_n 0, 1) := by decide +kernel
theorem dX4_keep_62 : decode cX4_keep 62 = .ok (.dup, 1) := by decide +kernel
theorem dX4_keep_63 : decode cX4_keep 63 = .ok (.getfield 19, 3) := by decide +kernel
theorem dX4_keep_66 : decode cX4_keep 66 = .ok (.iconst 1, 1) := by decide +kernel
theorem dX4_keep_67 : decode cX4_keep 67 = .ok (.iadd, 1) := by decide +kernel
theorem dX4_keep_68 : decode cX4_keep 68 = .ok (.putfield 19, 3) := by decide +kernel
theorem dX4_keep_71 : decode cX4_keep 71 = .ok (.aload_n 0, 1) := by decide +kernel
theorem dX4_keep_72 : decode cX4_keep 72 = .ok (.aload_n 0, 1) := by decide +kernel
theorem dX4_keep_73 : decode cX4_keep 73 = .ok (.getfield 15, 3) := by decide +kernel
theorem dX4_keep_76 : decode cX4_keep 76 = .ok (.iconst 1, 1) := by decide +kernel
theorem dX4_keep_77 : decode cX4_keep 77 = .ok (.iadd, 1) := by decide +kernel
theorem dX4_keep_78 : decode cX4_keep 78 = .ok (.aload_n 0, 1) := by decide +kernel
theorem dX4_keep_79 : decode cX4_keep 79 = .ok (.getfield 9, 3) := by decide +kernel
theorem dX4_keep_82 : decode cX4_keep 82 = .ok (.arraylength, 1) := by decide +kernel
theorem dX4_keep_83 : decode cX4_keep 83 = .ok (.invokestatic 27, 3) := by decide +kernel
theorem dX4_keep_86 : decode cX4_keep 86 = .ok (.putfield 15, 3) := by decide +kernel
theorem dX4_keep_89 : decode cX4_keep 89 = .ok (.return_, 1) := by decide +kernel
theorem dX4_givesBack_0 : decode cX4_givesBack 0 = .ok (.aload_n 0, 1) := by decide +kernel
theorem dX4_givesBack_1 : decode cX4_givesBack 1 = .ok (.getfield 19, 3) := by decide +kernel
theorem dX4_givesBack_4 : decode cX4_givesBack 4 = .ok (.ifCond .ne 13, 3) := by decide +kernel
theorem dX4_givesBack_7 : decode cX4_givesBack 7 = .ok (.aload_n 0, 1) := by decide +kernel
theorem dX4_givesBack_8 : decode cX4_givesBack 8 = .ok (.getfield 9, 3) := by decide +kernel
theorem dX4_givesBack_11 : decode cX4_givesBack 11 = .ok (.arraylength, 1) := by decide +kernel
theorem dX4_givesBack_12 : decode cX4_givesBack 12 = .ok (.iconst 1, 1) := by decide +kernel
theorem dX4_givesBack_13 : decode cX4_givesBack 13 = .ok (.isub, 1) := by decide +kernel
theorem dX4_givesBack_14 : decode cX4_givesBack 14 = .ok (.goto 9, 3) := by decide +kernel
theorem dX4_givesBack_17 : decode cX4_givesBack 17 = .ok (.aload_n 0, 1) := by decide +kernel
theorem dX4_givesBack_18 : decode cX4_givesBack 18 = .ok (.getfield 19, 3) := by decide +kernel
theorem dX4_givesBack_21 : decode cX4_givesBack 21 = .ok (.iconst 1, 1) := by decide +kernel
theorem dX4_givesBack_22 : decode cX4_givesBack 22 = .ok (.isub, 1) := by decide +kernel
theorem dX4_givesBack_23 : decode cX4_givesBack 23 = .ok (.istore_n 2, 1) := by decide +kernel
theorem dX4_givesBack_24 : decode cX4_givesBack 24 = .ok (.aload_n 0, 1) := by decide +kernel
theorem dX4_givesBack_25 : decode cX4_givesBack 25 = .ok (.getfield 15, 3) := by decide +kernel
theorem dX4_givesBack_28 : decode cX4_givesBack 28 = .ok (.ifCond .eq 16, 3) := by decide +kernel
theorem dX4_givesBack_31 : decode cX4_givesBack 31 = .ok (.iload_n 2, 1) := by decide +kernel
theorem dX4_givesBack_32 : decode cX4_givesBack 32 = .ok (.ifCond .lt 12, 3) := by decide +kernel
theorem dX4_givesBack_35 : decode cX4_givesBack 35 = .ok (.iload_n 2, 1) := by decide +kernel
theorem dX4_givesBack_36 : decode cX4_givesBack 36 = .ok (.aload_n 0, 1) := by decide +kernel
theorem dX4_givesBack_37 : decode cX4_givesBack 37 = .ok (.getfield 9, 3) := by decide +kernel
theorem dX4_givesBack_40 : decode cX4_givesBack 40 = .ok (.arraylength, 1) := by decide +kernel
theorem dX4_givesBack_41 : decode cX4_givesBack 41 = .ok (.if_icmp .lt 5, 3) := by decide +kernel
theorem dX4_givesBack_44 : decode cX4_givesBack 44 = .ok (.iconst 0, 1) := by decide +kernel
theorem dX4_givesBack_45 : decode cX4_givesBack 45 = .ok (.ireturn, 1) := by decide +kernel
theorem dX4_givesBack_46 : decode cX4_givesBack 46 = .ok (.aload_n 0, 1) := by decide +kernel
theorem dX4_givesBack_47 : decode cX4_givesBack 47 = .ok (.getfield 9, 3) := by decide +kernel
theorem dX4_givesBack_50 : decode cX4_givesBack 50 = .ok (.iload_n 2, 1) := by decide +kernel
theorem dX4_givesBack_51 : decode cX4_givesBack 51 = .ok (.aaload, 1) := by decide +kernel
theorem dX4_givesBack_52 : decode cX4_givesBack 52 = .ok (.astore_n 3, 1) := by decide +kernel
theorem dX4_givesBack_53 : decode cX4_givesBack 53 = .ok (.aload_n 3, 1) := by decide +kernel
theorem dX4_givesBack_54 : decode cX4_givesBack 54 = .ok (.ifnonnull 5, 3) := by decide +kernel
theorem dX4_givesBack_57 : decode cX4_givesBack 57 = .ok (.iconst 0, 1) := by decide +kernel
theorem dX4_givesBack_58 : decode cX4_givesBack 58 = .ok (.ireturn, 1) := by decide +kernel
theorem dX4_givesBack_59 : decode cX4_givesBack 59 = .ok (.aload_n 1, 1) := by decide +kernel
theorem dX4_givesBack_60 : decode cX4_givesBack 60 = .ok (.aload_n 3, 1) := by decide +kernel
theorem dX4_givesBack_61 : decode cX4_givesBack 61 = .ok (.invokevirtual 23, 3) := by decide +kernel
theorem dX4_givesBack_64 : decode cX4_givesBack 64 = .ok (.aload_n 0, 1) := by decide +kernel
theorem dX4_givesBack_65 : decode cX4_givesBack 65 = .ok (.iload_n 2, 1) := by decide +kernel
theorem dX4_givesBack_66 : decode cX4_givesBack 66 = .ok (.putfield 19, 3) := by decide +kernel
theorem dX4_givesBack_69 : decode cX4_givesBack 69 = .ok (.aload_n 0, 1) := by decide +kernel
theorem dX4_givesBack_70 : decode cX4_givesBack 70 = .ok (.dup, 1) := by decide +kernel
theorem dX4_givesBack_71 : decode cX4_givesBack 71 = .ok (.getfield 15, 3) := by decide +kernel
theorem dX4_givesBack_74 : decode cX4_givesBack 74 = .ok (.iconst 1, 1) := by decide +kernel
theorem dX4_givesBack_75 : decode cX4_givesBack 75 = .ok (.isub, 1) := by decide +kernel
theorem dX4_givesBack_76 : decode cX4_givesBack 76 = .ok (.putfield 15, 3) := by decide +kernel
theorem dX4_givesBack_79 : decode cX4_givesBack 79 = .ok (.iconst 1, 1) := by decide +kernel
theorem dX4_givesBack_80 : decode cX4_givesBack 80 = .ok (.ireturn, 1) := by decide +kernel
theorem dX5_init_0 : decode cX5_init 0 = .ok (.aload_n 0, 1) := by decide +kernel
theorem dX5_init_1 : decode cX5_init 1 = .ok (.invokespecial 3, 3) := by decide +kernel
theorem dX5_init_4 : decode cX5_init 4 = .ok (.aload_n 0, 1) := by decide +kernel
theorem dX5_init_5 : decode cX5_init 5 = .ok (.bipush 45, 2) := by decide +kernel
theorem dX5_init_7 : decode cX5_init 7 = .ok (.newarray .int, 2) := by decide +kernel
theorem dX5_init_9 : decode cX5_init 9 = .ok (.putfield 11, 3) := by decide +kernel
theorem dX5_init_12 : decode cX5_init 12 = .ok (.aload_n 0, 1) := by decide +kernel
theorem dX5_init_13 : decode cX5_init 13 = .ok (.iconst 2, 1) := by decide +kernel
theorem dX5_init_14 : decode cX5_init 14 = .ok (.iload_n 1, 1) := by decide +kernel
theorem dX5_init_15 : decode cX5_init 15 = .ok (.bipush 6, 2) := by decide +kernel
theorem dX5_init_17 : decode cX5_init 17 = .ok (.invokestatic 15, 3) := by decide +kernel
theorem dX5_init_20 : decode cX5_init 20 = .ok (.invokestatic 21, 3) := by decide +kernel
theorem dX5_init_23 : decode cX5_init 23 = .ok (.putfield 24, 3) := by decide +kernel
theorem dX5_init_26 : decode cX5_init 26 = .ok (.aload_n 0, 1) := by decide +kernel
theorem dX5_init_27 : decode cX5_init 27 = .ok (.iload_n 2, 1) := by decide +kernel
theorem dX5_init_28 : decode cX5_init 28 = .ok (.putfield 28, 3) := by decide +kernel
theorem dX5_init_31 : decode cX5_init 31 = .ok (.aload_n 0, 1) := by decide +kernel
theorem dX5_init_32 : decode cX5_init 32 = .ok (.aload_n 0, 1) := by decide +kernel
theorem dX5_init_33 : decode cX5_init 33 = .ok (.getfield 24, 3) := by decide +kernel
theorem dX5_init_36 : decode cX5_init 36 = .ok (.invokestatic 31, 3) := by decide +kernel
theorem dX5_init_39 : decode cX5_init 39 = .ok (.newarray .byte, 2) := by decide +kernel
theorem dX5_init_41 : decode cX5_init 41 = .ok (.putfield 37, 3) := by decide +kernel
theorem dX5_init_44 : decode cX5_init 44 = .ok (.iconst 0, 1) := by decide +kernel
theorem dX5_init_45 : decode cX5_init 45 = .ok (.istore 4, 2) := by decide +kernel
theorem dX5_init_47 : decode cX5_init 47 = .ok (.iconst 0, 1) := by decide +kernel
theorem dX5_init_48 : decode cX5_init 48 = .ok (.istore 5, 2) := by decide +kernel
theorem dX5_init_50 : decode cX5_init 50 = .ok (.iload 5, 2) := by decide +kernel
theorem dX5_init_52 : decode cX5_init 52 = .ok (.aload_n 0, 1) := by decide +kernel
theorem dX5_init_53 : decode cX5_init 53 = .ok (.getfield 24, 3) := by decide +kernel
theorem dX5_init_56 : decode cX5_init 56 = .ok (.if_icmp .ge 81, 3) := by decide +kernel
theorem dX5_init_59 : decode cX5_init 59 = .ok (.iload 5, 2) := by decide +kernel
theorem dX5_init_61 : decode cX5_init 61 = .ok (.istore 6, 2) := by decide +kernel
theorem dX5_init_63 : decode cX5_init 63 = .ok (.iload 6, 2) := by decide +kernel
theorem dX5_init_65 : decode cX5_init 65 = .ok (.aload_n 0, 1) := by decide +kernel
theorem dX5_init_66 : decode cX5_init 66 = .ok (.getfield 24, 3) := by decide +kernel
theorem dX5_init_69 : decode cX5_init 69 = .ok (.if_icmp .ge 62, 3) := by decide +kernel
theorem dX5_init_72 : decode cX5_init 72 = .ok (.iload 6, 2) := by decide +kernel
theorem dX5_init_74 : decode cX5_init 74 = .ok (.iload 5, 2) := by decide +kernel
theorem dX5_init_76 : decode cX5_init 76 = .ok (.isub, 1) := by decide +kernel
theorem dX5_init_77 : decode cX5_init 77 = .ok (.iload_n 3, 1) := by decide +kernel
theorem dX5_init_78 : decode cX5_init 78 = .ok (.if_icmp .ge 53, 3) := by decide +kernel
theorem dX5_init_81 : decode cX5_init 81 = .ok (.iconst 1, 1) := by decide +kernel
theorem dX5_init_82 : decode cX5_init 82 = .ok (.istore 7, 2) := by decide +kernel
theorem dX5_init_84 : decode cX5_init 84 = .ok (.iload 7, 2) := by decide +kernel
theorem dX5_init_86 : decode cX5_init 86 = .ok (.iconst 3, 1) := by decide +kernel
theorem dX5_init_87 : decode cX5_init 87 = .ok (.if_icmp .gt 38, 3) := by decide +kernel
theorem dX5_init_90 : decode cX5_init 90 = .ok (.iload 4, 2) := by decide +kernel
theorem dX5_init_92 : decode cX5_init 92 = .ok (.aload_n 0, 1) := by decide +kernel
theorem dX5_init_93 : decode cX5_init 93 = .ok (.getfield 11, 3) := by decide +kernel
theorem dX5_init_96 : decode cX5_init 96 = .ok (.arraylength, 1) := by decide +kernel
theorem dX5_init_97 : decode cX5_init 97 = .ok (.if_icmp .ge 22, 3) := by decide +kernel
theorem dX5_init_100 : decode cX5_init 100 = .ok (.aload_n 0, 1) := by decide +kernel
theorem dX5_init_101 : decode cX5_init 101 = .ok (.getfield 11, 3) := by decide +kernel
theorem dX5_init_104 : decode cX5_init 104 = .ok (.iload 4, 2) := by decide +kernel
theorem dX5_init_106 : decode cX5_init 106 = .ok (.iload 5, 2) := by decide +kernel
theorem dX5_init_108 : decode cX5_init 108 = .ok (.iload 6, 2) := by decide +kernel
theorem dX5_init_110 : decode cX5_init 110 = .ok (.iload 7, 2) := by decide +kernel
theorem dX5_init_112 : decode cX5_init 112 = .ok (.invokestatic 41, 3) := by decide +kernel
theorem dX5_init_115 : decode cX5_init 115 = .ok (.iastore, 1) := by decide +kernel
theorem dX5_init_116 : decode cX5_init 116 = .ok (.iinc 4 1, 3) := by decide +kernel
theorem dX5_init_119 : decode cX5_init 119 = .ok (.iinc 7 1, 3) := by decide +kernel
theorem dX5_init_122 : decode cX5_init 122 = .ok (.goto (-38), 3) := by decide +kernel
theorem dX5_init_125 : decode cX5_init 125 = .ok (.iinc 6 1, 3) := by decide +kernel
theorem dX5_init_128 : decode cX5_init 128 = .ok (.goto (-65), 3) := by decide +kernel
theorem dX5_init_131 : decode cX5_init 131 = .ok (.iinc 5 1, 3) := by decide +kernel
theorem dX5_init_134 : decode cX5_init 134 = .ok (.goto (-84), 3) := by decide +kernel
theorem dX5_init_137 : decode cX5_init 137 = .ok (.aload_n 0, 1) := by decide +kernel
theorem dX5_init_138 : decode cX5_init 138 = .ok (.iload 4, 2) := by decide +kernel
theorem dX5_init_140 : decode cX5_init 140 = .ok (.putfield 47, 3) := by decide +kernel
theorem dX5_init_143 : decode cX5_init 143 = .ok (.return_, 1) := by decide +kernel
theorem dX5_possibleClips_0 : decode cX5_possibleClips 0 = .ok (.iconst 0, 1) := by decide +kernel
theorem dX5_possibleClips_1 : decode cX5_possibleClips 1 = .ok (.istore_n 2, 1) := by decide +kernel
theorem dX5_possibleClips_2 : decode cX5_possibleClips 2 = .ok (.iconst 0, 1) := by decide +kernel
theorem dX5_possibleClips_3 : decode cX5_possibleClips 3 = .ok (.istore_n 3, 1) := by decide +kernel
theorem dX5_possibleClips_4 : decode cX5_possibleClips 4 = .ok (.iload_n 3, 1) := by decide +kernel
theorem dX5_possibleClips_5 : decode cX5_possibleClips 5 = .ok (.aload_n 0, 1) := by decide +kernel
theorem dX5_possibleClips_6 : decode cX5_possibleClips 6 = .ok (.getfield 47, 3) := by decide +kernel
theorem dX5_possibleClips_9 : decode cX5_possibleClips 9 = .ok (.if_icmp .ge 35, 3) := by decide +kernel
theorem dX5_possibleClips_12 : decode cX5_possibleClips 12 = .ok (.iload_n 3, 1) := by decide +kernel
theorem dX5_possibleClips_13 : decode cX5_possibleClips 13 = .ok (.aload_n 0, 1) := by decide +kernel
theorem dX5_possibleClips_14 : decode cX5_possibleClips 14 = .ok (.getfield 11, 3) := by decide +kernel
theorem dX5_possibleClips_17 : decode cX5_possibleClips 17 = .ok (.arraylength, 1) := by decide +kernel
theorem dX5_possibleClips_18 : decode cX5_possibleClips 18 = .ok (.if_icmp .ge 26, 3) := by decide +kernel
theorem dX5_possibleClips_21 : decode cX5_possibleClips 21 = .ok (.iload_n 1, 1) := by decide +kernel
theorem dX5_possibleClips_22 : decode cX5_possibleClips 22 = .ok (.aload_n 0, 1) := by decide +kernel
theorem dX5_possibleClips_23 : decode cX5_possibleClips 23 = .ok (.getfield 11, 3) := by decide +kernel
theorem dX5_possibleClips_26 : decode cX5_possibleClips 26 = .ok (.iload_n 3, 1) := by decide +kernel
theorem dX5_possibleClips_27 : decode cX5_possibleClips 27 = .ok (.iaload, 1) := by decide +kernel
theorem dX5_possibleClips_28 : decode cX5_possibleClips 28 = .ok (.invokestatic 50, 3) := by decide +kernel
theorem dX5_possibleClips_31 : decode cX5_possibleClips 31 = .ok (.iload_n 1, 1) := by decide +kernel
theorem dX5_possibleClips_32 : decode cX5_possibleClips 32 = .ok (.if_icmp .eq 6, 3) := by decide +kernel
theorem dX5_possibleClips_35 : decode cX5_possibleClips 35 = .ok (.iinc 2 1, 3) := by decide +kernel
theorem dX5_possibleClips_38 : decode cX5_possibleClips 38 = .ok (.iinc 3 1, 3) := by decide +kernel
theorem dX5_possibleClips_41 : decode cX5_possibleClips 41 = .ok (.goto (-37), 3) := by decide +kernel
theorem dX5_possibleClips_44 : decode cX5_possibleClips 44 = .ok (.iload_n 2, 1) := by decide +kernel
theorem dX5_possibleClips_45 : decode cX5_possibleClips 45 = .ok (.ireturn, 1) := by decide +kernel
theorem dX5_bestClipOf_0 : decode cX5_bestClipOf 0 = .ok (.aload_n 0, 1) := by decide +kernel
theorem dX5_bestClipOf_1 : decode cX5_bestClipOf 1 = .ok (.iload_n 1, 1) := by decide +kernel
theorem dX5_bestClipOf_2 : decode cX5_bestClipOf 2 = .ok (.iconst 0, 1) := by decide +kernel
theorem dX5_bestClipOf_3 : decode cX5_bestClipOf 3 = .ok (.invokevirtual 53, 3) := by decide +kernel
theorem dX5_bestClipOf_6 : decode cX5_bestClipOf 6 = .ok (.istore_n 2, 1) := by decide +kernel
theorem dX5_bestClipOf_7 : decode cX5_bestClipOf 7 = .ok (.iconst 0, 1) := by decide +kernel
theorem dX5_bestClipOf_8 : decode cX5_bestClipOf 8 = .ok (.istore_n 3, 1) := by decide +kernel
theorem dX5_bestClipOf_9 : decode cX5_bestClipOf 9 = .ok (.iload_n 3, 1) := by decide +kernel
theorem dX5_bestClipOf_10 : decode cX5_bestClipOf 10 = .ok (.aload_n 0, 1) := by decide +kernel
theorem dX5_bestClipOf_11 : decode cX5_bestClipOf 11 = .ok (.getfield 47, 3) := by decide +kernel
theorem dX5_bestClipOf_14 : decode cX5_bestClipOf 14 = .ok (.if_icmp .ge 41, 3) := by decide +kernel
theorem dX5_bestClipOf_17 : decode cX5_bestClipOf 17 = .ok (.iload_n 3, 1) := by decide +kernel
theorem dX5_bestClipOf_18 : decode cX5_bestClipOf 18 = .ok (.aload_n 0, 1) := by decide +kernel
theorem dX5_bestClipOf_19 : decode cX5_bestClipOf 19 = .ok (.getfield 11, 3) := by decide +kernel
theorem dX5_bestClipOf_22 : decode cX5_bestClipOf 22 = .ok (.arraylength, 1) := by decide +kernel
theorem dX5_bestClipOf_23 : decode cX5_bestClipOf 23 = .ok (.if_icmp .ge 32, 3) := by decide +kernel
theorem dX5_bestClipOf_26 : decode cX5_bestClipOf 26 = .ok (.aload_n 0, 1) := by decide +kernel
theorem dX5_bestClipOf_27 : decode cX5_bestClipOf 27 = .ok (.iload_n 1, 1) := by decide +kernel
theorem dX5_bestClipOf_28 : decode cX5_bestClipOf 28 = .ok (.aload_n 0, 1) := by decide +kernel
theorem dX5_bestClipOf_29 : decode cX5_bestClipOf 29 = .ok (.getfield 11, 3) := by decide +kernel
theorem dX5_bestClipOf_32 : decode cX5_bestClipOf 32 = .ok (.iload_n 3, 1) := by decide +kernel
theorem dX5_bestClipOf_33 : decode cX5_bestClipOf 33 = .ok (.iaload, 1) := by decide +kernel
theorem dX5_bestClipOf_34 : decode cX5_bestClipOf 34 = .ok (.iconst 0, 1) := by decide +kernel
theorem dX5_bestClipOf_35 : decode cX5_bestClipOf 35 = .ok (.invokevirtual 56, 3) := by decide +kernel
theorem dX5_bestClipOf_38 : decode cX5_bestClipOf 38 = .ok (.iload_n 2, 1) := by decide +kernel
theorem dX5_bestClipOf_39 : decode cX5_bestClipOf 39 = .ok (.if_icmp .ne 10, 3) := by decide +kernel
theorem dX5_bestClipOf_42 : decode cX5_bestClipOf 42 = .ok (.aload_n 0, 1) := by decide +kernel
theorem dX5_bestClipOf_43 : decode cX5_bestClipOf 43 = .ok (.getfield 11, 3) := by decide +kernel
theorem dX5_bestClipOf_46 : decode cX5_bestClipOf 46 = .ok (.iload_n 3, 1) := by decide +kernel
theorem dX5_bestClipOf_47 : decode cX5_bestClipOf 47 = .ok (.iaload, 1) := by decide +kernel
theorem dX5_bestClipOf_48 : decode cX5_bestClipOf 48 = .ok (.ireturn, 1) := by decide +kernel
theorem dX5_bestClipOf_49 : decode cX5_bestClipOf 49 = .ok (.iinc 3 1, 3) := by decide +kernel
theorem dX5_bestClipOf_52 : decode cX5_bestClipOf 52 = .ok (.goto (-43), 3) := by decide +kernel
theorem dX5_bestClipOf_55 : decode cX5_bestClipOf 55 = .ok (.iconst (-1), 1) := by decide +kernel
theorem dX5_bestClipOf_56 : decode cX5_bestClipOf 56 = .ok (.ireturn, 1) := by decide +kernel
theorem dX5_countBestClips_0 : decode cX5_countBestClips 0 = .ok (.aload_n 0, 1) := by decide +kernel
theorem dX5_countBestClips_1 : decode cX5_countBestClips 1 = .ok (.iload_n 1, 1) := by decide +kernel
theorem dX5_countBestClips_2 : decode cX5_countBestClips 2 = .ok (.iconst 0, 1) := by decide +kernel
theorem dX5_countBestClips_3 : decode cX5_countBestClips 3 = .ok (.invokevirtual 53, 3) := by decide +kernel
theorem dX5_countBestClips_6 : decode cX5_countBestClips 6 = .ok (.istore_n 2, 1) := by decide +kernel
theorem dX5_countBestClips_7 : decode cX5_countBestClips 7 = .ok (.iconst 0, 1) := by decide +kernel
theorem dX5_countBestClips_8 : decode cX5_countBestClips 8 = .ok (.istore_n 3, 1) := by decide +kernel
theorem dX5_countBestClips_9 : decode cX5_countBestClips 9 = .ok (.iconst 0, 1) := by decide +kernel
theorem dX5_countBestClips_10 : decode cX5_countBestClips 10 = .ok (.istore 4, 2) := by decide +kernel
theorem dX5_countBestClips_12 : decode cX5_countBestClips 12 = .ok (.iload 4, 2) := by decide +kernel
theorem dX5_countBestClips_14 : decode cX5_countBestClips 14 = .ok (.aload_n 0, 1) := by decide +kernel
theorem dX5_countBestClips_15 : decode cX5_countBestClips 15 = .ok (.getfield 47, 3) := by decide +kernel
theorem dX5_countBestClips_18 : decode cX5_countBestClips 18 = .ok (.if_icmp .ge 39, 3) := by decide +kernel
theorem dX5_countBestClips_21 : decode cX5_countBestClips 21 = .ok (.iload 4, 2) := by decide +kernel
theorem dX5_countBestClips_23 : decode cX5_countBestClips 23 = .ok (.aload_n 0, 1) := by decide +kernel
theorem dX5_countBestClips_24 : decode cX5_countBestClips 24 = .ok (.getfield 11, 3) := by decide +kernel
theorem dX5_countBestClips_27 : decode cX5_countBestClips 27 = .ok (.arraylength, 1) := by decide +kernel
theorem dX5_countBestClips_28 : decode cX5_countBestClips 28 = .ok (.if_icmp .ge 29, 3) := by decide +kernel
theorem dX5_countBestClips_31 : decode cX5_countBestClips 31 = .ok (.aload_n 0, 1) := by decide +kernel
theorem dX5_countBestClips_32 : decode cX5_countBestClips 32 = .ok (.iload_n 1, 1) := by decide +kernel
theorem dX5_countBestClips_33 : decode cX5_countBestClips 33 = .ok (.aload_n 0, 1) := by decide +kernel
theorem dX5_countBestClips_34 : decode cX5_countBestClips 34 = .ok (.getfield 11, 3) := by decide +kernel
theorem dX5_countBestClips_37 : decode cX5_countBestClips 37 = .ok (.iload 4, 2) := by decide +kernel
theorem dX5_countBestClips_39 : decode cX5_countBestClips 39 = .ok (.iaload, 1) := by decide +kernel
theorem dX5_countBestClips_40 : decode cX5_countBestClips 40 = .ok (.iconst 0, 1) := by decide +kernel
theorem dX5_countBestClips_41 : decode cX5_countBestClips 41 = .ok (.invokevirtual 56, 3) := by decide +kernel
theorem dX5_countBestClips_44 : decode cX5_countBestClips 44 = .ok (.iload_n 2, 1) := by decide +kernel
theorem dX5_countBestClips_45 : decode cX5_countBestClips 45 = .ok (.if_icmp .ne 6, 3) := by decide +kernel
theorem dX5_countBestClips_48 : decode cX5_countBestClips 48 = .ok (.iinc 3 1, 3) := by decide +kernel
theorem dX5_countBestClips_51 : decode cX5_countBestClips 51 = .ok (.iinc 4 1, 3) := by decide +kernel
theorem dX5_countBestClips_54 : decode cX5_countBestClips 54 = .ok (.goto (-42), 3) := by decide +kernel
theorem dX5_countBestClips_57 : decode cX5_countBestClips 57 = .ok (.iload_n 3, 1) := by decide +kernel
theorem dX5_countBestClips_58 : decode cX5_countBestClips 58 = .ok (.ireturn, 1) := by decide +kernel
theorem dX5_behindBestClip_0 : decode cX5_behindBestClip 0 = .ok (.aload_n 0, 1) := by decide +kernel
theorem dX5_behindBestClip_1 : decode cX5_behindBestClip 1 = .ok (.iload_n 1, 1) := by decide +kernel
theorem dX5_behindBestClip_2 : decode cX5_behindBestClip 2 = .ok (.invokevirtual 59, 3) := by decide +kernel
theorem dX5_behindBestClip_5 : decode cX5_behindBestClip 5 = .ok (.istore_n 2, 1) := by decide +kernel
theorem dX5_behindBestClip_6 : decode cX5_behindBestClip 6 = .ok (.iload_n 2, 1) := by decide +kernel
theorem dX5_behindBestClip_7 : decode cX5_behindBestClip 7 = .ok (.iconst (-1), 1) := by decide +kernel
theorem dX5_behindBestClip_8 : decode cX5_behindBestClip 8 = .ok (.if_icmp .ne 7, 3) := by decide +kernel
theorem dX5_behindBestClip_11 : decode cX5_behindBestClip 11 = .ok (.iload_n 1, 1) := by decide +kernel
theorem dX5_behindBestClip_12 : decode cX5_behindBestClip 12 = .ok (.goto 19, 3) := by decide +kernel
theorem dX5_behindBestClip_15 : decode cX5_behindBestClip 15 = .ok (.iload_n 1, 1) := by decide +kernel
theorem dX5_behindBestClip_16 : decode cX5_behindBestClip 16 = .ok (.iload_n 2, 1) := by decide +kernel
theorem dX5_behindBestClip_17 : decode cX5_behindBestClip 17 = .ok (.invokestatic 50, 3) := by decide +kernel
theorem dX5_behindBestClip_20 : decode cX5_behindBestClip 20 = .ok (.aload_n 0, 1) := by decide +kernel
theorem dX5_behindBestClip_21 : decode cX5_behindBestClip 21 = .ok (.getfield 24, 3) := by decide +kernel
theorem dX5_behindBestClip_24 : decode cX5_behindBestClip 24 = .ok (.aload_n 0, 1) := by decide +kernel
theorem dX5_behindBestClip_25 : decode cX5_behindBestClip 25 = .ok (.getfield 28, 3) := by decide +kernel
theorem dX5_behindBestClip_28 : decode cX5_behindBestClip 28 = .ok (.invokestatic 62, 3) := by decide +kernel
theorem dX5_behindBestClip_31 : decode cX5_behindBestClip 31 = .ok (.ireturn, 1) := by decide +kernel
theorem dX5_worthAt_0 : decode cX5_worthAt 0 = .ok (.iload_n 1, 1) := by decide +kernel
theorem dX5_worthAt_1 : decode cX5_worthAt 1 = .ok (.ifCond .le 18, 3) := by decide +kernel
theorem dX5_worthAt_4 : decode cX5_worthAt 4 = .ok (.iload_n 1, 1) := by decide +kernel
theorem dX5_worthAt_5 : decode cX5_worthAt 5 = .ok (.aload_n 0, 1) := by decide +kernel
theorem dX5_worthAt_6 : decode cX5_worthAt 6 = .ok (.getfield 37, 3) := by decide +kernel
theorem dX5_worthAt_9 : decode cX5_worthAt 9 = .ok (.arraylength, 1) := by decide +kernel
theorem dX5_worthAt_10 : decode cX5_worthAt 10 = .ok (.if_icmp .ge 9, 3) := by decide +kernel
theorem dX5_worthAt_13 : decode cX5_worthAt 13 = .ok (.iload_n 2, 1) := by decide +kernel
theorem dX5_worthAt_14 : decode cX5_worthAt 14 = .ok (.bipush 18, 2) := by decide +kernel
theorem dX5_worthAt_16 : decode cX5_worthAt 16 = .ok (.if_icmp .le 5, 3) := by decide +kernel
theorem dX5_worthAt_19 : decode cX5_worthAt 19 = .ok (.iconst 0, 1) := by decide +kernel
theorem dX5_worthAt_20 : decode cX5_worthAt 20 = .ok (.ireturn, 1) := by decide +kernel
theorem dX5_worthAt_21 : decode cX5_worthAt 21 = .ok (.aload_n 0, 1) := by decide +kernel
theorem dX5_worthAt_22 : decode cX5_worthAt 22 = .ok (.getfield 37, 3) := by decide +kernel
theorem dX5_worthAt_25 : decode cX5_worthAt 25 = .ok (.iload_n 1, 1) := by decide +kernel
theorem dX5_worthAt_26 : decode cX5_worthAt 26 = .ok (.baload, 1) := by decide +kernel
theorem dX5_worthAt_27 : decode cX5_worthAt 27 = .ok (.ifCond .ne 63, 3) := by decide +kernel
theorem dX5_worthAt_30 : decode cX5_worthAt 30 = .ok (.bipush (-100), 2) := by decide +kernel
theorem dX5_worthAt_32 : decode cX5_worthAt 32 = .ok (.istore_n 3, 1) := by decide +kernel
theorem dX5_worthAt_33 : decode cX5_worthAt 33 = .ok (.iconst 0, 1) := by decide +kernel
theorem dX5_worthAt_34 : decode cX5_worthAt 34 = .ok (.istore 4, 2) := by decide +kernel
theorem dX5_worthAt_36 : decode cX5_worthAt 36 = .ok (.iload 4, 2) := by decide +kernel
theorem dX5_worthAt_38 : decode cX5_worthAt 38 = .ok (.aload_n 0, 1) := by decide +kernel
theorem dX5_worthAt_39 : decode cX5_worthAt 39 = .ok (.getfield 47, 3) := by decide +kernel
theorem dX5_worthAt_42 : decode cX5_worthAt 42 = .ok (.if_icmp .ge 37, 3) := by decide +kernel
theorem dX5_worthAt_45 : decode cX5_worthAt 45 = .ok (.iload 4, 2) := by decide +kernel
theorem dX5_worthAt_47 : decode cX5_worthAt 47 = .ok (.aload_n 0, 1) := by decide +kernel
theorem dX5_worthAt_48 : decode cX5_worthAt 48 = .ok (.getfield 11, 3) := by decide +kernel
theorem dX5_worthAt_51 : decode cX5_worthAt 51 = .ok (.arraylength, 1) := by decide +kernel
theorem dX5_worthAt_52 : decode cX5_worthAt 52 = .ok (.if_icmp .ge 27, 3) := by decide +kernel
theorem dX5_worthAt_55 : decode cX5_worthAt 55 = .ok (.iload_n 3, 1) := by decide +kernel
theorem dX5_worthAt_56 : decode cX5_worthAt 56 = .ok (.aload_n 0, 1) := by decide +kernel
theorem dX5_worthAt_57 : decode cX5_worthAt 57 = .ok (.iload_n 1, 1) := by decide +kernel
theorem dX5_worthAt_58 : decode cX5_worthAt 58 = .ok (.aload_n 0, 1) := by decide +kernel
theorem dX5_worthAt_59 : decode cX5_worthAt 59 = .ok (.getfield 11, 3) := by decide +kernel
theorem dX5_worthAt_62 : decode cX5_worthAt 62 = .ok (.iload 4, 2) := by decide +kernel
theorem dX5_worthAt_64 : decode cX5_worthAt 64 = .ok (.iaload, 1) := by decide +kernel
theorem dX5_worthAt_65 : decode cX5_worthAt 65 = .ok (.iload_n 2, 1) := by decide +kernel
theorem dX5_worthAt_66 : decode cX5_worthAt 66 = .ok (.invokevirtual 56, 3) := by decide +kernel
theorem dX5_worthAt_69 : decode cX5_worthAt 69 = .ok (.invokestatic 21, 3) := by decide +kernel
theorem dX5_worthAt_72 : decode cX5_worthAt 72 = .ok (.istore_n 3, 1) := by decide +kernel
theorem dX5_worthAt_73 : decode cX5_worthAt 73 = .ok (.iinc 4 1, 3) := by decide +kernel
theorem dX5_worthAt_76 : decode cX5_worthAt 76 = .ok (.goto (-40), 3) := by decide +kernel
theorem dX5_worthAt_79 : decode cX5_worthAt 79 = .ok (.aload_n 0, 1) := by decide +kernel
theorem dX5_worthAt_80 : decode cX5_worthAt 80 = .ok (.getfield 37, 3) := by decide +kernel
theorem dX5_worthAt_83 : decode cX5_worthAt 83 = .ok (.iload_n 1, 1) := by decide +kernel
theorem dX5_worthAt_84 : decode cX5_worthAt 84 = .ok (.iload_n 3, 1) := by decide +kernel
theorem dX5_worthAt_85 : decode cX5_worthAt 85 = .ok (.bipush 7, 2) := by decide +kernel
theorem dX5_worthAt_87 : decode cX5_worthAt 87 = .ok (.iadd, 1) := by decide +kernel
theorem dX5_worthAt_88 : decode cX5_worthAt 88 = .ok (.i2b, 1) := by decide +kernel
theorem dX5_worthAt_89 : decode cX5_worthAt 89 = .ok (.bastore, 1) := by decide +kernel
theorem dX5_worthAt_90 : decode cX5_worthAt 90 = .ok (.aload_n 0, 1) := by decide +kernel
theorem dX5_worthAt_91 : decode cX5_worthAt 91 = .ok (.getfield 37, 3) := by decide +kernel
theorem dX5_worthAt_94 : decode cX5_worthAt 94 = .ok (.iload_n 1, 1) := by decide +kernel
theorem dX5_worthAt_95 : decode cX5_worthAt 95 = .ok (.baload, 1) := by decide +kernel
theorem dX5_worthAt_96 : decode cX5_worthAt 96 = .ok (.bipush 7, 2) := by decide +kernel
theorem dX5_worthAt_98 : decode cX5_worthAt 98 = .ok (.isub, 1) := by decide +kernel
theorem dX5_worthAt_99 : decode cX5_worthAt 99 = .ok (.ireturn, 1) := by decide +kernel
theorem dX5_gainAt_0 : decode cX5_gainAt 0 = .ok (.iload_n 1, 1) := by decide +kernel
theorem dX5_gainAt_1 : decode cX5_gainAt 1 = .ok (.iload_n 2, 1) := by decide +kernel
theorem dX5_gainAt_2 : decode cX5_gainAt 2 = .ok (.invokestatic 50, 3) := by decide +kernel
theorem dX5_gainAt_5 : decode cX5_gainAt 5 = .ok (.istore 4, 2) := by decide +kernel
theorem dX5_gainAt_7 : decode cX5_gainAt 7 = .ok (.iload 4, 2) := by decide +kernel
theorem dX5_gainAt_9 : decode cX5_gainAt 9 = .ok (.iload_n 1, 1) := by decide +kernel
theorem dX5_gainAt_10 : decode cX5_gainAt 10 = .ok (.if_icmp .ne 6, 3) := by decide +kernel
theorem dX5_gainAt_13 : decode cX5_gainAt 13 = .ok (.bipush (-100), 2) := by decide +kernel
theorem dX5_gainAt_15 : decode cX5_gainAt 15 = .ok (.ireturn, 1) := by decide +kernel
theorem dX5_gainAt_16 : decode cX5_gainAt 16 = .ok (.iload 4, 2) := by decide +kernel
theorem dX5_gainAt_18 : decode cX5_gainAt 18 = .ok (.aload_n 0, 1) := by decide +kernel
theorem dX5_gainAt_19 : decode cX5_gainAt 19 = .ok (.getfield 24, 3) := by decide +kernel
theorem dX5_gainAt_22 : decode cX5_gainAt 22 = .ok (.aload_n 0, 1) := by decide +kernel
theorem dX5_gainAt_23 : decode cX5_gainAt 23 = .ok (.getfield 28, 3) := by decide +kernel
theorem dX5_gainAt_26 : decode cX5_gainAt 26 = .ok (.invokestatic 62, 3) := by decide +kernel
theorem dX5_gainAt_29 : decode cX5_gainAt 29 = .ok (.istore 5, 2) := by decide +kernel
theorem dX5_gainAt_31 : decode cX5_gainAt 31 = .ok (.aload_n 0, 1) := by decide +kernel
theorem dX5_gainAt_32 : decode cX5_gainAt 32 = .ok (.iload 5, 2) := by decide +kernel
theorem dX5_gainAt_34 : decode cX5_gainAt 34 = .ok (.iload_n 3, 1) := by decide +kernel
theorem dX5_gainAt_35 : decode cX5_gainAt 35 = .ok (.iconst 1, 1) := by decide +kernel
theorem dX5_gainAt_36 : decode cX5_gainAt 36 = .ok (.iadd, 1) := by decide +kernel
theorem dX5_gainAt_37 : decode cX5_gainAt 37 = .ok (.invokevirtual 53, 3) := by decide +kernel
theorem dX5_gainAt_40 : decode cX5_gainAt 40 = .ok (.ineg, 1) := by decide +kernel
theorem dX5_gainAt_41 : decode cX5_gainAt 41 = .ok (.iload_n 1, 1) := by decide +kernel
theorem dX5_gainAt_42 : decode cX5_gainAt 42 = .ok (.iload 5, 2) := by decide +kernel
theorem dX5_gainAt_44 : decode cX5_gainAt 44 = .ok (.invokestatic 65, 3) := by decide +kernel
theorem dX5_gainAt_47 : decode cX5_gainAt 47 = .ok (.isub, 1) := by decide +kernel
theorem dX5_gainAt_48 : decode cX5_gainAt 48 = .ok (.ireturn, 1) := by decide +kernel
theorem dX6_init_0 : decode cX6_init 0 = .ok (.aload_n 0, 1) := by decide +kernel
theorem dX6_init_1 : decode cX6_init 1 = .ok (.invokespecial 3, 3) := by decide +kernel
theorem dX6_init_4 : decode cX6_init 4 = .ok (.aload_n 0, 1) := by decide +kernel
theorem dX6_init_5 : decode cX6_init 5 = .ok (.bipush 45, 2) := by decide +kernel
theorem dX6_init_7 : decode cX6_init 7 = .ok (.anewarray 9, 3) := by decide +kernel
theorem dX6_init_10 : decode cX6_init 10 = .ok (.putfield 11, 3) := by decide +kernel
theorem dX6_init_13 : decode cX6_init 13 = .ok (.return_, 1) := by decide +kernel
theorem dX6_of_0 : decode cX6_of 0 = .ok (.aload_n 1, 1) := by decide +kernel
theorem dX6_of_1 : decode cX6_of 1 = .ok (.getfield 17, 3) := by decide +kernel
theorem dX6_of_4 : decode cX6_of 4 = .ok (.iconst 2, 1) := by decide +kernel
theorem dX6_of_5 : decode cX6_of 5 = .ok (.isub, 1) := by decide +kernel
theorem dX6_of_6 : decode cX6_of 6 = .ok (.iconst 3, 1) := by decide +kernel
theorem dX6_of_7 : decode cX6_of 7 = .ok (.imul, 1) := by decide +kernel
theorem dX6_of_8 : decode cX6_of 8 = .ok (.aload_n 1, 1) := by decide +kernel
theorem dX6_of_9 : decode cX6_of 9 = .ok (.getfield 23, 3) := by decide +kernel
theorem dX6_of_12 : decode cX6_of 12 = .ok (.iadd, 1) := by decide +kernel
theorem dX6_of_13 : decode cX6_of 13 = .ok (.iconst 3, 1) := by decide +kernel
theorem dX6_of_14 : decode cX6_of 14 = .ok (.imul, 1) := by decide +kernel
theorem dX6_of_15 : decode cX6_of 15 = .ok (.aload_n 1, 1) := by decide +kernel
theorem dX6_of_16 : decode cX6_of 16 = .ok (.getfield 26, 3) := by decide +kernel
theorem dX6_of_19 : decode cX6_of 19 = .ok (.iadd, 1) := by decide +kernel
theorem dX6_of_20 : decode cX6_of 20 = .ok (.iconst 1, 1) := by decide +kernel
theorem dX6_of_21 : decode cX6_of 21 = .ok (.isub, 1) := by decide +kernel
theorem dX6_of_22 : decode cX6_of 22 = .ok (.istore_n 2, 1) := by decide +kernel
theorem dX6_of_23 : decode cX6_of 23 = .ok (.iload_n 2, 1) := by decide +kernel
theorem dX6_of_24 : decode cX6_of 24 = .ok (.ifCond .lt 12, 3) := by decide +kernel
theorem dX6_of_27 : decode cX6_of 27 = .ok (.iload_n 2, 1) := by decide +kernel
theorem dX6_of_28 : decode cX6_of 28 = .ok (.aload_n 0, 1) := by decide +kernel
theorem dX6_of_29 : decode cX6_of 29 = .ok (.getfield 11, 3) := by decide +kernel
theorem dX6_of_32 : decode cX6_of 32 = .ok (.arraylength, 1) := by decide +kernel
theorem dX6_of_33 : decode cX6_of 33 = .ok (.if_icmp .lt 23, 3) := by decide +kernel
theorem dX6_of_36 : decode cX6_of 36 = .ok (.new 9, 3) := by decide +kernel
theorem dX6_of_39 : decode cX6_of 39 = .ok (.dup, 1) := by decide +kernel
theorem dX6_of_40 : decode cX6_of 40 = .ok (.aload_n 1, 1) := by decide +kernel
theorem dX6_of_41 : decode cX6_of 41 = .ok (.getfield 17, 3) := by decide +kernel
theorem dX6_of_44 : decode cX6_of 44 = .ok (.aload_n 1, 1) := by decide +kernel
theorem dX6_of_45 : decode cX6_of 45 = .ok (.getfield 23, 3) := by decide +kernel
theorem dX6_of_48 : decode cX6_of 48 = .ok (.aload_n 1, 1) := by decide +kernel
theorem dX6_of_49 : decode cX6_of 49 = .ok (.getfield 26, 3) := by decide +kernel
theorem dX6_of_52 : decode cX6_of 52 = .ok (.invokespecial 29, 3) := by decide +kernel
theorem dX6_of_55 : decode cX6_of 55 = .ok (.areturn, 1) := by decide +kernel
theorem dX6_of_56 : decode cX6_of 56 = .ok (.aload_n 0, 1) := by decide +kernel
theorem dX6_of_57 : decode cX6_of 57 = .ok (.getfield 11, 3) := by decide +kernel
theorem dX6_of_60 : decode cX6_of 60 = .ok (.iload_n 2, 1) := by decide +kernel
theorem dX6_of_61 : decode cX6_of 61 = .ok (.aaload, 1) := by decide +kernel
theorem dX6_of_62 : decode cX6_of 62 = .ok (.astore_n 3, 1) := by decide +kernel
theorem dX6_of_63 : decode cX6_of 63 = .ok (.aload_n 3, 1) := by decide +kernel
theorem dX6_of_64 : decode cX6_of 64 = .ok (.ifnonnull 30, 3) := by decide +kernel
theorem dX6_of_67 : decode cX6_of 67 = .ok (.new 9, 3) := by decide +kernel
theorem dX6_of_70 : decode cX6_of 70 = .ok (.dup, 1) := by decide +kernel
theorem dX6_of_71 : decode cX6_of 71 = .ok (.aload_n 1, 1) := by decide +kernel
theorem dX6_of_72 : decode cX6_of 72 = .ok (.getfield 17, 3) := by decide +kernel
theorem dX6_of_75 : decode cX6_of 75 = .ok (.aload_n 1, 1) := by decide +kernel
theorem dX6_of_76 : decode cX6_of 76 = .ok (.getfield 23, 3) := by decide +kernel
theorem dX6_of_79 : decode cX6_of 79 = .ok (.aload_n 1, 1) := by decide +kernel
theorem dX6_of_80 : decode cX6_of 80 = .ok (.getfield 26, 3) := by decide +kernel
theorem dX6_of_83 : decode cX6_of 83 = .ok (.invokespecial 29, 3) := by decide +kernel
theorem dX6_of_86 : decode cX6_of 86 = .ok (.astore_n 3, 1) := by decide +kernel
theorem dX6_of_87 : decode cX6_of 87 = .ok (.aload_n 0, 1) := by decide +kernel
theorem dX6_of_88 : decode cX6_of 88 = .ok (.getfield 11, 3) := by decide +kernel
theorem dX6_of_91 : decode cX6_of 91 = .ok (.iload_n 2, 1) := by decide +kernel
theorem dX6_of_92 : decode cX6_of 92 = .ok (.aload_n 3, 1) := by decide +kernel
theorem dX6_of_93 : decode cX6_of 93 = .ok (.aastore, 1) := by decide +kernel
theorem dX6_of_94 : decode cX6_of 94 = .ok (.aload_n 3, 1) := by decide +kernel
theorem dX6_of_95 : decode cX6_of 95 = .ok (.areturn, 1) := by decide +kernel
theorem dX7_init_0 : decode cX7_init 0 = .ok (.aload_n 0, 1) := by decide +kernel
theorem dX7_init_1 : decode cX7_init 1 = .ok (.invokespecial 3, 3) := by decide +kernel
theorem dX7_init_4 : decode cX7_init 4 = .ok (.aload_n 0, 1) := by decide +kernel
theorem dX7_init_5 : decode cX7_init 5 = .ok (.bipush 120, 2) := by decide +kernel
theorem dX7_init_7 : decode cX7_init 7 = .ok (.newarray .char, 2) := by decide +kernel
theorem dX7_init_9 : decode cX7_init 9 = .ok (.putfield 9, 3) := by decide +kernel
theorem dX7_init_12 : decode cX7_init 12 = .ok (.return_, 1) := by decide +kernel
theorem dX7_takes_0 : decode cX7_takes 0 = .ok (.aload_n 0, 1) := by decide +kernel
theorem dX7_takes_1 : decode cX7_takes 1 = .ok (.getfield 15, 3) := by decide +kernel
theorem dX7_takes_4 : decode cX7_takes 4 = .ok (.ifCond .lt 15, 3) := by decide +kernel
theorem dX7_takes_7 : decode cX7_takes 7 = .ok (.aload_n 0, 1) := by decide +kernel
theorem dX7_takes_8 : decode cX7_takes 8 = .ok (.getfield 15, 3) := by decide +kernel
theorem dX7_takes_11 : decode cX7_takes 11 = .ok (.aload_n 0, 1) := by decide +kernel
theorem dX7_takes_12 : decode cX7_takes 12 = .ok (.getfield 9, 3) := by decide +kernel
theorem dX7_takes_15 : decode cX7_takes 15 = .ok (.arraylength, 1) := by decide +kernel
theorem dX7_takes_16 : decode cX7_takes 16 = .ok (.if_icmp .lt 5, 3) := by decide +kernel
theorem dX7_takes_19 : decode cX7_takes 19 = .ok (.iconst 0, 1) := by decide +kernel
theorem dX7_takes_20 : decode cX7_takes 20 = .ok (.ireturn, 1) := by decide +kernel
theorem dX7_takes_21 : decode cX7_takes 21 = .ok (.aload_n 0, 1) := by decide +kernel
theorem dX7_takes_22 : decode cX7_takes 22 = .ok (.getfield 9, 3) := by decide +kernel
theorem dX7_takes_25 : decode cX7_takes 25 = .ok (.aload_n 0, 1) := by decide +kernel
theorem dX7_takes_26 : decode cX7_takes 26 = .ok (.getfield 15, 3) := by decide +kernel
theorem dX7_takes_29 : decode cX7_takes 29 = .ok (.iload_n 1, 1) := by decide +kernel
theorem dX7_takes_30 : decode cX7_takes 30 = .ok (.castore, 1) := by decide +kernel
theorem dX7_takes_31 : decode cX7_takes 31 = .ok (.aload_n 0, 1) := by decide +kernel
theorem dX7_takes_32 : decode cX7_takes 32 = .ok (.dup, 1) := by decide +kernel
theorem dX7_takes_33 : decode cX7_takes 33 = .ok (.getfield 15, 3) := by decide +kernel
theorem dX7_takes_36 : decode cX7_takes 36 = .ok (.iconst 1, 1) := by decide +kernel
theorem dX7_takes_37 : decode cX7_takes 37 = .ok (.iadd, 1) := by decide +kernel
theorem dX7_takes_38 : decode cX7_takes 38 = .ok (.putfield 15, 3) := by decide +kernel
theorem dX7_takes_41 : decode cX7_takes 41 = .ok (.iconst 1, 1) := by decide +kernel
theorem dX7_takes_42 : decode cX7_takes 42 = .ok (.ireturn, 1) := by decide +kernel
theorem dX7_at_0 : decode cX7_at 0 = .ok (.iload_n 1, 1) := by decide +kernel
theorem dX7_at_1 : decode cX7_at 1 = .ok (.ifCond .lt 29, 3) := by decide +kernel
theorem dX7_at_4 : decode cX7_at 4 = .ok (.iload_n 1, 1) := by decide +kernel
theorem dX7_at_5 : decode cX7_at 5 = .ok (.aload_n 0, 1) := by decide +kernel
theorem dX7_at_6 : decode cX7_at 6 = .ok (.getfield 15, 3) := by decide +kernel
theorem dX7_at_9 : decode cX7_at 9 = .ok (.if_icmp .ge 21, 3) := by decide +kernel
theorem dX7_at_12 : decode cX7_at 12 = .ok (.iload_n 1, 1) := by decide +kernel
theorem dX7_at_13 : decode cX7_at 13 = .ok (.aload_n 0, 1) := by decide +kernel
theorem dX7_at_14 : decode cX7_at 14 = .ok (.getfield 9, 3) := by decide +kernel
theorem dX7_at_17 : decode cX7_at 17 = .ok (.arraylength, 1) := by decide +kernel
theorem dX7_at_18 : decode cX7_at 18 = .ok (.if_icmp .ge 12, 3) := by decide +kernel
theorem dX7_at_21 : decode cX7_at 21 = .ok (.aload_n 0, 1) := by decide +kernel
theorem dX7_at_22 : decode cX7_at 22 = .ok (.getfield 9, 3) := by decide +kernel
theorem dX7_at_25 : decode cX7_at 25 = .ok (.iload_n 1, 1) := by decide +kernel
theorem dX7_at_26 : decode cX7_at 26 = .ok (.caload, 1) := by decide +kernel
theorem dX7_at_27 : decode cX7_at 27 = .ok (.goto 4, 3) := by decide +kernel
theorem dX7_at_30 : decode cX7_at 30 = .ok (.iconst (-1), 1) := by decide +kernel
theorem dX7_at_31 : decode cX7_at 31 = .ok (.ireturn, 1) := by decide +kernel
theorem dX7_digit_0 : decode cX7_digit 0 = .ok (.aload_n 0, 1) := by decide +kernel
theorem dX7_digit_1 : decode cX7_digit 1 = .ok (.iload_n 1, 1) := by decide +kernel
theorem dX7_digit_2 : decode cX7_digit 2 = .ok (.invokevirtual 19, 3) := by decide +kernel
theorem dX7_digit_5 : decode cX7_digit 5 = .ok (.bipush 48, 2) := by decide +kernel
theorem dX7_digit_7 : decode cX7_digit 7 = .ok (.isub, 1) := by decide +kernel
theorem dX7_digit_8 : decode cX7_digit 8 = .ok (.ireturn, 1) := by decide +kernel
theorem dX7_hasDigit_0 : decode cX7_hasDigit 0 = .ok (.aload_n 0, 1) := by decide +kernel
theorem dX7_hasDigit_1 : decode cX7_hasDigit 1 = .ok (.iload_n 1, 1) := by decide +kernel
theorem dX7_hasDigit_2 : decode cX7_hasDigit 2 = .ok (.invokevirtual 19, 3) := by decide +kernel
theorem dX7_hasDigit_5 : decode cX7_hasDigit 5 = .ok (.bipush 48, 2) := by decide +kernel
theorem dX7_hasDigit_7 : decode cX7_hasDigit 7 = .ok (.bipush 57, 2) := by decide +kernel
theorem dX7_hasDigit_9 : decode cX7_hasDigit 9 = .ok (.invokestatic 23, 3) := by decide +kernel
theorem dX7_hasDigit_12 : decode cX7_hasDigit 12 = .ok (.ireturn, 1) := by decide +kernel
theorem dX7_isBetween_0 : decode cX7_isBetween 0 = .ok (.iload_n 0, 1) := by decide +kernel
theorem dX7_isBetween_1 : decode cX7_isBetween 1 = .ok (.iload_n 1, 1) := by decide +kernel
theorem dX7_isBetween_2 : decode cX7_isBetween 2 = .ok (.if_icmp .lt 12, 3) := by decide +kernel
theorem dX7_isBetween_5 : decode cX7_isBetween 5 = .ok (.iload_n 0, 1) := by decide +kernel
theorem dX7_isBetween_6 : decode cX7_isBetween 6 = .ok (.iload_n 2, 1) := by decide +kernel
theorem dX7_isBetween_7 : decode cX7_isBetween 7 = .ok (.if_icmp .gt 7, 3) := by decide +kernel
theorem dX7_isBetween_10 : decode cX7_isBetween 10 = .ok (.iconst 1, 1) := by decide +kernel
theorem dX7_isBetween_11 : decode cX7_isBetween 11 = .ok (.goto 4, 3) := by decide +kernel
theorem dX7_isBetween_14 : decode cX7_isBetween 14 = .ok (.iconst 0, 1) := by decide +kernel
theorem dX7_isBetween_15 : decode cX7_isBetween 15 = .ok (.ireturn, 1) := by decide +kernel
theorem dX7_behindStems_0 : decode cX7_behindStems 0 = .ok (.iconst 1, 1) := by decide +kernel
theorem dX7_behindStems_1 : decode cX7_behindStems 1 = .ok (.istore_n 1, 1) := by decide +kernel
theorem dX7_behindStems_2 : decode cX7_behindStems 2 = .ok (.iload_n 1, 1) := by decide +kernel
theorem dX7_behindStems_3 : decode cX7_behindStems 3 = .ok (.bipush 6, 2) := by decide +kernel
theorem dX7_behindStems_5 : decode cX7_behindStems 5 = .ok (.if_icmp .gt 24, 3) := by decide +kernel
theorem dX7_behindStems_8 : decode cX7_behindStems 8 = .ok (.aload_n 0, 1) := by decide +kernel
theorem dX7_behindStems_9 : decode cX7_behindStems 9 = .ok (.iload_n 1, 1) := by decide +kernel
theorem dX7_behindStems_10 : decode cX7_behindStems 10 = .ok (.invokevirtual 19, 3) := by decide +kernel
theorem dX7_behindStems_13 : decode cX7_behindStems 13 = .ok (.bipush 48, 2) := by decide +kernel
theorem dX7_behindStems_15 : decode cX7_behindStems 15 = .ok (.bipush 51, 2) := by decide +kernel
theorem dX7_behindStems_17 : decode cX7_behindStems 17 = .ok (.invokestatic 23, 3) := by decide +kernel
theorem dX7_behindStems_20 : decode cX7_behindStems 20 = .ok (.ifCond .eq 9, 3) := by decide +kernel
theorem dX7_behindStems_23 : decode cX7_behindStems 23 = .ok (.iinc 1 1, 3) := by decide +kernel
theorem dX7_behindStems_26 : decode cX7_behindStems 26 = .ok (.goto (-24), 3) := by decide +kernel
theorem dX7_behindStems_29 : decode cX7_behindStems 29 = .ok (.iload_n 1, 1) := by decide +kernel
theorem dX7_behindStems_30 : decode cX7_behindStems 30 = .ok (.ireturn, 1) := by decide +kernel
theorem dX7_stems_0 : decode cX7_stems 0 = .ok (.aload_n 0, 1) := by decide +kernel
theorem dX7_stems_1 : decode cX7_stems 1 = .ok (.invokevirtual 27, 3) := by decide +kernel
theorem dX7_stems_4 : decode cX7_stems 4 = .ok (.iconst 1, 1) := by decide +kernel
theorem dX7_stems_5 : decode cX7_stems 5 = .ok (.isub, 1) := by decide +kernel
theorem dX7_stems_6 : decode cX7_stems 6 = .ok (.ireturn, 1) := by decide +kernel
theorem dX7_hedge_0 : decode cX7_hedge 0 = .ok (.iconst 0, 1) := by decide +kernel
theorem dX7_hedge_1 : decode cX7_hedge 1 = .ok (.istore_n 1, 1) := by decide +kernel
theorem dX7_hedge_2 : decode cX7_hedge 2 = .ok (.aload_n 0, 1) := by decide +kernel
theorem dX7_hedge_3 : decode cX7_hedge 3 = .ok (.invokevirtual 31, 3) := by decide +kernel
theorem dX7_hedge_6 : decode cX7_hedge 6 = .ok (.istore_n 2, 1) := by decide +kernel
theorem dX7_hedge_7 : decode cX7_hedge 7 = .ok (.iload_n 2, 1) := by decide +kernel
theorem dX7_hedge_8 : decode cX7_hedge 8 = .ok (.ifCond .le 19, 3) := by decide +kernel
theorem dX7_hedge_11 : decode cX7_hedge 11 = .ok (.iconst 4, 1) := by decide +kernel
theorem dX7_hedge_12 : decode cX7_hedge 12 = .ok (.iload_n 1, 1) := by decide +kernel
theorem dX7_hedge_13 : decode cX7_hedge 13 = .ok (.imul, 1) := by decide +kernel
theorem dX7_hedge_14 : decode cX7_hedge 14 = .ok (.aload_n 0, 1) := by decide +kernel
theorem dX7_hedge_15 : decode cX7_hedge 15 = .ok (.iload_n 2, 1) := by decide +kernel
theorem dX7_hedge_16 : decode cX7_hedge 16 = .ok (.invokevirtual 34, 3) := by decide +kernel
theorem dX7_hedge_19 : decode cX7_hedge 19 = .ok (.iadd, 1) := by decide +kernel
theorem dX7_hedge_20 : decode cX7_hedge 20 = .ok (.istore_n 1, 1) := by decide +kernel
theorem dX7_hedge_21 : decode cX7_hedge 21 = .ok (.iinc 2 (-1), 3) := by decide +kernel
theorem dX7_hedge_24 : decode cX7_hedge 24 = .ok (.goto (-17), 3) := by decide +kernel
theorem dX7_hedge_27 : decode cX7_hedge 27 = .ok (.iload_n 1, 1) := by decide +kernel
theorem dX7_hedge_28 : decode cX7_hedge 28 = .ok (.ireturn, 1) := by decide +kernel
theorem dX7_firstFault_0 : decode cX7_firstFault 0 = .ok (.aload_n 0, 1) := by decide +kernel
theorem dX7_firstFault_1 : decode cX7_firstFault 1 = .ok (.iconst 0, 1) := by decide +kernel
theorem dX7_firstFault_2 : decode cX7_firstFault 2 = .ok (.invokevirtual 19, 3) := by decide +kernel
theorem dX7_firstFault_5 : decode cX7_firstFault 5 = .ok (.bipush 72, 2) := by decide +kernel
theorem dX7_firstFault_7 : decode cX7_firstFault 7 = .ok (.if_icmp .eq 5, 3) := by decide +kernel
theorem dX7_firstFault_10 : decode cX7_firstFault 10 = .ok (.iconst 0, 1) := by decide +kernel
theorem dX7_firstFault_11 : decode cX7_firstFault 11 = .ok (.ireturn, 1) := by decide +kernel
theorem dX7_firstFault_12 : decode cX7_firstFault 12 = .ok (.aload_n 0, 1) := by decide +kernel
theorem dX7_firstFault_13 : decode cX7_firstFault 13 = .ok (.invokevirtual 27, 3) := by decide +kernel
theorem dX7_firstFault_16 : decode cX7_firstFault 16 = .ok (.istore_n 1, 1) := by decide +kernel
theorem dX7_firstFault_17 : decode cX7_firstFault 17 = .ok (.iload_n 1, 1) := by decide +kernel
theorem dX7_firstFault_18 : decode cX7_firstFault 18 = .ok (.iconst 2, 1) := by decide +kernel
theorem dX7_firstFault_19 : decode cX7_firstFault 19 = .ok (.if_icmp .gt 5, 3) := by decide +kernel
theorem dX7_firstFault_22 : decode cX7_firstFault 22 = .ok (.iload_n 1, 1) := by decide +kernel
theorem dX7_firstFault_23 : decode cX7_firstFault 23 = .ok (.ireturn, 1) := by decide +kernel
theorem dX7_firstFault_24 : decode cX7_firstFault 24 = .ok (.iload_n 1, 1) := by decide +kernel
theorem dX7_firstFault_25 : decode cX7_firstFault 25 = .ok (.aload_n 0, 1) := by decide +kernel
theorem dX7_firstFault_26 : decode cX7_firstFault 26 = .ok (.getfield 15, 3) := by decide +kernel
theorem dX7_firstFault_29 : decode cX7_firstFault 29 = .ok (.if_icmp .ge 32, 3) := by decide +kernel
theorem dX7_firstFault_32 : decode cX7_firstFault 32 = .ok (.aload_n 0, 1) := by decide +kernel
theorem dX7_firstFault_33 : decode cX7_firstFault 33 = .ok (.iload_n 1, 1) := by decide +kernel
theorem dX7_firstFault_34 : decode cX7_firstFault 34 = .ok (.invokevirtual 37, 3) := by decide +kernel
theorem dX7_firstFault_37 : decode cX7_firstFault 37 = .ok (.istore_n 2, 1) := by decide +kernel
theorem dX7_firstFault_38 : decode cX7_firstFault 38 = .ok (.iload_n 2, 1) := by decide +kernel
theorem dX7_firstFault_39 : decode cX7_firstFault 39 = .ok (.iconst (-1), 1) := by decide +kernel
theorem dX7_firstFault_40 : decode cX7_firstFault 40 = .ok (.if_icmp .eq 5, 3) := by decide +kernel
theorem dX7_firstFault_43 : decode cX7_firstFault 43 = .ok (.iload_n 2, 1) := by decide +kernel
theorem dX7_firstFault_44 : decode cX7_firstFault 44 = .ok (.ireturn, 1) := by decide +kernel
theorem dX7_firstFault_45 : decode cX7_firstFault 45 = .ok (.iload_n 1, 1) := by decide +kernel
theorem dX7_firstFault_46 : decode cX7_firstFault 46 = .ok (.iconst 1, 1) := by decide +kernel
theorem dX7_firstFault_47 : decode cX7_firstFault 47 = .ok (.aload_n 0, 1) := by decide +kernel
theorem dX7_firstFault_48 : decode cX7_firstFault 48 = .ok (.iload_n 1, 1) := by decide +kernel
theorem dX7_firstFault_49 : decode cX7_firstFault 49 = .ok (.invokevirtual 19, 3) := by decide +kernel
theorem dX7_firstFault_52 : decode cX7_firstFault 52 = .ok (.invokestatic 40, 3) := by decide +kernel
theorem dX7_firstFault_55 : decode cX7_firstFault 55 = .ok (.iadd, 1) := by decide +kernel
theorem dX7_firstFault_56 : decode cX7_firstFault 56 = .ok (.iadd, 1) := by decide +kernel
theorem dX7_firstFault_57 : decode cX7_firstFault 57 = .ok (.istore_n 1, 1) := by decide +kernel
theorem dX7_firstFault_58 : decode cX7_firstFault 58 = .ok (.goto (-34), 3) := by decide +kernel
theorem dX7_firstFault_61 : decode cX7_firstFault 61 = .ok (.iconst (-1), 1) := by decide +kernel
theorem dX7_firstFault_62 : decode cX7_firstFault 62 = .ok (.ireturn, 1) := by decide +kernel
theorem dX7_faultInCommand_0 : decode cX7_faultInCommand 0 = .ok (.aload_n 0, 1) := by decide +kernel
theorem dX7_faultInCommand_1 : decode cX7_faultInCommand 1 = .ok (.iload_n 1, 1) := by decide +kernel
theorem dX7_faultInCommand_2 : decode cX7_faultInCommand 2 = .ok (.invokevirtual 19, 3) := by decide +kernel
theorem dX7_faultInCommand_5 : decode cX7_faultInCommand 5 = .ok (.istore_n 2, 1) := by decide +kernel
theorem dX7_faultInCommand_6 : decode cX7_faultInCommand 6 = .ok (.iload_n 2, 1) := by decide +kernel
theorem dX7_faultInCommand_7 : decode cX7_faultInCommand 7 = .ok (.invokestatic 43, 3) := by decide +kernel
theorem dX7_faultInCommand_10 : decode cX7_faultInCommand 10 = .ok (.ifCond .ne 5, 3) := by decide +kernel
theorem dX7_faultInCommand_13 : decode cX7_faultInCommand 13 = .ok (.iload_n 1, 1) := by decide +kernel
theorem dX7_faultInCommand_14 : decode cX7_faultInCommand 14 = .ok (.ireturn, 1) := by decide +kernel
theorem dX7_faultInCommand_15 : decode cX7_faultInCommand 15 = .ok (.iload_n 2, 1) := by decide +kernel
theorem dX7_faultInCommand_16 : decode cX7_faultInCommand 16 = .ok (.invokestatic 40, 3) := by decide +kernel
theorem dX7_faultInCommand_19 : decode cX7_faultInCommand 19 = .ok (.istore_n 3, 1) := by decide +kernel
theorem dX7_faultInCommand_20 : decode cX7_faultInCommand 20 = .ok (.iconst 1, 1) := by decide +kernel
theorem dX7_faultInCommand_21 : decode cX7_faultInCommand 21 = .ok (.istore 4, 2) := by decide +kernel
theorem dX7_faultInCommand_23 : decode cX7_faultInCommand 23 = .ok (.iload 4, 2) := by decide +kernel
theorem dX7_faultInCommand_25 : decode cX7_faultInCommand 25 = .ok (.iload_n 3, 1) := by decide +kernel
theorem dX7_faultInCommand_26 : decode cX7_faultInCommand 26 = .ok (.if_icmp .gt 31, 3) := by decide +kernel
theorem dX7_faultInCommand_29 : decode cX7_faultInCommand 29 = .ok (.iload_n 2, 1) := by decide +kernel
theorem dX7_faultInCommand_30 : decode cX7_faultInCommand 30 = .ok (.iload 4, 2) := by decide +kernel
theorem dX7_faultInCommand_32 : decode cX7_faultInCommand 32 = .ok (.aload_n 0, 1) := by decide +kernel
theorem dX7_faultInCommand_33 : decode cX7_faultInCommand 33 = .ok (.iload_n 1, 1) := by decide +kernel
theorem dX7_faultInCommand_34 : decode cX7_faultInCommand 34 = .ok (.iload 4, 2) := by decide +kernel
theorem dX7_faultInCommand_36 : decode cX7_faultInCommand 36 = .ok (.iadd, 1) := by decide +kernel
theorem dX7_faultInCommand_37 : decode cX7_faultInCommand 37 = .ok (.invokevirtual 19, 3) := by decide +kernel
theorem dX7_faultInCommand_40 : decode cX7_faultInCommand 40 = .ok (.invokestatic 47, 3) := by decide +kernel
theorem dX7_faultInCommand_43 : decode cX7_faultInCommand 43 = .ok (.ifCond .ne 8, 3) := by decide +kernel
theorem dX7_faultInCommand_46 : decode cX7_faultInCommand 46 = .ok (.iload_n 1, 1) := by decide +kernel
theorem dX7_faultInCommand_47 : decode cX7_faultInCommand 47 = .ok (.iload 4, 2) := by decide +kernel
theorem dX7_faultInCommand_49 : decode cX7_faultInCommand 49 = .ok (.iadd, 1) := by decide +kernel
theorem dX7_faultInCommand_50 : decode cX7_faultInCommand 50 = .ok (.ireturn, 1) := by decide +kernel
theorem dX7_faultInCommand_51 : decode cX7_faultInCommand 51 = .ok (.iinc 4 1, 3) := by decide +kernel
theorem dX7_faultInCommand_54 : decode cX7_faultInCommand 54 = .ok (.goto (-31), 3) := by decide +kernel
theorem dX7_faultInCommand_57 : decode cX7_faultInCommand 57 = .ok (.iconst (-1), 1) := by decide +kernel
theorem dX7_faultInCommand_58 : decode cX7_faultInCommand 58 = .ok (.ireturn, 1) := by decide +kernel
theorem dX7_isCommand_0 : decode cX7_isCommand 0 = .ok (.iload_n 0, 1) := by decide +kernel
theorem dX7_isCommand_1 : decode cX7_isCommand 1 = .ok (.bipush 99, 2) := by decide +kernel
theorem dX7_isCommand_3 : decode cX7_isCommand 3 = .ok (.if_icmp .eq 27, 3) := by decide +kernel
theorem dX7_isCommand_6 : decode cX7_isCommand 6 = .ok (.iload_n 0, 1) := by decide +kernel
theorem dX7_isCommand_7 : decode cX7_isCommand 7 = .ok (.bipush 119, 2) := by decide +kernel
theorem dX7_isCommand_9 : decode cX7_isCommand 9 = .ok (.if_icmp .eq 21, 3) := by decide +kernel
theorem dX7_isCommand_12 : decode cX7_isCommand 12 = .ok (.iload_n 0, 1) := by decide +kernel
theorem dX7_isCommand_13 : decode cX7_isCommand 13 = .ok (.bipush 103, 2) := by decide +kernel
theorem dX7_isCommand_15 : decode cX7_isCommand 15 = .ok (.if_icmp .eq 15, 3) := by decide +kernel
theorem dX7_isCommand_18 : decode cX7_isCommand 18 = .ok (.iload_n 0, 1) := by decide +kernel
theorem dX7_isCommand_19 : decode cX7_isCommand 19 = .ok (.bipush 112, 2) := by decide +kernel
theorem dX7_isCommand_21 : decode cX7_isCommand 21 = .ok (.if_icmp .eq 9, 3) := by decide +kernel
theorem dX7_isCommand_24 : decode cX7_isCommand 24 = .ok (.iload_n 0, 1) := by decide +kernel
theorem dX7_isCommand_25 : decode cX7_isCommand 25 = .ok (.bipush 98, 2) := by decide +kernel
theorem dX7_isCommand_27 : decode cX7_isCommand 27 = .ok (.if_icmp .ne 7, 3) := by decide +kernel
theorem dX7_isCommand_30 : decode cX7_isCommand 30 = .ok (.iconst 1, 1) := by decide +kernel
theorem dX7_isCommand_31 : decode cX7_isCommand 31 = .ok (.goto 4, 3) := by decide +kernel
theorem dX7_isCommand_34 : decode cX7_isCommand 34 = .ok (.iconst 0, 1) := by decide +kernel
theorem dX7_isCommand_35 : decode cX7_isCommand 35 = .ok (.ireturn, 1) := by decide +kernel
theorem dX7_digitsBehind_0 : decode cX7_digitsBehind 0 = .ok (.iload_n 0, 1) := by decide +kernel
theorem dX7_digitsBehind_1 : decode cX7_digitsBehind 1 = .ok (.bipush 99, 2) := by decide +kernel
theorem dX7_digitsBehind_3 : decode cX7_digitsBehind 3 = .ok (.if_icmp .ne 5, 3) := by decide +kernel
theorem dX7_digitsBehind_6 : decode cX7_digitsBehind 6 = .ok (.iconst 3, 1) := by decide +kernel
theorem dX7_digitsBehind_7 : decode cX7_digitsBehind 7 = .ok (.ireturn, 1) := by decide +kernel
theorem dX7_digitsBehind_8 : decode cX7_digitsBehind 8 = .ok (.iload_n 0, 1) := by decide +kernel
theorem dX7_digitsBehind_9 : decode cX7_digitsBehind 9 = .ok (.bipush 119, 2) := by decide +kernel
theorem dX7_digitsBehind_11 : decode cX7_digitsBehind 11 = .ok (.if_icmp .eq 9, 3) := by decide +kernel
theorem dX7_digitsBehind_14 : decode cX7_digitsBehind 14 = .ok (.iload_n 0, 1) := by decide +kernel
theorem dX7_digitsBehind_15 : decode cX7_digitsBehind 15 = .ok (.bipush 103, 2) := by decide +kernel
theorem dX7_digitsBehind_17 : decode cX7_digitsBehind 17 = .ok (.if_icmp .ne 7, 3) := by decide +kernel
theorem dX7_digitsBehind_20 : decode cX7_digitsBehind 20 = .ok (.iconst 1, 1) := by decide +kernel
theorem dX7_digitsBehind_21 : decode cX7_digitsBehind 21 = .ok (.goto 4, 3) := by decide +kernel
theorem dX7_digitsBehind_24 : decode cX7_digitsBehind 24 = .ok (.iconst 0, 1) := by decide +kernel
theorem dX7_digitsBehind_25 : decode cX7_digitsBehind 25 = .ok (.ireturn, 1) := by decide +kernel
theorem dX7_allowsDigit_0 : decode cX7_allowsDigit 0 = .ok (.iload_n 0, 1) := by decide +kernel
theorem dX7_allowsDigit_1 : decode cX7_allowsDigit 1 = .ok (.bipush 103, 2) := by decide +kernel
theorem dX7_allowsDigit_3 : decode cX7_allowsDigit 3 = .ok (.if_icmp .ne 12, 3) := by decide +kernel
theorem dX7_allowsDigit_6 : decode cX7_allowsDigit 6 = .ok (.iload_n 2, 1) := by decide +kernel
theorem dX7_allowsDigit_7 : decode cX7_allowsDigit 7 = .ok (.bipush 48, 2) := by decide +kernel
theorem dX7_allowsDigit_9 : decode cX7_allowsDigit 9 = .ok (.bipush 50, 2) := by decide +kernel
theorem dX7_allowsDigit_11 : decode cX7_allowsDigit 11 = .ok (.invokestatic 23, 3) := by decide +kernel
theorem dX7_allowsDigit_14 : decode cX7_allowsDigit 14 = .ok (.ireturn, 1) := by decide +kernel
theorem dX7_allowsDigit_15 : decode cX7_allowsDigit 15 = .ok (.iload_n 0, 1) := by decide +kernel
theorem dX7_allowsDigit_16 : decode cX7_allowsDigit 16 = .ok (.bipush 99, 2) := by decide +kernel
theorem dX7_allowsDigit_18 : decode cX7_allowsDigit 18 = .ok (.if_icmp .ne 12, 3) := by decide +kernel
theorem dX7_allowsDigit_21 : decode cX7_allowsDigit 21 = .ok (.iload_n 1, 1) := by decide +kernel
theorem dX7_allowsDigit_22 : decode cX7_allowsDigit 22 = .ok (.iconst 3, 1) := by decide +kernel
theorem dX7_allowsDigit_23 : decode cX7_allowsDigit 23 = .ok (.if_icmp .ne 7, 3) := by decide +kernel
theorem dX7_allowsDigit_26 : decode cX7_allowsDigit 26 = .ok (.iconst 1, 1) := by decide +kernel
theorem dX7_allowsDigit_27 : decode cX7_allowsDigit 27 = .ok (.goto 4, 3) := by decide +kernel
theorem dX7_allowsDigit_30 : decode cX7_allowsDigit 30 = .ok (.iconst 0, 1) := by decide +kernel
theorem dX7_allowsDigit_31 : decode cX7_allowsDigit 31 = .ok (.istore_n 3, 1) := by decide +kernel
theorem dX7_allowsDigit_32 : decode cX7_allowsDigit 32 = .ok (.iload_n 3, 1) := by decide +kernel
theorem dX7_allowsDigit_33 : decode cX7_allowsDigit 33 = .ok (.ifCond .eq 14, 3) := by decide +kernel
theorem dX7_allowsDigit_36 : decode cX7_allowsDigit 36 = .ok (.iload_n 2, 1) := by decide +kernel
theorem dX7_allowsDigit_37 : decode cX7_allowsDigit 37 = .ok (.bipush 49, 2) := by decide +kernel
theorem dX7_allowsDigit_39 : decode cX7_allowsDigit 39 = .ok (.bipush 51, 2) := by decide +kernel
theorem dX7_allowsDigit_41 : decode cX7_allowsDigit 41 = .ok (.invokestatic 23, 3) := by decide +kernel
theorem dX7_allowsDigit_44 : decode cX7_allowsDigit 44 = .ok (.goto 11, 3) := by decide +kernel
theorem dX7_allowsDigit_47 : decode cX7_allowsDigit 47 = .ok (.iload_n 2, 1) := by decide +kernel
theorem dX7_allowsDigit_48 : decode cX7_allowsDigit 48 = .ok (.bipush 48, 2) := by decide +kernel
theorem dX7_allowsDigit_50 : decode cX7_allowsDigit 50 = .ok (.bipush 53, 2) := by decide +kernel
theorem dX7_allowsDigit_52 : decode cX7_allowsDigit 52 = .ok (.invokestatic 23, 3) := by decide +kernel
theorem dX7_allowsDigit_55 : decode cX7_allowsDigit 55 = .ok (.ireturn, 1) := by decide +kernel
theorem dX8_init_0 : decode cX8_init 0 = .ok (.aload_n 0, 1) := by decide +kernel
theorem dX8_init_1 : decode cX8_init 1 = .ok (.invokespecial 3, 3) := by decide +kernel
theorem dX8_init_4 : decode cX8_init 4 = .ok (.aload_n 0, 1) := by decide +kernel
theorem dX8_init_5 : decode cX8_init 5 = .ok (.new 9, 3) := by decide +kernel
theorem dX8_init_8 : decode cX8_init 8 = .ok (.dup, 1) := by decide +kernel
theorem dX8_init_9 : decode cX8_init 9 = .ok (.invokespecial 11, 3) := by decide +kernel
theorem dX8_init_12 : decode cX8_init 12 = .ok (.putfield 12, 3) := by decide +kernel
theorem dX8_init_15 : decode cX8_init 15 = .ok (.aload_n 0, 1) := by decide +kernel
theorem dX8_init_16 : decode cX8_init 16 = .ok (.new 9, 3) := by decide +kernel
theorem dX8_init_19 : decode cX8_init 19 = .ok (.dup, 1) := by decide +kernel
theorem dX8_init_20 : decode cX8_init 20 = .ok (.invokespecial 11, 3) := by decide +kernel
theorem dX8_init_23 : decode cX8_init 23 = .ok (.putfield 16, 3) := by decide +kernel
theorem dX8_init_26 : decode cX8_init 26 = .ok (.aload_n 0, 1) := by decide +kernel
theorem dX8_init_27 : decode cX8_init 27 = .ok (.new 19, 3) := by decide +kernel
theorem dX8_init_30 : decode cX8_init 30 = .ok (.dup, 1) := by decide +kernel
theorem dX8_init_31 : decode cX8_init 31 = .ok (.invokespecial 21, 3) := by decide +kernel
theorem dX8_init_34 : decode cX8_init 34 = .ok (.putfield 22, 3) := by decide +kernel
theorem dX8_init_37 : decode cX8_init 37 = .ok (.aload_n 0, 1) := by decide +kernel
theorem dX8_init_38 : decode cX8_init 38 = .ok (.iconst 2, 1) := by decide +kernel
theorem dX8_init_39 : decode cX8_init 39 = .ok (.anewarray 9, 3) := by decide +kernel
theorem dX8_init_42 : decode cX8_init 42 = .ok (.putfield 26, 3) := by decide +kernel
theorem dX8_init_45 : decode cX8_init 45 = .ok (.aload_n 0, 1) := by decide +kernel
theorem dX8_init_46 : decode cX8_init 46 = .ok (.new 30, 3) := by decide +kernel
theorem dX8_init_49 : decode cX8_init 49 = .ok (.dup, 1) := by decide +kernel
theorem dX8_init_50 : decode cX8_init 50 = .ok (.invokespecial 32, 3) := by decide +kernel
theorem dX8_init_53 : decode cX8_init 53 = .ok (.putfield 33, 3) := by decide +kernel
theorem dX8_init_56 : decode cX8_init 56 = .ok (.aload_n 0, 1) := by decide +kernel
theorem dX8_init_57 : decode cX8_init 57 = .ok (.new 37, 3) := by decide +kernel
theorem dX8_init_60 : decode cX8_init 60 = .ok (.dup, 1) := by decide +kernel
theorem dX8_init_61 : decode cX8_init 61 = .ok (.invokespecial 39, 3) := by decide +kernel
theorem dX8_init_64 : decode cX8_init 64 = .ok (.putfield 40, 3) := by decide +kernel
theorem dX8_init_67 : decode cX8_init 67 = .ok (.return_, 1) := by decide +kernel
theorem dX8_append_0 : decode cX8_append 0 = .ok (.iload_n 1, 1) := by decide +kernel
theorem dX8_append_1 : decode cX8_append 1 = .ok (.ifCond .lt 10, 3) := by decide +kernel
theorem dX8_append_4 : decode cX8_append 4 = .ok (.iload_n 1, 1) := by decide +kernel
theorem dX8_append_5 : decode cX8_append 5 = .ok (.sipush 255, 3) := by decide +kernel
theorem dX8_append_8 : decode cX8_append 8 = .ok (.if_icmp .le 13, 3) := by decide +kernel
theorem dX8_append_11 : decode cX8_append 11 = .ok (.new 44, 3) := by decide +kernel
theorem dX8_append_14 : decode cX8_append 14 = .ok (.dup, 1) := by decide +kernel
theorem dX8_append_15 : decode cX8_append 15 = .ok (.ldc 46, 2) := by decide +kernel
theorem dX8_append_17 : decode cX8_append 17 = .ok (.invokespecial 48, 3) := by decide +kernel
theorem dX8_append_20 : decode cX8_append 20 = .ok (.athrow, 1) := by decide +kernel
theorem dX8_append_21 : decode cX8_append 21 = .ok (.aload_n 0, 1) := by decide +kernel
theorem dX8_append_22 : decode cX8_append 22 = .ok (.getfield 33, 3) := by decide +kernel
theorem dX8_append_25 : decode cX8_append 25 = .ok (.iload_n 1, 1) := by decide +kernel
theorem dX8_append_26 : decode cX8_append 26 = .ok (.i2c, 1) := by decide +kernel
theorem dX8_append_27 : decode cX8_append 27 = .ok (.invokevirtual 51, 3) := by decide +kernel
theorem dX8_append_30 : decode cX8_append 30 = .ok (.ifCond .ne 13, 3) := by decide +kernel
theorem dX8_append_33 : decode cX8_append 33 = .ok (.new 55, 3) := by decide +kernel
theorem dX8_append_36 : decode cX8_append 36 = .ok (.dup, 1) := by decide +kernel
theorem dX8_append_37 : decode cX8_append 37 = .ok (.ldc 57, 2) := by decide +kernel
theorem dX8_append_39 : decode cX8_append 39 = .ok (.invokespecial 59, 3) := by decide +kernel
theorem dX8_append_42 : decode cX8_append 42 = .ok (.athrow, 1) := by decide +kernel
theorem dX8_append_43 : decode cX8_append 43 = .ok (.aload_n 0, 1) := by decide +kernel
theorem dX8_append_44 : decode cX8_append 44 = .ok (.getfield 33, 3) := by decide +kernel
theorem dX8_append_47 : decode cX8_append 47 = .ok (.getfield 60, 3) := by decide +kernel
theorem dX8_append_50 : decode cX8_append 50 = .ok (.ireturn, 1) := by decide +kernel
theorem dX8_load_0 : decode cX8_load 0 = .ok (.aload_n 0, 1) := by decide +kernel
theorem dX8_load_1 : decode cX8_load 1 = .ok (.getfield 33, 3) := by decide +kernel
theorem dX8_load_4 : decode cX8_load 4 = .ok (.invokevirtual 64, 3) := by decide +kernel
theorem dX8_load_7 : decode cX8_load 7 = .ok (.iconst (-1), 1) := by decide +kernel
theorem dX8_load_8 : decode cX8_load 8 = .ok (.if_icmp .eq 13, 3) := by decide +kernel
theorem dX8_load_11 : decode cX8_load 11 = .ok (.new 55, 3) := by decide +kernel
theorem dX8_load_14 : decode cX8_load 14 = .ok (.dup, 1) := by decide +kernel
theorem dX8_load_15 : decode cX8_load 15 = .ok (.ldc 68, 2) := by decide +kernel
theorem dX8_load_17 : decode cX8_load 17 = .ok (.invokespecial 59, 3) := by decide +kernel
theorem dX8_load_20 : decode cX8_load 20 = .ok (.athrow, 1) := by decide +kernel
theorem dX8_load_21 : decode cX8_load 21 = .ok (.aload_n 0, 1) := by decide +kernel
theorem dX8_load_22 : decode cX8_load 22 = .ok (.getfield 12, 3) := by decide +kernel
theorem dX8_load_25 : decode cX8_load 25 = .ok (.aload_n 0, 1) := by decide +kernel
theorem dX8_load_26 : decode cX8_load 26 = .ok (.getfield 33, 3) := by decide +kernel
theorem dX8_load_29 : decode cX8_load 29 = .ok (.invokevirtual 70, 3) := by decide +kernel
theorem dX8_load_32 : decode cX8_load 32 = .ok (.aload_n 0, 1) := by decide +kernel
theorem dX8_load_33 : decode cX8_load 33 = .ok (.getfield 33, 3) := by decide +kernel
theorem dX8_load_36 : decode cX8_load 36 = .ok (.invokevirtual 73, 3) := by decide +kernel
theorem dX8_load_39 : decode cX8_load 39 = .ok (.invokevirtual 76, 3) := by decide +kernel
theorem dX8_load_42 : decode cX8_load 42 = .ok (.aload_n 0, 1) := by decide +kernel
theorem dX8_load_43 : decode cX8_load 43 = .ok (.getfield 22, 3) := by decide +kernel
theorem dX8_load_46 : decode cX8_load 46 = .ok (.invokevirtual 80, 3) := by decide +kernel
theorem dX8_load_49 : decode cX8_load 49 = .ok (.iconst 0, 1) := by decide +kernel
theorem dX8_load_50 : decode cX8_load 50 = .ok (.istore_n 1, 1) := by decide +kernel
theorem dX8_load_51 : decode cX8_load 51 = .ok (.iload_n 1, 1) := by decide +kernel
theorem dX8_load_52 : decode cX8_load 52 = .ok (.aload_n 0, 1) := by decide +kernel
theorem dX8_load_53 : decode cX8_load 53 = .ok (.getfield 26, 3) := by decide +kernel
theorem dX8_load_56 : decode cX8_load 56 = .ok (.arraylength, 1) := by decide +kernel
theorem dX8_load_57 : decode cX8_load 57 = .ok (.if_icmp .ge 16, 3) := by decide +kernel
theorem dX8_load_60 : decode cX8_load 60 = .ok (.aload_n 0, 1) := by decide +kernel
theorem dX8_load_61 : decode cX8_load 61 = .ok (.getfield 26, 3) := by decide +kernel
theorem dX8_load_64 : decode cX8_load 64 = .ok (.iload_n 1, 1) := by decide +kernel
theorem dX8_load_65 : decode cX8_load 65 = .ok (.aconst_null, 1) := by decide +kernel
theorem dX8_load_66 : decode cX8_load 66 = .ok (.aastore, 1) := by decide +kernel
theorem dX8_load_67 : decode cX8_load 67 = .ok (.iinc 1 1, 3) := by decide +kernel
theorem dX8_load_70 : decode cX8_load 70 = .ok (.goto (-19), 3) := by decide +kernel
theorem dX8_load_73 : decode cX8_load 73 = .ok (.iconst 0, 1) := by decide +kernel
theorem dX8_load_74 : decode cX8_load 74 = .ok (.istore_n 1, 1) := by decide +kernel
theorem dX8_load_75 : decode cX8_load 75 = .ok (.iconst 1, 1) := by decide +kernel
theorem dX8_load_76 : decode cX8_load 76 = .ok (.istore_n 2, 1) := by decide +kernel
theorem dX8_load_77 : decode cX8_load 77 = .ok (.iload_n 2, 1) := by decide +kernel
theorem dX8_load_78 : decode cX8_load 78 = .ok (.aload_n 0, 1) := by decide +kernel
theorem dX8_load_79 : decode cX8_load 79 = .ok (.getfield 33, 3) := by decide +kernel
theorem dX8_load_82 : decode cX8_load 82 = .ok (.getfield 60, 3) := by decide +kernel
theorem dX8_load_85 : decode cX8_load 85 = .ok (.if_icmp .ge 31, 3) := by decide +kernel
theorem dX8_load_88 : decode cX8_load 88 = .ok (.aload_n 0, 1) := by decide +kernel
theorem dX8_load_89 : decode cX8_load 89 = .ok (.getfield 33, 3) := by decide +kernel
theorem dX8_load_92 : decode cX8_load 92 = .ok (.iload_n 2, 1) := by decide +kernel
theorem dX8_load_93 : decode cX8_load 93 = .ok (.invokevirtual 83, 3) := by decide +kernel
theorem dX8_load_96 : decode cX8_load 96 = .ok (.ifCond .ne 14, 3) := by decide +kernel
theorem dX8_load_99 : decode cX8_load 99 = .ok (.aload_n 0, 1) := by decide +kernel
theorem dX8_load_100 : decode cX8_load 100 = .ok (.iload_n 2, 1) := by decide +kernel
theorem dX8_load_101 : decode cX8_load 101 = .ok (.invokevirtual 87, 3) := by decide +kernel
theorem dX8_load_104 : decode cX8_load 104 = .ok (.ifCond .ne 6, 3) := by decide +kernel
theorem dX8_load_107 : decode cX8_load 107 = .ok (.iinc 1 1, 3) := by decide +kernel
theorem dX8_load_110 : decode cX8_load 110 = .ok (.iinc 2 1, 3) := by decide +kernel
theorem dX8_load_113 : decode cX8_load 113 = .ok (.goto (-36), 3) := by decide +kernel
theorem dX8_load_116 : decode cX8_load 116 = .ok (.iload_n 1, 1) := by decide +kernel
theorem dX8_load_117 : decode cX8_load 117 = .ok (.ireturn, 1) := by decide +kernel
theorem dX8_obeyCommand_0 : decode cX8_obeyCommand 0 = .ok (.aload_n 0, 1) := by decide +kernel
theorem dX8_obeyCommand_1 : decode cX8_obeyCommand 1 = .ok (.getfield 33, 3) := by decide +kernel
theorem dX8_obeyCommand_4 : decode cX8_obeyCommand 4 = .ok (.iload_n 1, 1) := by decide +kernel
theorem dX8_obeyCommand_5 : decode cX8_obeyCommand 5 = .ok (.invokevirtual 90, 3) := by decide +kernel
theorem dX8_obeyCommand_8 : decode cX8_obeyCommand 8 = .ok (.lookupswitch 144 #[(98, 135), (99, 52), (103, 108), (112, 126), (119, 90)], 52) := by decide +kernel
theorem dX8_obeyCommand_60 : decode cX8_obeyCommand 60 = .ok (.aload_n 0, 1) := by decide +kernel
theorem dX8_obeyCommand_61 : decode cX8_obeyCommand 61 = .ok (.getfield 12, 3) := by decide +kernel
theorem dX8_obeyCommand_64 : decode cX8_obeyCommand 64 = .ok (.aload_n 0, 1) := by decide +kernel
theorem dX8_obeyCommand_65 : decode cX8_obeyCommand 65 = .ok (.getfield 33, 3) := by decide +kernel
theorem dX8_obeyCommand_68 : decode cX8_obeyCommand 68 = .ok (.iload_n 1, 1) := by decide +kernel
theorem dX8_obeyCommand_69 : decode cX8_obeyCommand 69 = .ok (.iconst 1, 1) := by decide +kernel
theorem dX8_obeyCommand_70 : decode cX8_obeyCommand 70 = .ok (.iadd, 1) := by decide +kernel
theorem dX8_obeyCommand_71 : decode cX8_obeyCommand 71 = .ok (.invokevirtual 94, 3) := by decide +kernel
theorem dX8_obeyCommand_74 : decode cX8_obeyCommand 74 = .ok (.aload_n 0, 1) := by decide +kernel
theorem dX8_obeyCommand_75 : decode cX8_obeyCommand 75 = .ok (.getfield 33, 3) := by decide +kernel
theorem dX8_obeyCommand_78 : decode cX8_obeyCommand 78 = .ok (.iload_n 1, 1) := by decide +kernel
theorem dX8_obeyCommand_79 : decode cX8_obeyCommand 79 = .ok (.iconst 2, 1) := by decide +kernel
theorem dX8_obeyCommand_80 : decode cX8_obeyCommand 80 = .ok (.iadd, 1) := by decide +kernel
theorem dX8_obeyCommand_81 : decode cX8_obeyCommand 81 = .ok (.invokevirtual 94, 3) := by decide +kernel
theorem dX8_obeyCommand_84 : decode cX8_obeyCommand 84 = .ok (.aload_n 0, 1) := by decide +kernel
theorem dX8_obeyCommand_85 : decode cX8_obeyCommand 85 = .ok (.getfield 33, 3) := by decide +kernel
theorem dX8_obeyCommand_88 : decode cX8_obeyCommand 88 = .ok (.iload_n 1, 1) := by decide +kernel
theorem dX8_obeyCommand_89 : decode cX8_obeyCommand 89 = .ok (.iconst 3, 1) := by decide +kernel
theorem dX8_obeyCommand_90 : decode cX8_obeyCommand 90 = .ok (.iadd, 1) := by decide +kernel
theorem dX8_obeyCommand_91 : decode cX8_obeyCommand 91 = .ok (.invokevirtual 94, 3) := by decide +kernel
theorem dX8_obeyCommand_94 : decode cX8_obeyCommand 94 = .ok (.invokevirtual 97, 3) := by decide +kernel
theorem dX8_obeyCommand_97 : decode cX8_obeyCommand 97 = .ok (.ireturn, 1) := by decide +kernel
theorem dX8_obeyCommand_98 : decode cX8_obeyCommand 98 = .ok (.aload_n 0, 1) := by decide +kernel
theorem dX8_obeyCommand_99 : decode cX8_obeyCommand 99 = .ok (.getfield 12, 3) := by decide +kernel
theorem dX8_obeyCommand_102 : decode cX8_obeyCommand 102 = .ok (.aload_n 0, 1) := by decide +kernel
theorem dX8_obeyCommand_103 : decode cX8_obeyCommand 103 = .ok (.getfield 33, 3) := by decide +kernel
theorem dX8_obeyCommand_106 : decode cX8_obeyCommand 106 = .ok (.iload_n 1, 1) := by decide +kernel
theorem dX8_obeyCommand_107 : decode cX8_obeyCommand 107 = .ok (.iconst 1, 1) := by decide +kernel
theorem dX8_obeyCommand_108 : decode cX8_obeyCommand 108 = .ok (.iadd, 1) := by decide +kernel
theorem dX8_obeyCommand_109 : decode cX8_obeyCommand 109 = .ok (.invokevirtual 94, 3) := by decide +kernel
theorem dX8_obeyCommand_112 : decode cX8_obeyCommand 112 = .ok (.invokevirtual 101, 3) := by decide +kernel
theorem dX8_obeyCommand_115 : decode cX8_obeyCommand 115 = .ok (.ireturn, 1) := by decide +kernel
theorem dX8_obeyCommand_116 : decode cX8_obeyCommand 116 = .ok (.aload_n 0, 1) := by decide +kernel
theorem dX8_obeyCommand_117 : decode cX8_obeyCommand 117 = .ok (.getfield 12, 3) := by decide +kernel
theorem dX8_obeyCommand_120 : decode cX8_obeyCommand 120 = .ok (.aload_n 0, 1) := by decide +kernel
theorem dX8_obeyCommand_121 : decode cX8_obeyCommand 121 = .ok (.getfield 33, 3) := by decide +kernel
theorem dX8_obeyCommand_124 : decode cX8_obeyCommand 124 = .ok (.iload_n 1, 1) := by decide +kernel
theorem dX8_obeyCommand_125 : decode cX8_obeyCommand 125 = .ok (.iconst 1, 1) := by decide +kernel
theorem dX8_obeyCommand_126 : decode cX8_obeyCommand 126 = .ok (.iadd, 1) := by decide +kernel
theorem dX8_obeyCommand_127 : decode cX8_obeyCommand 127 = .ok (.invokevirtual 94, 3) := by decide +kernel
theorem dX8_obeyCommand_130 : decode cX8_obeyCommand 130 = .ok (.invokevirtual 104, 3) := by decide +kernel
theorem dX8_obeyCommand_133 : decode cX8_obeyCommand 133 = .ok (.ireturn, 1) := by decide +kernel
theorem dX8_obeyCommand_134 : decode cX8_obeyCommand 134 = .ok (.aload_n 0, 1) := by decide +kernel
theorem dX8_obeyCommand_135 : decode cX8_obeyCommand 135 = .ok (.getfield 12, 3) := by decide +kernel
theorem dX8_obeyCommand_138 : decode cX8_obeyCommand 138 = .ok (.invokevirtual 107, 3) := by decide +kernel
theorem dX8_obeyCommand_141 : decode cX8_obeyCommand 141 = .ok (.iconst 1, 1) := by decide +kernel
theorem dX8_obeyCommand_142 : decode cX8_obeyCommand 142 = .ok (.ireturn, 1) := by decide +kernel
theorem dX8_obeyCommand_143 : decode cX8_obeyCommand 143 = .ok (.aload_n 0, 1) := by decide +kernel
theorem dX8_obeyCommand_144 : decode cX8_obeyCommand 144 = .ok (.aload_n 0, 1) := by decide +kernel
theorem dX8_obeyCommand_145 : decode cX8_obeyCommand 145 = .ok (.getfield 12, 3) := by decide +kernel
theorem dX8_obeyCommand_148 : decode cX8_obeyCommand 148 = .ok (.invokevirtual 110, 3) := by decide +kernel
theorem dX8_obeyCommand_151 : decode cX8_obeyCommand 151 = .ok (.ireturn, 1) := by decide +kernel
theorem dX8_obeyCommand_152 : decode cX8_obeyCommand 152 = .ok (.iconst 0, 1) := by decide +kernel
theorem dX8_obeyCommand_153 : decode cX8_obeyCommand 153 = .ok (.ireturn, 1) := by decide +kernel
theorem dX8_about_0 : decode cX8_about 0 = .ok (.iload_n 1, 1) := by decide +kernel
theorem dX8_about_1 : decode cX8_about 1 = .ok (.tableswitch 162 0 8 #[51, 59, 70, 92, 100, 108, 116, 132, 140], 51) := by decide +kernel
theorem dX8_about_52 : decode cX8_about 52 = .ok (.aload_n 0, 1) := by decide +kernel
theorem dX8_about_53 : decode cX8_about 53 = .ok (.getfield 12, 3) := by decide +kernel
theorem dX8_about_56 : decode cX8_about 56 = .ok (.getfield 114, 3) := by decide +kernel
theorem dX8_about_59 : decode cX8_about 59 = .ok (.ireturn, 1) := by decide +kernel
theorem dX8_about_60 : decode cX8_about 60 = .ok (.aload_n 0, 1) := by decide +kernel
theorem dX8_about_61 : decode cX8_about 61 = .ok (.getfield 12, 3) := by decide +kernel
theorem dX8_about_64 : decode cX8_about 64 = .ok (.getfield 116, 3) := by decide +kernel
theorem dX8_about_67 : decode cX8_about 67 = .ok (.invokestatic 118, 3) := by decide +kernel
theorem dX8_about_70 : decode cX8_about 70 = .ok (.ireturn, 1) := by decide +kernel
theorem dX8_about_71 : decode cX8_about 71 = .ok (.aload_n 0, 1) := by decide +kernel
theorem dX8_about_72 : decode cX8_about 72 = .ok (.getfield 12, 3) := by decide +kernel
theorem dX8_about_75 : decode cX8_about 75 = .ok (.getfield 114, 3) := by decide +kernel
theorem dX8_about_78 : decode cX8_about 78 = .ok (.aload_n 0, 1) := by decide +kernel
theorem dX8_about_79 : decode cX8_about 79 = .ok (.getfield 12, 3) := by decide +kernel
theorem dX8_about_82 : decode cX8_about 82 = .ok (.getfield 116, 3) := by decide +kernel
theorem dX8_about_85 : decode cX8_about 85 = .ok (.invokestatic 123, 3) := by decide +kernel
theorem dX8_about_88 : decode cX8_about 88 = .ok (.invokestatic 126, 3) := by decide +kernel
theorem dX8_about_91 : decode cX8_about 91 = .ok (.isub, 1) := by decide +kernel
theorem dX8_about_92 : decode cX8_about 92 = .ok (.ireturn, 1) := by decide +kernel
theorem dX8_about_93 : decode cX8_about 93 = .ok (.aload_n 0, 1) := by decide +kernel
theorem dX8_about_94 : decode cX8_about 94 = .ok (.getfield 12, 3) := by decide +kernel
theorem dX8_about_97 : decode cX8_about 97 = .ok (.getfield 131, 3) := by decide +kernel
theorem dX8_about_100 : decode cX8_about 100 = .ok (.ireturn, 1) := by decide +kernel
theorem dX8_about_101 : decode cX8_about 101 = .ok (.aload_n 0, 1) := by decide +kernel
theorem dX8_about_102 : decode cX8_about 102 = .ok (.getfield 12, 3) := by decide +kernel
theorem dX8_about_105 : decode cX8_about 105 = .ok (.getfield 134, 3) := by decide +kernel
theorem dX8_about_108 : decode cX8_about 108 = .ok (.ireturn, 1) := by decide +kernel
theorem dX8_about_109 : decode cX8_about 109 = .ok (.aload_n 0, 1) := by decide +kernel
theorem dX8_about_110 : decode cX8_about 110 = .ok (.getfield 12, 3) := by decide +kernel
theorem dX8_about_113 : decode cX8_about 113 = .ok (.invokevirtual 137, 3) := by decide +kernel
theorem dX8_about_116 : decode cX8_about 116 = .ok (.ireturn, 1) := by decide +kernel
theorem dX8_about_117 : decode cX8_about 117 = .ok (.aload_n 0, 1) := by decide +kernel
theorem dX8_about_118 : decode cX8_about 118 = .ok (.getfield 12, 3) := by decide +kernel
theorem dX8_about_121 : decode cX8_about 121 = .ok (.invokevirtual 140, 3) := by decide +kernel
theorem dX8_about_124 : decode cX8_about 124 = .ok (.ifCond .eq 7, 3) := by decide +kernel
theorem dX8_about_127 : decode cX8_about 127 = .ok (.iconst 1, 1) := by decide +kernel
theorem dX8_about_128 : decode cX8_about 128 = .ok (.goto 4, 3) := by decide +kernel
theorem dX8_about_131 : decode cX8_about 131 = .ok (.iconst 0, 1) := by decide +kernel
theorem dX8_about_132 : decode cX8_about 132 = .ok (.ireturn, 1) := by decide +kernel
theorem dX8_about_133 : decode cX8_about 133 = .ok (.aload_n 0, 1) := by decide +kernel
theorem dX8_about_134 : decode cX8_about 134 = .ok (.getfield 12, 3) := by decide +kernel
theorem dX8_about_137 : decode cX8_about 137 = .ok (.getfield 116, 3) := by decide +kernel
theorem dX8_about_140 : decode cX8_about 140 = .ok (.ireturn, 1) := by decide +kernel
theorem dX8_about_141 : decode cX8_about 141 = .ok (.aload_n 0, 1) := by decide +kernel
theorem dX8_about_142 : decode cX8_about 142 = .ok (.getfield 40, 3) := by decide +kernel
theorem dX8_about_145 : decode cX8_about 145 = .ok (.aload_n 0, 1) := by decide +kernel
theorem dX8_about_146 : decode cX8_about 146 = .ok (.getfield 12, 3) := by decide +kernel
theorem dX8_about_149 : decode cX8_about 149 = .ok (.invokevirtual 144, 3) := by decide +kernel
theorem dX8_about_152 : decode cX8_about 152 = .ok (.aload_n 0, 1) := by decide +kernel
theorem dX8_about_153 : decode cX8_about 153 = .ok (.getfield 12, 3) := by decide +kernel
theorem dX8_about_156 : decode cX8_about 156 = .ok (.getfield 116, 3) := by decide +kernel
theorem dX8_about_159 : decode cX8_about 159 = .ok (.invokevirtual 148, 3) := by decide +kernel
theorem dX8_about_162 : decode cX8_about 162 = .ok (.ireturn, 1) := by decide +kernel
theorem dX8_about_163 : decode cX8_about 163 = .ok (.new 44, 3) := by decide +kernel
theorem dX8_about_166 : decode cX8_about 166 = .ok (.dup, 1) := by decide +kernel
theorem dX8_about_167 : decode cX8_about 167 = .ok (.ldc 153, 2) := by decide +kernel
theorem dX8_about_169 : decode cX8_about 169 = .ok (.invokespecial 48, 3) := by decide +kernel
theorem dX8_about_172 : decode cX8_about 172 = .ok (.athrow, 1) := by decide +kernel
theorem dX8_leaves_0 : decode cX8_leaves 0 = .ok (.aload_n 0, 1) := by decide +kernel
theorem dX8_leaves_1 : decode cX8_leaves 1 = .ok (.iload_n 1, 1) := by decide +kernel
theorem dX8_leaves_2 : decode cX8_leaves 2 = .ok (.invokevirtual 155, 3) := by decide +kernel
theorem dX8_leaves_5 : decode cX8_leaves 5 = .ok (.aload_n 0, 1) := by decide +kernel
theorem dX8_leaves_6 : decode cX8_leaves 6 = .ok (.getfield 12, 3) := by decide +kernel
theorem dX8_leaves_9 : decode cX8_leaves 9 = .ok (.getfield 116, 3) := by decide +kernel
theorem dX8_leaves_12 : decode cX8_leaves 12 = .ok (.iload_n 1, 1) := by decide +kernel
theorem dX8_leaves_13 : decode cX8_leaves 13 = .ok (.invokestatic 159, 3) := by decide +kernel
theorem dX8_leaves_16 : decode cX8_leaves 16 = .ok (.ireturn, 1) := by decide +kernel
theorem dX8_gardener_0 : decode cX8_gardener 0 = .ok (.iload_n 1, 1) := by decide +kernel
theorem dX8_gardener_1 : decode cX8_gardener 1 = .ok (.invokestatic 163, 3) := by decide +kernel
theorem dX8_gardener_4 : decode cX8_gardener 4 = .ok (.ifCond .ne 13, 3) := by decide +kernel
theorem dX8_gardener_7 : decode cX8_gardener 7 = .ok (.new 166, 3) := by decide +kernel
theorem dX8_gardener_10 : decode cX8_gardener 10 = .ok (.dup, 1) := by decide +kernel
theorem dX8_gardener_11 : decode cX8_gardener 11 = .ok (.ldc 168, 2) := by decide +kernel
theorem dX8_gardener_13 : decode cX8_gardener 13 = .ok (.invokespecial 170, 3) := by decide +kernel
theorem dX8_gardener_16 : decode cX8_gardener 16 = .ok (.athrow, 1) := by decide +kernel
theorem dX8_gardener_17 : decode cX8_gardener 17 = .ok (.iload_n 2, 1) := by decide +kernel
theorem dX8_gardener_18 : decode cX8_gardener 18 = .ok (.tableswitch 62 0 2 #[26, 38, 50], 26) := by decide +kernel
theorem dX8_gardener_44 : decode cX8_gardener 44 = .ok (.aload_n 0, 1) := by decide +kernel
theorem dX8_gardener_45 : decode cX8_gardener 45 = .ok (.getfield 12, 3) := by decide +kernel
theorem dX8_gardener_48 : decode cX8_gardener 48 = .ok (.iload_n 1, 1) := by decide +kernel
theorem dX8_gardener_49 : decode cX8_gardener 49 = .ok (.invokevirtual 171, 3) := by decide +kernel
theorem dX8_gardener_52 : decode cX8_gardener 52 = .ok (.getfield 175, 3) := by decide +kernel
theorem dX8_gardener_55 : decode cX8_gardener 55 = .ok (.ireturn, 1) := by decide +kernel
theorem dX8_gardener_56 : decode cX8_gardener 56 = .ok (.aload_n 0, 1) := by decide +kernel
theorem dX8_gardener_57 : decode cX8_gardener 57 = .ok (.getfield 12, 3) := by decide +kernel
theorem dX8_gardener_60 : decode cX8_gardener 60 = .ok (.iload_n 1, 1) := by decide +kernel
theorem dX8_gardener_61 : decode cX8_gardener 61 = .ok (.invokevirtual 171, 3) := by decide +kernel
theorem dX8_gardener_64 : decode cX8_gardener 64 = .ok (.getfield 180, 3) := by decide +kernel
theorem dX8_gardener_67 : decode cX8_gardener 67 = .ok (.ireturn, 1) := by decide +kernel
theorem dX8_gardener_68 : decode cX8_gardener 68 = .ok (.aload_n 0, 1) := by decide +kernel
theorem dX8_gardener_69 : decode cX8_gardener 69 = .ok (.getfield 12, 3) := by decide +kernel
theorem dX8_gardener_72 : decode cX8_gardener 72 = .ok (.iload_n 1, 1) := by decide +kernel
theorem dX8_gardener_73 : decode cX8_gardener 73 = .ok (.invokevirtual 171, 3) := by decide +kernel
theorem dX8_gardener_76 : decode cX8_gardener 76 = .ok (.getfield 183, 3) := by decide +kernel
theorem dX8_gardener_79 : decode cX8_gardener 79 = .ok (.ireturn, 1) := by decide +kernel
theorem dX8_gardener_80 : decode cX8_gardener 80 = .ok (.new 44, 3) := by decide +kernel
theorem dX8_gardener_83 : decode cX8_gardener 83 = .ok (.dup, 1) := by decide +kernel
theorem dX8_gardener_84 : decode cX8_gardener 84 = .ok (.ldc 153, 2) := by decide +kernel
theorem dX8_gardener_86 : decode cX8_gardener 86 = .ok (.invokespecial 48, 3) := by decide +kernel
theorem dX8_gardener_89 : decode cX8_gardener 89 = .ok (.athrow, 1) := by decide +kernel
theorem dX8_setting_0 : decode cX8_setting 0 = .ok (.iload_n 1, 1) := by decide +kernel
theorem dX8_setting_1 : decode cX8_setting 1 = .ok (.invokestatic 186, 3) := by decide +kernel
theorem dX8_setting_4 : decode cX8_setting 4 = .ok (.iload_n 1, 1) := by decide +kernel
theorem dX8_setting_5 : decode cX8_setting 5 = .ok (.ifCond .ne 13, 3) := by decide +kernel
theorem dX8_setting_8 : decode cX8_setting 8 = .ok (.aload_n 0, 1) := by decide +kernel
theorem dX8_setting_9 : decode cX8_setting 9 = .ok (.getfield 12, 3) := by decide +kernel
theorem dX8_setting_12 : decode cX8_setting 12 = .ok (.getfield 189, 3) := by decide +kernel
theorem dX8_setting_15 : decode cX8_setting 15 = .ok (.goto 10, 3) := by decide +kernel
theorem dX8_setting_18 : decode cX8_setting 18 = .ok (.aload_n 0, 1) := by decide +kernel
theorem dX8_setting_19 : decode cX8_setting 19 = .ok (.getfield 12, 3) := by decide +kernel
theorem dX8_setting_22 : decode cX8_setting 22 = .ok (.getfield 192, 3) := by decide +kernel
theorem dX8_setting_25 : decode cX8_setting 25 = .ok (.ireturn, 1) := by decide +kernel
theorem dX8_plant_0 : decode cX8_plant 0 = .ok (.iload_n 1, 1) := by decide +kernel
theorem dX8_plant_1 : decode cX8_plant 1 = .ok (.iconst 2, 1) := by decide +kernel
theorem dX8_plant_2 : decode cX8_plant 2 = .ok (.if_icmp .lt 9, 3) := by decide +kernel
theorem dX8_plant_5 : decode cX8_plant 5 = .ok (.iload_n 1, 1) := by decide +kernel
theorem dX8_plant_6 : decode cX8_plant 6 = .ok (.bipush 6, 2) := by decide +kernel
theorem dX8_plant_8 : decode cX8_plant 8 = .ok (.if_icmp .le 13, 3) := by decide +kernel
theorem dX8_plant_11 : decode cX8_plant 11 = .ok (.new 44, 3) := by decide +kernel
theorem dX8_plant_14 : decode cX8_plant 14 = .ok (.dup, 1) := by decide +kernel
theorem dX8_plant_15 : decode cX8_plant 15 = .ok (.ldc 195, 2) := by decide +kernel
theorem dX8_plant_17 : decode cX8_plant 17 = .ok (.invokespecial 48, 3) := by decide +kernel
theorem dX8_plant_20 : decode cX8_plant 20 = .ok (.athrow, 1) := by decide +kernel
theorem dX8_plant_21 : decode cX8_plant 21 = .ok (.iload_n 2, 1) := by decide +kernel
theorem dX8_plant_22 : decode cX8_plant 22 = .ok (.ifCond .lt 11, 3) := by decide +kernel
theorem dX8_plant_25 : decode cX8_plant 25 = .ok (.iload_n 2, 1) := by decide +kernel
theorem dX8_plant_26 : decode cX8_plant 26 = .ok (.iload_n 1, 1) := by decide +kernel
theorem dX8_plant_27 : decode cX8_plant 27 = .ok (.invokestatic 197, 3) := by decide +kernel
theorem dX8_plant_30 : decode cX8_plant 30 = .ok (.if_icmp .lt 13, 3) := by decide +kernel
theorem dX8_plant_33 : decode cX8_plant 33 = .ok (.new 44, 3) := by decide +kernel
theorem dX8_plant_36 : decode cX8_plant 36 = .ok (.dup, 1) := by decide +kernel
theorem dX8_plant_37 : decode cX8_plant 37 = .ok (.ldc 200, 2) := by decide +kernel
theorem dX8_plant_39 : decode cX8_plant 39 = .ok (.invokespecial 48, 3) := by decide +kernel
theorem dX8_plant_42 : decode cX8_plant 42 = .ok (.athrow, 1) := by decide +kernel
theorem dX8_plant_43 : decode cX8_plant 43 = .ok (.aload_n 0, 1) := by decide +kernel
theorem dX8_plant_44 : decode cX8_plant 44 = .ok (.getfield 22, 3) := by decide +kernel
theorem dX8_plant_47 : decode cX8_plant 47 = .ok (.aload_n 0, 1) := by decide +kernel
theorem dX8_plant_48 : decode cX8_plant 48 = .ok (.getfield 12, 3) := by decide +kernel
theorem dX8_plant_51 : decode cX8_plant 51 = .ok (.invokevirtual 202, 3) := by decide +kernel
theorem dX8_plant_54 : decode cX8_plant 54 = .ok (.aload_n 0, 1) := by decide +kernel
theorem dX8_plant_55 : decode cX8_plant 55 = .ok (.getfield 12, 3) := by decide +kernel
theorem dX8_plant_58 : decode cX8_plant 58 = .ok (.iload_n 1, 1) := by decide +kernel
theorem dX8_plant_59 : decode cX8_plant 59 = .ok (.iload_n 2, 1) := by decide +kernel
theorem dX8_plant_60 : decode cX8_plant 60 = .ok (.invokevirtual 206, 3) := by decide +kernel
theorem dX8_plant_63 : decode cX8_plant 63 = .ok (.iload_n 2, 1) := by decide +kernel
theorem dX8_plant_64 : decode cX8_plant 64 = .ok (.invokestatic 118, 3) := by decide +kernel
theorem dX8_plant_67 : decode cX8_plant 67 = .ok (.ireturn, 1) := by decide +kernel
theorem dX8_clip_0 : decode cX8_clip 0 = .ok (.aload_n 0, 1) := by decide +kernel
theorem dX8_clip_1 : decode cX8_clip 1 = .ok (.iload_n 1, 1) := by decide +kernel
theorem dX8_clip_2 : decode cX8_clip 2 = .ok (.iload_n 2, 1) := by decide +kernel
theorem dX8_clip_3 : decode cX8_clip 3 = .ok (.iload_n 3, 1) := by decide +kernel
theorem dX8_clip_4 : decode cX8_clip 4 = .ok (.invokevirtual 209, 3) := by decide +kernel
theorem dX8_clip_7 : decode cX8_clip 7 = .ok (.aload_n 0, 1) := by decide +kernel
theorem dX8_clip_8 : decode cX8_clip 8 = .ok (.getfield 12, 3) := by decide +kernel
theorem dX8_clip_11 : decode cX8_clip 11 = .ok (.getfield 116, 3) := by decide +kernel
theorem dX8_clip_14 : decode cX8_clip 14 = .ok (.iload_n 1, 1) := by decide +kernel
theorem dX8_clip_15 : decode cX8_clip 15 = .ok (.iload_n 2, 1) := by decide +kernel
theorem dX8_clip_16 : decode cX8_clip 16 = .ok (.invokestatic 213, 3) := by decide +kernel
theorem dX8_clip_19 : decode cX8_clip 19 = .ok (.ifCond .ne 13, 3) := by decide +kernel
theorem dX8_clip_22 : decode cX8_clip 22 = .ok (.new 55, 3) := by decide +kernel
theorem dX8_clip_25 : decode cX8_clip 25 = .ok (.dup, 1) := by decide +kernel
theorem dX8_clip_26 : decode cX8_clip 26 = .ok (.ldc 216, 2) := by decide +kernel
theorem dX8_clip_28 : decode cX8_clip 28 = .ok (.invokespecial 59, 3) := by decide +kernel
theorem dX8_clip_31 : decode cX8_clip 31 = .ok (.athrow, 1) := by decide +kernel
theorem dX8_clip_32 : decode cX8_clip 32 = .ok (.aload_n 0, 1) := by decide +kernel
theorem dX8_clip_33 : decode cX8_clip 33 = .ok (.getfield 22, 3) := by decide +kernel
theorem dX8_clip_36 : decode cX8_clip 36 = .ok (.aload_n 0, 1) := by decide +kernel
theorem dX8_clip_37 : decode cX8_clip 37 = .ok (.getfield 12, 3) := by decide +kernel
theorem dX8_clip_40 : decode cX8_clip 40 = .ok (.invokevirtual 202, 3) := by decide +kernel
theorem dX8_clip_43 : decode cX8_clip 43 = .ok (.aload_n 0, 1) := by decide +kernel
theorem dX8_clip_44 : decode cX8_clip 44 = .ok (.getfield 12, 3) := by decide +kernel
theorem dX8_clip_47 : decode cX8_clip 47 = .ok (.iload_n 1, 1) := by decide +kernel
theorem dX8_clip_48 : decode cX8_clip 48 = .ok (.iload_n 2, 1) := by decide +kernel
theorem dX8_clip_49 : decode cX8_clip 49 = .ok (.iload_n 3, 1) := by decide +kernel
theorem dX8_clip_50 : decode cX8_clip 50 = .ok (.invokestatic 218, 3) := by decide +kernel
theorem dX8_clip_53 : decode cX8_clip 53 = .ok (.invokevirtual 224, 3) := by decide +kernel
theorem dX8_clip_56 : decode cX8_clip 56 = .ok (.ireturn, 1) := by decide +kernel
theorem dX8_water_0 : decode cX8_water 0 = .ok (.aload_n 0, 1) := by decide +kernel
theorem dX8_water_1 : decode cX8_water 1 = .ok (.iload_n 1, 1) := by decide +kernel
theorem dX8_water_2 : decode cX8_water 2 = .ok (.invokevirtual 155, 3) := by decide +kernel
theorem dX8_water_5 : decode cX8_water 5 = .ok (.aload_n 0, 1) := by decide +kernel
theorem dX8_water_6 : decode cX8_water 6 = .ok (.getfield 12, 3) := by decide +kernel
theorem dX8_water_9 : decode cX8_water 9 = .ok (.getfield 116, 3) := by decide +kernel
theorem dX8_water_12 : decode cX8_water 12 = .ok (.iload_n 1, 1) := by decide +kernel
theorem dX8_water_13 : decode cX8_water 13 = .ok (.invokestatic 227, 3) := by decide +kernel
theorem dX8_water_16 : decode cX8_water 16 = .ok (.ifCond .eq 13, 3) := by decide +kernel
theorem dX8_water_19 : decode cX8_water 19 = .ok (.new 55, 3) := by decide +kernel
theorem dX8_water_22 : decode cX8_water 22 = .ok (.dup, 1) := by decide +kernel
theorem dX8_water_23 : decode cX8_water 23 = .ok (.ldc 231, 2) := by decide +kernel
theorem dX8_water_25 : decode cX8_water 25 = .ok (.invokespecial 59, 3) := by decide +kernel
theorem dX8_water_28 : decode cX8_water 28 = .ok (.athrow, 1) := by decide +kernel
theorem dX8_water_29 : decode cX8_water 29 = .ok (.aload_n 0, 1) := by decide +kernel
theorem dX8_water_30 : decode cX8_water 30 = .ok (.getfield 22, 3) := by decide +kernel
theorem dX8_water_33 : decode cX8_water 33 = .ok (.aload_n 0, 1) := by decide +kernel
theorem dX8_water_34 : decode cX8_water 34 = .ok (.getfield 12, 3) := by decide +kernel
theorem dX8_water_37 : decode cX8_water 37 = .ok (.invokevirtual 202, 3) := by decide +kernel
theorem dX8_water_40 : decode cX8_water 40 = .ok (.aload_n 0, 1) := by decide +kernel
theorem dX8_water_41 : decode cX8_water 41 = .ok (.getfield 12, 3) := by decide +kernel
theorem dX8_water_44 : decode cX8_water 44 = .ok (.aload_n 0, 1) := by decide +kernel
theorem dX8_water_45 : decode cX8_water 45 = .ok (.getfield 12, 3) := by decide +kernel
theorem dX8_water_48 : decode cX8_water 48 = .ok (.getfield 116, 3) := by decide +kernel
theorem dX8_water_51 : decode cX8_water 51 = .ok (.iload_n 1, 1) := by decide +kernel
theorem dX8_water_52 : decode cX8_water 52 = .ok (.invokestatic 233, 3) := by decide +kernel
theorem dX8_water_55 : decode cX8_water 55 = .ok (.putfield 116, 3) := by decide +kernel
theorem dX8_water_58 : decode cX8_water 58 = .ok (.aload_n 0, 1) := by decide +kernel
theorem dX8_water_59 : decode cX8_water 59 = .ok (.getfield 12, 3) := by decide +kernel
theorem dX8_water_62 : decode cX8_water 62 = .ok (.getfield 116, 3) := by decide +kernel
theorem dX8_water_65 : decode cX8_water 65 = .ok (.iload_n 1, 1) := by decide +kernel
theorem dX8_water_66 : decode cX8_water 66 = .ok (.invokestatic 159, 3) := by decide +kernel
theorem dX8_water_69 : decode cX8_water 69 = .ok (.ireturn, 1) := by decide +kernel
theorem dX8_wind_0 : decode cX8_wind 0 = .ok (.iload_n 1, 1) := by decide +kernel
theorem dX8_wind_1 : decode cX8_wind 1 = .ok (.invokestatic 236, 3) := by decide +kernel
theorem dX8_wind_4 : decode cX8_wind 4 = .ok (.ifCond .ne 13, 3) := by decide +kernel
theorem dX8_wind_7 : decode cX8_wind 7 = .ok (.new 44, 3) := by decide +kernel
theorem dX8_wind_10 : decode cX8_wind 10 = .ok (.dup, 1) := by decide +kernel
theorem dX8_wind_11 : decode cX8_wind 11 = .ok (.ldc 239, 2) := by decide +kernel
theorem dX8_wind_13 : decode cX8_wind 13 = .ok (.invokespecial 48, 3) := by decide +kernel
theorem dX8_wind_16 : decode cX8_wind 16 = .ok (.athrow, 1) := by decide +kernel
theorem dX8_wind_17 : decode cX8_wind 17 = .ok (.aload_n 0, 1) := by decide +kernel
theorem dX8_wind_18 : decode cX8_wind 18 = .ok (.getfield 12, 3) := by decide +kernel
theorem dX8_wind_21 : decode cX8_wind 21 = .ok (.getfield 131, 3) := by decide +kernel
theorem dX8_wind_24 : decode cX8_wind 24 = .ok (.istore_n 2, 1) := by decide +kernel
theorem dX8_wind_25 : decode cX8_wind 25 = .ok (.aload_n 0, 1) := by decide +kernel
theorem dX8_wind_26 : decode cX8_wind 26 = .ok (.getfield 22, 3) := by decide +kernel
theorem dX8_wind_29 : decode cX8_wind 29 = .ok (.aload_n 0, 1) := by decide +kernel
theorem dX8_wind_30 : decode cX8_wind 30 = .ok (.getfield 12, 3) := by decide +kernel
theorem dX8_wind_33 : decode cX8_wind 33 = .ok (.invokevirtual 202, 3) := by decide +kernel
theorem dX8_wind_36 : decode cX8_wind 36 = .ok (.aload_n 0, 1) := by decide +kernel
theorem dX8_wind_37 : decode cX8_wind 37 = .ok (.getfield 12, 3) := by decide +kernel
theorem dX8_wind_40 : decode cX8_wind 40 = .ok (.iload_n 1, 1) := by decide +kernel
theorem dX8_wind_41 : decode cX8_wind 41 = .ok (.putfield 131, 3) := by decide +kernel
theorem dX8_wind_44 : decode cX8_wind 44 = .ok (.iload_n 2, 1) := by decide +kernel
theorem dX8_wind_45 : decode cX8_wind 45 = .ok (.ireturn, 1) := by decide +kernel
theorem dX8_pass_0 : decode cX8_pass 0 = .ok (.aload_n 0, 1) := by decide +kernel
theorem dX8_pass_1 : decode cX8_pass 1 = .ok (.getfield 22, 3) := by decide +kernel
theorem dX8_pass_4 : decode cX8_pass 4 = .ok (.aload_n 0, 1) := by decide +kernel
theorem dX8_pass_5 : decode cX8_pass 5 = .ok (.getfield 12, 3) := by decide +kernel
theorem dX8_pass_8 : decode cX8_pass 8 = .ok (.invokevirtual 202, 3) := by decide +kernel
theorem dX8_pass_11 : decode cX8_pass 11 = .ok (.aload_n 0, 1) := by decide +kernel
theorem dX8_pass_12 : decode cX8_pass 12 = .ok (.getfield 12, 3) := by decide +kernel
theorem dX8_pass_15 : decode cX8_pass 15 = .ok (.invokevirtual 107, 3) := by decide +kernel
theorem dX8_pass_18 : decode cX8_pass 18 = .ok (.aload_n 0, 1) := by decide +kernel
theorem dX8_pass_19 : decode cX8_pass 19 = .ok (.getfield 12, 3) := by decide +kernel
theorem dX8_pass_22 : decode cX8_pass 22 = .ok (.getfield 134, 3) := by decide +kernel
theorem dX8_pass_25 : decode cX8_pass 25 = .ok (.ireturn, 1) := by decide +kernel
theorem dX8_set_0 : decode cX8_set 0 = .ok (.iload_n 1, 1) := by decide +kernel
theorem dX8_set_1 : decode cX8_set 1 = .ok (.invokestatic 186, 3) := by decide +kernel
theorem dX8_set_4 : decode cX8_set 4 = .ok (.iload_n 2, 1) := by decide +kernel
theorem dX8_set_5 : decode cX8_set 5 = .ok (.iconst 1, 1) := by decide +kernel
theorem dX8_set_6 : decode cX8_set 6 = .ok (.if_icmp .lt 17, 3) := by decide +kernel
theorem dX8_set_9 : decode cX8_set 9 = .ok (.iload_n 2, 1) := by decide +kernel
theorem dX8_set_10 : decode cX8_set 10 = .ok (.iload_n 1, 1) := by decide +kernel
theorem dX8_set_11 : decode cX8_set 11 = .ok (.ifCond .ne 8, 3) := by decide +kernel
theorem dX8_set_14 : decode cX8_set 14 = .ok (.bipush 9, 2) := by decide +kernel
theorem dX8_set_16 : decode cX8_set 16 = .ok (.goto 4, 3) := by decide +kernel
theorem dX8_set_19 : decode cX8_set 19 = .ok (.iconst 3, 1) := by decide +kernel
theorem dX8_set_20 : decode cX8_set 20 = .ok (.if_icmp .le 13, 3) := by decide +kernel
theorem dX8_set_23 : decode cX8_set 23 = .ok (.new 44, 3) := by decide +kernel
theorem dX8_set_26 : decode cX8_set 26 = .ok (.dup, 1) := by decide +kernel
theorem dX8_set_27 : decode cX8_set 27 = .ok (.ldc 241, 2) := by decide +kernel
theorem dX8_set_29 : decode cX8_set 29 = .ok (.invokespecial 48, 3) := by decide +kernel
theorem dX8_set_32 : decode cX8_set 32 = .ok (.athrow, 1) := by decide +kernel
theorem dX8_set_33 : decode cX8_set 33 = .ok (.iload_n 1, 1) := by decide +kernel
theorem dX8_set_34 : decode cX8_set 34 = .ok (.ifCond .ne 13, 3) := by decide +kernel
theorem dX8_set_37 : decode cX8_set 37 = .ok (.aload_n 0, 1) := by decide +kernel
theorem dX8_set_38 : decode cX8_set 38 = .ok (.getfield 12, 3) := by decide +kernel
theorem dX8_set_41 : decode cX8_set 41 = .ok (.getfield 189, 3) := by decide +kernel
theorem dX8_set_44 : decode cX8_set 44 = .ok (.goto 10, 3) := by decide +kernel
theorem dX8_set_47 : decode cX8_set 47 = .ok (.aload_n 0, 1) := by decide +kernel
theorem dX8_set_48 : decode cX8_set 48 = .ok (.getfield 12, 3) := by decide +kernel
theorem dX8_set_51 : decode cX8_set 51 = .ok (.getfield 192, 3) := by decide +kernel
theorem dX8_set_54 : decode cX8_set 54 = .ok (.istore_n 3, 1) := by decide +kernel
theorem dX8_set_55 : decode cX8_set 55 = .ok (.aload_n 0, 1) := by decide +kernel
theorem dX8_set_56 : decode cX8_set 56 = .ok (.getfield 22, 3) := by decide +kernel
theorem dX8_set_59 : decode cX8_set 59 = .ok (.aload_n 0, 1) := by decide +kernel
theorem dX8_set_60 : decode cX8_set 60 = .ok (.getfield 12, 3) := by decide +kernel
theorem dX8_set_63 : decode cX8_set 63 = .ok (.invokevirtual 202, 3) := by decide +kernel
theorem dX8_set_66 : decode cX8_set 66 = .ok (.iload_n 1, 1) := by decide +kernel
theorem dX8_set_67 : decode cX8_set 67 = .ok (.ifCond .ne 14, 3) := by decide +kernel
theorem dX8_set_70 : decode cX8_set 70 = .ok (.aload_n 0, 1) := by decide +kernel
theorem dX8_set_71 : decode cX8_set 71 = .ok (.getfield 12, 3) := by decide +kernel
theorem dX8_set_74 : decode cX8_set 74 = .ok (.iload_n 2, 1) := by decide +kernel
theorem dX8_set_75 : decode cX8_set 75 = .ok (.putfield 189, 3) := by decide +kernel
theorem dX8_set_78 : decode cX8_set 78 = .ok (.goto 11, 3) := by decide +kernel
theorem dX8_set_81 : decode cX8_set 81 = .ok (.aload_n 0, 1) := by decide +kernel
theorem dX8_set_82 : decode cX8_set 82 = .ok (.getfield 12, 3) := by decide +kernel
theorem dX8_set_85 : decode cX8_set 85 = .ok (.iload_n 2, 1) := by decide +kernel
theorem dX8_set_86 : decode cX8_set 86 = .ok (.putfield 192, 3) := by decide +kernel
theorem dX8_set_89 : decode cX8_set 89 = .ok (.iload_n 3, 1) := by decide +kernel
theorem dX8_set_90 : decode cX8_set 90 = .ok (.ireturn, 1) := by decide +kernel
theorem dX8_undo_0 : decode cX8_undo 0 = .ok (.aload_n 0, 1) := by decide +kernel
theorem dX8_undo_1 : decode cX8_undo 1 = .ok (.getfield 22, 3) := by decide +kernel
theorem dX8_undo_4 : decode cX8_undo 4 = .ok (.aload_n 0, 1) := by decide +kernel
theorem dX8_undo_5 : decode cX8_undo 5 = .ok (.getfield 12, 3) := by decide +kernel
theorem dX8_undo_8 : decode cX8_undo 8 = .ok (.invokevirtual 243, 3) := by decide +kernel
theorem dX8_undo_11 : decode cX8_undo 11 = .ok (.ifCond .ne 13, 3) := by decide +kernel
theorem dX8_undo_14 : decode cX8_undo 14 = .ok (.new 55, 3) := by decide +kernel
theorem dX8_undo_17 : decode cX8_undo 17 = .ok (.dup, 1) := by decide +kernel
theorem dX8_undo_18 : decode cX8_undo 18 = .ok (.ldc 246, 2) := by decide +kernel
theorem dX8_undo_20 : decode cX8_undo 20 = .ok (.invokespecial 59, 3) := by decide +kernel
theorem dX8_undo_23 : decode cX8_undo 23 = .ok (.athrow, 1) := by decide +kernel
theorem dX8_undo_24 : decode cX8_undo 24 = .ok (.aload_n 0, 1) := by decide +kernel
theorem dX8_undo_25 : decode cX8_undo 25 = .ok (.getfield 22, 3) := by decide +kernel
theorem dX8_undo_28 : decode cX8_undo 28 = .ok (.getfield 248, 3) := by decide +kernel
theorem dX8_undo_31 : decode cX8_undo 31 = .ok (.ireturn, 1) := by decide +kernel
theorem dX8_ifClipped_0 : decode cX8_ifClipped 0 = .ok (.aload_n 0, 1) := by decide +kernel
theorem dX8_ifClipped_1 : decode cX8_ifClipped 1 = .ok (.iload_n 1, 1) := by decide +kernel
theorem dX8_ifClipped_2 : decode cX8_ifClipped 2 = .ok (.iload_n 2, 1) := by decide +kernel
theorem dX8_ifClipped_3 : decode cX8_ifClipped 3 = .ok (.iload_n 3, 1) := by decide +kernel
theorem dX8_ifClipped_4 : decode cX8_ifClipped 4 = .ok (.invokevirtual 209, 3) := by decide +kernel
theorem dX8_ifClipped_7 : decode cX8_ifClipped 7 = .ok (.iload 4, 2) := by decide +kernel
theorem dX8_ifClipped_9 : decode cX8_ifClipped 9 = .ok (.ifCond .lt 9, 3) := by decide +kernel
theorem dX8_ifClipped_12 : decode cX8_ifClipped 12 = .ok (.iload 4, 2) := by decide +kernel
theorem dX8_ifClipped_14 : decode cX8_ifClipped 14 = .ok (.iconst 3, 1) := by decide +kernel
theorem dX8_ifClipped_15 : decode cX8_ifClipped 15 = .ok (.if_icmp .le 13, 3) := by decide +kernel
theorem dX8_ifClipped_18 : decode cX8_ifClipped 18 = .ok (.new 44, 3) := by decide +kernel
theorem dX8_ifClipped_21 : decode cX8_ifClipped 21 = .ok (.dup, 1) := by decide +kernel
theorem dX8_ifClipped_22 : decode cX8_ifClipped 22 = .ok (.ldc 153, 2) := by decide +kernel
theorem dX8_ifClipped_24 : decode cX8_ifClipped 24 = .ok (.invokespecial 48, 3) := by decide +kernel
theorem dX8_ifClipped_27 : decode cX8_ifClipped 27 = .ok (.athrow, 1) := by decide +kernel
theorem dX8_ifClipped_28 : decode cX8_ifClipped 28 = .ok (.aload_n 0, 1) := by decide +kernel
theorem dX8_ifClipped_29 : decode cX8_ifClipped 29 = .ok (.getfield 12, 3) := by decide +kernel
theorem dX8_ifClipped_32 : decode cX8_ifClipped 32 = .ok (.getfield 116, 3) := by decide +kernel
theorem dX8_ifClipped_35 : decode cX8_ifClipped 35 = .ok (.iload_n 1, 1) := by decide +kernel
theorem dX8_ifClipped_36 : decode cX8_ifClipped 36 = .ok (.iload_n 2, 1) := by decide +kernel
theorem dX8_ifClipped_37 : decode cX8_ifClipped 37 = .ok (.invokestatic 213, 3) := by decide +kernel
theorem dX8_ifClipped_40 : decode cX8_ifClipped 40 = .ok (.ifCond .ne 5, 3) := by decide +kernel
theorem dX8_ifClipped_43 : decode cX8_ifClipped 43 = .ok (.iconst (-1), 1) := by decide +kernel
theorem dX8_ifClipped_44 : decode cX8_ifClipped 44 = .ok (.ireturn, 1) := by decide +kernel
theorem dX8_ifClipped_45 : decode cX8_ifClipped 45 = .ok (.aload_n 0, 1) := by decide +kernel
theorem dX8_ifClipped_46 : decode cX8_ifClipped 46 = .ok (.getfield 12, 3) := by decide +kernel
theorem dX8_ifClipped_49 : decode cX8_ifClipped 49 = .ok (.getfield 116, 3) := by decide +kernel
theorem dX8_ifClipped_52 : decode cX8_ifClipped 52 = .ok (.iload_n 1, 1) := by decide +kernel
theorem dX8_ifClipped_53 : decode cX8_ifClipped 53 = .ok (.iload_n 2, 1) := by decide +kernel
theorem dX8_ifClipped_54 : decode cX8_ifClipped 54 = .ok (.iload_n 3, 1) := by decide +kernel
theorem dX8_ifClipped_55 : decode cX8_ifClipped 55 = .ok (.invokestatic 218, 3) := by decide +kernel
theorem dX8_ifClipped_58 : decode cX8_ifClipped 58 = .ok (.invokestatic 251, 3) := by decide +kernel
theorem dX8_ifClipped_61 : decode cX8_ifClipped 61 = .ok (.istore 5, 2) := by decide +kernel
theorem dX8_ifClipped_63 : decode cX8_ifClipped 63 = .ok (.iload 5, 2) := by decide +kernel
theorem dX8_ifClipped_65 : decode cX8_ifClipped 65 = .ok (.aload_n 0, 1) := by decide +kernel
theorem dX8_ifClipped_66 : decode cX8_ifClipped 66 = .ok (.getfield 12, 3) := by decide +kernel
theorem dX8_ifClipped_69 : decode cX8_ifClipped 69 = .ok (.getfield 114, 3) := by decide +kernel
theorem dX8_ifClipped_72 : decode cX8_ifClipped 72 = .ok (.aload_n 0, 1) := by decide +kernel
theorem dX8_ifClipped_73 : decode cX8_ifClipped 73 = .ok (.getfield 12, 3) := by decide +kernel
theorem dX8_ifClipped_76 : decode cX8_ifClipped 76 = .ok (.getfield 131, 3) := by decide +kernel
theorem dX8_ifClipped_79 : decode cX8_ifClipped 79 = .ok (.invokestatic 254, 3) := by decide +kernel
theorem dX8_ifClipped_82 : decode cX8_ifClipped 82 = .ok (.istore 6, 2) := by decide +kernel
theorem dX8_ifClipped_84 : decode cX8_ifClipped 84 = .ok (.iload 4, 2) := by decide +kernel
theorem dX8_ifClipped_86 : decode cX8_ifClipped 86 = .ok (.tableswitch 64 0 2 #[26, 47, 50], 26) := by decide +kernel
theorem dX8_ifClipped_112 : decode cX8_ifClipped 112 = .ok (.aload_n 0, 1) := by decide +kernel
theorem dX8_ifClipped_113 : decode cX8_ifClipped 113 = .ok (.getfield 12, 3) := by decide +kernel
theorem dX8_ifClipped_116 : decode cX8_ifClipped 116 = .ok (.getfield 189, 3) := by decide +kernel
theorem dX8_ifClipped_119 : decode cX8_ifClipped 119 = .ok (.aload_n 0, 1) := by decide +kernel
theorem dX8_ifClipped_120 : decode cX8_ifClipped 120 = .ok (.getfield 12, 3) := by decide +kernel
theorem dX8_ifClipped_123 : decode cX8_ifClipped 123 = .ok (.getfield 116, 3) := by decide +kernel
theorem dX8_ifClipped_126 : decode cX8_ifClipped 126 = .ok (.iload 6, 2) := by decide +kernel
theorem dX8_ifClipped_128 : decode cX8_ifClipped 128 = .ok (.invokestatic 257, 3) := by decide +kernel
theorem dX8_ifClipped_131 : decode cX8_ifClipped 131 = .ok (.imul, 1) := by decide +kernel
theorem dX8_ifClipped_132 : decode cX8_ifClipped 132 = .ok (.ireturn, 1) := by decide +kernel
theorem dX8_ifClipped_133 : decode cX8_ifClipped 133 = .ok (.iload 6, 2) := by decide +kernel
theorem dX8_ifClipped_135 : decode cX8_ifClipped 135 = .ok (.ireturn, 1) := by decide +kernel
theorem dX8_ifClipped_136 : decode cX8_ifClipped 136 = .ok (.bipush 100, 2) := by decide +kernel
theorem dX8_ifClipped_138 : decode cX8_ifClipped 138 = .ok (.aload_n 0, 1) := by decide +kernel
theorem dX8_ifClipped_139 : decode cX8_ifClipped 139 = .ok (.aload_n 0, 1) := by decide +kernel
theorem dX8_ifClipped_140 : decode cX8_ifClipped 140 = .ok (.getfield 12, 3) := by decide +kernel
theorem dX8_ifClipped_143 : decode cX8_ifClipped 143 = .ok (.iload 6, 2) := by decide +kernel
theorem dX8_ifClipped_145 : decode cX8_ifClipped 145 = .ok (.invokevirtual 260, 3) := by decide +kernel
theorem dX8_ifClipped_148 : decode cX8_ifClipped 148 = .ok (.iadd, 1) := by decide +kernel
theorem dX8_ifClipped_149 : decode cX8_ifClipped 149 = .ok (.ireturn, 1) := by decide +kernel
theorem dX8_ifClipped_150 : decode cX8_ifClipped 150 = .ok (.iload 5, 2) := by decide +kernel
theorem dX8_ifClipped_152 : decode cX8_ifClipped 152 = .ok (.invokestatic 118, 3) := by decide +kernel
theorem dX8_ifClipped_155 : decode cX8_ifClipped 155 = .ok (.iload 6, 2) := by decide +kernel
theorem dX8_ifClipped_157 : decode cX8_ifClipped 157 = .ok (.invokestatic 118, 3) := by decide +kernel
theorem dX8_ifClipped_160 : decode cX8_ifClipped 160 = .ok (.isub, 1) := by decide +kernel
theorem dX8_ifClipped_161 : decode cX8_ifClipped 161 = .ok (.ireturn, 1) := by decide +kernel
theorem dX8_worth_0 : decode cX8_worth 0 = .ok (.bipush 100, 2) := by decide +kernel
theorem dX8_worth_2 : decode cX8_worth 2 = .ok (.aload_n 0, 1) := by decide +kernel
theorem dX8_worth_3 : decode cX8_worth 3 = .ok (.aload_n 0, 1) := by decide +kernel
theorem dX8_worth_4 : decode cX8_worth 4 = .ok (.getfield 12, 3) := by decide +kernel
theorem dX8_worth_7 : decode cX8_worth 7 = .ok (.aload_n 0, 1) := by decide +kernel
theorem dX8_worth_8 : decode cX8_worth 8 = .ok (.getfield 12, 3) := by decide +kernel
theorem dX8_worth_11 : decode cX8_worth 11 = .ok (.getfield 116, 3) := by decide +kernel
theorem dX8_worth_14 : decode cX8_worth 14 = .ok (.invokevirtual 260, 3) := by decide +kernel
theorem dX8_worth_17 : decode cX8_worth 17 = .ok (.iadd, 1) := by decide +kernel
theorem dX8_worth_18 : decode cX8_worth 18 = .ok (.ireturn, 1) := by decide +kernel
theorem dX8_bestClip_0 : decode cX8_bestClip 0 = .ok (.aload_n 0, 1) := by decide +kernel
theorem dX8_bestClip_1 : decode cX8_bestClip 1 = .ok (.getfield 40, 3) := by decide +kernel
theorem dX8_bestClip_4 : decode cX8_bestClip 4 = .ok (.aload_n 0, 1) := by decide +kernel
theorem dX8_bestClip_5 : decode cX8_bestClip 5 = .ok (.getfield 12, 3) := by decide +kernel
theorem dX8_bestClip_8 : decode cX8_bestClip 8 = .ok (.invokevirtual 144, 3) := by decide +kernel
theorem dX8_bestClip_11 : decode cX8_bestClip 11 = .ok (.aload_n 0, 1) := by decide +kernel
theorem dX8_bestClip_12 : decode cX8_bestClip 12 = .ok (.getfield 12, 3) := by decide +kernel
theorem dX8_bestClip_15 : decode cX8_bestClip 15 = .ok (.getfield 116, 3) := by decide +kernel
theorem dX8_bestClip_18 : decode cX8_bestClip 18 = .ok (.invokevirtual 264, 3) := by decide +kernel
theorem dX8_bestClip_21 : decode cX8_bestClip 21 = .ok (.ireturn, 1) := by decide +kernel
theorem dX8_bestClips_0 : decode cX8_bestClips 0 = .ok (.aload_n 0, 1) := by decide +kernel
theorem dX8_bestClips_1 : decode cX8_bestClips 1 = .ok (.getfield 40, 3) := by decide +kernel
theorem dX8_bestClips_4 : decode cX8_bestClips 4 = .ok (.aload_n 0, 1) := by decide +kernel
theorem dX8_bestClips_5 : decode cX8_bestClips 5 = .ok (.getfield 12, 3) := by decide +kernel
theorem dX8_bestClips_8 : decode cX8_bestClips 8 = .ok (.invokevirtual 144, 3) := by decide +kernel
theorem dX8_bestClips_11 : decode cX8_bestClips 11 = .ok (.aload_n 0, 1) := by decide +kernel
theorem dX8_bestClips_12 : decode cX8_bestClips 12 = .ok (.getfield 12, 3) := by decide +kernel
theorem dX8_bestClips_15 : decode cX8_bestClips 15 = .ok (.getfield 116, 3) := by decide +kernel
theorem dX8_bestClips_18 : decode cX8_bestClips 18 = .ok (.invokevirtual 267, 3) := by decide +kernel
theorem dX8_bestClips_21 : decode cX8_bestClips 21 = .ok (.ireturn, 1) := by decide +kernel
theorem dX8_goesOn_0 : decode cX8_goesOn 0 = .ok (.iload_n 1, 1) := by decide +kernel
theorem dX8_goesOn_1 : decode cX8_goesOn 1 = .ok (.iconst 1, 1) := by decide +kernel
theorem dX8_goesOn_2 : decode cX8_goesOn 2 = .ok (.if_icmp .lt 9, 3) := by decide +kernel
theorem dX8_goesOn_5 : decode cX8_goesOn 5 = .ok (.iload_n 1, 1) := by decide +kernel
theorem dX8_goesOn_6 : decode cX8_goesOn 6 = .ok (.bipush 18, 2) := by decide +kernel
theorem dX8_goesOn_8 : decode cX8_goesOn 8 = .ok (.if_icmp .le 14, 3) := by decide +kernel
theorem dX8_goesOn_11 : decode cX8_goesOn 11 = .ok (.new 44, 3) := by decide +kernel
theorem dX8_goesOn_14 : decode cX8_goesOn 14 = .ok (.dup, 1) := by decide +kernel
theorem dX8_goesOn_15 : decode cX8_goesOn 15 = .ok (.ldc_w 270, 3) := by decide +kernel
theorem dX8_goesOn_18 : decode cX8_goesOn 18 = .ok (.invokespecial 48, 3) := by decide +kernel
theorem dX8_goesOn_21 : decode cX8_goesOn 21 = .ok (.athrow, 1) := by decide +kernel
theorem dX8_goesOn_22 : decode cX8_goesOn 22 = .ok (.iload_n 2, 1) := by decide +kernel
theorem dX8_goesOn_23 : decode cX8_goesOn 23 = .ok (.ifCond .lt 8, 3) := by decide +kernel
theorem dX8_goesOn_26 : decode cX8_goesOn 26 = .ok (.iload_n 2, 1) := by decide +kernel
theorem dX8_goesOn_27 : decode cX8_goesOn 27 = .ok (.iconst 1, 1) := by decide +kernel
theorem dX8_goesOn_28 : decode cX8_goesOn 28 = .ok (.if_icmp .le 13, 3) := by decide +kernel
theorem dX8_goesOn_31 : decode cX8_goesOn 31 = .ok (.new 44, 3) := by decide +kernel
theorem dX8_goesOn_34 : decode cX8_goesOn 34 = .ok (.dup, 1) := by decide +kernel
theorem dX8_goesOn_35 : decode cX8_goesOn 35 = .ok (.ldc 153, 2) := by decide +kernel
theorem dX8_goesOn_37 : decode cX8_goesOn 37 = .ok (.invokespecial 48, 3) := by decide +kernel
theorem dX8_goesOn_40 : decode cX8_goesOn 40 = .ok (.athrow, 1) := by decide +kernel
theorem dX8_goesOn_41 : decode cX8_goesOn 41 = .ok (.aload_n 0, 1) := by decide +kernel
theorem dX8_goesOn_42 : decode cX8_goesOn 42 = .ok (.getfield 40, 3) := by decide +kernel
theorem dX8_goesOn_45 : decode cX8_goesOn 45 = .ok (.aload_n 0, 1) := by decide +kernel
theorem dX8_goesOn_46 : decode cX8_goesOn 46 = .ok (.getfield 12, 3) := by decide +kernel
theorem dX8_goesOn_49 : decode cX8_goesOn 49 = .ok (.invokevirtual 144, 3) := by decide +kernel
theorem dX8_goesOn_52 : decode cX8_goesOn 52 = .ok (.astore_n 3, 1) := by decide +kernel
theorem dX8_goesOn_53 : decode cX8_goesOn 53 = .ok (.aload_n 0, 1) := by decide +kernel
theorem dX8_goesOn_54 : decode cX8_goesOn 54 = .ok (.getfield 12, 3) := by decide +kernel
theorem dX8_goesOn_57 : decode cX8_goesOn 57 = .ok (.getfield 116, 3) := by decide +kernel
theorem dX8_goesOn_60 : decode cX8_goesOn 60 = .ok (.istore 4, 2) := by decide +kernel
theorem dX8_goesOn_62 : decode cX8_goesOn 62 = .ok (.iconst 0, 1) := by decide +kernel
theorem dX8_goesOn_63 : decode cX8_goesOn 63 = .ok (.istore 5, 2) := by decide +kernel
theorem dX8_goesOn_65 : decode cX8_goesOn 65 = .ok (.iload 5, 2) := by decide +kernel
theorem dX8_goesOn_67 : decode cX8_goesOn 67 = .ok (.iload_n 1, 1) := by decide +kernel
theorem dX8_goesOn_68 : decode cX8_goesOn 68 = .ok (.if_icmp .ge 22, 3) := by decide +kernel
theorem dX8_goesOn_71 : decode cX8_goesOn 71 = .ok (.iload 4, 2) := by decide +kernel
theorem dX8_goesOn_73 : decode cX8_goesOn 73 = .ok (.ifCond .eq 17, 3) := by decide +kernel
theorem dX8_goesOn_76 : decode cX8_goesOn 76 = .ok (.aload_n 3, 1) := by decide +kernel
theorem dX8_goesOn_77 : decode cX8_goesOn 77 = .ok (.iload 4, 2) := by decide +kernel
theorem dX8_goesOn_79 : decode cX8_goesOn 79 = .ok (.invokevirtual 272, 3) := by decide +kernel
theorem dX8_goesOn_82 : decode cX8_goesOn 82 = .ok (.istore 4, 2) := by decide +kernel
theorem dX8_goesOn_84 : decode cX8_goesOn 84 = .ok (.iinc 5 1, 3) := by decide +kernel
theorem dX8_goesOn_87 : decode cX8_goesOn 87 = .ok (.goto (-22), 3) := by decide +kernel
theorem dX8_goesOn_90 : decode cX8_goesOn 90 = .ok (.iload_n 2, 1) := by decide +kernel
theorem dX8_goesOn_91 : decode cX8_goesOn 91 = .ok (.ifCond .ne 8, 3) := by decide +kernel
theorem dX8_goesOn_94 : decode cX8_goesOn 94 = .ok (.iload 4, 2) := by decide +kernel
theorem dX8_goesOn_96 : decode cX8_goesOn 96 = .ok (.goto 5, 3) := by decide +kernel
theorem dX8_goesOn_99 : decode cX8_goesOn 99 = .ok (.iload 5, 2) := by decide +kernel
theorem dX8_goesOn_101 : decode cX8_goesOn 101 = .ok (.ireturn, 1) := by decide +kernel
theorem dX8_bestWater_0 : decode cX8_bestWater 0 = .ok (.iconst (-1), 1) := by decide +kernel
theorem dX8_bestWater_1 : decode cX8_bestWater 1 = .ok (.istore_n 1, 1) := by decide +kernel
theorem dX8_bestWater_2 : decode cX8_bestWater 2 = .ok (.aload_n 0, 1) := by decide +kernel
theorem dX8_bestWater_3 : decode cX8_bestWater 3 = .ok (.aload_n 0, 1) := by decide +kernel
theorem dX8_bestWater_4 : decode cX8_bestWater 4 = .ok (.getfield 12, 3) := by decide +kernel
theorem dX8_bestWater_7 : decode cX8_bestWater 7 = .ok (.aload_n 0, 1) := by decide +kernel
theorem dX8_bestWater_8 : decode cX8_bestWater 8 = .ok (.getfield 12, 3) := by decide +kernel
theorem dX8_bestWater_11 : decode cX8_bestWater 11 = .ok (.getfield 116, 3) := by decide +kernel
theorem dX8_bestWater_14 : decode cX8_bestWater 14 = .ok (.invokevirtual 260, 3) := by decide +kernel
theorem dX8_bestWater_17 : decode cX8_bestWater 17 = .ok (.istore_n 2, 1) := by decide +kernel
theorem dX8_bestWater_18 : decode cX8_bestWater 18 = .ok (.iconst 0, 1) := by decide +kernel
theorem dX8_bestWater_19 : decode cX8_bestWater 19 = .ok (.istore_n 3, 1) := by decide +kernel
theorem dX8_bestWater_20 : decode cX8_bestWater 20 = .ok (.iload_n 3, 1) := by decide +kernel
theorem dX8_bestWater_21 : decode cX8_bestWater 21 = .ok (.aload_n 0, 1) := by decide +kernel
theorem dX8_bestWater_22 : decode cX8_bestWater 22 = .ok (.getfield 12, 3) := by decide +kernel
theorem dX8_bestWater_25 : decode cX8_bestWater 25 = .ok (.getfield 114, 3) := by decide +kernel
theorem dX8_bestWater_28 : decode cX8_bestWater 28 = .ok (.if_icmp .ge 55, 3) := by decide +kernel
theorem dX8_bestWater_31 : decode cX8_bestWater 31 = .ok (.aload_n 0, 1) := by decide +kernel
theorem dX8_bestWater_32 : decode cX8_bestWater 32 = .ok (.getfield 12, 3) := by decide +kernel
theorem dX8_bestWater_35 : decode cX8_bestWater 35 = .ok (.getfield 116, 3) := by decide +kernel
theorem dX8_bestWater_38 : decode cX8_bestWater 38 = .ok (.iload_n 3, 1) := by decide +kernel
theorem dX8_bestWater_39 : decode cX8_bestWater 39 = .ok (.invokestatic 227, 3) := by decide +kernel
theorem dX8_bestWater_42 : decode cX8_bestWater 42 = .ok (.ifCond .ne 35, 3) := by decide +kernel
theorem dX8_bestWater_45 : decode cX8_bestWater 45 = .ok (.aload_n 0, 1) := by decide +kernel
theorem dX8_bestWater_46 : decode cX8_bestWater 46 = .ok (.aload_n 0, 1) := by decide +kernel
theorem dX8_bestWater_47 : decode cX8_bestWater 47 = .ok (.getfield 12, 3) := by decide +kernel
theorem dX8_bestWater_50 : decode cX8_bestWater 50 = .ok (.aload_n 0, 1) := by decide +kernel
theorem dX8_bestWater_51 : decode cX8_bestWater 51 = .ok (.getfield 12, 3) := by decide +kernel
theorem dX8_bestWater_54 : decode cX8_bestWater 54 = .ok (.getfield 116, 3) := by decide +kernel
theorem dX8_bestWater_57 : decode cX8_bestWater 57 = .ok (.iload_n 3, 1) := by decide +kernel
theorem dX8_bestWater_58 : decode cX8_bestWater 58 = .ok (.invokestatic 233, 3) := by decide +kernel
theorem dX8_bestWater_61 : decode cX8_bestWater 61 = .ok (.invokevirtual 260, 3) := by decide +kernel
theorem dX8_bestWater_64 : decode cX8_bestWater 64 = .ok (.istore 4, 2) := by decide +kernel
theorem dX8_bestWater_66 : decode cX8_bestWater 66 = .ok (.iload 4, 2) := by decide +kernel
theorem dX8_bestWater_68 : decode cX8_bestWater 68 = .ok (.iload_n 2, 1) := by decide +kernel
theorem dX8_bestWater_69 : decode cX8_bestWater 69 = .ok (.if_icmp .le 8, 3) := by decide +kernel
theorem dX8_bestWater_72 : decode cX8_bestWater 72 = .ok (.iload 4, 2) := by decide +kernel
theorem dX8_bestWater_74 : decode cX8_bestWater 74 = .ok (.istore_n 2, 1) := by decide +kernel
theorem dX8_bestWater_75 : decode cX8_bestWater 75 = .ok (.iload_n 3, 1) := by decide +kernel
theorem dX8_bestWater_76 : decode cX8_bestWater 76 = .ok (.istore_n 1, 1) := by decide +kernel
theorem dX8_bestWater_77 : decode cX8_bestWater 77 = .ok (.iinc 3 1, 3) := by decide +kernel
theorem dX8_bestWater_80 : decode cX8_bestWater 80 = .ok (.goto (-60), 3) := by decide +kernel
theorem dX8_bestWater_83 : decode cX8_bestWater 83 = .ok (.iload_n 1, 1) := by decide +kernel
theorem dX8_bestWater_84 : decode cX8_bestWater 84 = .ok (.ireturn, 1) := by decide +kernel
theorem dX8_winner_0 : decode cX8_winner 0 = .ok (.aload_n 0, 1) := by decide +kernel
theorem dX8_winner_1 : decode cX8_winner 1 = .ok (.aload_n 0, 1) := by decide +kernel
theorem dX8_winner_2 : decode cX8_winner 2 = .ok (.getfield 12, 3) := by decide +kernel
theorem dX8_winner_5 : decode cX8_winner 5 = .ok (.invokevirtual 275, 3) := by decide +kernel
theorem dX8_winner_8 : decode cX8_winner 8 = .ok (.ireturn, 1) := by decide +kernel
theorem dX8_worthOf_0 : decode cX8_worthOf 0 = .ok (.aload_n 1, 1) := by decide +kernel
theorem dX8_worthOf_1 : decode cX8_worthOf 1 = .ok (.getfield 189, 3) := by decide +kernel
theorem dX8_worthOf_4 : decode cX8_worthOf 4 = .ok (.aload_n 0, 1) := by decide +kernel
theorem dX8_worthOf_5 : decode cX8_worthOf 5 = .ok (.getfield 40, 3) := by decide +kernel
theorem dX8_worthOf_8 : decode cX8_worthOf 8 = .ok (.aload_n 1, 1) := by decide +kernel
theorem dX8_worthOf_9 : decode cX8_worthOf 9 = .ok (.invokevirtual 144, 3) := by decide +kernel
theorem dX8_worthOf_12 : decode cX8_worthOf 12 = .ok (.iload_n 2, 1) := by decide +kernel
theorem dX8_worthOf_13 : decode cX8_worthOf 13 = .ok (.iconst 0, 1) := by decide +kernel
theorem dX8_worthOf_14 : decode cX8_worthOf 14 = .ok (.invokevirtual 279, 3) := by decide +kernel
theorem dX8_worthOf_17 : decode cX8_worthOf 17 = .ok (.imul, 1) := by decide +kernel
theorem dX8_worthOf_18 : decode cX8_worthOf 18 = .ok (.ireturn, 1) := by decide +kernel
theorem dX8_winnerOf_0 : decode cX8_winnerOf 0 = .ok (.iconst 1, 1) := by decide +kernel
theorem dX8_winnerOf_1 : decode cX8_winnerOf 1 = .ok (.aload_n 1, 1) := by decide +kernel
theorem dX8_winnerOf_2 : decode cX8_winnerOf 2 = .ok (.getfield 134, 3) := by decide +kernel
theorem dX8_winnerOf_5 : decode cX8_winnerOf 5 = .ok (.isub, 1) := by decide +kernel
theorem dX8_winnerOf_6 : decode cX8_winnerOf 6 = .ok (.istore_n 2, 1) := by decide +kernel
theorem dX8_winnerOf_7 : decode cX8_winnerOf 7 = .ok (.aload_n 1, 1) := by decide +kernel
theorem dX8_winnerOf_8 : decode cX8_winnerOf 8 = .ok (.iload_n 2, 1) := by decide +kernel
theorem dX8_winnerOf_9 : decode cX8_winnerOf 9 = .ok (.invokevirtual 171, 3) := by decide +kernel
theorem dX8_winnerOf_12 : decode cX8_winnerOf 12 = .ok (.getfield 175, 3) := by decide +kernel
theorem dX8_winnerOf_15 : decode cX8_winnerOf 15 = .ok (.aload_n 1, 1) := by decide +kernel
theorem dX8_winnerOf_16 : decode cX8_winnerOf 16 = .ok (.aload_n 1, 1) := by decide +kernel
theorem dX8_winnerOf_17 : decode cX8_winnerOf 17 = .ok (.getfield 134, 3) := by decide +kernel
theorem dX8_winnerOf_20 : decode cX8_winnerOf 20 = .ok (.invokevirtual 171, 3) := by decide +kernel
theorem dX8_winnerOf_23 : decode cX8_winnerOf 23 = .ok (.getfield 175, 3) := by decide +kernel
theorem dX8_winnerOf_26 : decode cX8_winnerOf 26 = .ok (.isub, 1) := by decide +kernel
theorem dX8_winnerOf_27 : decode cX8_winnerOf 27 = .ok (.aload_n 0, 1) := by decide +kernel
theorem dX8_winnerOf_28 : decode cX8_winnerOf 28 = .ok (.aload_n 1, 1) := by decide +kernel
theorem dX8_winnerOf_29 : decode cX8_winnerOf 29 = .ok (.aload_n 1, 1) := by decide +kernel
theorem dX8_winnerOf_30 : decode cX8_winnerOf 30 = .ok (.getfield 116, 3) := by decide +kernel
theorem dX8_winnerOf_33 : decode cX8_winnerOf 33 = .ok (.invokevirtual 260, 3) := by decide +kernel
theorem dX8_winnerOf_36 : decode cX8_winnerOf 36 = .ok (.iadd, 1) := by decide +kernel
theorem dX8_winnerOf_37 : decode cX8_winnerOf 37 = .ok (.istore_n 3, 1) := by decide +kernel
theorem dX8_winnerOf_38 : decode cX8_winnerOf 38 = .ok (.iload_n 3, 1) := by decide +kernel
theorem dX8_winnerOf_39 : decode cX8_winnerOf 39 = .ok (.ifCond .ne 5, 3) := by decide +kernel
theorem dX8_winnerOf_42 : decode cX8_winnerOf 42 = .ok (.iconst 2, 1) := by decide +kernel
theorem dX8_winnerOf_43 : decode cX8_winnerOf 43 = .ok (.ireturn, 1) := by decide +kernel
theorem dX8_winnerOf_44 : decode cX8_winnerOf 44 = .ok (.iload_n 3, 1) := by decide +kernel
theorem dX8_winnerOf_45 : decode cX8_winnerOf 45 = .ok (.ifCond .le 10, 3) := by decide +kernel
theorem dX8_winnerOf_48 : decode cX8_winnerOf 48 = .ok (.aload_n 1, 1) := by decide +kernel
theorem dX8_winnerOf_49 : decode cX8_winnerOf 49 = .ok (.getfield 134, 3) := by decide +kernel
theorem dX8_winnerOf_52 : decode cX8_winnerOf 52 = .ok (.goto 4, 3) := by decide +kernel
theorem dX8_winnerOf_55 : decode cX8_winnerOf 55 = .ok (.iload_n 2, 1) := by decide +kernel
theorem dX8_winnerOf_56 : decode cX8_winnerOf 56 = .ok (.ireturn, 1) := by decide +kernel
theorem dX8_triesBestClip_0 : decode cX8_triesBestClip 0 = .ok (.aload_n 0, 1) := by decide +kernel
theorem dX8_triesBestClip_1 : decode cX8_triesBestClip 1 = .ok (.getfield 40, 3) := by decide +kernel
theorem dX8_triesBestClip_4 : decode cX8_triesBestClip 4 = .ok (.aload_n 1, 1) := by decide +kernel
theorem dX8_triesBestClip_5 : decode cX8_triesBestClip 5 = .ok (.invokevirtual 144, 3) := by decide +kernel
theorem dX8_triesBestClip_8 : decode cX8_triesBestClip 8 = .ok (.aload_n 1, 1) := by decide +kernel
theorem dX8_triesBestClip_9 : decode cX8_triesBestClip 9 = .ok (.getfield 116, 3) := by decide +kernel
theorem dX8_triesBestClip_12 : decode cX8_triesBestClip 12 = .ok (.invokevirtual 264, 3) := by decide +kernel
theorem dX8_triesBestClip_15 : decode cX8_triesBestClip 15 = .ok (.istore_n 2, 1) := by decide +kernel
theorem dX8_triesBestClip_16 : decode cX8_triesBestClip 16 = .ok (.iload_n 2, 1) := by decide +kernel
theorem dX8_triesBestClip_17 : decode cX8_triesBestClip 17 = .ok (.iconst (-1), 1) := by decide +kernel
theorem dX8_triesBestClip_18 : decode cX8_triesBestClip 18 = .ok (.if_icmp .ne 5, 3) := by decide +kernel
theorem dX8_triesBestClip_21 : decode cX8_triesBestClip 21 = .ok (.iconst 0, 1) := by decide +kernel
theorem dX8_triesBestClip_22 : decode cX8_triesBestClip 22 = .ok (.ireturn, 1) := by decide +kernel
theorem dX8_triesBestClip_23 : decode cX8_triesBestClip 23 = .ok (.aload_n 1, 1) := by decide +kernel
theorem dX8_triesBestClip_24 : decode cX8_triesBestClip 24 = .ok (.iload_n 2, 1) := by decide +kernel
theorem dX8_triesBestClip_25 : decode cX8_triesBestClip 25 = .ok (.invokevirtual 224, 3) := by decide +kernel
theorem dX8_triesBestClip_28 : decode cX8_triesBestClip 28 = .ok (.pop, 1) := by decide +kernel
theorem dX8_triesBestClip_29 : decode cX8_triesBestClip 29 = .ok (.iconst 1, 1) := by decide +kernel
theorem dX8_triesBestClip_30 : decode cX8_triesBestClip 30 = .ok (.ireturn, 1) := by decide +kernel
theorem dX8_runScript_0 : decode cX8_runScript 0 = .ok (.iload_n 1, 1) := by decide +kernel
theorem dX8_runScript_1 : decode cX8_runScript 1 = .ok (.iconst 1, 1) := by decide +kernel
theorem dX8_runScript_2 : decode cX8_runScript 2 = .ok (.if_icmp .lt 8, 3) := by decide +kernel
theorem dX8_runScript_5 : decode cX8_runScript 5 = .ok (.iload_n 1, 1) := by decide +kernel
theorem dX8_runScript_6 : decode cX8_runScript 6 = .ok (.iconst 3, 1) := by decide +kernel
theorem dX8_runScript_7 : decode cX8_runScript 7 = .ok (.if_icmp .le 14, 3) := by decide +kernel
theorem dX8_runScript_10 : decode cX8_runScript 10 = .ok (.new 44, 3) := by decide +kernel
theorem dX8_runScript_13 : decode cX8_runScript 13 = .ok (.dup, 1) := by decide +kernel
theorem dX8_runScript_14 : decode cX8_runScript 14 = .ok (.ldc_w 282, 3) := by decide +kernel
theorem dX8_runScript_17 : decode cX8_runScript 17 = .ok (.invokespecial 48, 3) := by decide +kernel
theorem dX8_runScript_20 : decode cX8_runScript 20 = .ok (.athrow, 1) := by decide +kernel
theorem dX8_runScript_21 : decode cX8_runScript 21 = .ok (.lload_n 2, 1) := by decide +kernel
theorem dX8_runScript_22 : decode cX8_runScript 22 = .ok (.lconst 0, 1) := by decide +kernel
theorem dX8_runScript_23 : decode cX8_runScript 23 = .ok (.lcmp, 1) := by decide +kernel
theorem dX8_runScript_24 : decode cX8_runScript 24 = .ok (.ifCond .lt 13, 3) := by decide +kernel
theorem dX8_runScript_27 : decode cX8_runScript 27 = .ok (.lload_n 2, 1) := by decide +kernel
theorem dX8_runScript_28 : decode cX8_runScript 28 = .ok (.iload_n 1, 1) := by decide +kernel
theorem dX8_runScript_29 : decode cX8_runScript 29 = .ok (.invokestatic 284, 3) := by decide +kernel
theorem dX8_runScript_32 : decode cX8_runScript 32 = .ok (.lconst 0, 1) := by decide +kernel
theorem dX8_runScript_33 : decode cX8_runScript 33 = .ok (.lcmp, 1) := by decide +kernel
theorem dX8_runScript_34 : decode cX8_runScript 34 = .ok (.ifCond .eq 14, 3) := by decide +kernel
theorem dX8_runScript_37 : decode cX8_runScript 37 = .ok (.new 44, 3) := by decide +kernel
theorem dX8_runScript_40 : decode cX8_runScript 40 = .ok (.dup, 1) := by decide +kernel
theorem dX8_runScript_41 : decode cX8_runScript 41 = .ok (.ldc_w 288, 3) := by decide +kernel
theorem dX8_runScript_44 : decode cX8_runScript 44 = .ok (.invokespecial 48, 3) := by decide +kernel
theorem dX8_runScript_47 : decode cX8_runScript 47 = .ok (.athrow, 1) := by decide +kernel
theorem dX8_runScript_48 : decode cX8_runScript 48 = .ok (.aload_n 0, 1) := by decide +kernel
theorem dX8_runScript_49 : decode cX8_runScript 49 = .ok (.getfield 16, 3) := by decide +kernel
theorem dX8_runScript_52 : decode cX8_runScript 52 = .ok (.aload_n 0, 1) := by decide +kernel
theorem dX8_runScript_53 : decode cX8_runScript 53 = .ok (.getfield 12, 3) := by decide +kernel
theorem dX8_runScript_56 : decode cX8_runScript 56 = .ok (.invokevirtual 290, 3) := by decide +kernel
theorem dX8_runScript_59 : decode cX8_runScript 59 = .ok (.iconst 0, 1) := by decide +kernel
theorem dX8_runScript_60 : decode cX8_runScript 60 = .ok (.istore 4, 2) := by decide +kernel
theorem dX8_runScript_62 : decode cX8_runScript 62 = .ok (.iload 4, 2) := by decide +kernel
theorem dX8_runScript_64 : decode cX8_runScript 64 = .ok (.iload_n 1, 1) := by decide +kernel
theorem dX8_runScript_65 : decode cX8_runScript 65 = .ok (.if_icmp .ge 34, 3) := by decide +kernel
theorem dX8_runScript_68 : decode cX8_runScript 68 = .ok (.aload_n 0, 1) := by decide +kernel
theorem dX8_runScript_69 : decode cX8_runScript 69 = .ok (.lload_n 2, 1) := by decide +kernel
theorem dX8_runScript_70 : decode cX8_runScript 70 = .ok (.iload_n 1, 1) := by decide +kernel
theorem dX8_runScript_71 : decode cX8_runScript 71 = .ok (.iconst 1, 1) := by decide +kernel
theorem dX8_runScript_72 : decode cX8_runScript 72 = .ok (.isub, 1) := by decide +kernel
theorem dX8_runScript_73 : decode cX8_runScript 73 = .ok (.iload 4, 2) := by decide +kernel
theorem dX8_runScript_75 : decode cX8_runScript 75 = .ok (.isub, 1) := by decide +kernel
theorem dX8_runScript_76 : decode cX8_runScript 76 = .ok (.invokestatic 284, 3) := by decide +kernel
theorem dX8_runScript_79 : decode cX8_runScript 79 = .ok (.ldc2_w 293, 3) := by decide +kernel
theorem dX8_runScript_82 : decode cX8_runScript 82 = .ok (.lrem, 1) := by decide +kernel
theorem dX8_runScript_83 : decode cX8_runScript 83 = .ok (.l2i, 1) := by decide +kernel
theorem dX8_runScript_84 : decode cX8_runScript 84 = .ok (.invokevirtual 295, 3) := by decide +kernel
theorem dX8_runScript_87 : decode cX8_runScript 87 = .ok (.ifCond .ne 6, 3) := by decide +kernel
theorem dX8_runScript_90 : decode cX8_runScript 90 = .ok (.iload 4, 2) := by decide +kernel
theorem dX8_runScript_92 : decode cX8_runScript 92 = .ok (.ireturn, 1) := by decide +kernel
theorem dX8_runScript_93 : decode cX8_runScript 93 = .ok (.iinc 4 1, 3) := by decide +kernel
theorem dX8_runScript_96 : decode cX8_runScript 96 = .ok (.goto (-34), 3) := by decide +kernel
theorem dX8_runScript_99 : decode cX8_runScript 99 = .ok (.iconst (-1), 1) := by decide +kernel
theorem dX8_runScript_100 : decode cX8_runScript 100 = .ok (.ireturn, 1) := by decide +kernel
theorem dX8_withoutGroups_0 : decode cX8_withoutGroups 0 = .ok (.lload_n 0, 1) := by decide +kernel
theorem dX8_withoutGroups_1 : decode cX8_withoutGroups 1 = .ok (.lstore_n 3, 1) := by decide +kernel
theorem dX8_withoutGroups_2 : decode cX8_withoutGroups 2 = .ok (.iconst 0, 1) := by decide +kernel
theorem dX8_withoutGroups_3 : decode cX8_withoutGroups 3 = .ok (.istore 5, 2) := by decide +kernel
theorem dX8_withoutGroups_5 : decode cX8_withoutGroups 5 = .ok (.iload 5, 2) := by decide +kernel
theorem dX8_withoutGroups_7 : decode cX8_withoutGroups 7 = .ok (.iload_n 2, 1) := by decide +kernel
theorem dX8_withoutGroups_8 : decode cX8_withoutGroups 8 = .ok (.if_icmp .ge 15, 3) := by decide +kernel
theorem dX8_withoutGroups_11 : decode cX8_withoutGroups 11 = .ok (.lload_n 3, 1) := by decide +kernel
theorem dX8_withoutGroups_12 : decode cX8_withoutGroups 12 = .ok (.ldc2_w 293, 3) := by decide +kernel
theorem dX8_withoutGroups_15 : decode cX8_withoutGroups 15 = .ok (.ldiv, 1) := by decide +kernel
theorem dX8_withoutGroups_16 : decode cX8_withoutGroups 16 = .ok (.lstore_n 3, 1) := by decide +kernel
theorem dX8_withoutGroups_17 : decode cX8_withoutGroups 17 = .ok (.iinc 5 1, 3) := by decide +kernel
theorem dX8_withoutGroups_20 : decode cX8_withoutGroups 20 = .ok (.goto (-15), 3) := by decide +kernel
theorem dX8_withoutGroups_23 : decode cX8_withoutGroups 23 = .ok (.lload_n 3, 1) := by decide +kernel
theorem dX8_withoutGroups_24 : decode cX8_withoutGroups 24 = .ok (.lreturn, 1) := by decide +kernel
theorem dX8_obeyGroup_0 : decode cX8_obeyGroup 0 = .ok (.iload_n 1, 1) := by decide +kernel
theorem dX8_obeyGroup_1 : decode cX8_obeyGroup 1 = .ok (.bipush 100, 2) := by decide +kernel
theorem dX8_obeyGroup_3 : decode cX8_obeyGroup 3 = .ok (.idiv, 1) := by decide +kernel
theorem dX8_obeyGroup_4 : decode cX8_obeyGroup 4 = .ok (.bipush 10, 2) := by decide +kernel
theorem dX8_obeyGroup_6 : decode cX8_obeyGroup 6 = .ok (.irem, 1) := by decide +kernel
theorem dX8_obeyGroup_7 : decode cX8_obeyGroup 7 = .ok (.istore_n 2, 1) := by decide +kernel
theorem dX8_obeyGroup_8 : decode cX8_obeyGroup 8 = .ok (.iload_n 1, 1) := by decide +kernel
theorem dX8_obeyGroup_9 : decode cX8_obeyGroup 9 = .ok (.bipush 10, 2) := by decide +kernel
theorem dX8_obeyGroup_11 : decode cX8_obeyGroup 11 = .ok (.idiv, 1) := by decide +kernel
theorem dX8_obeyGroup_12 : decode cX8_obeyGroup 12 = .ok (.bipush 10, 2) := by decide +kernel
theorem dX8_obeyGroup_14 : decode cX8_obeyGroup 14 = .ok (.irem, 1) := by decide +kernel
theorem dX8_obeyGroup_15 : decode cX8_obeyGroup 15 = .ok (.istore_n 3, 1) := by decide +kernel
theorem dX8_obeyGroup_16 : decode cX8_obeyGroup 16 = .ok (.iload_n 1, 1) := by decide +kernel
theorem dX8_obeyGroup_17 : decode cX8_obeyGroup 17 = .ok (.bipush 10, 2) := by decide +kernel
theorem dX8_obeyGroup_19 : decode cX8_obeyGroup 19 = .ok (.irem, 1) := by decide +kernel
theorem dX8_obeyGroup_20 : decode cX8_obeyGroup 20 = .ok (.istore 4, 2) := by decide +kernel
theorem dX8_obeyGroup_22 : decode cX8_obeyGroup 22 = .ok (.iload_n 1, 1) := by decide +kernel
theorem dX8_obeyGroup_23 : decode cX8_obeyGroup 23 = .ok (.bipush 100, 2) := by decide +kernel
theorem dX8_obeyGroup_25 : decode cX8_obeyGroup 25 = .ok (.irem, 1) := by decide +kernel
theorem dX8_obeyGroup_26 : decode cX8_obeyGroup 26 = .ok (.istore 5, 2) := by decide +kernel
theorem dX8_obeyGroup_28 : decode cX8_obeyGroup 28 = .ok (.iload_n 1, 1) := by decide +kernel
theorem dX8_obeyGroup_29 : decode cX8_obeyGroup 29 = .ok (.sipush 1000, 3) := by decide +kernel
theorem dX8_obeyGroup_32 : decode cX8_obeyGroup 32 = .ok (.idiv, 1) := by decide +kernel
theorem dX8_obeyGroup_33 : decode cX8_obeyGroup 33 = .ok (.tableswitch 279 1 9 #[51, 63, 85, 111, 131, 155, 184, 221, 252], 51) := by decide +kernel
theorem dX8_obeyGroup_84 : decode cX8_obeyGroup 84 = .ok (.aload_n 0, 1) := by decide +kernel
theorem dX8_obeyGroup_85 : decode cX8_obeyGroup 85 = .ok (.getfield 16, 3) := by decide +kernel
theorem dX8_obeyGroup_88 : decode cX8_obeyGroup 88 = .ok (.iload_n 2, 1) := by decide +kernel
theorem dX8_obeyGroup_89 : decode cX8_obeyGroup 89 = .ok (.iload_n 3, 1) := by decide +kernel
theorem dX8_obeyGroup_90 : decode cX8_obeyGroup 90 = .ok (.iload 4, 2) := by decide +kernel
theorem dX8_obeyGroup_92 : decode cX8_obeyGroup 92 = .ok (.invokevirtual 97, 3) := by decide +kernel
theorem dX8_obeyGroup_95 : decode cX8_obeyGroup 95 = .ok (.ireturn, 1) := by decide +kernel
theorem dX8_obeyGroup_96 : decode cX8_obeyGroup 96 = .ok (.iload 5, 2) := by decide +kernel
theorem dX8_obeyGroup_98 : decode cX8_obeyGroup 98 = .ok (.ifCond .ne 18, 3) := by decide +kernel
theorem dX8_obeyGroup_101 : decode cX8_obeyGroup 101 = .ok (.aload_n 0, 1) := by decide +kernel
theorem dX8_obeyGroup_102 : decode cX8_obeyGroup 102 = .ok (.getfield 16, 3) := by decide +kernel
theorem dX8_obeyGroup_105 : decode cX8_obeyGroup 105 = .ok (.iload_n 2, 1) := by decide +kernel
theorem dX8_obeyGroup_106 : decode cX8_obeyGroup 106 = .ok (.invokevirtual 101, 3) := by decide +kernel
theorem dX8_obeyGroup_109 : decode cX8_obeyGroup 109 = .ok (.ifCond .eq 7, 3) := by decide +kernel
theorem dX8_obeyGroup_112 : decode cX8_obeyGroup 112 = .ok (.iconst 1, 1) := by decide +kernel
theorem dX8_obeyGroup_113 : decode cX8_obeyGroup 113 = .ok (.goto 4, 3) := by decide +kernel
theorem dX8_obeyGroup_116 : decode cX8_obeyGroup 116 = .ok (.iconst 0, 1) := by decide +kernel
theorem dX8_obeyGroup_117 : decode cX8_obeyGroup 117 = .ok (.ireturn, 1) := by decide +kernel
theorem dX8_obeyGroup_118 : decode cX8_obeyGroup 118 = .ok (.iload_n 2, 1) := by decide +kernel
theorem dX8_obeyGroup_119 : decode cX8_obeyGroup 119 = .ok (.ifCond .ne 23, 3) := by decide +kernel
theorem dX8_obeyGroup_122 : decode cX8_obeyGroup 122 = .ok (.iload_n 3, 1) := by decide +kernel
theorem dX8_obeyGroup_123 : decode cX8_obeyGroup 123 = .ok (.ifCond .ne 19, 3) := by decide +kernel
theorem dX8_obeyGroup_126 : decode cX8_obeyGroup 126 = .ok (.aload_n 0, 1) := by decide +kernel
theorem dX8_obeyGroup_127 : decode cX8_obeyGroup 127 = .ok (.getfield 16, 3) := by decide +kernel
theorem dX8_obeyGroup_130 : decode cX8_obeyGroup 130 = .ok (.iload 4, 2) := by decide +kernel
theorem dX8_obeyGroup_132 : decode cX8_obeyGroup 132 = .ok (.invokevirtual 104, 3) := by decide +kernel
theorem dX8_obeyGroup_135 : decode cX8_obeyGroup 135 = .ok (.ifCond .eq 7, 3) := by decide +kernel
theorem dX8_obeyGroup_138 : decode cX8_obeyGroup 138 = .ok (.iconst 1, 1) := by decide +kernel
theorem dX8_obeyGroup_139 : decode cX8_obeyGroup 139 = .ok (.goto 4, 3) := by decide +kernel
theorem dX8_obeyGroup_142 : decode cX8_obeyGroup 142 = .ok (.iconst 0, 1) := by decide +kernel
theorem dX8_obeyGroup_143 : decode cX8_obeyGroup 143 = .ok (.ireturn, 1) := by decide +kernel
theorem dX8_obeyGroup_144 : decode cX8_obeyGroup 144 = .ok (.aload_n 0, 1) := by decide +kernel
theorem dX8_obeyGroup_145 : decode cX8_obeyGroup 145 = .ok (.getfield 16, 3) := by decide +kernel
theorem dX8_obeyGroup_148 : decode cX8_obeyGroup 148 = .ok (.invokevirtual 107, 3) := by decide +kernel
theorem dX8_obeyGroup_151 : decode cX8_obeyGroup 151 = .ok (.iload_n 1, 1) := by decide +kernel
theorem dX8_obeyGroup_152 : decode cX8_obeyGroup 152 = .ok (.sipush 4000, 3) := by decide +kernel
theorem dX8_obeyGroup_155 : decode cX8_obeyGroup 155 = .ok (.if_icmp .ne 7, 3) := by decide +kernel
theorem dX8_obeyGroup_158 : decode cX8_obeyGroup 158 = .ok (.iconst 1, 1) := by decide +kernel
theorem dX8_obeyGroup_159 : decode cX8_obeyGroup 159 = .ok (.goto 4, 3) := by decide +kernel
theorem dX8_obeyGroup_162 : decode cX8_obeyGroup 162 = .ok (.iconst 0, 1) := by decide +kernel
theorem dX8_obeyGroup_163 : decode cX8_obeyGroup 163 = .ok (.ireturn, 1) := by decide +kernel
theorem dX8_obeyGroup_164 : decode cX8_obeyGroup 164 = .ok (.iload_n 1, 1) := by decide +kernel
theorem dX8_obeyGroup_165 : decode cX8_obeyGroup 165 = .ok (.sipush 5000, 3) := by decide +kernel
theorem dX8_obeyGroup_168 : decode cX8_obeyGroup 168 = .ok (.if_icmp .ne 18, 3) := by decide +kernel
theorem dX8_obeyGroup_171 : decode cX8_obeyGroup 171 = .ok (.aload_n 0, 1) := by decide +kernel
theorem dX8_obeyGroup_172 : decode cX8_obeyGroup 172 = .ok (.aload_n 0, 1) := by decide +kernel
theorem dX8_obeyGroup_173 : decode cX8_obeyGroup 173 = .ok (.getfield 16, 3) := by decide +kernel
theorem dX8_obeyGroup_176 : decode cX8_obeyGroup 176 = .ok (.invokevirtual 110, 3) := by decide +kernel
theorem dX8_obeyGroup_179 : decode cX8_obeyGroup 179 = .ok (.ifCond .eq 7, 3) := by decide +kernel
theorem dX8_obeyGroup_182 : decode cX8_obeyGroup 182 = .ok (.iconst 1, 1) := by decide +kernel
theorem dX8_obeyGroup_183 : decode cX8_obeyGroup 183 = .ok (.goto 4, 3) := by decide +kernel
theorem dX8_obeyGroup_186 : decode cX8_obeyGroup 186 = .ok (.iconst 0, 1) := by decide +kernel
theorem dX8_obeyGroup_187 : decode cX8_obeyGroup 187 = .ok (.ireturn, 1) := by decide +kernel
theorem dX8_obeyGroup_188 : decode cX8_obeyGroup 188 = .ok (.iload_n 2, 1) := by decide +kernel
theorem dX8_obeyGroup_189 : decode cX8_obeyGroup 189 = .ok (.invokestatic 163, 3) := by decide +kernel
theorem dX8_obeyGroup_192 : decode cX8_obeyGroup 192 = .ok (.ifCond .eq 23, 3) := by decide +kernel
theorem dX8_obeyGroup_195 : decode cX8_obeyGroup 195 = .ok (.aload_n 0, 1) := by decide +kernel
theorem dX8_obeyGroup_196 : decode cX8_obeyGroup 196 = .ok (.getfield 16, 3) := by decide +kernel
theorem dX8_obeyGroup_199 : decode cX8_obeyGroup 199 = .ok (.iload_n 2, 1) := by decide +kernel
theorem dX8_obeyGroup_200 : decode cX8_obeyGroup 200 = .ok (.invokevirtual 171, 3) := by decide +kernel
theorem dX8_obeyGroup_203 : decode cX8_obeyGroup 203 = .ok (.getfield 175, 3) := by decide +kernel
theorem dX8_obeyGroup_206 : decode cX8_obeyGroup 206 = .ok (.iload 5, 2) := by decide +kernel
theorem dX8_obeyGroup_208 : decode cX8_obeyGroup 208 = .ok (.if_icmp .gt 7, 3) := by decide +kernel
theorem dX8_obeyGroup_211 : decode cX8_obeyGroup 211 = .ok (.iconst 1, 1) := by decide +kernel
theorem dX8_obeyGroup_212 : decode cX8_obeyGroup 212 = .ok (.goto 4, 3) := by decide +kernel
theorem dX8_obeyGroup_215 : decode cX8_obeyGroup 215 = .ok (.iconst 0, 1) := by decide +kernel
theorem dX8_obeyGroup_216 : decode cX8_obeyGroup 216 = .ok (.ireturn, 1) := by decide +kernel
theorem dX8_obeyGroup_217 : decode cX8_obeyGroup 217 = .ok (.iload_n 3, 1) := by decide +kernel
theorem dX8_obeyGroup_218 : decode cX8_obeyGroup 218 = .ok (.ifCond .ne 34, 3) := by decide +kernel
theorem dX8_obeyGroup_221 : decode cX8_obeyGroup 221 = .ok (.aload_n 0, 1) := by decide +kernel
theorem dX8_obeyGroup_222 : decode cX8_obeyGroup 222 = .ok (.getfield 16, 3) := by decide +kernel
theorem dX8_obeyGroup_225 : decode cX8_obeyGroup 225 = .ok (.iload_n 2, 1) := by decide +kernel
theorem dX8_obeyGroup_226 : decode cX8_obeyGroup 226 = .ok (.invokevirtual 298, 3) := by decide +kernel
theorem dX8_obeyGroup_229 : decode cX8_obeyGroup 229 = .ok (.ifCond .eq 23, 3) := by decide +kernel
theorem dX8_obeyGroup_232 : decode cX8_obeyGroup 232 = .ok (.aload_n 0, 1) := by decide +kernel
theorem dX8_obeyGroup_233 : decode cX8_obeyGroup 233 = .ok (.getfield 16, 3) := by decide +kernel
theorem dX8_obeyGroup_236 : decode cX8_obeyGroup 236 = .ok (.getfield 116, 3) := by decide +kernel
theorem dX8_obeyGroup_239 : decode cX8_obeyGroup 239 = .ok (.iload_n 2, 1) := by decide +kernel
theorem dX8_obeyGroup_240 : decode cX8_obeyGroup 240 = .ok (.invokestatic 159, 3) := by decide +kernel
theorem dX8_obeyGroup_243 : decode cX8_obeyGroup 243 = .ok (.iload 4, 2) := by decide +kernel
theorem dX8_obeyGroup_245 : decode cX8_obeyGroup 245 = .ok (.if_icmp .ne 7, 3) := by decide +kernel
theorem dX8_obeyGroup_248 : decode cX8_obeyGroup 248 = .ok (.iconst 1, 1) := by decide +kernel
theorem dX8_obeyGroup_249 : decode cX8_obeyGroup 249 = .ok (.goto 4, 3) := by decide +kernel
theorem dX8_obeyGroup_252 : decode cX8_obeyGroup 252 = .ok (.iconst 0, 1) := by decide +kernel
theorem dX8_obeyGroup_253 : decode cX8_obeyGroup 253 = .ok (.ireturn, 1) := by decide +kernel
theorem dX8_obeyGroup_254 : decode cX8_obeyGroup 254 = .ok (.iload_n 2, 1) := by decide +kernel
theorem dX8_obeyGroup_255 : decode cX8_obeyGroup 255 = .ok (.ifCond .ne 28, 3) := by decide +kernel
theorem dX8_obeyGroup_258 : decode cX8_obeyGroup 258 = .ok (.aload_n 0, 1) := by decide +kernel
theorem dX8_obeyGroup_259 : decode cX8_obeyGroup 259 = .ok (.aload_n 0, 1) := by decide +kernel
theorem dX8_obeyGroup_260 : decode cX8_obeyGroup 260 = .ok (.getfield 16, 3) := by decide +kernel
theorem dX8_obeyGroup_263 : decode cX8_obeyGroup 263 = .ok (.aload_n 0, 1) := by decide +kernel
theorem dX8_obeyGroup_264 : decode cX8_obeyGroup 264 = .ok (.getfield 16, 3) := by decide +kernel
theorem dX8_obeyGroup_267 : decode cX8_obeyGroup 267 = .ok (.getfield 116, 3) := by decide +kernel
theorem dX8_obeyGroup_270 : decode cX8_obeyGroup 270 = .ok (.invokevirtual 260, 3) := by decide +kernel
theorem dX8_obeyGroup_273 : decode cX8_obeyGroup 273 = .ok (.iload 5, 2) := by decide +kernel
theorem dX8_obeyGroup_275 : decode cX8_obeyGroup 275 = .ok (.ineg, 1) := by decide +kernel
theorem dX8_obeyGroup_276 : decode cX8_obeyGroup 276 = .ok (.if_icmp .lt 7, 3) := by decide +kernel
theorem dX8_obeyGroup_279 : decode cX8_obeyGroup 279 = .ok (.iconst 1, 1) := by decide +kernel
theorem dX8_obeyGroup_280 : decode cX8_obeyGroup 280 = .ok (.goto 4, 3) := by decide +kernel
theorem dX8_obeyGroup_283 : decode cX8_obeyGroup 283 = .ok (.iconst 0, 1) := by decide +kernel
theorem dX8_obeyGroup_284 : decode cX8_obeyGroup 284 = .ok (.ireturn, 1) := by decide +kernel
theorem dX8_obeyGroup_285 : decode cX8_obeyGroup 285 = .ok (.iload_n 2, 1) := by decide +kernel
theorem dX8_obeyGroup_286 : decode cX8_obeyGroup 286 = .ok (.ifCond .ne 24, 3) := by decide +kernel
theorem dX8_obeyGroup_289 : decode cX8_obeyGroup 289 = .ok (.iload_n 3, 1) := by decide +kernel
theorem dX8_obeyGroup_290 : decode cX8_obeyGroup 290 = .ok (.ifCond .ne 20, 3) := by decide +kernel
theorem dX8_obeyGroup_293 : decode cX8_obeyGroup 293 = .ok (.aload_n 0, 1) := by decide +kernel
theorem dX8_obeyGroup_294 : decode cX8_obeyGroup 294 = .ok (.aload_n 0, 1) := by decide +kernel
theorem dX8_obeyGroup_295 : decode cX8_obeyGroup 295 = .ok (.getfield 16, 3) := by decide +kernel
theorem dX8_obeyGroup_298 : decode cX8_obeyGroup 298 = .ok (.invokevirtual 275, 3) := by decide +kernel
theorem dX8_obeyGroup_301 : decode cX8_obeyGroup 301 = .ok (.iload 4, 2) := by decide +kernel
theorem dX8_obeyGroup_303 : decode cX8_obeyGroup 303 = .ok (.if_icmp .ne 7, 3) := by decide +kernel
theorem dX8_obeyGroup_306 : decode cX8_obeyGroup 306 = .ok (.iconst 1, 1) := by decide +kernel
theorem dX8_obeyGroup_307 : decode cX8_obeyGroup 307 = .ok (.goto 4, 3) := by decide +kernel
theorem dX8_obeyGroup_310 : decode cX8_obeyGroup 310 = .ok (.iconst 0, 1) := by decide +kernel
theorem dX8_obeyGroup_311 : decode cX8_obeyGroup 311 = .ok (.ireturn, 1) := by decide +kernel
theorem dX8_obeyGroup_312 : decode cX8_obeyGroup 312 = .ok (.iconst 0, 1) := by decide +kernel
theorem dX8_obeyGroup_313 : decode cX8_obeyGroup 313 = .ok (.ireturn, 1) := by decide +kernel
theorem dX8_simulate_0 : decode cX8_simulate 0 = .ok (.iload_n 3, 1) := by decide +kernel
theorem dX8_simulate_1 : decode cX8_simulate 1 = .ok (.iconst 1, 1) := by decide +kernel
theorem dX8_simulate_2 : decode cX8_simulate 2 = .ok (.if_icmp .lt 9, 3) := by decide +kernel
theorem dX8_simulate_5 : decode cX8_simulate 5 = .ok (.iload_n 3, 1) := by decide +kernel
theorem dX8_simulate_6 : decode cX8_simulate 6 = .ok (.bipush 60, 2) := by decide +kernel
theorem dX8_simulate_8 : decode cX8_simulate 8 = .ok (.if_icmp .le 14, 3) := by decide +kernel
theorem dX8_simulate_11 : decode cX8_simulate 11 = .ok (.new 44, 3) := by decide +kernel
theorem dX8_simulate_14 : decode cX8_simulate 14 = .ok (.dup, 1) := by decide +kernel
theorem dX8_simulate_15 : decode cX8_simulate 15 = .ok (.ldc_w 301, 3) := by decide +kernel
theorem dX8_simulate_18 : decode cX8_simulate 18 = .ok (.invokespecial 48, 3) := by decide +kernel
theorem dX8_simulate_21 : decode cX8_simulate 21 = .ok (.athrow, 1) := by decide +kernel
theorem dX8_simulate_22 : decode cX8_simulate 22 = .ok (.aload_n 0, 1) := by decide +kernel
theorem dX8_simulate_23 : decode cX8_simulate 23 = .ok (.getfield 16, 3) := by decide +kernel
theorem dX8_simulate_26 : decode cX8_simulate 26 = .ok (.aload_n 0, 1) := by decide +kernel
theorem dX8_simulate_27 : decode cX8_simulate 27 = .ok (.getfield 12, 3) := by decide +kernel
theorem dX8_simulate_30 : decode cX8_simulate 30 = .ok (.invokevirtual 290, 3) := by decide +kernel
theorem dX8_simulate_33 : decode cX8_simulate 33 = .ok (.lload_n 1, 1) := by decide +kernel
theorem dX8_simulate_34 : decode cX8_simulate 34 = .ok (.lstore 4, 2) := by decide +kernel
theorem dX8_simulate_36 : decode cX8_simulate 36 = .ok (.iconst 0, 1) := by decide +kernel
theorem dX8_simulate_37 : decode cX8_simulate 37 = .ok (.istore 6, 2) := by decide +kernel
theorem dX8_simulate_39 : decode cX8_simulate 39 = .ok (.iload 6, 2) := by decide +kernel
theorem dX8_simulate_41 : decode cX8_simulate 41 = .ok (.iload_n 3, 1) := by decide +kernel
theorem dX8_simulate_42 : decode cX8_simulate 42 = .ok (.if_icmp .ge 31, 3) := by decide +kernel
theorem dX8_simulate_45 : decode cX8_simulate 45 = .ok (.lload 4, 2) := by decide +kernel
theorem dX8_simulate_47 : decode cX8_simulate 47 = .ok (.ldc2_w 303, 3) := by decide +kernel
theorem dX8_simulate_50 : decode cX8_simulate 50 = .ok (.lmul, 1) := by decide +kernel
theorem dX8_simulate_51 : decode cX8_simulate 51 = .ok (.ldc2_w 305, 3) := by decide +kernel
theorem dX8_simulate_54 : decode cX8_simulate 54 = .ok (.ladd, 1) := by decide +kernel
theorem dX8_simulate_55 : decode cX8_simulate 55 = .ok (.lstore 4, 2) := by decide +kernel
theorem dX8_simulate_57 : decode cX8_simulate 57 = .ok (.aload_n 0, 1) := by decide +kernel
theorem dX8_simulate_58 : decode cX8_simulate 58 = .ok (.lload 4, 2) := by decide +kernel
theorem dX8_simulate_60 : decode cX8_simulate 60 = .ok (.bipush 33, 2) := by decide +kernel
theorem dX8_simulate_62 : decode cX8_simulate 62 = .ok (.lushr, 1) := by decide +kernel
theorem dX8_simulate_63 : decode cX8_simulate 63 = .ok (.l2i, 1) := by decide +kernel
theorem dX8_simulate_64 : decode cX8_simulate 64 = .ok (.invokevirtual 307, 3) := by decide +kernel
theorem dX8_simulate_67 : decode cX8_simulate 67 = .ok (.iinc 6 1, 3) := by decide +kernel
theorem dX8_simulate_70 : decode cX8_simulate 70 = .ok (.goto (-31), 3) := by decide +kernel
theorem dX8_simulate_73 : decode cX8_simulate 73 = .ok (.aload_n 0, 1) := by decide +kernel
theorem dX8_simulate_74 : decode cX8_simulate 74 = .ok (.getfield 16, 3) := by decide +kernel
theorem dX8_simulate_77 : decode cX8_simulate 77 = .ok (.invokevirtual 137, 3) := by decide +kernel
theorem dX8_simulate_80 : decode cX8_simulate 80 = .ok (.aload_n 0, 1) := by decide +kernel
theorem dX8_simulate_81 : decode cX8_simulate 81 = .ok (.getfield 12, 3) := by decide +kernel
theorem dX8_simulate_84 : decode cX8_simulate 84 = .ok (.invokevirtual 137, 3) := by decide +kernel
theorem dX8_simulate_87 : decode cX8_simulate 87 = .ok (.isub, 1) := by decide +kernel
theorem dX8_simulate_88 : decode cX8_simulate 88 = .ok (.istore 6, 2) := by decide +kernel
theorem dX8_simulate_90 : decode cX8_simulate 90 = .ok (.aload_n 0, 1) := by decide +kernel
theorem dX8_simulate_91 : decode cX8_simulate 91 = .ok (.getfield 16, 3) := by decide +kernel
theorem dX8_simulate_94 : decode cX8_simulate 94 = .ok (.invokevirtual 310, 3) := by decide +kernel
theorem dX8_simulate_97 : decode cX8_simulate 97 = .ok (.aload_n 0, 1) := by decide +kernel
theorem dX8_simulate_98 : decode cX8_simulate 98 = .ok (.getfield 12, 3) := by decide +kernel
theorem dX8_simulate_101 : decode cX8_simulate 101 = .ok (.invokevirtual 310, 3) := by decide +kernel
theorem dX8_simulate_104 : decode cX8_simulate 104 = .ok (.isub, 1) := by decide +kernel
theorem dX8_simulate_105 : decode cX8_simulate 105 = .ok (.istore 7, 2) := by decide +kernel
theorem dX8_simulate_107 : decode cX8_simulate 107 = .ok (.sipush 10000, 3) := by decide +kernel
theorem dX8_simulate_110 : decode cX8_simulate 110 = .ok (.iload 6, 2) := by decide +kernel
theorem dX8_simulate_112 : decode cX8_simulate 112 = .ok (.imul, 1) := by decide +kernel
theorem dX8_simulate_113 : decode cX8_simulate 113 = .ok (.iload 7, 2) := by decide +kernel
theorem dX8_simulate_115 : decode cX8_simulate 115 = .ok (.sipush 9999, 3) := by decide +kernel
theorem dX8_simulate_118 : decode cX8_simulate 118 = .ok (.invokestatic 313, 3) := by decide +kernel
theorem dX8_simulate_121 : decode cX8_simulate 121 = .ok (.iadd, 1) := by decide +kernel
theorem dX8_simulate_122 : decode cX8_simulate 122 = .ok (.ireturn, 1) := by decide +kernel
theorem dX8_simulateTurn_0 : decode cX8_simulateTurn 0 = .ok (.iload_n 1, 1) := by decide +kernel
theorem dX8_simulateTurn_1 : decode cX8_simulateTurn 1 = .ok (.bipush 8, 2) := by decide +kernel
theorem dX8_simulateTurn_3 : decode cX8_simulateTurn 3 = .ok (.idiv, 1) := by decide +kernel
theorem dX8_simulateTurn_4 : decode cX8_simulateTurn 4 = .ok (.istore_n 2, 1) := by decide +kernel
theorem dX8_simulateTurn_5 : decode cX8_simulateTurn 5 = .ok (.iload_n 1, 1) := by decide +kernel
theorem dX8_simulateTurn_6 : decode cX8_simulateTurn 6 = .ok (.bipush 8, 2) := by decide +kernel
theorem dX8_simulateTurn_8 : decode cX8_simulateTurn 8 = .ok (.irem, 1) := by decide +kernel
theorem dX8_simulateTurn_9 : decode cX8_simulateTurn 9 = .ok (.tableswitch 88 0 2 #[27, 42, 56], 27) := by decide +kernel
theorem dX8_simulateTurn_36 : decode cX8_simulateTurn 36 = .ok (.aload_n 0, 1) := by decide +kernel
theorem dX8_simulateTurn_37 : decode cX8_simulateTurn 37 = .ok (.getfield 16, 3) := by decide +kernel
theorem dX8_simulateTurn_40 : decode cX8_simulateTurn 40 = .ok (.iload_n 2, 1) := by decide +kernel
theorem dX8_simulateTurn_41 : decode cX8_simulateTurn 41 = .ok (.bipush 6, 2) := by decide +kernel
theorem dX8_simulateTurn_43 : decode cX8_simulateTurn 43 = .ok (.irem, 1) := by decide +kernel
theorem dX8_simulateTurn_44 : decode cX8_simulateTurn 44 = .ok (.invokevirtual 101, 3) := by decide +kernel
theorem dX8_simulateTurn_47 : decode cX8_simulateTurn 47 = .ok (.pop, 1) := by decide +kernel
theorem dX8_simulateTurn_48 : decode cX8_simulateTurn 48 = .ok (.goto 80, 3) := by decide +kernel
theorem dX8_simulateTurn_51 : decode cX8_simulateTurn 51 = .ok (.aload_n 0, 1) := by decide +kernel
theorem dX8_simulateTurn_52 : decode cX8_simulateTurn 52 = .ok (.getfield 16, 3) := by decide +kernel
theorem dX8_simulateTurn_55 : decode cX8_simulateTurn 55 = .ok (.iload_n 2, 1) := by decide +kernel
theorem dX8_simulateTurn_56 : decode cX8_simulateTurn 56 = .ok (.iconst 3, 1) := by decide +kernel
theorem dX8_simulateTurn_57 : decode cX8_simulateTurn 57 = .ok (.irem, 1) := by decide +kernel
theorem dX8_simulateTurn_58 : decode cX8_simulateTurn 58 = .ok (.invokevirtual 104, 3) := by decide +kernel
theorem dX8_simulateTurn_61 : decode cX8_simulateTurn 61 = .ok (.pop, 1) := by decide +kernel
theorem dX8_simulateTurn_62 : decode cX8_simulateTurn 62 = .ok (.goto 66, 3) := by decide +kernel
theorem dX8_simulateTurn_65 : decode cX8_simulateTurn 65 = .ok (.iload_n 2, 1) := by decide +kernel
theorem dX8_simulateTurn_66 : decode cX8_simulateTurn 66 = .ok (.iconst 4, 1) := by decide +kernel
theorem dX8_simulateTurn_67 : decode cX8_simulateTurn 67 = .ok (.irem, 1) := by decide +kernel
theorem dX8_simulateTurn_68 : decode cX8_simulateTurn 68 = .ok (.ifCond .ne 13, 3) := by decide +kernel
theorem dX8_simulateTurn_71 : decode cX8_simulateTurn 71 = .ok (.aload_n 0, 1) := by decide +kernel
theorem dX8_simulateTurn_72 : decode cX8_simulateTurn 72 = .ok (.getfield 16, 3) := by decide +kernel
theorem dX8_simulateTurn_75 : decode cX8_simulateTurn 75 = .ok (.invokevirtual 107, 3) := by decide +kernel
theorem dX8_simulateTurn_78 : decode cX8_simulateTurn 78 = .ok (.goto 50, 3) := by decide +kernel
theorem dX8_simulateTurn_81 : decode cX8_simulateTurn 81 = .ok (.aload_n 0, 1) := by decide +kernel
theorem dX8_simulateTurn_82 : decode cX8_simulateTurn 82 = .ok (.getfield 16, 3) := by decide +kernel
theorem dX8_simulateTurn_85 : decode cX8_simulateTurn 85 = .ok (.iconst 1, 1) := by decide +kernel
theorem dX8_simulateTurn_86 : decode cX8_simulateTurn 86 = .ok (.iload_n 2, 1) := by decide +kernel
theorem dX8_simulateTurn_87 : decode cX8_simulateTurn 87 = .ok (.bipush 9, 2) := by decide +kernel
theorem dX8_simulateTurn_89 : decode cX8_simulateTurn 89 = .ok (.irem, 1) := by decide +kernel
theorem dX8_simulateTurn_90 : decode cX8_simulateTurn 90 = .ok (.iadd, 1) := by decide +kernel
theorem dX8_simulateTurn_91 : decode cX8_simulateTurn 91 = .ok (.putfield 189, 3) := by decide +kernel
theorem dX8_simulateTurn_94 : decode cX8_simulateTurn 94 = .ok (.goto 34, 3) := by decide +kernel
theorem dX8_simulateTurn_97 : decode cX8_simulateTurn 97 = .ok (.aload_n 0, 1) := by decide +kernel
theorem dX8_simulateTurn_98 : decode cX8_simulateTurn 98 = .ok (.getfield 16, 3) := by decide +kernel
theorem dX8_simulateTurn_101 : decode cX8_simulateTurn 101 = .ok (.iload_n 2, 1) := by decide +kernel
theorem dX8_simulateTurn_102 : decode cX8_simulateTurn 102 = .ok (.bipush 6, 2) := by decide +kernel
theorem dX8_simulateTurn_104 : decode cX8_simulateTurn 104 = .ok (.irem, 1) := by decide +kernel
theorem dX8_simulateTurn_105 : decode cX8_simulateTurn 105 = .ok (.iload_n 2, 1) := by decide +kernel
theorem dX8_simulateTurn_106 : decode cX8_simulateTurn 106 = .ok (.bipush 6, 2) := by decide +kernel
theorem dX8_simulateTurn_108 : decode cX8_simulateTurn 108 = .ok (.irem, 1) := by decide +kernel
theorem dX8_simulateTurn_109 : decode cX8_simulateTurn 109 = .ok (.iload_n 2, 1) := by decide +kernel
theorem dX8_simulateTurn_110 : decode cX8_simulateTurn 110 = .ok (.bipush 8, 2) := by decide +kernel
theorem dX8_simulateTurn_112 : decode cX8_simulateTurn 112 = .ok (.idiv, 1) := by decide +kernel
theorem dX8_simulateTurn_113 : decode cX8_simulateTurn 113 = .ok (.iconst 3, 1) := by decide +kernel
theorem dX8_simulateTurn_114 : decode cX8_simulateTurn 114 = .ok (.irem, 1) := by decide +kernel
theorem dX8_simulateTurn_115 : decode cX8_simulateTurn 115 = .ok (.iadd, 1) := by decide +kernel
theorem dX8_simulateTurn_116 : decode cX8_simulateTurn 116 = .ok (.iconst 1, 1) := by decide +kernel
theorem dX8_simulateTurn_117 : decode cX8_simulateTurn 117 = .ok (.iload_n 2, 1) := by decide +kernel
theorem dX8_simulateTurn_118 : decode cX8_simulateTurn 118 = .ok (.bipush 32, 2) := by decide +kernel
theorem dX8_simulateTurn_120 : decode cX8_simulateTurn 120 = .ok (.idiv, 1) := by decide +kernel
theorem dX8_simulateTurn_121 : decode cX8_simulateTurn 121 = .ok (.iconst 3, 1) := by decide +kernel
theorem dX8_simulateTurn_122 : decode cX8_simulateTurn 122 = .ok (.irem, 1) := by decide +kernel
theorem dX8_simulateTurn_123 : decode cX8_simulateTurn 123 = .ok (.iadd, 1) := by decide +kernel
theorem dX8_simulateTurn_124 : decode cX8_simulateTurn 124 = .ok (.invokevirtual 97, 3) := by decide +kernel
theorem dX8_simulateTurn_127 : decode cX8_simulateTurn 127 = .ok (.pop, 1) := by decide +kernel
theorem dX8_simulateTurn_128 : decode cX8_simulateTurn 128 = .ok (.return_, 1) := by decide +kernel
theorem dX8_save_0 : decode cX8_save 0 = .ok (.iload_n 1, 1) := by decide +kernel
theorem dX8_save_1 : decode cX8_save 1 = .ok (.ifCond .lt 12, 3) := by decide +kernel
theorem dX8_save_4 : decode cX8_save 4 = .ok (.iload_n 1, 1) := by decide +kernel
theorem dX8_save_5 : decode cX8_save 5 = .ok (.aload_n 0, 1) := by decide +kernel
theorem dX8_save_6 : decode cX8_save 6 = .ok (.getfield 26, 3) := by decide +kernel
theorem dX8_save_9 : decode cX8_save 9 = .ok (.arraylength, 1) := by decide +kernel
theorem dX8_save_10 : decode cX8_save 10 = .ok (.if_icmp .lt 14, 3) := by decide +kernel
theorem dX8_save_13 : decode cX8_save 13 = .ok (.new 166, 3) := by decide +kernel
theorem dX8_save_16 : decode cX8_save 16 = .ok (.dup, 1) := by decide +kernel
theorem dX8_save_17 : decode cX8_save 17 = .ok (.ldc_w 318, 3) := by decide +kernel
theorem dX8_save_20 : decode cX8_save 20 = .ok (.invokespecial 170, 3) := by decide +kernel
theorem dX8_save_23 : decode cX8_save 23 = .ok (.athrow, 1) := by decide +kernel
theorem dX8_save_24 : decode cX8_save 24 = .ok (.aload_n 0, 1) := by decide +kernel
theorem dX8_save_25 : decode cX8_save 25 = .ok (.getfield 26, 3) := by decide +kernel
theorem dX8_save_28 : decode cX8_save 28 = .ok (.iload_n 1, 1) := by decide +kernel
theorem dX8_save_29 : decode cX8_save 29 = .ok (.aaload, 1) := by decide +kernel
theorem dX8_save_30 : decode cX8_save 30 = .ok (.astore_n 2, 1) := by decide +kernel
theorem dX8_save_31 : decode cX8_save 31 = .ok (.aload_n 2, 1) := by decide +kernel
theorem dX8_save_32 : decode cX8_save 32 = .ok (.ifnonnull 18, 3) := by decide +kernel
theorem dX8_save_35 : decode cX8_save 35 = .ok (.new 9, 3) := by decide +kernel
theorem dX8_save_38 : decode cX8_save 38 = .ok (.dup, 1) := by decide +kernel
theorem dX8_save_39 : decode cX8_save 39 = .ok (.invokespecial 11, 3) := by decide +kernel
theorem dX8_save_42 : decode cX8_save 42 = .ok (.astore_n 2, 1) := by decide +kernel
theorem dX8_save_43 : decode cX8_save 43 = .ok (.aload_n 0, 1) := by decide +kernel
theorem dX8_save_44 : decode cX8_save 44 = .ok (.getfield 26, 3) := by decide +kernel
theorem dX8_save_47 : decode cX8_save 47 = .ok (.iload_n 1, 1) := by decide +kernel
theorem dX8_save_48 : decode cX8_save 48 = .ok (.aload_n 2, 1) := by decide +kernel
theorem dX8_save_49 : decode cX8_save 49 = .ok (.aastore, 1) := by decide +kernel
theorem dX8_save_50 : decode cX8_save 50 = .ok (.aload_n 2, 1) := by decide +kernel
theorem dX8_save_51 : decode cX8_save 51 = .ok (.aload_n 0, 1) := by decide +kernel
theorem dX8_save_52 : decode cX8_save 52 = .ok (.getfield 12, 3) := by decide +kernel
theorem dX8_save_55 : decode cX8_save 55 = .ok (.invokevirtual 290, 3) := by decide +kernel
theorem dX8_save_58 : decode cX8_save 58 = .ok (.aload_n 0, 1) := by decide +kernel
theorem dX8_save_59 : decode cX8_save 59 = .ok (.getfield 12, 3) := by decide +kernel
theorem dX8_save_62 : decode cX8_save 62 = .ok (.invokevirtual 137, 3) := by decide +kernel
theorem dX8_save_65 : decode cX8_save 65 = .ok (.ireturn, 1) := by decide +kernel
theorem dX8_restore_0 : decode cX8_restore 0 = .ok (.iload_n 1, 1) := by decide +kernel
theorem dX8_restore_1 : decode cX8_restore 1 = .ok (.ifCond .lt 12, 3) := by decide +kernel
theorem dX8_restore_4 : decode cX8_restore 4 = .ok (.iload_n 1, 1) := by decide +kernel
theorem dX8_restore_5 : decode cX8_restore 5 = .ok (.aload_n 0, 1) := by decide +kernel
theorem dX8_restore_6 : decode cX8_restore 6 = .ok (.getfield 26, 3) := by decide +kernel
theorem dX8_restore_9 : decode cX8_restore 9 = .ok (.arraylength, 1) := by decide +kernel
theorem dX8_restore_10 : decode cX8_restore 10 = .ok (.if_icmp .lt 14, 3) := by decide +kernel
theorem dX8_restore_13 : decode cX8_restore 13 = .ok (.new 166, 3) := by decide +kernel
theorem dX8_restore_16 : decode cX8_restore 16 = .ok (.dup, 1) := by decide +kernel
theorem dX8_restore_17 : decode cX8_restore 17 = .ok (.ldc_w 318, 3) := by decide +kernel
theorem dX8_restore_20 : decode cX8_restore 20 = .ok (.invokespecial 170, 3) := by decide +kernel
theorem dX8_restore_23 : decode cX8_restore 23 = .ok (.athrow, 1) := by decide +kernel
theorem dX8_restore_24 : decode cX8_restore 24 = .ok (.aload_n 0, 1) := by decide +kernel
theorem dX8_restore_25 : decode cX8_restore 25 = .ok (.getfield 26, 3) := by decide +kernel
theorem dX8_restore_28 : decode cX8_restore 28 = .ok (.iload_n 1, 1) := by decide +kernel
theorem dX8_restore_29 : decode cX8_restore 29 = .ok (.aaload, 1) := by decide +kernel
theorem dX8_restore_30 : decode cX8_restore 30 = .ok (.astore_n 2, 1) := by decide +kernel
theorem dX8_restore_31 : decode cX8_restore 31 = .ok (.aload_n 2, 1) := by decide +kernel
theorem dX8_restore_32 : decode cX8_restore 32 = .ok (.ifnonnull 14, 3) := by decide +kernel
theorem dX8_restore_35 : decode cX8_restore 35 = .ok (.new 55, 3) := by decide +kernel
theorem dX8_restore_38 : decode cX8_restore 38 = .ok (.dup, 1) := by decide +kernel
theorem dX8_restore_39 : decode cX8_restore 39 = .ok (.ldc_w 320, 3) := by decide +kernel
theorem dX8_restore_42 : decode cX8_restore 42 = .ok (.invokespecial 59, 3) := by decide +kernel
theorem dX8_restore_45 : decode cX8_restore 45 = .ok (.athrow, 1) := by decide +kernel
theorem dX8_restore_46 : decode cX8_restore 46 = .ok (.aload_n 0, 1) := by decide +kernel
theorem dX8_restore_47 : decode cX8_restore 47 = .ok (.getfield 12, 3) := by decide +kernel
theorem dX8_restore_50 : decode cX8_restore 50 = .ok (.aload_n 2, 1) := by decide +kernel
theorem dX8_restore_51 : decode cX8_restore 51 = .ok (.invokevirtual 290, 3) := by decide +kernel
theorem dX8_restore_54 : decode cX8_restore 54 = .ok (.aload_n 0, 1) := by decide +kernel
theorem dX8_restore_55 : decode cX8_restore 55 = .ok (.getfield 22, 3) := by decide +kernel
theorem dX8_restore_58 : decode cX8_restore 58 = .ok (.invokevirtual 80, 3) := by decide +kernel
theorem dX8_restore_61 : decode cX8_restore 61 = .ok (.aload_n 0, 1) := by decide +kernel
theorem dX8_restore_62 : decode cX8_restore 62 = .ok (.getfield 12, 3) := by decide +kernel
theorem dX8_restore_65 : decode cX8_restore 65 = .ok (.invokevirtual 137, 3) := by decide +kernel
theorem dX8_restore_68 : decode cX8_restore 68 = .ok (.ireturn, 1) := by decide +kernel
theorem dX8_requireStem_0 : decode cX8_requireStem 0 = .ok (.aload_n 0, 1) := by decide +kernel
theorem dX8_requireStem_1 : decode cX8_requireStem 1 = .ok (.getfield 12, 3) := by decide +kernel
theorem dX8_requireStem_4 : decode cX8_requireStem 4 = .ok (.iload_n 1, 1) := by decide +kernel
theorem dX8_requireStem_5 : decode cX8_requireStem 5 = .ok (.invokevirtual 298, 3) := by decide +kernel
theorem dX8_requireStem_8 : decode cX8_requireStem 8 = .ok (.ifCond .ne 14, 3) := by decide +kernel
theorem dX8_requireStem_11 : decode cX8_requireStem 11 = .ok (.new 166, 3) := by decide +kernel
theorem dX8_requireStem_14 : decode cX8_requireStem 14 = .ok (.dup, 1) := by decide +kernel
theorem dX8_requireStem_15 : decode cX8_requireStem 15 = .ok (.ldc_w 322, 3) := by decide +kernel
theorem dX8_requireStem_18 : decode cX8_requireStem 18 = .ok (.invokespecial 170, 3) := by decide +kernel
theorem dX8_requireStem_21 : decode cX8_requireStem 21 = .ok (.athrow, 1) := by decide +kernel
theorem dX8_requireStem_22 : decode cX8_requireStem 22 = .ok (.return_, 1) := by decide +kernel
theorem dX8_requireClip_0 : decode cX8_requireClip 0 = .ok (.aload_n 0, 1) := by decide +kernel
theorem dX8_requireClip_1 : decode cX8_requireClip 1 = .ok (.iload_n 1, 1) := by decide +kernel
theorem dX8_requireClip_2 : decode cX8_requireClip 2 = .ok (.invokevirtual 155, 3) := by decide +kernel
theorem dX8_requireClip_5 : decode cX8_requireClip 5 = .ok (.aload_n 0, 1) := by decide +kernel
theorem dX8_requireClip_6 : decode cX8_requireClip 6 = .ok (.iload_n 2, 1) := by decide +kernel
theorem dX8_requireClip_7 : decode cX8_requireClip 7 = .ok (.invokevirtual 155, 3) := by decide +kernel
theorem dX8_requireClip_10 : decode cX8_requireClip 10 = .ok (.aload_n 0, 1) := by decide +kernel
theorem dX8_requireClip_11 : decode cX8_requireClip 11 = .ok (.getfield 12, 3) := by decide +kernel
theorem dX8_requireClip_14 : decode cX8_requireClip 14 = .ok (.iload_n 1, 1) := by decide +kernel
theorem dX8_requireClip_15 : decode cX8_requireClip 15 = .ok (.iload_n 2, 1) := by decide +kernel
theorem dX8_requireClip_16 : decode cX8_requireClip 16 = .ok (.iload_n 3, 1) := by decide +kernel
theorem dX8_requireClip_17 : decode cX8_requireClip 17 = .ok (.invokevirtual 324, 3) := by decide +kernel
theorem dX8_requireClip_20 : decode cX8_requireClip 20 = .ok (.ifCond .ne 14, 3) := by decide +kernel
theorem dX8_requireClip_23 : decode cX8_requireClip 23 = .ok (.new 44, 3) := by decide +kernel
theorem dX8_requireClip_26 : decode cX8_requireClip 26 = .ok (.dup, 1) := by decide +kernel
theorem dX8_requireClip_27 : decode cX8_requireClip 27 = .ok (.ldc_w 327, 3) := by decide +kernel
theorem dX8_requireClip_30 : decode cX8_requireClip 30 = .ok (.invokespecial 48, 3) := by decide +kernel
theorem dX8_requireClip_33 : decode cX8_requireClip 33 = .ok (.athrow, 1) := by decide +kernel
theorem dX8_requireClip_34 : decode cX8_requireClip 34 = .ok (.return_, 1) := by decide +kernel
theorem dX8_requireSetting_0 : decode cX8_requireSetting 0 = .ok (.iload_n 0, 1) := by decide +kernel
theorem dX8_requireSetting_1 : decode cX8_requireSetting 1 = .ok (.ifCond .lt 8, 3) := by decide +kernel
theorem dX8_requireSetting_4 : decode cX8_requireSetting 4 = .ok (.iload_n 0, 1) := by decide +kernel
theorem dX8_requireSetting_5 : decode cX8_requireSetting 5 = .ok (.iconst 1, 1) := by decide +kernel
theorem dX8_requireSetting_6 : decode cX8_requireSetting 6 = .ok (.if_icmp .le 14, 3) := by decide +kernel
theorem dX8_requireSetting_9 : decode cX8_requireSetting 9 = .ok (.new 44, 3) := by decide +kernel
theorem dX8_requireSetting_12 : decode cX8_requireSetting 12 = .ok (.dup, 1) := by decide +kernel
theorem dX8_requireSetting_13 : decode cX8_requireSetting 13 = .ok (.ldc_w 329, 3) := by decide +kernel
theorem dX8_requireSetting_16 : decode cX8_requireSetting 16 = .ok (.invokespecial 48, 3) := by decide +kernel
theorem dX8_requireSetting_19 : decode cX8_requireSetting 19 = .ok (.athrow, 1) := by decide +kernel
theorem dX8_requireSetting_20 : decode cX8_requireSetting 20 = .ok (.return_, 1) := by decide +kernel
theorem dJ6_bitCount_0f7a4_0 : decode cJ6_bitCount_0f7a4 0 = .ok (.iload_n 0, 1) := by decide +kernel
theorem dJ6_bitCount_0f7a4_1 : decode cJ6_bitCount_0f7a4 1 = .ok (.iload_n 0, 1) := by decide +kernel
theorem dJ6_bitCount_0f7a4_2 : decode cJ6_bitCount_0f7a4 2 = .ok (.iconst 1, 1) := by decide +kernel
theorem dJ6_bitCount_0f7a4_3 : decode cJ6_bitCount_0f7a4 3 = .ok (.iushr, 1) := by decide +kernel
theorem dJ6_bitCount_0f7a4_4 : decode cJ6_bitCount_0f7a4 4 = .ok (.ldc_w 265, 3) := by decide +kernel
theorem dJ6_bitCount_0f7a4_7 : decode cJ6_bitCount_0f7a4 7 = .ok (.iand, 1) := by decide +kernel
theorem dJ6_bitCount_0f7a4_8 : decode cJ6_bitCount_0f7a4 8 = .ok (.isub, 1) := by decide +kernel
theorem dJ6_bitCount_0f7a4_9 : decode cJ6_bitCount_0f7a4 9 = .ok (.istore_n 0, 1) := by decide +kernel
theorem dJ6_bitCount_0f7a4_10 : decode cJ6_bitCount_0f7a4 10 = .ok (.iload_n 0, 1) := by decide +kernel
theorem dJ6_bitCount_0f7a4_11 : decode cJ6_bitCount_0f7a4 11 = .ok (.ldc_w 266, 3) := by decide +kernel
theorem dJ6_bitCount_0f7a4_14 : decode cJ6_bitCount_0f7a4 14 = .ok (.iand, 1) := by decide +kernel
theorem dJ6_bitCount_0f7a4_15 : decode cJ6_bitCount_0f7a4 15 = .ok (.iload_n 0, 1) := by decide +kernel
theorem dJ6_bitCount_0f7a4_16 : decode cJ6_bitCount_0f7a4 16 = .ok (.iconst 2, 1) := by decide +kernel
theorem dJ6_bitCount_0f7a4_17 : decode cJ6_bitCount_0f7a4 17 = .ok (.iushr, 1) := by decide +kernel
theorem dJ6_bitCount_0f7a4_18 : decode cJ6_bitCount_0f7a4 18 = .ok (.ldc_w 266, 3) := by decide +kernel
theorem dJ6_bitCount_0f7a4_21 : decode cJ6_bitCount_0f7a4 21 = .ok (.iand, 1) := by decide +kernel
theorem dJ6_bitCount_0f7a4_22 : decode cJ6_bitCount_0f7a4 22 = .ok (.iadd, 1) := by decide +kernel
theorem dJ6_bitCount_0f7a4_23 : decode cJ6_bitCount_0f7a4 23 = .ok (.istore_n 0, 1) := by decide +kernel
theorem dJ6_bitCount_0f7a4_24 : decode cJ6_bitCount_0f7a4 24 = .ok (.iload_n 0, 1) := by decide +kernel
theorem dJ6_bitCount_0f7a4_25 : decode cJ6_bitCount_0f7a4 25 = .ok (.iload_n 0, 1) := by decide +kernel
theorem dJ6_bitCount_0f7a4_26 : decode cJ6_bitCount_0f7a4 26 = .ok (.iconst 4, 1) := by decide +kernel
theorem dJ6_bitCount_0f7a4_27 : decode cJ6_bitCount_0f7a4 27 = .ok (.iushr, 1) := by decide +kernel
theorem dJ6_bitCount_0f7a4_28 : decode cJ6_bitCount_0f7a4 28 = .ok (.iadd, 1) := by decide +kernel
theorem dJ6_bitCount_0f7a4_29 : decode cJ6_bitCount_0f7a4 29 = .ok (.ldc_w 267, 3) := by decide +kernel
theorem dJ6_bitCount_0f7a4_32 : decode cJ6_bitCount_0f7a4 32 = .ok (.iand, 1) := by decide +kernel
theorem dJ6_bitCount_0f7a4_33 : decode cJ6_bitCount_0f7a4 33 = .ok (.istore_n 0, 1) := by decide +kernel
theorem dJ6_bitCount_0f7a4_34 : decode cJ6_bitCount_0f7a4 34 = .ok (.iload_n 0, 1) := by decide +kernel
theorem dJ6_bitCount_0f7a4_35 : decode cJ6_bitCount_0f7a4 35 = .ok (.iload_n 0, 1) := by decide +kernel
theorem dJ6_bitCount_0f7a4_36 : decode cJ6_bitCount_0f7a4 36 = .ok (.bipush 8, 2) := by decide +kernel
theorem dJ6_bitCount_0f7a4_38 : decode cJ6_bitCount_0f7a4 38 = .ok (.iushr, 1) := by decide +kernel
theorem dJ6_bitCount_0f7a4_39 : decode cJ6_bitCount_0f7a4 39 = .ok (.iadd, 1) := by decide +kernel
theorem dJ6_bitCount_0f7a4_40 : decode cJ6_bitCount_0f7a4 40 = .ok (.istore_n 0, 1) := by decide +kernel
theorem dJ6_bitCount_0f7a4_41 : decode cJ6_bitCount_0f7a4 41 = .ok (.iload_n 0, 1) := by decide +kernel
theorem dJ6_bitCount_0f7a4_42 : decode cJ6_bitCount_0f7a4 42 = .ok (.iload_n 0, 1) := by decide +kernel
theorem dJ6_bitCount_0f7a4_43 : decode cJ6_bitCount_0f7a4 43 = .ok (.bipush 16, 2) := by decide +kernel
theorem dJ6_bitCount_0f7a4_45 : decode cJ6_bitCount_0f7a4 45 = .ok (.iushr, 1) := by decide +kernel
theorem dJ6_bitCount_0f7a4_46 : decode cJ6_bitCount_0f7a4 46 = .ok (.iadd, 1) := by decide +kernel
theorem dJ6_bitCount_0f7a4_47 : decode cJ6_bitCount_0f7a4 47 = .ok (.istore_n 0, 1) := by decide +kernel
theorem dJ6_bitCount_0f7a4_48 : decode cJ6_bitCount_0f7a4 48 = .ok (.iload_n 0, 1) := by decide +kernel
theorem dJ6_bitCount_0f7a4_49 : decode cJ6_bitCount_0f7a4 49 = .ok (.bipush 63, 2) := by decide +kernel
theorem dJ6_bitCount_0f7a4_51 : decode cJ6_bitCount_0f7a4 51 = .ok (.iand, 1) := by decide +kernel
theorem dJ6_bitCount_0f7a4_52 : decode cJ6_bitCount_0f7a4 52 = .ok (.ireturn, 1) := by decide +kernel
theorem dJ9_max_7cf53_0 : decode cJ9_max_7cf53 0 = .ok (.iload_n 0, 1) := by decide +kernel
theorem dJ9_max_7cf53_1 : decode cJ9_max_7cf53 1 = .ok (.iload_n 1, 1) := by decide +kernel
theorem dJ9_max_7cf53_2 : decode cJ9_max_7cf53 2 = .ok (.if_icmp .lt 7, 3) := by decide +kernel
theorem dJ9_max_7cf53_5 : decode cJ9_max_7cf53 5 = .ok (.iload_n 0, 1) := by decide +kernel
theorem dJ9_max_7cf53_6 : decode cJ9_max_7cf53 6 = .ok (.goto 4, 3) := by decide +kernel
theorem dJ9_max_7cf53_9 : decode cJ9_max_7cf53 9 = .ok (.iload_n 1, 1) := by decide +kernel
theorem dJ9_max_7cf53_10 : decode cJ9_max_7cf53 10 = .ok (.ireturn, 1) := by decide +kernel
theorem dJ9_min_7cf53_0 : decode cJ9_min_7cf53 0 = .ok (.iload_n 0, 1) := by decide +kernel
theorem dJ9_min_7cf53_1 : decode cJ9_min_7cf53 1 = .ok (.iload_n 1, 1) := by decide +kernel
theorem dJ9_min_7cf53_2 : decode cJ9_min_7cf53 2 = .ok (.if_icmp .gt 7, 3) := by decide +kernel
theorem dJ9_min_7cf53_5 : decode cJ9_min_7cf53 5 = .ok (.iload_n 0, 1) := by decide +kernel
theorem dJ9_min_7cf53_6 : decode cJ9_min_7cf53 6 = .ok (.goto 4, 3) := by decide +kernel
theorem dJ9_min_7cf53_9 : decode cJ9_min_7cf53 9 = .ok (.iload_n 1, 1) := by decide +kernel
theorem dJ9_min_7cf53_10 : decode cJ9_min_7cf53 10 = .ok (.ireturn, 1) := by decide +kernel
