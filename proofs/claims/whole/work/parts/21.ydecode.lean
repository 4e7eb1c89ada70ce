theorem dY_init_0 : decode cY_init 0 = .ok (.aload_n 0, 1) := by decide +kernel
theorem dY_init_1 : decode cY_init 1 = .ok (.invokespecial 1, 3) := by decide +kernel
theorem dY_init_4 : decode cY_init 4 = .ok (.aload_n 0, 1) := by decide +kernel
theorem dY_init_5 : decode cY_init 5 = .ok (.bipush 12, 2) := by decide +kernel
theorem dY_init_7 : decode cY_init 7 = .ok (.newarray .int, 2) := by decide +kernel
theorem dY_init_9 : decode cY_init 9 = .ok (.putfield 7, 3) := by decide +kernel
theorem dY_init_12 : decode cY_init 12 = .ok (.aload_n 0, 1) := by decide +kernel
theorem dY_init_13 : decode cY_init 13 = .ok (.bipush 12, 2) := by decide +kernel
theorem dY_init_15 : decode cY_init 15 = .ok (.newarray .int, 2) := by decide +kernel
theorem dY_init_17 : decode cY_init 17 = .ok (.putfield 13, 3) := by decide +kernel
theorem dY_init_20 : decode cY_init 20 = .ok (.aload_n 0, 1) := by decide +kernel
theorem dY_init_21 : decode cY_init 21 = .ok (.bipush 12, 2) := by decide +kernel
theorem dY_init_23 : decode cY_init 23 = .ok (.newarray .boolean, 2) := by decide +kernel
theorem dY_init_25 : decode cY_init 25 = .ok (.putfield 16, 3) := by decide +kernel
theorem dY_init_28 : decode cY_init 28 = .ok (.aload_n 0, 1) := by decide +kernel
theorem dY_init_29 : decode cY_init 29 = .ok (.bipush 12, 2) := by decide +kernel
theorem dY_init_31 : decode cY_init 31 = .ok (.newarray .long, 2) := by decide +kernel
theorem dY_init_33 : decode cY_init 33 = .ok (.putfield 20, 3) := by decide +kernel
theorem dY_init_36 : decode cY_init 36 = .ok (.aload_n 0, 1) := by decide +kernel
theorem dY_init_37 : decode cY_init 37 = .ok (.sipush 160, 3) := by decide +kernel
theorem dY_init_40 : decode cY_init 40 = .ok (.newarray .long, 2) := by decide +kernel
theorem dY_init_42 : decode cY_init 42 = .ok (.putfield 24, 3) := by decide +kernel
theorem dY_init_45 : decode cY_init 45 = .ok (.aload_n 0, 1) := by decide +kernel
theorem dY_init_46 : decode cY_init 46 = .ok (.sipush 160, 3) := by decide +kernel
theorem dY_init_49 : decode cY_init 49 = .ok (.newarray .int, 2) := by decide +kernel
theorem dY_init_51 : decode cY_init 51 = .ok (.putfield 27, 3) := by decide +kernel
theorem dY_init_54 : decode cY_init 54 = .ok (.aload_n 0, 1) := by decide +kernel
theorem dY_init_55 : decode cY_init 55 = .ok (.sipush 160, 3) := by decide +kernel
theorem dY_init_58 : decode cY_init 58 = .ok (.newarray .int, 2) := by decide +kernel
theorem dY_init_60 : decode cY_init 60 = .ok (.putfield 30, 3) := by decide +kernel
theorem dY_init_63 : decode cY_init 63 = .ok (.return_, 1) := by decide +kernel
theorem dY_wrongHeap_0 : decode cY_wrongHeap 0 = .ok (.iload_n 1, 1) := by decide +kernel
theorem dY_wrongHeap_1 : decode cY_wrongHeap 1 = .ok (.ifCond .lt 11, 3) := by decide +kernel
theorem dY_wrongHeap_4 : decode cY_wrongHeap 4 = .ok (.iload_n 1, 1) := by decide +kernel
theorem dY_wrongHeap_5 : decode cY_wrongHeap 5 = .ok (.aload_n 0, 1) := by decide +kernel
theorem dY_wrongHeap_6 : decode cY_wrongHeap 6 = .ok (.getfield 33, 3) := by decide +kernel
theorem dY_wrongHeap_9 : decode cY_wrongHeap 9 = .ok (.if_icmp .lt 6, 3) := by decide +kernel
theorem dY_wrongHeap_12 : decode cY_wrongHeap 12 = .ok (.bipush (-2), 2) := by decide +kernel
theorem dY_wrongHeap_14 : decode cY_wrongHeap 14 = .ok (.ireturn, 1) := by decide +kernel
theorem dY_wrongHeap_15 : decode cY_wrongHeap 15 = .ok (.aload_n 0, 1) := by decide +kernel
theorem dY_wrongHeap_16 : decode cY_wrongHeap 16 = .ok (.getfield 16, 3) := by decide +kernel
theorem dY_wrongHeap_19 : decode cY_wrongHeap 19 = .ok (.iload_n 1, 1) := by decide +kernel
theorem dY_wrongHeap_20 : decode cY_wrongHeap 20 = .ok (.baload, 1) := by decide +kernel
theorem dY_wrongHeap_21 : decode cY_wrongHeap 21 = .ok (.ifCond .eq 8, 3) := by decide +kernel
theorem dY_wrongHeap_24 : decode cY_wrongHeap 24 = .ok (.bipush (-3), 2) := by decide +kernel
theorem dY_wrongHeap_26 : decode cY_wrongHeap 26 = .ok (.goto 4, 3) := by decide +kernel
theorem dY_wrongHeap_29 : decode cY_wrongHeap 29 = .ok (.iconst 0, 1) := by decide +kernel
theorem dY_wrongHeap_30 : decode cY_wrongHeap 30 = .ok (.ireturn, 1) := by decide +kernel
theorem dY_wrongEntry_0 : decode cY_wrongEntry 0 = .ok (.iload_n 1, 1) := by decide +kernel
theorem dY_wrongEntry_1 : decode cY_wrongEntry 1 = .ok (.ifCond .lt 11, 3) := by decide +kernel
theorem dY_wrongEntry_4 : decode cY_wrongEntry 4 = .ok (.iload_n 1, 1) := by decide +kernel
theorem dY_wrongEntry_5 : decode cY_wrongEntry 5 = .ok (.aload_n 0, 1) := by decide +kernel
theorem dY_wrongEntry_6 : decode cY_wrongEntry 6 = .ok (.getfield 37, 3) := by decide +kernel
theorem dY_wrongEntry_9 : decode cY_wrongEntry 9 = .ok (.if_icmp .lt 6, 3) := by decide +kernel
theorem dY_wrongEntry_12 : decode cY_wrongEntry 12 = .ok (.bipush (-2), 2) := by decide +kernel
theorem dY_wrongEntry_14 : decode cY_wrongEntry 14 = .ok (.ireturn, 1) := by decide +kernel
theorem dY_wrongEntry_15 : decode cY_wrongEntry 15 = .ok (.aload_n 0, 1) := by decide +kernel
theorem dY_wrongEntry_16 : decode cY_wrongEntry 16 = .ok (.getfield 30, 3) := by decide +kernel
theorem dY_wrongEntry_19 : decode cY_wrongEntry 19 = .ok (.iload_n 1, 1) := by decide +kernel
theorem dY_wrongEntry_20 : decode cY_wrongEntry 20 = .ok (.iaload, 1) := by decide +kernel
theorem dY_wrongEntry_21 : decode cY_wrongEntry 21 = .ok (.ifCond .ge 8, 3) := by decide +kernel
theorem dY_wrongEntry_24 : decode cY_wrongEntry 24 = .ok (.bipush (-4), 2) := by decide +kernel
theorem dY_wrongEntry_26 : decode cY_wrongEntry 26 = .ok (.goto 4, 3) := by decide +kernel
theorem dY_wrongEntry_29 : decode cY_wrongEntry 29 = .ok (.iconst 0, 1) := by decide +kernel
theorem dY_wrongEntry_30 : decode cY_wrongEntry 30 = .ok (.ireturn, 1) := by decide +kernel
theorem dY_weight_0 : decode cY_weight 0 = .ok (.aload_n 0, 1) := by decide +kernel
theorem dY_weight_1 : decode cY_weight 1 = .ok (.getfield 13, 3) := by decide +kernel
theorem dY_weight_4 : decode cY_weight 4 = .ok (.iload_n 1, 1) := by decide +kernel
theorem dY_weight_5 : decode cY_weight 5 = .ok (.iaload, 1) := by decide +kernel
theorem dY_weight_6 : decode cY_weight 6 = .ok (.istore 4, 2) := by decide +kernel
theorem dY_weight_8 : decode cY_weight 8 = .ok (.iload 4, 2) := by decide +kernel
theorem dY_weight_10 : decode cY_weight 10 = .ok (.ifCond .ne 5, 3) := by decide +kernel
theorem dY_weight_13 : decode cY_weight 13 = .ok (.lload_n 2, 1) := by decide +kernel
theorem dY_weight_14 : decode cY_weight 14 = .ok (.lreturn, 1) := by decide +kernel
theorem dY_weight_15 : decode cY_weight 15 = .ok (.iload 4, 2) := by decide +kernel
theorem dY_weight_17 : decode cY_weight 17 = .ok (.iconst 1, 1) := by decide +kernel
theorem dY_weight_18 : decode cY_weight 18 = .ok (.if_icmp .ne 9, 3) := by decide +kernel
theorem dY_weight_21 : decode cY_weight 21 = .ok (.ldc2_w 40, 3) := by decide +kernel
theorem dY_weight_24 : decode cY_weight 24 = .ok (.lload_n 2, 1) := by decide +kernel
theorem dY_weight_25 : decode cY_weight 25 = .ok (.lsub, 1) := by decide +kernel
theorem dY_weight_26 : decode cY_weight 26 = .ok (.lreturn, 1) := by decide +kernel
theorem dY_weight_27 : decode cY_weight 27 = .ok (.iload 4, 2) := by decide +kernel
theorem dY_weight_29 : decode cY_weight 29 = .ok (.iconst 2, 1) := by decide +kernel
theorem dY_weight_30 : decode cY_weight 30 = .ok (.if_icmp .ne 11, 3) := by decide +kernel
theorem dY_weight_33 : decode cY_weight 33 = .ok (.lload_n 2, 1) := by decide +kernel
theorem dY_weight_34 : decode cY_weight 34 = .ok (.ldc2_w 42, 3) := by decide +kernel
theorem dY_weight_37 : decode cY_weight 37 = .ok (.lxor, 1) := by decide +kernel
theorem dY_weight_38 : decode cY_weight 38 = .ok (.goto 8, 3) := by decide +kernel
theorem dY_weight_41 : decode cY_weight 41 = .ok (.lload_n 2, 1) := by decide +kernel
theorem dY_weight_42 : decode cY_weight 42 = .ok (.ldc2_w 44, 3) := by decide +kernel
theorem dY_weight_45 : decode cY_weight 45 = .ok (.land, 1) := by decide +kernel
theorem dY_weight_46 : decode cY_weight 46 = .ok (.lreturn, 1) := by decide +kernel
theorem dY_isBelow_0 : decode cY_isBelow 0 = .ok (.aload_n 0, 1) := by decide +kernel
theorem dY_isBelow_1 : decode cY_isBelow 1 = .ok (.getfield 7, 3) := by decide +kernel
theorem dY_isBelow_4 : decode cY_isBelow 4 = .ok (.iload_n 1, 1) := by decide +kernel
theorem dY_isBelow_5 : decode cY_isBelow 5 = .ok (.iaload, 1) := by decide +kernel
theorem dY_isBelow_6 : decode cY_isBelow 6 = .ok (.iconst 2, 1) := by decide +kernel
theorem dY_isBelow_7 : decode cY_isBelow 7 = .ok (.if_icmp .ne 23, 3) := by decide +kernel
theorem dY_isBelow_10 : decode cY_isBelow 10 = .ok (.aload_n 0, 1) := by decide +kernel
theorem dY_isBelow_11 : decode cY_isBelow 11 = .ok (.iload_n 1, 1) := by decide +kernel
theorem dY_isBelow_12 : decode cY_isBelow 12 = .ok (.lload_n 2, 1) := by decide +kernel
theorem dY_isBelow_13 : decode cY_isBelow 13 = .ok (.invokevirtual 46, 3) := by decide +kernel
theorem dY_isBelow_16 : decode cY_isBelow 16 = .ok (.aload_n 0, 1) := by decide +kernel
theorem dY_isBelow_17 : decode cY_isBelow 17 = .ok (.getfield 20, 3) := by decide +kernel
theorem dY_isBelow_20 : decode cY_isBelow 20 = .ok (.iload_n 1, 1) := by decide +kernel
theorem dY_isBelow_21 : decode cY_isBelow 21 = .ok (.laload, 1) := by decide +kernel
theorem dY_isBelow_22 : decode cY_isBelow 22 = .ok (.lcmp, 1) := by decide +kernel
theorem dY_isBelow_23 : decode cY_isBelow 23 = .ok (.ifCond .ge 7, 3) := by decide +kernel
theorem dY_isBelow_26 : decode cY_isBelow 26 = .ok (.iconst 1, 1) := by decide +kernel
theorem dY_isBelow_27 : decode cY_isBelow 27 = .ok (.goto 4, 3) := by decide +kernel
theorem dY_isBelow_30 : decode cY_isBelow 30 = .ok (.iconst 0, 1) := by decide +kernel
theorem dY_isBelow_31 : decode cY_isBelow 31 = .ok (.ireturn, 1) := by decide +kernel
theorem dY_rank_0 : decode cY_rank 0 = .ok (.aload_n 0, 1) := by decide +kernel
theorem dY_rank_1 : decode cY_rank 1 = .ok (.getfield 30, 3) := by decide +kernel
theorem dY_rank_4 : decode cY_rank 4 = .ok (.iload_n 1, 1) := by decide +kernel
theorem dY_rank_5 : decode cY_rank 5 = .ok (.iaload, 1) := by decide +kernel
theorem dY_rank_6 : decode cY_rank 6 = .ok (.istore_n 2, 1) := by decide +kernel
theorem dY_rank_7 : decode cY_rank 7 = .ok (.aload_n 0, 1) := by decide +kernel
theorem dY_rank_8 : decode cY_rank 8 = .ok (.iload_n 2, 1) := by decide +kernel
theorem dY_rank_9 : decode cY_rank 9 = .ok (.aload_n 0, 1) := by decide +kernel
theorem dY_rank_10 : decode cY_rank 10 = .ok (.getfield 24, 3) := by decide +kernel
theorem dY_rank_13 : decode cY_rank 13 = .ok (.iload_n 1, 1) := by decide +kernel
theorem dY_rank_14 : decode cY_rank 14 = .ok (.laload, 1) := by decide +kernel
theorem dY_rank_15 : decode cY_rank 15 = .ok (.invokevirtual 46, 3) := by decide +kernel
theorem dY_rank_18 : decode cY_rank 18 = .ok (.lstore_n 3, 1) := by decide +kernel
theorem dY_rank_19 : decode cY_rank 19 = .ok (.iconst 0, 1) := by decide +kernel
theorem dY_rank_20 : decode cY_rank 20 = .ok (.istore 5, 2) := by decide +kernel
theorem dY_rank_22 : decode cY_rank 22 = .ok (.iconst 0, 1) := by decide +kernel
theorem dY_rank_23 : decode cY_rank 23 = .ok (.istore 6, 2) := by decide +kernel
theorem dY_rank_25 : decode cY_rank 25 = .ok (.iload 6, 2) := by decide +kernel
theorem dY_rank_27 : decode cY_rank 27 = .ok (.aload_n 0, 1) := by decide +kernel
theorem dY_rank_28 : decode cY_rank 28 = .ok (.getfield 37, 3) := by decide +kernel
theorem dY_rank_31 : decode cY_rank 31 = .ok (.if_icmp .ge 65, 3) := by decide +kernel
theorem dY_rank_34 : decode cY_rank 34 = .ok (.aload_n 0, 1) := by decide +kernel
theorem dY_rank_35 : decode cY_rank 35 = .ok (.getfield 30, 3) := by decide +kernel
theorem dY_rank_38 : decode cY_rank 38 = .ok (.iload 6, 2) := by decide +kernel
theorem dY_rank_40 : decode cY_rank 40 = .ok (.iaload, 1) := by decide +kernel
theorem dY_rank_41 : decode cY_rank 41 = .ok (.iload_n 2, 1) := by decide +kernel
theorem dY_rank_42 : decode cY_rank 42 = .ok (.if_icmp .ne 48, 3) := by decide +kernel
theorem dY_rank_45 : decode cY_rank 45 = .ok (.aload_n 0, 1) := by decide +kernel
theorem dY_rank_46 : decode cY_rank 46 = .ok (.iload_n 2, 1) := by decide +kernel
theorem dY_rank_47 : decode cY_rank 47 = .ok (.aload_n 0, 1) := by decide +kernel
theorem dY_rank_48 : decode cY_rank 48 = .ok (.getfield 24, 3) := by decide +kernel
theorem dY_rank_51 : decode cY_rank 51 = .ok (.iload 6, 2) := by decide +kernel
theorem dY_rank_53 : decode cY_rank 53 = .ok (.laload, 1) := by decide +kernel
theorem dY_rank_54 : decode cY_rank 54 = .ok (.invokevirtual 46, 3) := by decide +kernel
theorem dY_rank_57 : decode cY_rank 57 = .ok (.lstore 7, 2) := by decide +kernel
theorem dY_rank_59 : decode cY_rank 59 = .ok (.lload 7, 2) := by decide +kernel
theorem dY_rank_61 : decode cY_rank 61 = .ok (.lload_n 3, 1) := by decide +kernel
theorem dY_rank_62 : decode cY_rank 62 = .ok (.lcmp, 1) := by decide +kernel
theorem dY_rank_63 : decode cY_rank 63 = .ok (.ifCond .lt 16, 3) := by decide +kernel
theorem dY_rank_66 : decode cY_rank 66 = .ok (.lload 7, 2) := by decide +kernel
theorem dY_rank_68 : decode cY_rank 68 = .ok (.lload_n 3, 1) := by decide +kernel
theorem dY_rank_69 : decode cY_rank 69 = .ok (.lcmp, 1) := by decide +kernel
theorem dY_rank_70 : decode cY_rank 70 = .ok (.ifCond .ne 16, 3) := by decide +kernel
theorem dY_rank_73 : decode cY_rank 73 = .ok (.iload 6, 2) := by decide +kernel
theorem dY_rank_75 : decode cY_rank 75 = .ok (.iload_n 1, 1) := by decide +kernel
theorem dY_rank_76 : decode cY_rank 76 = .ok (.if_icmp .ge 10, 3) := by decide +kernel
theorem dY_rank_79 : decode cY_rank 79 = .ok (.iload 5, 2) := by decide +kernel
theorem dY_rank_81 : decode cY_rank 81 = .ok (.iconst 1, 1) := by decide +kernel
theorem dY_rank_82 : decode cY_rank 82 = .ok (.iadd, 1) := by decide +kernel
theorem dY_rank_83 : decode cY_rank 83 = .ok (.goto 5, 3) := by decide +kernel
theorem dY_rank_86 : decode cY_rank 86 = .ok (.iload 5, 2) := by decide +kernel
theorem dY_rank_88 : decode cY_rank 88 = .ok (.istore 5, 2) := by decide +kernel
theorem dY_rank_90 : decode cY_rank 90 = .ok (.iinc 6 1, 3) := by decide +kernel
theorem dY_rank_93 : decode cY_rank 93 = .ok (.goto (-68), 3) := by decide +kernel
theorem dY_rank_96 : decode cY_rank 96 = .ok (.iload 5, 2) := by decide +kernel
theorem dY_rank_98 : decode cY_rank 98 = .ok (.ireturn, 1) := by decide +kernel
theorem dY_many_0 : decode cY_many 0 = .ok (.iconst 0, 1) := by decide +kernel
theorem dY_many_1 : decode cY_many 1 = .ok (.istore_n 2, 1) := by decide +kernel
theorem dY_many_2 : decode cY_many 2 = .ok (.iconst 0, 1) := by decide +kernel
theorem dY_many_3 : decode cY_many 3 = .ok (.istore_n 3, 1) := by decide +kernel
theorem dY_many_4 : decode cY_many 4 = .ok (.iload_n 3, 1) := by decide +kernel
theorem dY_many_5 : decode cY_many 5 = .ok (.aload_n 0, 1) := by decide +kernel
theorem dY_many_6 : decode cY_many 6 = .ok (.getfield 37, 3) := by decide +kernel
theorem dY_many_9 : decode cY_many 9 = .ok (.if_icmp .ge 27, 3) := by decide +kernel
theorem dY_many_12 : decode cY_many 12 = .ok (.aload_n 0, 1) := by decide +kernel
theorem dY_many_13 : decode cY_many 13 = .ok (.getfield 30, 3) := by decide +kernel
theorem dY_many_16 : decode cY_many 16 = .ok (.iload_n 3, 1) := by decide +kernel
theorem dY_many_17 : decode cY_many 17 = .ok (.iaload, 1) := by decide +kernel
theorem dY_many_18 : decode cY_many 18 = .ok (.iload_n 1, 1) := by decide +kernel
theorem dY_many_19 : decode cY_many 19 = .ok (.if_icmp .ne 9, 3) := by decide +kernel
theorem dY_many_22 : decode cY_many 22 = .ok (.iload_n 2, 1) := by decide +kernel
theorem dY_many_23 : decode cY_many 23 = .ok (.iconst 1, 1) := by decide +kernel
theorem dY_many_24 : decode cY_many 24 = .ok (.iadd, 1) := by decide +kernel
theorem dY_many_25 : decode cY_many 25 = .ok (.goto 4, 3) := by decide +kernel
theorem dY_many_28 : decode cY_many 28 = .ok (.iload_n 2, 1) := by decide +kernel
theorem dY_many_29 : decode cY_many 29 = .ok (.istore_n 2, 1) := by decide +kernel
theorem dY_many_30 : decode cY_many 30 = .ok (.iinc 3 1, 3) := by decide +kernel
theorem dY_many_33 : decode cY_many 33 = .ok (.goto (-29), 3) := by decide +kernel
theorem dY_many_36 : decode cY_many 36 = .ok (.iload_n 2, 1) := by decide +kernel
theorem dY_many_37 : decode cY_many 37 = .ok (.ireturn, 1) := by decide +kernel
theorem dY_extreme_0 : decode cY_extreme 0 = .ok (.iconst (-1), 1) := by decide +kernel
theorem dY_extreme_1 : decode cY_extreme 1 = .ok (.istore_n 3, 1) := by decide +kernel
theorem dY_extreme_2 : decode cY_extreme 2 = .ok (.lconst 0, 1) := by decide +kernel
theorem dY_extreme_3 : decode cY_extreme 3 = .ok (.lstore 4, 2) := by decide +kernel
theorem dY_extreme_5 : decode cY_extreme 5 = .ok (.iconst 0, 1) := by decide +kernel
theorem dY_extreme_6 : decode cY_extreme 6 = .ok (.istore 6, 2) := by decide +kernel
theorem dY_extreme_8 : decode cY_extreme 8 = .ok (.iload 6, 2) := by decide +kernel
theorem dY_extreme_10 : decode cY_extreme 10 = .ok (.aload_n 0, 1) := by decide +kernel
theorem dY_extreme_11 : decode cY_extreme 11 = .ok (.getfield 37, 3) := by decide +kernel
theorem dY_extreme_14 : decode cY_extreme 14 = .ok (.if_icmp .ge 69, 3) := by decide +kernel
theorem dY_extreme_17 : decode cY_extreme 17 = .ok (.aload_n 0, 1) := by decide +kernel
theorem dY_extreme_18 : decode cY_extreme 18 = .ok (.getfield 30, 3) := by decide +kernel
theorem dY_extreme_21 : decode cY_extreme 21 = .ok (.iload 6, 2) := by decide +kernel
theorem dY_extreme_23 : decode cY_extreme 23 = .ok (.iaload, 1) := by decide +kernel
theorem dY_extreme_24 : decode cY_extreme 24 = .ok (.iload_n 1, 1) := by decide +kernel
theorem dY_extreme_25 : decode cY_extreme 25 = .ok (.if_icmp .ne 52, 3) := by decide +kernel
theorem dY_extreme_28 : decode cY_extreme 28 = .ok (.aload_n 0, 1) := by decide +kernel
theorem dY_extreme_29 : decode cY_extreme 29 = .ok (.iload_n 1, 1) := by decide +kernel
theorem dY_extreme_30 : decode cY_extreme 30 = .ok (.aload_n 0, 1) := by decide +kernel
theorem dY_extreme_31 : decode cY_extreme 31 = .ok (.getfield 24, 3) := by decide +kernel
theorem dY_extreme_34 : decode cY_extreme 34 = .ok (.iload 6, 2) := by decide +kernel
theorem dY_extreme_36 : decode cY_extreme 36 = .ok (.laload, 1) := by decide +kernel
theorem dY_extreme_37 : decode cY_extreme 37 = .ok (.invokevirtual 46, 3) := by decide +kernel
theorem dY_extreme_40 : decode cY_extreme 40 = .ok (.lstore 7, 2) := by decide +kernel
theorem dY_extreme_42 : decode cY_extreme 42 = .ok (.iload_n 3, 1) := by decide +kernel
theorem dY_extreme_43 : decode cY_extreme 43 = .ok (.iconst (-1), 1) := by decide +kernel
theorem dY_extreme_44 : decode cY_extreme 44 = .ok (.if_icmp .eq 26, 3) := by decide +kernel
theorem dY_extreme_47 : decode cY_extreme 47 = .ok (.iload_n 2, 1) := by decide +kernel
theorem dY_extreme_48 : decode cY_extreme 48 = .ok (.ifCond .eq 14, 3) := by decide +kernel
theorem dY_extreme_51 : decode cY_extreme 51 = .ok (.lload 7, 2) := by decide +kernel
theorem dY_extreme_53 : decode cY_extreme 53 = .ok (.lload 4, 2) := by decide +kernel
theorem dY_extreme_55 : decode cY_extreme 55 = .ok (.lcmp, 1) := by decide +kernel
theorem dY_extreme_56 : decode cY_extreme 56 = .ok (.ifCond .ge 21, 3) := by decide +kernel
theorem dY_extreme_59 : decode cY_extreme 59 = .ok (.goto 11, 3) := by decide +kernel
theorem dY_extreme_62 : decode cY_extreme 62 = .ok (.lload 7, 2) := by decide +kernel
theorem dY_extreme_64 : decode cY_extreme 64 = .ok (.lload 4, 2) := by decide +kernel
theorem dY_extreme_66 : decode cY_extreme 66 = .ok (.lcmp, 1) := by decide +kernel
theorem dY_extreme_67 : decode cY_extreme 67 = .ok (.ifCond .lt 10, 3) := by decide +kernel
theorem dY_extreme_70 : decode cY_extreme 70 = .ok (.iload 6, 2) := by decide +kernel
theorem dY_extreme_72 : decode cY_extreme 72 = .ok (.istore_n 3, 1) := by decide +kernel
theorem dY_extreme_73 : decode cY_extreme 73 = .ok (.lload 7, 2) := by decide +kernel
theorem dY_extreme_75 : decode cY_extreme 75 = .ok (.lstore 4, 2) := by decide +kernel
theorem dY_extreme_77 : decode cY_extreme 77 = .ok (.iinc 6 1, 3) := by decide +kernel
theorem dY_extreme_80 : decode cY_extreme 80 = .ok (.goto (-72), 3) := by decide +kernel
theorem dY_extreme_83 : decode cY_extreme 83 = .ok (.iload_n 3, 1) := by decide +kernel
theorem dY_extreme_84 : decode cY_extreme 84 = .ok (.ireturn, 1) := by decide +kernel
theorem dY_leave_0 : decode cY_leave 0 = .ok (.aload_n 0, 1) := by decide +kernel
theorem dY_leave_1 : decode cY_leave 1 = .ok (.getfield 20, 3) := by decide +kernel
theorem dY_leave_4 : decode cY_leave 4 = .ok (.iload_n 1, 1) := by decide +kernel
theorem dY_leave_5 : decode cY_leave 5 = .ok (.aload_n 0, 1) := by decide +kernel
theorem dY_leave_6 : decode cY_leave 6 = .ok (.getfield 7, 3) := by decide +kernel
theorem dY_leave_9 : decode cY_leave 9 = .ok (.iload_n 1, 1) := by decide +kernel
theorem dY_leave_10 : decode cY_leave 10 = .ok (.iaload, 1) := by decide +kernel
theorem dY_leave_11 : decode cY_leave 11 = .ok (.iconst 2, 1) := by decide +kernel
theorem dY_leave_12 : decode cY_leave 12 = .ok (.if_icmp .ne 17, 3) := by decide +kernel
theorem dY_leave_15 : decode cY_leave 15 = .ok (.aload_n 0, 1) := by decide +kernel
theorem dY_leave_16 : decode cY_leave 16 = .ok (.iload_n 1, 1) := by decide +kernel
theorem dY_leave_17 : decode cY_leave 17 = .ok (.aload_n 0, 1) := by decide +kernel
theorem dY_leave_18 : decode cY_leave 18 = .ok (.getfield 24, 3) := by decide +kernel
theorem dY_leave_21 : decode cY_leave 21 = .ok (.iload_n 2, 1) := by decide +kernel
theorem dY_leave_22 : decode cY_leave 22 = .ok (.laload, 1) := by decide +kernel
theorem dY_leave_23 : decode cY_leave 23 = .ok (.invokevirtual 46, 3) := by decide +kernel
theorem dY_leave_26 : decode cY_leave 26 = .ok (.goto 9, 3) := by decide +kernel
theorem dY_leave_29 : decode cY_leave 29 = .ok (.aload_n 0, 1) := by decide +kernel
theorem dY_leave_30 : decode cY_leave 30 = .ok (.getfield 20, 3) := by decide +kernel
theorem dY_leave_33 : decode cY_leave 33 = .ok (.iload_n 1, 1) := by decide +kernel
theorem dY_leave_34 : decode cY_leave 34 = .ok (.laload, 1) := by decide +kernel
theorem dY_leave_35 : decode cY_leave 35 = .ok (.lastore, 1) := by decide +kernel
theorem dY_leave_36 : decode cY_leave 36 = .ok (.return_, 1) := by decide +kernel
theorem dY_open_0 : decode cY_open 0 = .ok (.iload_n 1, 1) := by decide +kernel
theorem dY_open_1 : decode cY_open 1 = .ok (.ifCond .lt 17, 3) := by decide +kernel
theorem dY_open_4 : decode cY_open 4 = .ok (.iload_n 1, 1) := by decide +kernel
theorem dY_open_5 : decode cY_open 5 = .ok (.iconst 2, 1) := by decide +kernel
theorem dY_open_6 : decode cY_open 6 = .ok (.if_icmp .gt 12, 3) := by decide +kernel
theorem dY_open_9 : decode cY_open 9 = .ok (.iload_n 2, 1) := by decide +kernel
theorem dY_open_10 : decode cY_open 10 = .ok (.ifCond .lt 8, 3) := by decide +kernel
theorem dY_open_13 : decode cY_open 13 = .ok (.iload_n 2, 1) := by decide +kernel
theorem dY_open_14 : decode cY_open 14 = .ok (.iconst 3, 1) := by decide +kernel
theorem dY_open_15 : decode cY_open 15 = .ok (.if_icmp .le 6, 3) := by decide +kernel
theorem dY_open_18 : decode cY_open 18 = .ok (.bipush (-2), 2) := by decide +kernel
theorem dY_open_20 : decode cY_open 20 = .ok (.ireturn, 1) := by decide +kernel
theorem dY_open_21 : decode cY_open 21 = .ok (.aload_n 0, 1) := by decide +kernel
theorem dY_open_22 : decode cY_open 22 = .ok (.getfield 33, 3) := by decide +kernel
theorem dY_open_25 : decode cY_open 25 = .ok (.bipush 12, 2) := by decide +kernel
theorem dY_open_27 : decode cY_open 27 = .ok (.if_icmp .ne 6, 3) := by decide +kernel
theorem dY_open_30 : decode cY_open 30 = .ok (.bipush (-8), 2) := by decide +kernel
theorem dY_open_32 : decode cY_open 32 = .ok (.ireturn, 1) := by decide +kernel
theorem dY_open_33 : decode cY_open 33 = .ok (.aload_n 0, 1) := by decide +kernel
theorem dY_open_34 : decode cY_open 34 = .ok (.getfield 7, 3) := by decide +kernel
theorem dY_open_37 : decode cY_open 37 = .ok (.aload_n 0, 1) := by decide +kernel
theorem dY_open_38 : decode cY_open 38 = .ok (.getfield 33, 3) := by decide +kernel
theorem dY_open_41 : decode cY_open 41 = .ok (.iload_n 1, 1) := by decide +kernel
theorem dY_open_42 : decode cY_open 42 = .ok (.iastore, 1) := by decide +kernel
theorem dY_open_43 : decode cY_open 43 = .ok (.aload_n 0, 1) := by decide +kernel
theorem dY_open_44 : decode cY_open 44 = .ok (.getfield 13, 3) := by decide +kernel
theorem dY_open_47 : decode cY_open 47 = .ok (.aload_n 0, 1) := by decide +kernel
theorem dY_open_48 : decode cY_open 48 = .ok (.getfield 33, 3) := by decide +kernel
theorem dY_open_51 : decode cY_open 51 = .ok (.iload_n 2, 1) := by decide +kernel
theorem dY_open_52 : decode cY_open 52 = .ok (.iastore, 1) := by decide +kernel
theorem dY_open_53 : decode cY_open 53 = .ok (.aload_n 0, 1) := by decide +kernel
theorem dY_open_54 : decode cY_open 54 = .ok (.getfield 20, 3) := by decide +kernel
theorem dY_open_57 : decode cY_open 57 = .ok (.aload_n 0, 1) := by decide +kernel
theorem dY_open_58 : decode cY_open 58 = .ok (.getfield 33, 3) := by decide +kernel
theorem dY_open_61 : decode cY_open 61 = .ok (.ldc2_w 42, 3) := by decide +kernel
theorem dY_open_64 : decode cY_open 64 = .ok (.lastore, 1) := by decide +kernel
theorem dY_open_65 : decode cY_open 65 = .ok (.aload_n 0, 1) := by decide +kernel
theorem dY_open_66 : decode cY_open 66 = .ok (.dup, 1) := by decide +kernel
theorem dY_open_67 : decode cY_open 67 = .ok (.getfield 33, 3) := by decide +kernel
theorem dY_open_70 : decode cY_open 70 = .ok (.iconst 1, 1) := by decide +kernel
theorem dY_open_71 : decode cY_open 71 = .ok (.iadd, 1) := by decide +kernel
theorem dY_open_72 : decode cY_open 72 = .ok (.putfield 33, 3) := by decide +kernel
theorem dY_open_75 : decode cY_open 75 = .ok (.aload_n 0, 1) := by decide +kernel
theorem dY_open_76 : decode cY_open 76 = .ok (.getfield 33, 3) := by decide +kernel
theorem dY_open_79 : decode cY_open 79 = .ok (.iconst 1, 1) := by decide +kernel
theorem dY_open_80 : decode cY_open 80 = .ok (.isub, 1) := by decide +kernel
theorem dY_open_81 : decode cY_open 81 = .ok (.ireturn, 1) := by decide +kernel
theorem dY_insert_0 : decode cY_insert 0 = .ok (.aload_n 0, 1) := by decide +kernel
theorem dY_insert_1 : decode cY_insert 1 = .ok (.iload_n 1, 1) := by decide +kernel
theorem dY_insert_2 : decode cY_insert 2 = .ok (.invokevirtual 50, 3) := by decide +kernel
theorem dY_insert_5 : decode cY_insert 5 = .ok (.istore 5, 2) := by decide +kernel
theorem dY_insert_7 : decode cY_insert 7 = .ok (.iload 5, 2) := by decide +kernel
theorem dY_insert_9 : decode cY_insert 9 = .ok (.ifCond .eq 6, 3) := by decide +kernel
theorem dY_insert_12 : decode cY_insert 12 = .ok (.iload 5, 2) := by decide +kernel
theorem dY_insert_14 : decode cY_insert 14 = .ok (.ireturn, 1) := by decide +kernel
theorem dY_insert_15 : decode cY_insert 15 = .ok (.aload_n 0, 1) := by decide +kernel
theorem dY_insert_16 : decode cY_insert 16 = .ok (.iload_n 1, 1) := by decide +kernel
theorem dY_insert_17 : decode cY_insert 17 = .ok (.lload_n 2, 1) := by decide +kernel
theorem dY_insert_18 : decode cY_insert 18 = .ok (.invokevirtual 54, 3) := by decide +kernel
theorem dY_insert_21 : decode cY_insert 21 = .ok (.ifCond .eq 6, 3) := by decide +kernel
theorem dY_insert_24 : decode cY_insert 24 = .ok (.bipush (-6), 2) := by decide +kernel
theorem dY_insert_26 : decode cY_insert 26 = .ok (.ireturn, 1) := by decide +kernel
theorem dY_insert_27 : decode cY_insert 27 = .ok (.aload_n 0, 1) := by decide +kernel
theorem dY_insert_28 : decode cY_insert 28 = .ok (.getfield 37, 3) := by decide +kernel
theorem dY_insert_31 : decode cY_insert 31 = .ok (.sipush 160, 3) := by decide +kernel
theorem dY_insert_34 : decode cY_insert 34 = .ok (.if_icmp .ne 6, 3) := by decide +kernel
theorem dY_insert_37 : decode cY_insert 37 = .ok (.bipush (-8), 2) := by decide +kernel
theorem dY_insert_39 : decode cY_insert 39 = .ok (.ireturn, 1) := by decide +kernel
theorem dY_insert_40 : decode cY_insert 40 = .ok (.aload_n 0, 1) := by decide +kernel
theorem dY_insert_41 : decode cY_insert 41 = .ok (.getfield 24, 3) := by decide +kernel
theorem dY_insert_44 : decode cY_insert 44 = .ok (.aload_n 0, 1) := by decide +kernel
theorem dY_insert_45 : decode cY_insert 45 = .ok (.getfield 37, 3) := by decide +kernel
theorem dY_insert_48 : decode cY_insert 48 = .ok (.lload_n 2, 1) := by decide +kernel
theorem dY_insert_49 : decode cY_insert 49 = .ok (.lastore, 1) := by decide +kernel
theorem dY_insert_50 : decode cY_insert 50 = .ok (.aload_n 0, 1) := by decide +kernel
theorem dY_insert_51 : decode cY_insert 51 = .ok (.getfield 27, 3) := by decide +kernel
theorem dY_insert_54 : decode cY_insert 54 = .ok (.aload_n 0, 1) := by decide +kernel
theorem dY_insert_55 : decode cY_insert 55 = .ok (.getfield 37, 3) := by decide +kernel
theorem dY_insert_58 : decode cY_insert 58 = .ok (.iload 4, 2) := by decide +kernel
theorem dY_insert_60 : decode cY_insert 60 = .ok (.iastore, 1) := by decide +kernel
theorem dY_insert_61 : decode cY_insert 61 = .ok (.aload_n 0, 1) := by decide +kernel
theorem dY_insert_62 : decode cY_insert 62 = .ok (.getfield 30, 3) := by decide +kernel
theorem dY_insert_65 : decode cY_insert 65 = .ok (.aload_n 0, 1) := by decide +kernel
theorem dY_insert_66 : decode cY_insert 66 = .ok (.getfield 37, 3) := by decide +kernel
theorem dY_insert_69 : decode cY_insert 69 = .ok (.iload_n 1, 1) := by decide +kernel
theorem dY_insert_70 : decode cY_insert 70 = .ok (.iastore, 1) := by decide +kernel
theorem dY_insert_71 : decode cY_insert 71 = .ok (.aload_n 0, 1) := by decide +kernel
theorem dY_insert_72 : decode cY_insert 72 = .ok (.dup, 1) := by decide +kernel
theorem dY_insert_73 : decode cY_insert 73 = .ok (.getfield 37, 3) := by decide +kernel
theorem dY_insert_76 : decode cY_insert 76 = .ok (.iconst 1, 1) := by decide +kernel
theorem dY_insert_77 : decode cY_insert 77 = .ok (.iadd, 1) := by decide +kernel
theorem dY_insert_78 : decode cY_insert 78 = .ok (.putfield 37, 3) := by decide +kernel
theorem dY_insert_81 : decode cY_insert 81 = .ok (.aload_n 0, 1) := by decide +kernel
theorem dY_insert_82 : decode cY_insert 82 = .ok (.getfield 37, 3) := by decide +kernel
theorem dY_insert_85 : decode cY_insert 85 = .ok (.iconst 1, 1) := by decide +kernel
theorem dY_insert_86 : decode cY_insert 86 = .ok (.isub, 1) := by decide +kernel
theorem dY_insert_87 : decode cY_insert 87 = .ok (.ireturn, 1) := by decide +kernel
theorem dY_first_0 : decode cY_first 0 = .ok (.aload_n 0, 1) := by decide +kernel
theorem dY_first_1 : decode cY_first 1 = .ok (.iload_n 1, 1) := by decide +kernel
theorem dY_first_2 : decode cY_first 2 = .ok (.invokevirtual 50, 3) := by decide +kernel
theorem dY_first_5 : decode cY_first 5 = .ok (.istore_n 2, 1) := by decide +kernel
theorem dY_first_6 : decode cY_first 6 = .ok (.iload_n 2, 1) := by decide +kernel
theorem dY_first_7 : decode cY_first 7 = .ok (.ifCond .eq 7, 3) := by decide +kernel
theorem dY_first_10 : decode cY_first 10 = .ok (.iload_n 2, 1) := by decide +kernel
theorem dY_first_11 : decode cY_first 11 = .ok (.goto 9, 3) := by decide +kernel
theorem dY_first_14 : decode cY_first 14 = .ok (.aload_n 0, 1) := by decide +kernel
theorem dY_first_15 : decode cY_first 15 = .ok (.iload_n 1, 1) := by decide +kernel
theorem dY_first_16 : decode cY_first 16 = .ok (.iconst 1, 1) := by decide +kernel
theorem dY_first_17 : decode cY_first 17 = .ok (.invokevirtual 58, 3) := by decide +kernel
theorem dY_first_20 : decode cY_first 20 = .ok (.ireturn, 1) := by decide +kernel
theorem dY_last_0 : decode cY_last 0 = .ok (.aload_n 0, 1) := by decide +kernel
theorem dY_last_1 : decode cY_last 1 = .ok (.iload_n 1, 1) := by decide +kernel
theorem dY_last_2 : decode cY_last 2 = .ok (.invokevirtual 50, 3) := by decide +kernel
theorem dY_last_5 : decode cY_last 5 = .ok (.istore_n 2, 1) := by decide +kernel
theorem dY_last_6 : decode cY_last 6 = .ok (.iload_n 2, 1) := by decide +kernel
theorem dY_last_7 : decode cY_last 7 = .ok (.ifCond .eq 5, 3) := by decide +kernel
theorem dY_last_10 : decode cY_last 10 = .ok (.iload_n 2, 1) := by decide +kernel
theorem dY_last_11 : decode cY_last 11 = .ok (.ireturn, 1) := by decide +kernel
theorem dY_last_12 : decode cY_last 12 = .ok (.aload_n 0, 1) := by decide +kernel
theorem dY_last_13 : decode cY_last 13 = .ok (.getfield 7, 3) := by decide +kernel
theorem dY_last_16 : decode cY_last 16 = .ok (.iload_n 1, 1) := by decide +kernel
theorem dY_last_17 : decode cY_last 17 = .ok (.iaload, 1) := by decide +kernel
theorem dY_last_18 : decode cY_last 18 = .ok (.iconst 1, 1) := by decide +kernel
theorem dY_last_19 : decode cY_last 19 = .ok (.if_icmp .ne 12, 3) := by decide +kernel
theorem dY_last_22 : decode cY_last 22 = .ok (.aload_n 0, 1) := by decide +kernel
theorem dY_last_23 : decode cY_last 23 = .ok (.iload_n 1, 1) := by decide +kernel
theorem dY_last_24 : decode cY_last 24 = .ok (.iconst 0, 1) := by decide +kernel
theorem dY_last_25 : decode cY_last 25 = .ok (.invokevirtual 58, 3) := by decide +kernel
theorem dY_last_28 : decode cY_last 28 = .ok (.goto 5, 3) := by decide +kernel
theorem dY_last_31 : decode cY_last 31 = .ok (.bipush (-7), 2) := by decide +kernel
theorem dY_last_33 : decode cY_last 33 = .ok (.ireturn, 1) := by decide +kernel
theorem dY_take_0 : decode cY_take 0 = .ok (.aload_n 0, 1) := by decide +kernel
theorem dY_take_1 : decode cY_take 1 = .ok (.iload_n 1, 1) := by decide +kernel
theorem dY_take_2 : decode cY_take 2 = .ok (.invokevirtual 62, 3) := by decide +kernel
theorem dY_take_5 : decode cY_take 5 = .ok (.istore_n 2, 1) := by decide +kernel
theorem dY_take_6 : decode cY_take 6 = .ok (.iload_n 2, 1) := by decide +kernel
theorem dY_take_7 : decode cY_take 7 = .ok (.ifCond .lt 16, 3) := by decide +kernel
theorem dY_take_10 : decode cY_take 10 = .ok (.aload_n 0, 1) := by decide +kernel
theorem dY_take_11 : decode cY_take 11 = .ok (.iload_n 1, 1) := by decide +kernel
theorem dY_take_12 : decode cY_take 12 = .ok (.iload_n 2, 1) := by decide +kernel
theorem dY_take_13 : decode cY_take 13 = .ok (.invokevirtual 65, 3) := by decide +kernel
theorem dY_take_16 : decode cY_take 16 = .ok (.aload_n 0, 1) := by decide +kernel
theorem dY_take_17 : decode cY_take 17 = .ok (.getfield 30, 3) := by decide +kernel
theorem dY_take_20 : decode cY_take 20 = .ok (.iload_n 2, 1) := by decide +kernel
theorem dY_take_21 : decode cY_take 21 = .ok (.iconst (-1), 1) := by decide +kernel
theorem dY_take_22 : decode cY_take 22 = .ok (.iastore, 1) := by decide +kernel
theorem dY_take_23 : decode cY_take 23 = .ok (.iload_n 2, 1) := by decide +kernel
theorem dY_take_24 : decode cY_take 24 = .ok (.ireturn, 1) := by decide +kernel
theorem dY_takeLast_0 : decode cY_takeLast 0 = .ok (.aload_n 0, 1) := by decide +kernel
theorem dY_takeLast_1 : decode cY_takeLast 1 = .ok (.iload_n 1, 1) := by decide +kernel
theorem dY_takeLast_2 : decode cY_takeLast 2 = .ok (.invokevirtual 69, 3) := by decide +kernel
theorem dY_takeLast_5 : decode cY_takeLast 5 = .ok (.istore_n 2, 1) := by decide +kernel
theorem dY_takeLast_6 : decode cY_takeLast 6 = .ok (.iload_n 2, 1) := by decide +kernel
theorem dY_takeLast_7 : decode cY_takeLast 7 = .ok (.ifCond .lt 10, 3) := by decide +kernel
theorem dY_takeLast_10 : decode cY_takeLast 10 = .ok (.aload_n 0, 1) := by decide +kernel
theorem dY_takeLast_11 : decode cY_takeLast 11 = .ok (.getfield 30, 3) := by decide +kernel
theorem dY_takeLast_14 : decode cY_takeLast 14 = .ok (.iload_n 2, 1) := by decide +kernel
theorem dY_takeLast_15 : decode cY_takeLast 15 = .ok (.iconst (-1), 1) := by decide +kernel
theorem dY_takeLast_16 : decode cY_takeLast 16 = .ok (.iastore, 1) := by decide +kernel
theorem dY_takeLast_17 : decode cY_takeLast 17 = .ok (.iload_n 2, 1) := by decide +kernel
theorem dY_takeLast_18 : decode cY_takeLast 18 = .ok (.ireturn, 1) := by decide +kernel
theorem dY_decrease_0 : decode cY_decrease 0 = .ok (.aload_n 0, 1) := by decide +kernel
theorem dY_decrease_1 : decode cY_decrease 1 = .ok (.iload_n 1, 1) := by decide +kernel
theorem dY_decrease_2 : decode cY_decrease 2 = .ok (.invokevirtual 72, 3) := by decide +kernel
theorem dY_decrease_5 : decode cY_decrease 5 = .ok (.istore 4, 2) := by decide +kernel
theorem dY_decrease_7 : decode cY_decrease 7 = .ok (.iload 4, 2) := by decide +kernel
theorem dY_decrease_9 : decode cY_decrease 9 = .ok (.ifCond .eq 6, 3) := by decide +kernel
theorem dY_decrease_12 : decode cY_decrease 12 = .ok (.iload 4, 2) := by decide +kernel
theorem dY_decrease_14 : decode cY_decrease 14 = .ok (.ireturn, 1) := by decide +kernel
theorem dY_decrease_15 : decode cY_decrease 15 = .ok (.aload_n 0, 1) := by decide +kernel
theorem dY_decrease_16 : decode cY_decrease 16 = .ok (.getfield 30, 3) := by decide +kernel
theorem dY_decrease_19 : decode cY_decrease 19 = .ok (.iload_n 1, 1) := by decide +kernel
theorem dY_decrease_20 : decode cY_decrease 20 = .ok (.iaload, 1) := by decide +kernel
theorem dY_decrease_21 : decode cY_decrease 21 = .ok (.istore 5, 2) := by decide +kernel
theorem dY_decrease_23 : decode cY_decrease 23 = .ok (.aload_n 0, 1) := by decide +kernel
theorem dY_decrease_24 : decode cY_decrease 24 = .ok (.iload 5, 2) := by decide +kernel
theorem dY_decrease_26 : decode cY_decrease 26 = .ok (.lload_n 2, 1) := by decide +kernel
theorem dY_decrease_27 : decode cY_decrease 27 = .ok (.invokevirtual 46, 3) := by decide +kernel
theorem dY_decrease_30 : decode cY_decrease 30 = .ok (.aload_n 0, 1) := by decide +kernel
theorem dY_decrease_31 : decode cY_decrease 31 = .ok (.iload 5, 2) := by decide +kernel
theorem dY_decrease_33 : decode cY_decrease 33 = .ok (.aload_n 0, 1) := by decide +kernel
theorem dY_decrease_34 : decode cY_decrease 34 = .ok (.getfield 24, 3) := by decide +kernel
theorem dY_decrease_37 : decode cY_decrease 37 = .ok (.iload_n 1, 1) := by decide +kernel
theorem dY_decrease_38 : decode cY_decrease 38 = .ok (.laload, 1) := by decide +kernel
theorem dY_decrease_39 : decode cY_decrease 39 = .ok (.invokevirtual 46, 3) := by decide +kernel
theorem dY_decrease_42 : decode cY_decrease 42 = .ok (.lcmp, 1) := by decide +kernel
theorem dY_decrease_43 : decode cY_decrease 43 = .ok (.ifCond .le 6, 3) := by decide +kernel
theorem dY_decrease_46 : decode cY_decrease 46 = .ok (.bipush (-5), 2) := by decide +kernel
theorem dY_decrease_48 : decode cY_decrease 48 = .ok (.ireturn, 1) := by decide +kernel
theorem dY_decrease_49 : decode cY_decrease 49 = .ok (.aload_n 0, 1) := by decide +kernel
theorem dY_decrease_50 : decode cY_decrease 50 = .ok (.iload 5, 2) := by decide +kernel
theorem dY_decrease_52 : decode cY_decrease 52 = .ok (.lload_n 2, 1) := by decide +kernel
theorem dY_decrease_53 : decode cY_decrease 53 = .ok (.invokevirtual 54, 3) := by decide +kernel
theorem dY_decrease_56 : decode cY_decrease 56 = .ok (.ifCond .eq 6, 3) := by decide +kernel
theorem dY_decrease_59 : decode cY_decrease 59 = .ok (.bipush (-6), 2) := by decide +kernel
theorem dY_decrease_61 : decode cY_decrease 61 = .ok (.ireturn, 1) := by decide +kernel
theorem dY_decrease_62 : decode cY_decrease 62 = .ok (.aload_n 0, 1) := by decide +kernel
theorem dY_decrease_63 : decode cY_decrease 63 = .ok (.getfield 24, 3) := by decide +kernel
theorem dY_decrease_66 : decode cY_decrease 66 = .ok (.iload_n 1, 1) := by decide +kernel
theorem dY_decrease_67 : decode cY_decrease 67 = .ok (.lload_n 2, 1) := by decide +kernel
theorem dY_decrease_68 : decode cY_decrease 68 = .ok (.lastore, 1) := by decide +kernel
theorem dY_decrease_69 : decode cY_decrease 69 = .ok (.aload_n 0, 1) := by decide +kernel
theorem dY_decrease_70 : decode cY_decrease 70 = .ok (.iload_n 1, 1) := by decide +kernel
theorem dY_decrease_71 : decode cY_decrease 71 = .ok (.invokevirtual 75, 3) := by decide +kernel
theorem dY_decrease_74 : decode cY_decrease 74 = .ok (.ifCond .ne 7, 3) := by decide +kernel
theorem dY_decrease_77 : decode cY_decrease 77 = .ok (.iconst 1, 1) := by decide +kernel
theorem dY_decrease_78 : decode cY_decrease 78 = .ok (.goto 4, 3) := by decide +kernel
theorem dY_decrease_81 : decode cY_decrease 81 = .ok (.iconst 0, 1) := by decide +kernel
theorem dY_decrease_82 : decode cY_decrease 82 = .ok (.ireturn, 1) := by decide +kernel
theorem dY_delete_0 : decode cY_delete 0 = .ok (.aload_n 0, 1) := by decide +kernel
theorem dY_delete_1 : decode cY_delete 1 = .ok (.iload_n 1, 1) := by decide +kernel
theorem dY_delete_2 : decode cY_delete 2 = .ok (.invokevirtual 72, 3) := by decide +kernel
theorem dY_delete_5 : decode cY_delete 5 = .ok (.istore_n 2, 1) := by decide +kernel
theorem dY_delete_6 : decode cY_delete 6 = .ok (.iload_n 2, 1) := by decide +kernel
theorem dY_delete_7 : decode cY_delete 7 = .ok (.ifCond .eq 5, 3) := by decide +kernel
theorem dY_delete_10 : decode cY_delete 10 = .ok (.iload_n 2, 1) := by decide +kernel
theorem dY_delete_11 : decode cY_delete 11 = .ok (.ireturn, 1) := by decide +kernel
theorem dY_delete_12 : decode cY_delete 12 = .ok (.aload_n 0, 1) := by decide +kernel
theorem dY_delete_13 : decode cY_delete 13 = .ok (.getfield 30, 3) := by decide +kernel
theorem dY_delete_16 : decode cY_delete 16 = .ok (.iload_n 1, 1) := by decide +kernel
theorem dY_delete_17 : decode cY_delete 17 = .ok (.iaload, 1) := by decide +kernel
theorem dY_delete_18 : decode cY_delete 18 = .ok (.istore_n 3, 1) := by decide +kernel
theorem dY_delete_19 : decode cY_delete 19 = .ok (.aload_n 0, 1) := by decide +kernel
theorem dY_delete_20 : decode cY_delete 20 = .ok (.getfield 30, 3) := by decide +kernel
theorem dY_delete_23 : decode cY_delete 23 = .ok (.iload_n 1, 1) := by decide +kernel
theorem dY_delete_24 : decode cY_delete 24 = .ok (.iconst (-1), 1) := by decide +kernel
theorem dY_delete_25 : decode cY_delete 25 = .ok (.iastore, 1) := by decide +kernel
theorem dY_delete_26 : decode cY_delete 26 = .ok (.iload_n 3, 1) := by decide +kernel
theorem dY_delete_27 : decode cY_delete 27 = .ok (.ireturn, 1) := by decide +kernel
theorem dY_wrongPair_0 : decode cY_wrongPair 0 = .ok (.aload_n 0, 1) := by decide +kernel
theorem dY_wrongPair_1 : decode cY_wrongPair 1 = .ok (.iload_n 1, 1) := by decide +kernel
theorem dY_wrongPair_2 : decode cY_wrongPair 2 = .ok (.invokevirtual 50, 3) := by decide +kernel
theorem dY_wrongPair_5 : decode cY_wrongPair 5 = .ok (.istore_n 3, 1) := by decide +kernel
theorem dY_wrongPair_6 : decode cY_wrongPair 6 = .ok (.iload_n 3, 1) := by decide +kernel
theorem dY_wrongPair_7 : decode cY_wrongPair 7 = .ok (.ifCond .eq 5, 3) := by decide +kernel
theorem dY_wrongPair_10 : decode cY_wrongPair 10 = .ok (.iload_n 3, 1) := by decide +kernel
theorem dY_wrongPair_11 : decode cY_wrongPair 11 = .ok (.ireturn, 1) := by decide +kernel
theorem dY_wrongPair_12 : decode cY_wrongPair 12 = .ok (.aload_n 0, 1) := by decide +kernel
theorem dY_wrongPair_13 : decode cY_wrongPair 13 = .ok (.iload_n 2, 1) := by decide +kernel
theorem dY_wrongPair_14 : decode cY_wrongPair 14 = .ok (.invokevirtual 50, 3) := by decide +kernel
theorem dY_wrongPair_17 : decode cY_wrongPair 17 = .ok (.istore_n 3, 1) := by decide +kernel
theorem dY_wrongPair_18 : decode cY_wrongPair 18 = .ok (.iload_n 3, 1) := by decide +kernel
theorem dY_wrongPair_19 : decode cY_wrongPair 19 = .ok (.ifCond .eq 7, 3) := by decide +kernel
theorem dY_wrongPair_22 : decode cY_wrongPair 22 = .ok (.iload_n 3, 1) := by decide +kernel
theorem dY_wrongPair_23 : decode cY_wrongPair 23 = .ok (.goto 14, 3) := by decide +kernel
theorem dY_wrongPair_26 : decode cY_wrongPair 26 = .ok (.iload_n 1, 1) := by decide +kernel
theorem dY_wrongPair_27 : decode cY_wrongPair 27 = .ok (.iload_n 2, 1) := by decide +kernel
theorem dY_wrongPair_28 : decode cY_wrongPair 28 = .ok (.if_icmp .ne 8, 3) := by decide +kernel
theorem dY_wrongPair_31 : decode cY_wrongPair 31 = .ok (.bipush (-7), 2) := by decide +kernel
theorem dY_wrongPair_33 : decode cY_wrongPair 33 = .ok (.goto 4, 3) := by decide +kernel
theorem dY_wrongPair_36 : decode cY_wrongPair 36 = .ok (.iconst 0, 1) := by decide +kernel
theorem dY_wrongPair_37 : decode cY_wrongPair 37 = .ok (.ireturn, 1) := by decide +kernel
theorem dY_meld_0 : decode cY_meld 0 = .ok (.aload_n 0, 1) := by decide +kernel
theorem dY_meld_1 : decode cY_meld 1 = .ok (.iload_n 1, 1) := by decide +kernel
theorem dY_meld_2 : decode cY_meld 2 = .ok (.iload_n 2, 1) := by decide +kernel
theorem dY_meld_3 : decode cY_meld 3 = .ok (.invokevirtual 78, 3) := by decide +kernel
theorem dY_meld_6 : decode cY_meld 6 = .ok (.istore_n 3, 1) := by decide +kernel
theorem dY_meld_7 : decode cY_meld 7 = .ok (.iload_n 3, 1) := by decide +kernel
theorem dY_meld_8 : decode cY_meld 8 = .ok (.ifCond .eq 5, 3) := by decide +kernel
theorem dY_meld_11 : decode cY_meld 11 = .ok (.iload_n 3, 1) := by decide +kernel
theorem dY_meld_12 : decode cY_meld 12 = .ok (.ireturn, 1) := by decide +kernel
theorem dY_meld_13 : decode cY_meld 13 = .ok (.aload_n 0, 1) := by decide +kernel
theorem dY_meld_14 : decode cY_meld 14 = .ok (.getfield 7, 3) := by decide +kernel
theorem dY_meld_17 : decode cY_meld 17 = .ok (.iload_n 1, 1) := by decide +kernel
theorem dY_meld_18 : decode cY_meld 18 = .ok (.iaload, 1) := by decide +kernel
theorem dY_meld_19 : decode cY_meld 19 = .ok (.ifCond .ne 27, 3) := by decide +kernel
theorem dY_meld_22 : decode cY_meld 22 = .ok (.aload_n 0, 1) := by decide +kernel
theorem dY_meld_23 : decode cY_meld 23 = .ok (.getfield 7, 3) := by decide +kernel
theorem dY_meld_26 : decode cY_meld 26 = .ok (.iload_n 2, 1) := by decide +kernel
theorem dY_meld_27 : decode cY_meld 27 = .ok (.iaload, 1) := by decide +kernel
theorem dY_meld_28 : decode cY_meld 28 = .ok (.ifCond .ne 18, 3) := by decide +kernel
theorem dY_meld_31 : decode cY_meld 31 = .ok (.aload_n 0, 1) := by decide +kernel
theorem dY_meld_32 : decode cY_meld 32 = .ok (.getfield 13, 3) := by decide +kernel
theorem dY_meld_35 : decode cY_meld 35 = .ok (.iload_n 1, 1) := by decide +kernel
theorem dY_meld_36 : decode cY_meld 36 = .ok (.iaload, 1) := by decide +kernel
theorem dY_meld_37 : decode cY_meld 37 = .ok (.aload_n 0, 1) := by decide +kernel
theorem dY_meld_38 : decode cY_meld 38 = .ok (.getfield 13, 3) := by decide +kernel
theorem dY_meld_41 : decode cY_meld 41 = .ok (.iload_n 2, 1) := by decide +kernel
theorem dY_meld_42 : decode cY_meld 42 = .ok (.iaload, 1) := by decide +kernel
theorem dY_meld_43 : decode cY_meld 43 = .ok (.if_icmp .eq 6, 3) := by decide +kernel
theorem dY_meld_46 : decode cY_meld 46 = .ok (.bipush (-7), 2) := by decide +kernel
theorem dY_meld_48 : decode cY_meld 48 = .ok (.ireturn, 1) := by decide +kernel
theorem dY_meld_49 : decode cY_meld 49 = .ok (.iconst 0, 1) := by decide +kernel
theorem dY_meld_50 : decode cY_meld 50 = .ok (.istore 4, 2) := by decide +kernel
theorem dY_meld_52 : decode cY_meld 52 = .ok (.iload 4, 2) := by decide +kernel
theorem dY_meld_54 : decode cY_meld 54 = .ok (.aload_n 0, 1) := by decide +kernel
theorem dY_meld_55 : decode cY_meld 55 = .ok (.getfield 37, 3) := by decide +kernel
theorem dY_meld_58 : decode cY_meld 58 = .ok (.if_icmp .ge 38, 3) := by decide +kernel
theorem dY_meld_61 : decode cY_meld 61 = .ok (.aload_n 0, 1) := by decide +kernel
theorem dY_meld_62 : decode cY_meld 62 = .ok (.getfield 30, 3) := by decide +kernel
theorem dY_meld_65 : decode cY_meld 65 = .ok (.iload 4, 2) := by decide +kernel
theorem dY_meld_67 : decode cY_meld 67 = .ok (.aload_n 0, 1) := by decide +kernel
theorem dY_meld_68 : decode cY_meld 68 = .ok (.getfield 30, 3) := by decide +kernel
theorem dY_meld_71 : decode cY_meld 71 = .ok (.iload 4, 2) := by decide +kernel
theorem dY_meld_73 : decode cY_meld 73 = .ok (.iaload, 1) := by decide +kernel
theorem dY_meld_74 : decode cY_meld 74 = .ok (.iload_n 2, 1) := by decide +kernel
theorem dY_meld_75 : decode cY_meld 75 = .ok (.if_icmp .ne 7, 3) := by decide +kernel
theorem dY_meld_78 : decode cY_meld 78 = .ok (.iload_n 1, 1) := by decide +kernel
theorem dY_meld_79 : decode cY_meld 79 = .ok (.goto 10, 3) := by decide +kernel
theorem dY_meld_82 : decode cY_meld 82 = .ok (.aload_n 0, 1) := by decide +kernel
theorem dY_meld_83 : decode cY_meld 83 = .ok (.getfield 30, 3) := by decide +kernel
theorem dY_meld_86 : decode cY_meld 86 = .ok (.iload 4, 2) := by decide +kernel
theorem dY_meld_88 : decode cY_meld 88 = .ok (.iaload, 1) := by decide +kernel
theorem dY_meld_89 : decode cY_meld 89 = .ok (.iastore, 1) := by decide +kernel
theorem dY_meld_90 : decode cY_meld 90 = .ok (.iinc 4 1, 3) := by decide +kernel
theorem dY_meld_93 : decode cY_meld 93 = .ok (.goto (-41), 3) := by decide +kernel
theorem dY_meld_96 : decode cY_meld 96 = .ok (.aload_n 0, 1) := by decide +kernel
theorem dY_meld_97 : decode cY_meld 97 = .ok (.getfield 16, 3) := by decide +kernel
theorem dY_meld_100 : decode cY_meld 100 = .ok (.iload_n 2, 1) := by decide +kernel
theorem dY_meld_101 : decode cY_meld 101 = .ok (.iconst 1, 1) := by decide +kernel
theorem dY_meld_102 : decode cY_meld 102 = .ok (.bastore, 1) := by decide +kernel
theorem dY_meld_103 : decode cY_meld 103 = .ok (.aload_n 0, 1) := by decide +kernel
theorem dY_meld_104 : decode cY_meld 104 = .ok (.iload_n 1, 1) := by decide +kernel
theorem dY_meld_105 : decode cY_meld 105 = .ok (.invokevirtual 82, 3) := by decide +kernel
theorem dY_meld_108 : decode cY_meld 108 = .ok (.ireturn, 1) := by decide +kernel
theorem dY_drain_0 : decode cY_drain 0 = .ok (.aload_n 0, 1) := by decide +kernel
theorem dY_drain_1 : decode cY_drain 1 = .ok (.iload_n 1, 1) := by decide +kernel
theorem dY_drain_2 : decode cY_drain 2 = .ok (.iload_n 2, 1) := by decide +kernel
theorem dY_drain_3 : decode cY_drain 3 = .ok (.invokevirtual 78, 3) := by decide +kernel
theorem dY_drain_6 : decode cY_drain 6 = .ok (.istore 4, 2) := by decide +kernel
theorem dY_drain_8 : decode cY_drain 8 = .ok (.iload 4, 2) := by decide +kernel
theorem dY_drain_10 : decode cY_drain 10 = .ok (.ifCond .eq 6, 3) := by decide +kernel
theorem dY_drain_13 : decode cY_drain 13 = .ok (.iload 4, 2) := by decide +kernel
theorem dY_drain_15 : decode cY_drain 15 = .ok (.ireturn, 1) := by decide +kernel
theorem dY_drain_16 : decode cY_drain 16 = .ok (.iconst 0, 1) := by decide +kernel
theorem dY_drain_17 : decode cY_drain 17 = .ok (.istore 5, 2) := by decide +kernel
theorem dY_drain_19 : decode cY_drain 19 = .ok (.iconst 1, 1) := by decide +kernel
theorem dY_drain_20 : decode cY_drain 20 = .ok (.istore 6, 2) := by decide +kernel
theorem dY_drain_22 : decode cY_drain 22 = .ok (.iload 6, 2) := by decide +kernel
theorem dY_drain_24 : decode cY_drain 24 = .ok (.ifCond .eq 70, 3) := by decide +kernel
theorem dY_drain_27 : decode cY_drain 27 = .ok (.iload 5, 2) := by decide +kernel
theorem dY_drain_29 : decode cY_drain 29 = .ok (.iload_n 3, 1) := by decide +kernel
theorem dY_drain_30 : decode cY_drain 30 = .ok (.if_icmp .ge 64, 3) := by decide +kernel
theorem dY_drain_33 : decode cY_drain 33 = .ok (.aload_n 0, 1) := by decide +kernel
theorem dY_drain_34 : decode cY_drain 34 = .ok (.iload_n 1, 1) := by decide +kernel
theorem dY_drain_35 : decode cY_drain 35 = .ok (.iconst 1, 1) := by decide +kernel
theorem dY_drain_36 : decode cY_drain 36 = .ok (.invokevirtual 58, 3) := by decide +kernel
theorem dY_drain_39 : decode cY_drain 39 = .ok (.istore 7, 2) := by decide +kernel
theorem dY_drain_41 : decode cY_drain 41 = .ok (.iload 7, 2) := by decide +kernel
theorem dY_drain_43 : decode cY_drain 43 = .ok (.ifCond .lt 22, 3) := by decide +kernel
theorem dY_drain_46 : decode cY_drain 46 = .ok (.aload_n 0, 1) := by decide +kernel
theorem dY_drain_47 : decode cY_drain 47 = .ok (.iload_n 2, 1) := by decide +kernel
theorem dY_drain_48 : decode cY_drain 48 = .ok (.aload_n 0, 1) := by decide +kernel
theorem dY_drain_49 : decode cY_drain 49 = .ok (.getfield 24, 3) := by decide +kernel
theorem dY_drain_52 : decode cY_drain 52 = .ok (.iload 7, 2) := by decide +kernel
theorem dY_drain_54 : decode cY_drain 54 = .ok (.laload, 1) := by decide +kernel
theorem dY_drain_55 : decode cY_drain 55 = .ok (.invokevirtual 54, 3) := by decide +kernel
theorem dY_drain_58 : decode cY_drain 58 = .ok (.ifCond .ne 7, 3) := by decide +kernel
theorem dY_drain_61 : decode cY_drain 61 = .ok (.iconst 1, 1) := by decide +kernel
theorem dY_drain_62 : decode cY_drain 62 = .ok (.goto 4, 3) := by decide +kernel
theorem dY_drain_65 : decode cY_drain 65 = .ok (.iconst 0, 1) := by decide +kernel
theorem dY_drain_66 : decode cY_drain 66 = .ok (.istore 6, 2) := by decide +kernel
theorem dY_drain_68 : decode cY_drain 68 = .ok (.iload 6, 2) := by decide +kernel
theorem dY_drain_70 : decode cY_drain 70 = .ok (.ifCond .eq 21, 3) := by decide +kernel
theorem dY_drain_73 : decode cY_drain 73 = .ok (.aload_n 0, 1) := by decide +kernel
theorem dY_drain_74 : decode cY_drain 74 = .ok (.iload_n 1, 1) := by decide +kernel
theorem dY_drain_75 : decode cY_drain 75 = .ok (.iload 7, 2) := by decide +kernel
theorem dY_drain_77 : decode cY_drain 77 = .ok (.invokevirtual 65, 3) := by decide +kernel
theorem dY_drain_80 : decode cY_drain 80 = .ok (.aload_n 0, 1) := by decide +kernel
theorem dY_drain_81 : decode cY_drain 81 = .ok (.getfield 30, 3) := by decide +kernel
theorem dY_drain_84 : decode cY_drain 84 = .ok (.iload 7, 2) := by decide +kernel
theorem dY_drain_86 : decode cY_drain 86 = .ok (.iload_n 2, 1) := by decide +kernel
theorem dY_drain_87 : decode cY_drain 87 = .ok (.iastore, 1) := by decide +kernel
theorem dY_drain_88 : decode cY_drain 88 = .ok (.iinc 5 1, 3) := by decide +kernel
theorem dY_drain_91 : decode cY_drain 91 = .ok (.goto (-69), 3) := by decide +kernel
theorem dY_drain_94 : decode cY_drain 94 = .ok (.iload 5, 2) := by decide +kernel
theorem dY_drain_96 : decode cY_drain 96 = .ok (.ireturn, 1) := by decide +kernel
theorem dY_clear_0 : decode cY_clear 0 = .ok (.aload_n 0, 1) := by decide +kernel
theorem dY_clear_1 : decode cY_clear 1 = .ok (.iload_n 1, 1) := by decide +kernel
theorem dY_clear_2 : decode cY_clear 2 = .ok (.invokevirtual 50, 3) := by decide +kernel
theorem dY_clear_5 : decode cY_clear 5 = .ok (.istore_n 2, 1) := by decide +kernel
theorem dY_clear_6 : decode cY_clear 6 = .ok (.iload_n 2, 1) := by decide +kernel
theorem dY_clear_7 : decode cY_clear 7 = .ok (.ifCond .eq 5, 3) := by decide +kernel
theorem dY_clear_10 : decode cY_clear 10 = .ok (.iload_n 2, 1) := by decide +kernel
theorem dY_clear_11 : decode cY_clear 11 = .ok (.ireturn, 1) := by decide +kernel
theorem dY_clear_12 : decode cY_clear 12 = .ok (.aload_n 0, 1) := by decide +kernel
theorem dY_clear_13 : decode cY_clear 13 = .ok (.iload_n 1, 1) := by decide +kernel
theorem dY_clear_14 : decode cY_clear 14 = .ok (.invokevirtual 82, 3) := by decide +kernel
theorem dY_clear_17 : decode cY_clear 17 = .ok (.istore_n 3, 1) := by decide +kernel
theorem dY_clear_18 : decode cY_clear 18 = .ok (.iconst 0, 1) := by decide +kernel
theorem dY_clear_19 : decode cY_clear 19 = .ok (.istore 4, 2) := by decide +kernel
theorem dY_clear_21 : decode cY_clear 21 = .ok (.iload 4, 2) := by decide +kernel
theorem dY_clear_23 : decode cY_clear 23 = .ok (.aload_n 0, 1) := by decide +kernel
theorem dY_clear_24 : decode cY_clear 24 = .ok (.getfield 37, 3) := by decide +kernel
theorem dY_clear_27 : decode cY_clear 27 = .ok (.if_icmp .ge 38, 3) := by decide +kernel
theorem dY_clear_30 : decode cY_clear 30 = .ok (.aload_n 0, 1) := by decide +kernel
theorem dY_clear_31 : decode cY_clear 31 = .ok (.getfield 30, 3) := by decide +kernel
theorem dY_clear_34 : decode cY_clear 34 = .ok (.iload 4, 2) := by decide +kernel
theorem dY_clear_36 : decode cY_clear 36 = .ok (.aload_n 0, 1) := by decide +kernel
theorem dY_clear_37 : decode cY_clear 37 = .ok (.getfield 30, 3) := by decide +kernel
theorem dY_clear_40 : decode cY_clear 40 = .ok (.iload 4, 2) := by decide +kernel
theorem dY_clear_42 : decode cY_clear 42 = .ok (.iaload, 1) := by decide +kernel
theorem dY_clear_43 : decode cY_clear 43 = .ok (.iload_n 1, 1) := by decide +kernel
theorem dY_clear_44 : decode cY_clear 44 = .ok (.if_icmp .ne 7, 3) := by decide +kernel
theorem dY_clear_47 : decode cY_clear 47 = .ok (.iconst (-1), 1) := by decide +kernel
theorem dY_clear_48 : decode cY_clear 48 = .ok (.goto 10, 3) := by decide +kernel
theorem dY_clear_51 : decode cY_clear 51 = .ok (.aload_n 0, 1) := by decide +kernel
theorem dY_clear_52 : decode cY_clear 52 = .ok (.getfield 30, 3) := by decide +kernel
theorem dY_clear_55 : decode cY_clear 55 = .ok (.iload 4, 2) := by decide +kernel
theorem dY_clear_57 : decode cY_clear 57 = .ok (.iaload, 1) := by decide +kernel
theorem dY_clear_58 : decode cY_clear 58 = .ok (.iastore, 1) := by decide +kernel
theorem dY_clear_59 : decode cY_clear 59 = .ok (.iinc 4 1, 3) := by decide +kernel
theorem dY_clear_62 : decode cY_clear 62 = .ok (.goto (-41), 3) := by decide +kernel
theorem dY_clear_65 : decode cY_clear 65 = .ok (.aload_n 0, 1) := by decide +kernel
theorem dY_clear_66 : decode cY_clear 66 = .ok (.getfield 20, 3) := by decide +kernel
theorem dY_clear_69 : decode cY_clear 69 = .ok (.iload_n 1, 1) := by decide +kernel
theorem dY_clear_70 : decode cY_clear 70 = .ok (.ldc2_w 42, 3) := by decide +kernel
theorem dY_clear_73 : decode cY_clear 73 = .ok (.lastore, 1) := by decide +kernel
theorem dY_clear_74 : decode cY_clear 74 = .ok (.iload_n 3, 1) := by decide +kernel
theorem dY_clear_75 : decode cY_clear 75 = .ok (.ireturn, 1) := by decide +kernel
theorem dY_size_0 : decode cY_size 0 = .ok (.aload_n 0, 1) := by decide +kernel
theorem dY_size_1 : decode cY_size 1 = .ok (.iload_n 1, 1) := by decide +kernel
theorem dY_size_2 : decode cY_size 2 = .ok (.invokevirtual 50, 3) := by decide +kernel
theorem dY_size_5 : decode cY_size 5 = .ok (.istore_n 2, 1) := by decide +kernel
theorem dY_size_6 : decode cY_size 6 = .ok (.iload_n 2, 1) := by decide +kernel
theorem dY_size_7 : decode cY_size 7 = .ok (.ifCond .eq 7, 3) := by decide +kernel
theorem dY_size_10 : decode cY_size 10 = .ok (.iload_n 2, 1) := by decide +kernel
theorem dY_size_11 : decode cY_size 11 = .ok (.goto 8, 3) := by decide +kernel
theorem dY_size_14 : decode cY_size 14 = .ok (.aload_n 0, 1) := by decide +kernel
theorem dY_size_15 : decode cY_size 15 = .ok (.iload_n 1, 1) := by decide +kernel
theorem dY_size_16 : decode cY_size 16 = .ok (.invokevirtual 82, 3) := by decide +kernel
theorem dY_size_19 : decode cY_size 19 = .ok (.ireturn, 1) := by decide +kernel
theorem dY_floor_0 : decode cY_floor 0 = .ok (.aload_n 0, 1) := by decide +kernel
theorem dY_floor_1 : decode cY_floor 1 = .ok (.iload_n 1, 1) := by decide +kernel
theorem dY_floor_2 : decode cY_floor 2 = .ok (.invokevirtual 50, 3) := by decide +kernel
theorem dY_floor_5 : decode cY_floor 5 = .ok (.ifCond .ne 12, 3) := by decide +kernel
theorem dY_floor_8 : decode cY_floor 8 = .ok (.aload_n 0, 1) := by decide +kernel
theorem dY_floor_9 : decode cY_floor 9 = .ok (.getfield 20, 3) := by decide +kernel
theorem dY_floor_12 : decode cY_floor 12 = .ok (.iload_n 1, 1) := by decide +kernel
theorem dY_floor_13 : decode cY_floor 13 = .ok (.laload, 1) := by decide +kernel
theorem dY_floor_14 : decode cY_floor 14 = .ok (.goto 6, 3) := by decide +kernel
theorem dY_floor_17 : decode cY_floor 17 = .ok (.ldc2_w 42, 3) := by decide +kernel
theorem dY_floor_20 : decode cY_floor 20 = .ok (.lreturn, 1) := by decide +kernel
theorem dY_key_0 : decode cY_key 0 = .ok (.aload_n 0, 1) := by decide +kernel
theorem dY_key_1 : decode cY_key 1 = .ok (.iload_n 1, 1) := by decide +kernel
theorem dY_key_2 : decode cY_key 2 = .ok (.invokevirtual 72, 3) := by decide +kernel
theorem dY_key_5 : decode cY_key 5 = .ok (.ifCond .ne 12, 3) := by decide +kernel
theorem dY_key_8 : decode cY_key 8 = .ok (.aload_n 0, 1) := by decide +kernel
theorem dY_key_9 : decode cY_key 9 = .ok (.getfield 24, 3) := by decide +kernel
theorem dY_key_12 : decode cY_key 12 = .ok (.iload_n 1, 1) := by decide +kernel
theorem dY_key_13 : decode cY_key 13 = .ok (.laload, 1) := by decide +kernel
theorem dY_key_14 : decode cY_key 14 = .ok (.goto 4, 3) := by decide +kernel
theorem dY_key_17 : decode cY_key 17 = .ok (.lconst 0, 1) := by decide +kernel
theorem dY_key_18 : decode cY_key 18 = .ok (.lreturn, 1) := by decide +kernel
theorem dY_value_0 : decode cY_value 0 = .ok (.aload_n 0, 1) := by decide +kernel
theorem dY_value_1 : decode cY_value 1 = .ok (.iload_n 1, 1) := by decide +kernel
theorem dY_value_2 : decode cY_value 2 = .ok (.invokevirtual 72, 3) := by decide +kernel
theorem dY_value_5 : decode cY_value 5 = .ok (.ifCond .ne 12, 3) := by decide +kernel
theorem dY_value_8 : decode cY_value 8 = .ok (.aload_n 0, 1) := by decide +kernel
theorem dY_value_9 : decode cY_value 9 = .ok (.getfield 27, 3) := by decide +kernel
theorem dY_value_12 : decode cY_value 12 = .ok (.iload_n 1, 1) := by decide +kernel
theorem dY_value_13 : decode cY_value 13 = .ok (.iaload, 1) := by decide +kernel
theorem dY_value_14 : decode cY_value 14 = .ok (.goto 4, 3) := by decide +kernel
theorem dY_value_17 : decode cY_value 17 = .ok (.iconst 0, 1) := by decide +kernel
theorem dY_value_18 : decode cY_value 18 = .ok (.ireturn, 1) := by decide +kernel
theorem dY_owner_0 : decode cY_owner 0 = .ok (.aload_n 0, 1) := by decide +kernel
theorem dY_owner_1 : decode cY_owner 1 = .ok (.iload_n 1, 1) := by decide +kernel
theorem dY_owner_2 : decode cY_owner 2 = .ok (.invokevirtual 72, 3) := by decide +kernel
theorem dY_owner_5 : decode cY_owner 5 = .ok (.istore_n 2, 1) := by decide +kernel
theorem dY_owner_6 : decode cY_owner 6 = .ok (.iload_n 2, 1) := by decide +kernel
theorem dY_owner_7 : decode cY_owner 7 = .ok (.ifCond .eq 7, 3) := by decide +kernel
theorem dY_owner_10 : decode cY_owner 10 = .ok (.iload_n 2, 1) := by decide +kernel
theorem dY_owner_11 : decode cY_owner 11 = .ok (.goto 9, 3) := by decide +kernel
theorem dY_owner_14 : decode cY_owner 14 = .ok (.aload_n 0, 1) := by decide +kernel
theorem dY_owner_15 : decode cY_owner 15 = .ok (.getfield 30, 3) := by decide +kernel
theorem dY_owner_18 : decode cY_owner 18 = .ok (.iload_n 1, 1) := by decide +kernel
theorem dY_owner_19 : decode cY_owner 19 = .ok (.iaload, 1) := by decide +kernel
theorem dY_owner_20 : decode cY_owner 20 = .ok (.ireturn, 1) := by decide +kernel
theorem dY_before_0 : decode cY_before 0 = .ok (.aload_n 0, 1) := by decide +kernel
theorem dY_before_1 : decode cY_before 1 = .ok (.iload_n 1, 1) := by decide +kernel
theorem dY_before_2 : decode cY_before 2 = .ok (.invokevirtual 72, 3) := by decide +kernel
theorem dY_before_5 : decode cY_before 5 = .ok (.istore_n 2, 1) := by decide +kernel
theorem dY_before_6 : decode cY_before 6 = .ok (.iload_n 2, 1) := by decide +kernel
theorem dY_before_7 : decode cY_before 7 = .ok (.ifCond .eq 7, 3) := by decide +kernel
theorem dY_before_10 : decode cY_before 10 = .ok (.iload_n 2, 1) := by decide +kernel
theorem dY_before_11 : decode cY_before 11 = .ok (.goto 8, 3) := by decide +kernel
theorem dY_before_14 : decode cY_before 14 = .ok (.aload_n 0, 1) := by decide +kernel
theorem dY_before_15 : decode cY_before 15 = .ok (.iload_n 1, 1) := by decide +kernel
theorem dY_before_16 : decode cY_before 16 = .ok (.invokevirtual 75, 3) := by decide +kernel
theorem dY_before_19 : decode cY_before 19 = .ok (.ireturn, 1) := by decide +kernel
