theorem dX1_init_0 : decode cX1_init 0 = .ok (.aload_n 0, 1) := by decide +kernel
theorem dX1_init_1 : decode cX1_init 1 = .ok (.invokespecial 1, 3) := by decide +kernel
theorem dX1_init_4 : decode cX1_init 4 = .ok (.aload_n 0, 1) := by decide +kernel
theorem dX1_init_5 : decode cX1_init 5 = .ok (.bipush 24, 2) := by decide +kernel
theorem dX1_init_7 : decode cX1_init 7 = .ok (.newarray .boolean, 2) := by decide +kernel
theorem dX1_init_9 : decode cX1_init 9 = .ok (.putfield 7, 3) := by decide +kernel
theorem dX1_init_12 : decode cX1_init 12 = .ok (.aload_n 0, 1) := by decide +kernel
theorem dX1_init_13 : decode cX1_init 13 = .ok (.bipush 24, 2) := by decide +kernel
theorem dX1_init_15 : decode cX1_init 15 = .ok (.newarray .long, 2) := by decide +kernel
theorem dX1_init_17 : decode cX1_init 17 = .ok (.putfield 13, 3) := by decide +kernel
theorem dX1_init_20 : decode cX1_init 20 = .ok (.aload_n 0, 1) := by decide +kernel
theorem dX1_init_21 : decode cX1_init 21 = .ok (.bipush 24, 2) := by decide +kernel
theorem dX1_init_23 : decode cX1_init 23 = .ok (.newarray .long, 2) := by decide +kernel
theorem dX1_init_25 : decode cX1_init 25 = .ok (.putfield 17, 3) := by decide +kernel
theorem dX1_init_28 : decode cX1_init 28 = .ok (.return_, 1) := by decide +kernel
theorem dX1_isSource_0 : decode cX1_isSource 0 = .ok (.iload_n 0, 1) := by decide +kernel
theorem dX1_isSource_1 : decode cX1_isSource 1 = .ok (.ifCond .lt 13, 3) := by decide +kernel
theorem dX1_isSource_4 : decode cX1_isSource 4 = .ok (.iload_n 0, 1) := by decide +kernel
theorem dX1_isSource_5 : decode cX1_isSource 5 = .ok (.bipush 24, 2) := by decide +kernel
theorem dX1_isSource_7 : decode cX1_isSource 7 = .ok (.if_icmp .ge 7, 3) := by decide +kernel
theorem dX1_isSource_10 : decode cX1_isSource 10 = .ok (.iconst 1, 1) := by decide +kernel
theorem dX1_isSource_11 : decode cX1_isSource 11 = .ok (.goto 4, 3) := by decide +kernel
theorem dX1_isSource_14 : decode cX1_isSource 14 = .ok (.iconst 0, 1) := by decide +kernel
theorem dX1_isSource_15 : decode cX1_isSource 15 = .ok (.ireturn, 1) := by decide +kernel
theorem dX1_half_0 : decode cX1_half 0 = .ok (.lload_n 0, 1) := by decide +kernel
theorem dX1_half_1 : decode cX1_half 1 = .ok (.iconst 1, 1) := by decide +kernel
theorem dX1_half_2 : decode cX1_half 2 = .ok (.lshr, 1) := by decide +kernel
theorem dX1_half_3 : decode cX1_half 3 = .ok (.lreturn, 1) := by decide +kernel
theorem dX1_over_0 : decode cX1_over 0 = .ok (.lload_n 0, 1) := by decide +kernel
theorem dX1_over_1 : decode cX1_over 1 = .ok (.lload_n 2, 1) := by decide +kernel
theorem dX1_over_2 : decode cX1_over 2 = .ok (.ldiv, 1) := by decide +kernel
theorem dX1_over_3 : decode cX1_over 3 = .ok (.lstore 4, 2) := by decide +kernel
theorem dX1_over_5 : decode cX1_over 5 = .ok (.lload 4, 2) := by decide +kernel
theorem dX1_over_7 : decode cX1_over 7 = .ok (.lload_n 2, 1) := by decide +kernel
theorem dX1_over_8 : decode cX1_over 8 = .ok (.lmul, 1) := by decide +kernel
theorem dX1_over_9 : decode cX1_over 9 = .ok (.lload_n 0, 1) := by decide +kernel
theorem dX1_over_10 : decode cX1_over 10 = .ok (.lcmp, 1) := by decide +kernel
theorem dX1_over_11 : decode cX1_over 11 = .ok (.ifCond .le 10, 3) := by decide +kernel
theorem dX1_over_14 : decode cX1_over 14 = .ok (.lload 4, 2) := by decide +kernel
theorem dX1_over_16 : decode cX1_over 16 = .ok (.lconst 1, 1) := by decide +kernel
theorem dX1_over_17 : decode cX1_over 17 = .ok (.lsub, 1) := by decide +kernel
theorem dX1_over_18 : decode cX1_over 18 = .ok (.goto 5, 3) := by decide +kernel
theorem dX1_over_21 : decode cX1_over 21 = .ok (.lload 4, 2) := by decide +kernel
theorem dX1_over_23 : decode cX1_over 23 = .ok (.lreturn, 1) := by decide +kernel
theorem dX1_size_0 : decode cX1_size 0 = .ok (.lload_n 0, 1) := by decide +kernel
theorem dX1_size_1 : decode cX1_size 1 = .ok (.lconst 0, 1) := by decide +kernel
theorem dX1_size_2 : decode cX1_size 2 = .ok (.lcmp, 1) := by decide +kernel
theorem dX1_size_3 : decode cX1_size 3 = .ok (.ifCond .ge 8, 3) := by decide +kernel
theorem dX1_size_6 : decode cX1_size 6 = .ok (.lload_n 0, 1) := by decide +kernel
theorem dX1_size_7 : decode cX1_size 7 = .ok (.lneg, 1) := by decide +kernel
theorem dX1_size_8 : decode cX1_size 8 = .ok (.goto 4, 3) := by decide +kernel
theorem dX1_size_11 : decode cX1_size 11 = .ok (.lload_n 0, 1) := by decide +kernel
theorem dX1_size_12 : decode cX1_size 12 = .ok (.lreturn, 1) := by decide +kernel
theorem dX1_interval_0 : decode cX1_interval 0 = .ok (.iload_n 1, 1) := by decide +kernel
theorem dX1_interval_1 : decode cX1_interval 1 = .ok (.invokestatic 20, 3) := by decide +kernel
theorem dX1_interval_4 : decode cX1_interval 4 = .ok (.ifCond .eq 27, 3) := by decide +kernel
theorem dX1_interval_7 : decode cX1_interval 7 = .ok (.lload_n 2, 1) := by decide +kernel
theorem dX1_interval_8 : decode cX1_interval 8 = .ok (.ldc2_w 24, 3) := by decide +kernel
theorem dX1_interval_11 : decode cX1_interval 11 = .ok (.lcmp, 1) := by decide +kernel
theorem dX1_interval_12 : decode cX1_interval 12 = .ok (.ifCond .lt 19, 3) := by decide +kernel
theorem dX1_interval_15 : decode cX1_interval 15 = .ok (.lload_n 2, 1) := by decide +kernel
theorem dX1_interval_16 : decode cX1_interval 16 = .ok (.lload 4, 2) := by decide +kernel
theorem dX1_interval_18 : decode cX1_interval 18 = .ok (.lcmp, 1) := by decide +kernel
theorem dX1_interval_19 : decode cX1_interval 19 = .ok (.ifCond .gt 12, 3) := by decide +kernel
theorem dX1_interval_22 : decode cX1_interval 22 = .ok (.lload 4, 2) := by decide +kernel
theorem dX1_interval_24 : decode cX1_interval 24 = .ok (.ldc2_w 26, 3) := by decide +kernel
theorem dX1_interval_27 : decode cX1_interval 27 = .ok (.lcmp, 1) := by decide +kernel
theorem dX1_interval_28 : decode cX1_interval 28 = .ok (.ifCond .le 5, 3) := by decide +kernel
theorem dX1_interval_31 : decode cX1_interval 31 = .ok (.iconst 0, 1) := by decide +kernel
theorem dX1_interval_32 : decode cX1_interval 32 = .ok (.ireturn, 1) := by decide +kernel
theorem dX1_interval_33 : decode cX1_interval 33 = .ok (.aload_n 0, 1) := by decide +kernel
theorem dX1_interval_34 : decode cX1_interval 34 = .ok (.getfield 7, 3) := by decide +kernel
theorem dX1_interval_37 : decode cX1_interval 37 = .ok (.iload_n 1, 1) := by decide +kernel
theorem dX1_interval_38 : decode cX1_interval 38 = .ok (.iconst 1, 1) := by decide +kernel
theorem dX1_interval_39 : decode cX1_interval 39 = .ok (.bastore, 1) := by decide +kernel
theorem dX1_interval_40 : decode cX1_interval 40 = .ok (.aload_n 0, 1) := by decide +kernel
theorem dX1_interval_41 : decode cX1_interval 41 = .ok (.getfield 13, 3) := by decide +kernel
theorem dX1_interval_44 : decode cX1_interval 44 = .ok (.iload_n 1, 1) := by decide +kernel
theorem dX1_interval_45 : decode cX1_interval 45 = .ok (.lload_n 2, 1) := by decide +kernel
theorem dX1_interval_46 : decode cX1_interval 46 = .ok (.lastore, 1) := by decide +kernel
theorem dX1_interval_47 : decode cX1_interval 47 = .ok (.aload_n 0, 1) := by decide +kernel
theorem dX1_interval_48 : decode cX1_interval 48 = .ok (.getfield 17, 3) := by decide +kernel
theorem dX1_interval_51 : decode cX1_interval 51 = .ok (.iload_n 1, 1) := by decide +kernel
theorem dX1_interval_52 : decode cX1_interval 52 = .ok (.lload 4, 2) := by decide +kernel
theorem dX1_interval_54 : decode cX1_interval 54 = .ok (.lastore, 1) := by decide +kernel
theorem dX1_interval_55 : decode cX1_interval 55 = .ok (.iconst 1, 1) := by decide +kernel
theorem dX1_interval_56 : decode cX1_interval 56 = .ok (.ireturn, 1) := by decide +kernel
theorem dX1_exchange_0 : decode cX1_exchange 0 = .ok (.iload_n 1, 1) := by decide +kernel
theorem dX1_exchange_1 : decode cX1_exchange 1 = .ok (.invokestatic 20, 3) := by decide +kernel
theorem dX1_exchange_4 : decode cX1_exchange 4 = .ok (.ifCond .eq 41, 3) := by decide +kernel
theorem dX1_exchange_7 : decode cX1_exchange 7 = .ok (.lload_n 2, 1) := by decide +kernel
theorem dX1_exchange_8 : decode cX1_exchange 8 = .ok (.lconst 0, 1) := by decide +kernel
theorem dX1_exchange_9 : decode cX1_exchange 9 = .ok (.lcmp, 1) := by decide +kernel
theorem dX1_exchange_10 : decode cX1_exchange 10 = .ok (.ifCond .lt 35, 3) := by decide +kernel
theorem dX1_exchange_13 : decode cX1_exchange 13 = .ok (.lload_n 2, 1) := by decide +kernel
theorem dX1_exchange_14 : decode cX1_exchange 14 = .ok (.lload 6, 2) := by decide +kernel
theorem dX1_exchange_16 : decode cX1_exchange 16 = .ok (.lcmp, 1) := by decide +kernel
theorem dX1_exchange_17 : decode cX1_exchange 17 = .ok (.ifCond .gt 28, 3) := by decide +kernel
theorem dX1_exchange_20 : decode cX1_exchange 20 = .ok (.lload 6, 2) := by decide +kernel
theorem dX1_exchange_22 : decode cX1_exchange 22 = .ok (.ldc2_w 28, 3) := by decide +kernel
theorem dX1_exchange_25 : decode cX1_exchange 25 = .ok (.lcmp, 1) := by decide +kernel
theorem dX1_exchange_26 : decode cX1_exchange 26 = .ok (.ifCond .gt 19, 3) := by decide +kernel
theorem dX1_exchange_29 : decode cX1_exchange 29 = .ok (.lload 4, 2) := by decide +kernel
theorem dX1_exchange_31 : decode cX1_exchange 31 = .ok (.lconst 0, 1) := by decide +kernel
theorem dX1_exchange_32 : decode cX1_exchange 32 = .ok (.lcmp, 1) := by decide +kernel
theorem dX1_exchange_33 : decode cX1_exchange 33 = .ok (.ifCond .lt 12, 3) := by decide +kernel
theorem dX1_exchange_36 : decode cX1_exchange 36 = .ok (.lload 4, 2) := by decide +kernel
theorem dX1_exchange_38 : decode cX1_exchange 38 = .ok (.ldc2_w 28, 3) := by decide +kernel
theorem dX1_exchange_41 : decode cX1_exchange 41 = .ok (.lcmp, 1) := by decide +kernel
theorem dX1_exchange_42 : decode cX1_exchange 42 = .ok (.ifCond .le 7, 3) := by decide +kernel
theorem dX1_exchange_45 : decode cX1_exchange 45 = .ok (.ldc2_w 30, 3) := by decide +kernel
theorem dX1_exchange_48 : decode cX1_exchange 48 = .ok (.lreturn, 1) := by decide +kernel
theorem dX1_exchange_49 : decode cX1_exchange 49 = .ok (.aload_n 0, 1) := by decide +kernel
theorem dX1_exchange_50 : decode cX1_exchange 50 = .ok (.getfield 7, 3) := by decide +kernel
theorem dX1_exchange_53 : decode cX1_exchange 53 = .ok (.iload_n 1, 1) := by decide +kernel
theorem dX1_exchange_54 : decode cX1_exchange 54 = .ok (.iconst 1, 1) := by decide +kernel
theorem dX1_exchange_55 : decode cX1_exchange 55 = .ok (.bastore, 1) := by decide +kernel
theorem dX1_exchange_56 : decode cX1_exchange 56 = .ok (.aload_n 0, 1) := by decide +kernel
theorem dX1_exchange_57 : decode cX1_exchange 57 = .ok (.getfield 13, 3) := by decide +kernel
theorem dX1_exchange_60 : decode cX1_exchange 60 = .ok (.iload_n 1, 1) := by decide +kernel
theorem dX1_exchange_61 : decode cX1_exchange 61 = .ok (.lload 4, 2) := by decide +kernel
theorem dX1_exchange_63 : decode cX1_exchange 63 = .ok (.lload 6, 2) := by decide +kernel
theorem dX1_exchange_65 : decode cX1_exchange 65 = .ok (.lsub, 1) := by decide +kernel
theorem dX1_exchange_66 : decode cX1_exchange 66 = .ok (.lastore, 1) := by decide +kernel
theorem dX1_exchange_67 : decode cX1_exchange 67 = .ok (.aload_n 0, 1) := by decide +kernel
theorem dX1_exchange_68 : decode cX1_exchange 68 = .ok (.getfield 17, 3) := by decide +kernel
theorem dX1_exchange_71 : decode cX1_exchange 71 = .ok (.iload_n 1, 1) := by decide +kernel
theorem dX1_exchange_72 : decode cX1_exchange 72 = .ok (.lload 4, 2) := by decide +kernel
theorem dX1_exchange_74 : decode cX1_exchange 74 = .ok (.lload_n 2, 1) := by decide +kernel
theorem dX1_exchange_75 : decode cX1_exchange 75 = .ok (.lsub, 1) := by decide +kernel
theorem dX1_exchange_76 : decode cX1_exchange 76 = .ok (.lastore, 1) := by decide +kernel
theorem dX1_exchange_77 : decode cX1_exchange 77 = .ok (.lload 4, 2) := by decide +kernel
theorem dX1_exchange_79 : decode cX1_exchange 79 = .ok (.lload 6, 2) := by decide +kernel
theorem dX1_exchange_81 : decode cX1_exchange 81 = .ok (.lload_n 2, 1) := by decide +kernel
theorem dX1_exchange_82 : decode cX1_exchange 82 = .ok (.lsub, 1) := by decide +kernel
theorem dX1_exchange_83 : decode cX1_exchange 83 = .ok (.invokestatic 32, 3) := by decide +kernel
theorem dX1_exchange_86 : decode cX1_exchange 86 = .ok (.ladd, 1) := by decide +kernel
theorem dX1_exchange_87 : decode cX1_exchange 87 = .ok (.lload 6, 2) := by decide +kernel
theorem dX1_exchange_89 : decode cX1_exchange 89 = .ok (.lsub, 1) := by decide +kernel
theorem dX1_exchange_90 : decode cX1_exchange 90 = .ok (.lreturn, 1) := by decide +kernel
theorem dX1_drop_0 : decode cX1_drop 0 = .ok (.iload_n 1, 1) := by decide +kernel
theorem dX1_drop_1 : decode cX1_drop 1 = .ok (.invokestatic 20, 3) := by decide +kernel
theorem dX1_drop_4 : decode cX1_drop 4 = .ok (.ifCond .eq 12, 3) := by decide +kernel
theorem dX1_drop_7 : decode cX1_drop 7 = .ok (.aload_n 0, 1) := by decide +kernel
theorem dX1_drop_8 : decode cX1_drop 8 = .ok (.getfield 7, 3) := by decide +kernel
theorem dX1_drop_11 : decode cX1_drop 11 = .ok (.iload_n 1, 1) := by decide +kernel
theorem dX1_drop_12 : decode cX1_drop 12 = .ok (.baload, 1) := by decide +kernel
theorem dX1_drop_13 : decode cX1_drop 13 = .ok (.ifCond .ne 5, 3) := by decide +kernel
theorem dX1_drop_16 : decode cX1_drop 16 = .ok (.iconst 0, 1) := by decide +kernel
theorem dX1_drop_17 : decode cX1_drop 17 = .ok (.ireturn, 1) := by decide +kernel
theorem dX1_drop_18 : decode cX1_drop 18 = .ok (.aload_n 0, 1) := by decide +kernel
theorem dX1_drop_19 : decode cX1_drop 19 = .ok (.getfield 7, 3) := by decide +kernel
theorem dX1_drop_22 : decode cX1_drop 22 = .ok (.iload_n 1, 1) := by decide +kernel
theorem dX1_drop_23 : decode cX1_drop 23 = .ok (.iconst 0, 1) := by decide +kernel
theorem dX1_drop_24 : decode cX1_drop 24 = .ok (.bastore, 1) := by decide +kernel
theorem dX1_drop_25 : decode cX1_drop 25 = .ok (.iconst 1, 1) := by decide +kernel
theorem dX1_drop_26 : decode cX1_drop 26 = .ok (.ireturn, 1) := by decide +kernel
theorem dX1_sources_0 : decode cX1_sources 0 = .ok (.iconst 0, 1) := by decide +kernel
theorem dX1_sources_1 : decode cX1_sources 1 = .ok (.istore_n 1, 1) := by decide +kernel
theorem dX1_sources_2 : decode cX1_sources 2 = .ok (.iconst 0, 1) := by decide +kernel
theorem dX1_sources_3 : decode cX1_sources 3 = .ok (.istore_n 2, 1) := by decide +kernel
theorem dX1_sources_4 : decode cX1_sources 4 = .ok (.iload_n 2, 1) := by decide +kernel
theorem dX1_sources_5 : decode cX1_sources 5 = .ok (.bipush 24, 2) := by decide +kernel
theorem dX1_sources_7 : decode cX1_sources 7 = .ok (.if_icmp .ge 26, 3) := by decide +kernel
theorem dX1_sources_10 : decode cX1_sources 10 = .ok (.iload_n 1, 1) := by decide +kernel
theorem dX1_sources_11 : decode cX1_sources 11 = .ok (.aload_n 0, 1) := by decide +kernel
theorem dX1_sources_12 : decode cX1_sources 12 = .ok (.getfield 7, 3) := by decide +kernel
theorem dX1_sources_15 : decode cX1_sources 15 = .ok (.iload_n 2, 1) := by decide +kernel
theorem dX1_sources_16 : decode cX1_sources 16 = .ok (.baload, 1) := by decide +kernel
theorem dX1_sources_17 : decode cX1_sources 17 = .ok (.ifCond .eq 7, 3) := by decide +kernel
theorem dX1_sources_20 : decode cX1_sources 20 = .ok (.iconst 1, 1) := by decide +kernel
theorem dX1_sources_21 : decode cX1_sources 21 = .ok (.goto 4, 3) := by decide +kernel
theorem dX1_sources_24 : decode cX1_sources 24 = .ok (.iconst 0, 1) := by decide +kernel
theorem dX1_sources_25 : decode cX1_sources 25 = .ok (.iadd, 1) := by decide +kernel
theorem dX1_sources_26 : decode cX1_sources 26 = .ok (.istore_n 1, 1) := by decide +kernel
theorem dX1_sources_27 : decode cX1_sources 27 = .ok (.iinc 2 1, 3) := by decide +kernel
theorem dX1_sources_30 : decode cX1_sources 30 = .ok (.goto (-26), 3) := by decide +kernel
theorem dX1_sources_33 : decode cX1_sources 33 = .ok (.iload_n 1, 1) := by decide +kernel
theorem dX1_sources_34 : decode cX1_sources 34 = .ok (.ireturn, 1) := by decide +kernel
theorem dX1_covers_0 : decode cX1_covers 0 = .ok (.iconst 0, 1) := by decide +kernel
theorem dX1_covers_1 : decode cX1_covers 1 = .ok (.istore_n 3, 1) := by decide +kernel
theorem dX1_covers_2 : decode cX1_covers 2 = .ok (.iconst 0, 1) := by decide +kernel
theorem dX1_covers_3 : decode cX1_covers 3 = .ok (.istore 4, 2) := by decide +kernel
theorem dX1_covers_5 : decode cX1_covers 5 = .ok (.iload 4, 2) := by decide +kernel
theorem dX1_covers_7 : decode cX1_covers 7 = .ok (.bipush 24, 2) := by decide +kernel
theorem dX1_covers_9 : decode cX1_covers 9 = .ok (.if_icmp .ge 51, 3) := by decide +kernel
theorem dX1_covers_12 : decode cX1_covers 12 = .ok (.iload_n 3, 1) := by decide +kernel
theorem dX1_covers_13 : decode cX1_covers 13 = .ok (.aload_n 0, 1) := by decide +kernel
theorem dX1_covers_14 : decode cX1_covers 14 = .ok (.getfield 7, 3) := by decide +kernel
theorem dX1_covers_17 : decode cX1_covers 17 = .ok (.iload 4, 2) := by decide +kernel
theorem dX1_covers_19 : decode cX1_covers 19 = .ok (.baload, 1) := by decide +kernel
theorem dX1_covers_20 : decode cX1_covers 20 = .ok (.ifCond .eq 31, 3) := by decide +kernel
theorem dX1_covers_23 : decode cX1_covers 23 = .ok (.aload_n 0, 1) := by decide +kernel
theorem dX1_covers_24 : decode cX1_covers 24 = .ok (.getfield 13, 3) := by decide +kernel
theorem dX1_covers_27 : decode cX1_covers 27 = .ok (.iload 4, 2) := by decide +kernel
theorem dX1_covers_29 : decode cX1_covers 29 = .ok (.laload, 1) := by decide +kernel
theorem dX1_covers_30 : decode cX1_covers 30 = .ok (.lload_n 1, 1) := by decide +kernel
theorem dX1_covers_31 : decode cX1_covers 31 = .ok (.lcmp, 1) := by decide +kernel
theorem dX1_covers_32 : decode cX1_covers 32 = .ok (.ifCond .gt 19, 3) := by decide +kernel
theorem dX1_covers_35 : decode cX1_covers 35 = .ok (.lload_n 1, 1) := by decide +kernel
theorem dX1_covers_36 : decode cX1_covers 36 = .ok (.aload_n 0, 1) := by decide +kernel
theorem dX1_covers_37 : decode cX1_covers 37 = .ok (.getfield 17, 3) := by decide +kernel
theorem dX1_covers_40 : decode cX1_covers 40 = .ok (.iload 4, 2) := by decide +kernel
theorem dX1_covers_42 : decode cX1_covers 42 = .ok (.laload, 1) := by decide +kernel
theorem dX1_covers_43 : decode cX1_covers 43 = .ok (.lcmp, 1) := by decide +kernel
theorem dX1_covers_44 : decode cX1_covers 44 = .ok (.ifCond .gt 7, 3) := by decide +kernel
theorem dX1_covers_47 : decode cX1_covers 47 = .ok (.iconst 1, 1) := by decide +kernel
theorem dX1_covers_48 : decode cX1_covers 48 = .ok (.goto 4, 3) := by decide +kernel
theorem dX1_covers_51 : decode cX1_covers 51 = .ok (.iconst 0, 1) := by decide +kernel
theorem dX1_covers_52 : decode cX1_covers 52 = .ok (.iadd, 1) := by decide +kernel
theorem dX1_covers_53 : decode cX1_covers 53 = .ok (.istore_n 3, 1) := by decide +kernel
theorem dX1_covers_54 : decode cX1_covers 54 = .ok (.iinc 4 1, 3) := by decide +kernel
theorem dX1_covers_57 : decode cX1_covers 57 = .ok (.goto (-52), 3) := by decide +kernel
theorem dX1_covers_60 : decode cX1_covers 60 = .ok (.iload_n 3, 1) := by decide +kernel
theorem dX1_covers_61 : decode cX1_covers 61 = .ok (.ireturn, 1) := by decide +kernel
theorem dX1_greatest_0 : decode cX1_greatest 0 = .ok (.iconst 0, 1) := by decide +kernel
theorem dX1_greatest_1 : decode cX1_greatest 1 = .ok (.istore_n 1, 1) := by decide +kernel
theorem dX1_greatest_2 : decode cX1_greatest 2 = .ok (.iconst 0, 1) := by decide +kernel
theorem dX1_greatest_3 : decode cX1_greatest 3 = .ok (.istore_n 2, 1) := by decide +kernel
theorem dX1_greatest_4 : decode cX1_greatest 4 = .ok (.iload_n 2, 1) := by decide +kernel
theorem dX1_greatest_5 : decode cX1_greatest 5 = .ok (.bipush 24, 2) := by decide +kernel
theorem dX1_greatest_7 : decode cX1_greatest 7 = .ok (.if_icmp .ge 44, 3) := by decide +kernel
theorem dX1_greatest_10 : decode cX1_greatest 10 = .ok (.aload_n 0, 1) := by decide +kernel
theorem dX1_greatest_11 : decode cX1_greatest 11 = .ok (.getfield 7, 3) := by decide +kernel
theorem dX1_greatest_14 : decode cX1_greatest 14 = .ok (.iload_n 2, 1) := by decide +kernel
theorem dX1_greatest_15 : decode cX1_greatest 15 = .ok (.baload, 1) := by decide +kernel
theorem dX1_greatest_16 : decode cX1_greatest 16 = .ok (.ifCond .eq 16, 3) := by decide +kernel
theorem dX1_greatest_19 : decode cX1_greatest 19 = .ok (.aload_n 0, 1) := by decide +kernel
theorem dX1_greatest_20 : decode cX1_greatest 20 = .ok (.aload_n 0, 1) := by decide +kernel
theorem dX1_greatest_21 : decode cX1_greatest 21 = .ok (.getfield 13, 3) := by decide +kernel
theorem dX1_greatest_24 : decode cX1_greatest 24 = .ok (.iload_n 2, 1) := by decide +kernel
theorem dX1_greatest_25 : decode cX1_greatest 25 = .ok (.laload, 1) := by decide +kernel
theorem dX1_greatest_26 : decode cX1_greatest 26 = .ok (.invokevirtual 36, 3) := by decide +kernel
theorem dX1_greatest_29 : decode cX1_greatest 29 = .ok (.goto 4, 3) := by decide +kernel
theorem dX1_greatest_32 : decode cX1_greatest 32 = .ok (.iconst 0, 1) := by decide +kernel
theorem dX1_greatest_33 : decode cX1_greatest 33 = .ok (.istore_n 3, 1) := by decide +kernel
theorem dX1_greatest_34 : decode cX1_greatest 34 = .ok (.iload_n 3, 1) := by decide +kernel
theorem dX1_greatest_35 : decode cX1_greatest 35 = .ok (.iload_n 1, 1) := by decide +kernel
theorem dX1_greatest_36 : decode cX1_greatest 36 = .ok (.if_icmp .le 7, 3) := by decide +kernel
theorem dX1_greatest_39 : decode cX1_greatest 39 = .ok (.iload_n 3, 1) := by decide +kernel
theorem dX1_greatest_40 : decode cX1_greatest 40 = .ok (.goto 4, 3) := by decide +kernel
theorem dX1_greatest_43 : decode cX1_greatest 43 = .ok (.iload_n 1, 1) := by decide +kernel
theorem dX1_greatest_44 : decode cX1_greatest 44 = .ok (.istore_n 1, 1) := by decide +kernel
theorem dX1_greatest_45 : decode cX1_greatest 45 = .ok (.iinc 2 1, 3) := by decide +kernel
theorem dX1_greatest_48 : decode cX1_greatest 48 = .ok (.goto (-44), 3) := by decide +kernel
theorem dX1_greatest_51 : decode cX1_greatest 51 = .ok (.iload_n 1, 1) := by decide +kernel
theorem dX1_greatest_52 : decode cX1_greatest 52 = .ok (.ireturn, 1) := by decide +kernel
theorem dX1_first_0 : decode cX1_first 0 = .ok (.ldc2_w 30, 3) := by decide +kernel
theorem dX1_first_3 : decode cX1_first 3 = .ok (.lstore_n 2, 1) := by decide +kernel
theorem dX1_first_4 : decode cX1_first 4 = .ok (.iconst 0, 1) := by decide +kernel
theorem dX1_first_5 : decode cX1_first 5 = .ok (.istore 4, 2) := by decide +kernel
theorem dX1_first_7 : decode cX1_first 7 = .ok (.iload 4, 2) := by decide +kernel
theorem dX1_first_9 : decode cX1_first 9 = .ok (.bipush 24, 2) := by decide +kernel
theorem dX1_first_11 : decode cX1_first 11 = .ok (.if_icmp .ge 66, 3) := by decide +kernel
theorem dX1_first_14 : decode cX1_first 14 = .ok (.aload_n 0, 1) := by decide +kernel
theorem dX1_first_15 : decode cX1_first 15 = .ok (.getfield 7, 3) := by decide +kernel
theorem dX1_first_18 : decode cX1_first 18 = .ok (.iload 4, 2) := by decide +kernel
theorem dX1_first_20 : decode cX1_first 20 = .ok (.baload, 1) := by decide +kernel
theorem dX1_first_21 : decode cX1_first 21 = .ok (.ifCond .eq 48, 3) := by decide +kernel
theorem dX1_first_24 : decode cX1_first 24 = .ok (.aload_n 0, 1) := by decide +kernel
theorem dX1_first_25 : decode cX1_first 25 = .ok (.aload_n 0, 1) := by decide +kernel
theorem dX1_first_26 : decode cX1_first 26 = .ok (.getfield 13, 3) := by decide +kernel
theorem dX1_first_29 : decode cX1_first 29 = .ok (.iload 4, 2) := by decide +kernel
theorem dX1_first_31 : decode cX1_first 31 = .ok (.laload, 1) := by decide +kernel
theorem dX1_first_32 : decode cX1_first 32 = .ok (.invokevirtual 36, 3) := by decide +kernel
theorem dX1_first_35 : decode cX1_first 35 = .ok (.iload_n 1, 1) := by decide +kernel
theorem dX1_first_36 : decode cX1_first 36 = .ok (.if_icmp .lt 33, 3) := by decide +kernel
theorem dX1_first_39 : decode cX1_first 39 = .ok (.lload_n 2, 1) := by decide +kernel
theorem dX1_first_40 : decode cX1_first 40 = .ok (.ldc2_w 30, 3) := by decide +kernel
theorem dX1_first_43 : decode cX1_first 43 = .ok (.lcmp, 1) := by decide +kernel
theorem dX1_first_44 : decode cX1_first 44 = .ok (.ifCond .eq 15, 3) := by decide +kernel
theorem dX1_first_47 : decode cX1_first 47 = .ok (.aload_n 0, 1) := by decide +kernel
theorem dX1_first_48 : decode cX1_first 48 = .ok (.getfield 13, 3) := by decide +kernel
theorem dX1_first_51 : decode cX1_first 51 = .ok (.iload 4, 2) := by decide +kernel
theorem dX1_first_53 : decode cX1_first 53 = .ok (.laload, 1) := by decide +kernel
theorem dX1_first_54 : decode cX1_first 54 = .ok (.lload_n 2, 1) := by decide +kernel
theorem dX1_first_55 : decode cX1_first 55 = .ok (.lcmp, 1) := by decide +kernel
theorem dX1_first_56 : decode cX1_first 56 = .ok (.ifCond .ge 13, 3) := by decide +kernel
theorem dX1_first_59 : decode cX1_first 59 = .ok (.aload_n 0, 1) := by decide +kernel
theorem dX1_first_60 : decode cX1_first 60 = .ok (.getfield 13, 3) := by decide +kernel
theorem dX1_first_63 : decode cX1_first 63 = .ok (.iload 4, 2) := by decide +kernel
theorem dX1_first_65 : decode cX1_first 65 = .ok (.laload, 1) := by decide +kernel
theorem dX1_first_66 : decode cX1_first 66 = .ok (.goto 4, 3) := by decide +kernel
theorem dX1_first_69 : decode cX1_first 69 = .ok (.lload_n 2, 1) := by decide +kernel
theorem dX1_first_70 : decode cX1_first 70 = .ok (.lstore_n 2, 1) := by decide +kernel
theorem dX1_first_71 : decode cX1_first 71 = .ok (.iinc 4 1, 3) := by decide +kernel
theorem dX1_first_74 : decode cX1_first 74 = .ok (.goto (-67), 3) := by decide +kernel
theorem dX1_first_77 : decode cX1_first 77 = .ok (.lload_n 2, 1) := by decide +kernel
theorem dX1_first_78 : decode cX1_first 78 = .ok (.lreturn, 1) := by decide +kernel
theorem dX1_last_0 : decode cX1_last 0 = .ok (.ldc2_w 30, 3) := by decide +kernel
theorem dX1_last_3 : decode cX1_last 3 = .ok (.lstore_n 2, 1) := by decide +kernel
theorem dX1_last_4 : decode cX1_last 4 = .ok (.iconst 0, 1) := by decide +kernel
theorem dX1_last_5 : decode cX1_last 5 = .ok (.istore 4, 2) := by decide +kernel
theorem dX1_last_7 : decode cX1_last 7 = .ok (.iload 4, 2) := by decide +kernel
theorem dX1_last_9 : decode cX1_last 9 = .ok (.bipush 24, 2) := by decide +kernel
theorem dX1_last_11 : decode cX1_last 11 = .ok (.if_icmp .ge 66, 3) := by decide +kernel
theorem dX1_last_14 : decode cX1_last 14 = .ok (.aload_n 0, 1) := by decide +kernel
theorem dX1_last_15 : decode cX1_last 15 = .ok (.getfield 7, 3) := by decide +kernel
theorem dX1_last_18 : decode cX1_last 18 = .ok (.iload 4, 2) := by decide +kernel
theorem dX1_last_20 : decode cX1_last 20 = .ok (.baload, 1) := by decide +kernel
theorem dX1_last_21 : decode cX1_last 21 = .ok (.ifCond .eq 48, 3) := by decide +kernel
theorem dX1_last_24 : decode cX1_last 24 = .ok (.aload_n 0, 1) := by decide +kernel
theorem dX1_last_25 : decode cX1_last 25 = .ok (.aload_n 0, 1) := by decide +kernel
theorem dX1_last_26 : decode cX1_last 26 = .ok (.getfield 17, 3) := by decide +kernel
theorem dX1_last_29 : decode cX1_last 29 = .ok (.iload 4, 2) := by decide +kernel
theorem dX1_last_31 : decode cX1_last 31 = .ok (.laload, 1) := by decide +kernel
theorem dX1_last_32 : decode cX1_last 32 = .ok (.invokevirtual 36, 3) := by decide +kernel
theorem dX1_last_35 : decode cX1_last 35 = .ok (.iload_n 1, 1) := by decide +kernel
theorem dX1_last_36 : decode cX1_last 36 = .ok (.if_icmp .lt 33, 3) := by decide +kernel
theorem dX1_last_39 : decode cX1_last 39 = .ok (.lload_n 2, 1) := by decide +kernel
theorem dX1_last_40 : decode cX1_last 40 = .ok (.ldc2_w 30, 3) := by decide +kernel
theorem dX1_last_43 : decode cX1_last 43 = .ok (.lcmp, 1) := by decide +kernel
theorem dX1_last_44 : decode cX1_last 44 = .ok (.ifCond .eq 15, 3) := by decide +kernel
theorem dX1_last_47 : decode cX1_last 47 = .ok (.aload_n 0, 1) := by decide +kernel
theorem dX1_last_48 : decode cX1_last 48 = .ok (.getfield 17, 3) := by decide +kernel
theorem dX1_last_51 : decode cX1_last 51 = .ok (.iload 4, 2) := by decide +kernel
theorem dX1_last_53 : decode cX1_last 53 = .ok (.laload, 1) := by decide +kernel
theorem dX1_last_54 : decode cX1_last 54 = .ok (.lload_n 2, 1) := by decide +kernel
theorem dX1_last_55 : decode cX1_last 55 = .ok (.lcmp, 1) := by decide +kernel
theorem dX1_last_56 : decode cX1_last 56 = .ok (.ifCond .le 13, 3) := by decide +kernel
theorem dX1_last_59 : decode cX1_last 59 = .ok (.aload_n 0, 1) := by decide +kernel
theorem dX1_last_60 : decode cX1_last 60 = .ok (.getfield 17, 3) := by decide +kernel
theorem dX1_last_63 : decode cX1_last 63 = .ok (.iload 4, 2) := by decide +kernel
theorem dX1_last_65 : decode cX1_last 65 = .ok (.laload, 1) := by decide +kernel
theorem dX1_last_66 : decode cX1_last 66 = .ok (.goto 4, 3) := by decide +kernel
theorem dX1_last_69 : decode cX1_last 69 = .ok (.lload_n 2, 1) := by decide +kernel
theorem dX1_last_70 : decode cX1_last 70 = .ok (.lstore_n 2, 1) := by decide +kernel
theorem dX1_last_71 : decode cX1_last 71 = .ok (.iinc 4 1, 3) := by decide +kernel
theorem dX1_last_74 : decode cX1_last 74 = .ok (.goto (-67), 3) := by decide +kernel
theorem dX1_last_77 : decode cX1_last 77 = .ok (.lload_n 2, 1) := by decide +kernel
theorem dX1_last_78 : decode cX1_last 78 = .ok (.lreturn, 1) := by decide +kernel
theorem dX1_region_0 : decode cX1_region 0 = .ok (.aload_n 0, 1) := by decide +kernel
theorem dX1_region_1 : decode cX1_region 1 = .ok (.invokevirtual 40, 3) := by decide +kernel
theorem dX1_region_4 : decode cX1_region 4 = .ok (.istore_n 2, 1) := by decide +kernel
theorem dX1_region_5 : decode cX1_region 5 = .ok (.iload_n 2, 1) := by decide +kernel
theorem dX1_region_6 : decode cX1_region 6 = .ok (.ifCond .eq 12, 3) := by decide +kernel
theorem dX1_region_9 : decode cX1_region 9 = .ok (.iload_n 1, 1) := by decide +kernel
theorem dX1_region_10 : decode cX1_region 10 = .ok (.ifCond .lt 8, 3) := by decide +kernel
theorem dX1_region_13 : decode cX1_region 13 = .ok (.iload_n 1, 1) := by decide +kernel
theorem dX1_region_14 : decode cX1_region 14 = .ok (.iconst 1, 1) := by decide +kernel
theorem dX1_region_15 : decode cX1_region 15 = .ok (.if_icmp .le 7, 3) := by decide +kernel
theorem dX1_region_18 : decode cX1_region 18 = .ok (.ldc2_w 30, 3) := by decide +kernel
theorem dX1_region_21 : decode cX1_region 21 = .ok (.lreturn, 1) := by decide +kernel
theorem dX1_region_22 : decode cX1_region 22 = .ok (.aload_n 0, 1) := by decide +kernel
theorem dX1_region_23 : decode cX1_region 23 = .ok (.iload_n 2, 1) := by decide +kernel
theorem dX1_region_24 : decode cX1_region 24 = .ok (.invokevirtual 44, 3) := by decide +kernel
theorem dX1_region_27 : decode cX1_region 27 = .ok (.lstore_n 3, 1) := by decide +kernel
theorem dX1_region_28 : decode cX1_region 28 = .ok (.iload_n 1, 1) := by decide +kernel
theorem dX1_region_29 : decode cX1_region 29 = .ok (.ifCond .ne 5, 3) := by decide +kernel
theorem dX1_region_32 : decode cX1_region 32 = .ok (.lload_n 3, 1) := by decide +kernel
theorem dX1_region_33 : decode cX1_region 33 = .ok (.lreturn, 1) := by decide +kernel
theorem dX1_region_34 : decode cX1_region 34 = .ok (.iconst 1, 1) := by decide +kernel
theorem dX1_region_35 : decode cX1_region 35 = .ok (.istore 5, 2) := by decide +kernel
theorem dX1_region_37 : decode cX1_region 37 = .ok (.iload 5, 2) := by decide +kernel
theorem dX1_region_39 : decode cX1_region 39 = .ok (.ifCond .eq 122, 3) := by decide +kernel
theorem dX1_region_42 : decode cX1_region 42 = .ok (.ldc2_w 26, 3) := by decide +kernel
theorem dX1_region_45 : decode cX1_region 45 = .ok (.lstore 6, 2) := by decide +kernel
theorem dX1_region_47 : decode cX1_region 47 = .ok (.iconst 0, 1) := by decide +kernel
theorem dX1_region_48 : decode cX1_region 48 = .ok (.istore 8, 2) := by decide +kernel
theorem dX1_region_50 : decode cX1_region 50 = .ok (.iload 8, 2) := by decide +kernel
theorem dX1_region_52 : decode cX1_region 52 = .ok (.bipush 24, 2) := by decide +kernel
theorem dX1_region_54 : decode cX1_region 54 = .ok (.if_icmp .ge 70, 3) := by decide +kernel
theorem dX1_region_57 : decode cX1_region 57 = .ok (.aload_n 0, 1) := by decide +kernel
theorem dX1_region_58 : decode cX1_region 58 = .ok (.getfield 7, 3) := by decide +kernel
theorem dX1_region_61 : decode cX1_region 61 = .ok (.iload 8, 2) := by decide +kernel
theorem dX1_region_63 : decode cX1_region 63 = .ok (.baload, 1) := by decide +kernel
theorem dX1_region_64 : decode cX1_region 64 = .ok (.ifCond .eq 50, 3) := by decide +kernel
theorem dX1_region_67 : decode cX1_region 67 = .ok (.aload_n 0, 1) := by decide +kernel
theorem dX1_region_68 : decode cX1_region 68 = .ok (.getfield 13, 3) := by decide +kernel
theorem dX1_region_71 : decode cX1_region 71 = .ok (.iload 8, 2) := by decide +kernel
theorem dX1_region_73 : decode cX1_region 73 = .ok (.laload, 1) := by decide +kernel
theorem dX1_region_74 : decode cX1_region 74 = .ok (.lload_n 3, 1) := by decide +kernel
theorem dX1_region_75 : decode cX1_region 75 = .ok (.lcmp, 1) := by decide +kernel
theorem dX1_region_76 : decode cX1_region 76 = .ok (.ifCond .gt 38, 3) := by decide +kernel
theorem dX1_region_79 : decode cX1_region 79 = .ok (.lload_n 3, 1) := by decide +kernel
theorem dX1_region_80 : decode cX1_region 80 = .ok (.aload_n 0, 1) := by decide +kernel
theorem dX1_region_81 : decode cX1_region 81 = .ok (.getfield 17, 3) := by decide +kernel
theorem dX1_region_84 : decode cX1_region 84 = .ok (.iload 8, 2) := by decide +kernel
theorem dX1_region_86 : decode cX1_region 86 = .ok (.laload, 1) := by decide +kernel
theorem dX1_region_87 : decode cX1_region 87 = .ok (.lcmp, 1) := by decide +kernel
theorem dX1_region_88 : decode cX1_region 88 = .ok (.ifCond .gt 26, 3) := by decide +kernel
theorem dX1_region_91 : decode cX1_region 91 = .ok (.aload_n 0, 1) := by decide +kernel
theorem dX1_region_92 : decode cX1_region 92 = .ok (.getfield 17, 3) := by decide +kernel
theorem dX1_region_95 : decode cX1_region 95 = .ok (.iload 8, 2) := by decide +kernel
theorem dX1_region_97 : decode cX1_region 97 = .ok (.laload, 1) := by decide +kernel
theorem dX1_region_98 : decode cX1_region 98 = .ok (.lload 6, 2) := by decide +kernel
theorem dX1_region_100 : decode cX1_region 100 = .ok (.lcmp, 1) := by decide +kernel
theorem dX1_region_101 : decode cX1_region 101 = .ok (.ifCond .ge 13, 3) := by decide +kernel
theorem dX1_region_104 : decode cX1_region 104 = .ok (.aload_n 0, 1) := by decide +kernel
theorem dX1_region_105 : decode cX1_region 105 = .ok (.getfield 17, 3) := by decide +kernel
theorem dX1_region_108 : decode cX1_region 108 = .ok (.iload 8, 2) := by decide +kernel
theorem dX1_region_110 : decode cX1_region 110 = .ok (.laload, 1) := by decide +kernel
theorem dX1_region_111 : decode cX1_region 111 = .ok (.goto 5, 3) := by decide +kernel
theorem dX1_region_114 : decode cX1_region 114 = .ok (.lload 6, 2) := by decide +kernel
theorem dX1_region_116 : decode cX1_region 116 = .ok (.lstore 6, 2) := by decide +kernel
theorem dX1_region_118 : decode cX1_region 118 = .ok (.iinc 8 1, 3) := by decide +kernel
theorem dX1_region_121 : decode cX1_region 121 = .ok (.goto (-71), 3) := by decide +kernel
theorem dX1_region_124 : decode cX1_region 124 = .ok (.lload 6, 2) := by decide +kernel
theorem dX1_region_126 : decode cX1_region 126 = .ok (.lstore_n 3, 1) := by decide +kernel
theorem dX1_region_127 : decode cX1_region 127 = .ok (.aload_n 0, 1) := by decide +kernel
theorem dX1_region_128 : decode cX1_region 128 = .ok (.lload_n 3, 1) := by decide +kernel
theorem dX1_region_129 : decode cX1_region 129 = .ok (.lconst 1, 1) := by decide +kernel
theorem dX1_region_130 : decode cX1_region 130 = .ok (.ladd, 1) := by decide +kernel
theorem dX1_region_131 : decode cX1_region 131 = .ok (.invokevirtual 36, 3) := by decide +kernel
theorem dX1_region_134 : decode cX1_region 134 = .ok (.iload_n 2, 1) := by decide +kernel
theorem dX1_region_135 : decode cX1_region 135 = .ok (.if_icmp .ne 7, 3) := by decide +kernel
theorem dX1_region_138 : decode cX1_region 138 = .ok (.iconst 1, 1) := by decide +kernel
theorem dX1_region_139 : decode cX1_region 139 = .ok (.goto 4, 3) := by decide +kernel
theorem dX1_region_142 : decode cX1_region 142 = .ok (.iconst 0, 1) := by decide +kernel
theorem dX1_region_143 : decode cX1_region 143 = .ok (.istore 5, 2) := by decide +kernel
theorem dX1_region_145 : decode cX1_region 145 = .ok (.iload 5, 2) := by decide +kernel
theorem dX1_region_147 : decode cX1_region 147 = .ok (.ifCond .eq 9, 3) := by decide +kernel
theorem dX1_region_150 : decode cX1_region 150 = .ok (.lload_n 3, 1) := by decide +kernel
theorem dX1_region_151 : decode cX1_region 151 = .ok (.lconst 1, 1) := by decide +kernel
theorem dX1_region_152 : decode cX1_region 152 = .ok (.ladd, 1) := by decide +kernel
theorem dX1_region_153 : decode cX1_region 153 = .ok (.goto 4, 3) := by decide +kernel
theorem dX1_region_156 : decode cX1_region 156 = .ok (.lload_n 3, 1) := by decide +kernel
theorem dX1_region_157 : decode cX1_region 157 = .ok (.lstore_n 3, 1) := by decide +kernel
theorem dX1_region_158 : decode cX1_region 158 = .ok (.goto (-121), 3) := by decide +kernel
theorem dX1_region_161 : decode cX1_region 161 = .ok (.lload_n 3, 1) := by decide +kernel
theorem dX1_region_162 : decode cX1_region 162 = .ok (.lreturn, 1) := by decide +kernel
theorem dX1_hull_0 : decode cX1_hull 0 = .ok (.aload_n 0, 1) := by decide +kernel
theorem dX1_hull_1 : decode cX1_hull 1 = .ok (.invokevirtual 48, 3) := by decide +kernel
theorem dX1_hull_4 : decode cX1_hull 4 = .ok (.istore_n 3, 1) := by decide +kernel
theorem dX1_hull_5 : decode cX1_hull 5 = .ok (.iload_n 1, 1) := by decide +kernel
theorem dX1_hull_6 : decode cX1_hull 6 = .ok (.ifCond .lt 17, 3) := by decide +kernel
theorem dX1_hull_9 : decode cX1_hull 9 = .ok (.iload_n 1, 1) := by decide +kernel
theorem dX1_hull_10 : decode cX1_hull 10 = .ok (.iload_n 3, 1) := by decide +kernel
theorem dX1_hull_11 : decode cX1_hull 11 = .ok (.if_icmp .ge 12, 3) := by decide +kernel
theorem dX1_hull_14 : decode cX1_hull 14 = .ok (.iload_n 2, 1) := by decide +kernel
theorem dX1_hull_15 : decode cX1_hull 15 = .ok (.ifCond .lt 8, 3) := by decide +kernel
theorem dX1_hull_18 : decode cX1_hull 18 = .ok (.iload_n 2, 1) := by decide +kernel
theorem dX1_hull_19 : decode cX1_hull 19 = .ok (.iconst 1, 1) := by decide +kernel
theorem dX1_hull_20 : decode cX1_hull 20 = .ok (.if_icmp .le 7, 3) := by decide +kernel
theorem dX1_hull_23 : decode cX1_hull 23 = .ok (.ldc2_w 30, 3) := by decide +kernel
theorem dX1_hull_26 : decode cX1_hull 26 = .ok (.lreturn, 1) := by decide +kernel
theorem dX1_hull_27 : decode cX1_hull 27 = .ok (.iload_n 2, 1) := by decide +kernel
theorem dX1_hull_28 : decode cX1_hull 28 = .ok (.ifCond .ne 13, 3) := by decide +kernel
theorem dX1_hull_31 : decode cX1_hull 31 = .ok (.aload_n 0, 1) := by decide +kernel
theorem dX1_hull_32 : decode cX1_hull 32 = .ok (.iload_n 3, 1) := by decide +kernel
theorem dX1_hull_33 : decode cX1_hull 33 = .ok (.iload_n 1, 1) := by decide +kernel
theorem dX1_hull_34 : decode cX1_hull 34 = .ok (.isub, 1) := by decide +kernel
theorem dX1_hull_35 : decode cX1_hull 35 = .ok (.invokevirtual 44, 3) := by decide +kernel
theorem dX1_hull_38 : decode cX1_hull 38 = .ok (.goto 10, 3) := by decide +kernel
theorem dX1_hull_41 : decode cX1_hull 41 = .ok (.aload_n 0, 1) := by decide +kernel
theorem dX1_hull_42 : decode cX1_hull 42 = .ok (.iload_n 3, 1) := by decide +kernel
theorem dX1_hull_43 : decode cX1_hull 43 = .ok (.iload_n 1, 1) := by decide +kernel
theorem dX1_hull_44 : decode cX1_hull 44 = .ok (.isub, 1) := by decide +kernel
theorem dX1_hull_45 : decode cX1_hull 45 = .ok (.invokevirtual 51, 3) := by decide +kernel
theorem dX1_hull_48 : decode cX1_hull 48 = .ok (.lreturn, 1) := by decide +kernel
theorem dX1_chosen_0 : decode cX1_chosen 0 = .ok (.iload_n 1, 1) := by decide +kernel
theorem dX1_chosen_1 : decode cX1_chosen 1 = .ok (.invokestatic 20, 3) := by decide +kernel
theorem dX1_chosen_4 : decode cX1_chosen 4 = .ok (.ifCond .eq 46, 3) := by decide +kernel
theorem dX1_chosen_7 : decode cX1_chosen 7 = .ok (.aload_n 0, 1) := by decide +kernel
theorem dX1_chosen_8 : decode cX1_chosen 8 = .ok (.getfield 7, 3) := by decide +kernel
theorem dX1_chosen_11 : decode cX1_chosen 11 = .ok (.iload_n 1, 1) := by decide +kernel
theorem dX1_chosen_12 : decode cX1_chosen 12 = .ok (.baload, 1) := by decide +kernel
theorem dX1_chosen_13 : decode cX1_chosen 13 = .ok (.ifCond .eq 37, 3) := by decide +kernel
theorem dX1_chosen_16 : decode cX1_chosen 16 = .ok (.aload_n 0, 1) := by decide +kernel
theorem dX1_chosen_17 : decode cX1_chosen 17 = .ok (.getfield 13, 3) := by decide +kernel
theorem dX1_chosen_20 : decode cX1_chosen 20 = .ok (.iload_n 1, 1) := by decide +kernel
theorem dX1_chosen_21 : decode cX1_chosen 21 = .ok (.laload, 1) := by decide +kernel
theorem dX1_chosen_22 : decode cX1_chosen 22 = .ok (.aload_n 0, 1) := by decide +kernel
theorem dX1_chosen_23 : decode cX1_chosen 23 = .ok (.iconst 0, 1) := by decide +kernel
theorem dX1_chosen_24 : decode cX1_chosen 24 = .ok (.invokevirtual 54, 3) := by decide +kernel
theorem dX1_chosen_27 : decode cX1_chosen 27 = .ok (.lcmp, 1) := by decide +kernel
theorem dX1_chosen_28 : decode cX1_chosen 28 = .ok (.ifCond .gt 22, 3) := by decide +kernel
theorem dX1_chosen_31 : decode cX1_chosen 31 = .ok (.aload_n 0, 1) := by decide +kernel
theorem dX1_chosen_32 : decode cX1_chosen 32 = .ok (.getfield 17, 3) := by decide +kernel
theorem dX1_chosen_35 : decode cX1_chosen 35 = .ok (.iload_n 1, 1) := by decide +kernel
theorem dX1_chosen_36 : decode cX1_chosen 36 = .ok (.laload, 1) := by decide +kernel
theorem dX1_chosen_37 : decode cX1_chosen 37 = .ok (.aload_n 0, 1) := by decide +kernel
theorem dX1_chosen_38 : decode cX1_chosen 38 = .ok (.iconst 1, 1) := by decide +kernel
theorem dX1_chosen_39 : decode cX1_chosen 39 = .ok (.invokevirtual 54, 3) := by decide +kernel
theorem dX1_chosen_42 : decode cX1_chosen 42 = .ok (.lcmp, 1) := by decide +kernel
theorem dX1_chosen_43 : decode cX1_chosen 43 = .ok (.ifCond .lt 7, 3) := by decide +kernel
theorem dX1_chosen_46 : decode cX1_chosen 46 = .ok (.iconst 1, 1) := by decide +kernel
theorem dX1_chosen_47 : decode cX1_chosen 47 = .ok (.goto 4, 3) := by decide +kernel
theorem dX1_chosen_50 : decode cX1_chosen 50 = .ok (.iconst 0, 1) := by decide +kernel
theorem dX1_chosen_51 : decode cX1_chosen 51 = .ok (.ireturn, 1) := by decide +kernel
theorem dX1_middle_0 : decode cX1_middle 0 = .ok (.aload_n 0, 1) := by decide +kernel
theorem dX1_middle_1 : decode cX1_middle 1 = .ok (.getfield 13, 3) := by decide +kernel
theorem dX1_middle_4 : decode cX1_middle 4 = .ok (.iload_n 1, 1) := by decide +kernel
theorem dX1_middle_5 : decode cX1_middle 5 = .ok (.laload, 1) := by decide +kernel
theorem dX1_middle_6 : decode cX1_middle 6 = .ok (.aload_n 0, 1) := by decide +kernel
theorem dX1_middle_7 : decode cX1_middle 7 = .ok (.getfield 17, 3) := by decide +kernel
theorem dX1_middle_10 : decode cX1_middle 10 = .ok (.iload_n 1, 1) := by decide +kernel
theorem dX1_middle_11 : decode cX1_middle 11 = .ok (.laload, 1) := by decide +kernel
theorem dX1_middle_12 : decode cX1_middle 12 = .ok (.ladd, 1) := by decide +kernel
theorem dX1_middle_13 : decode cX1_middle 13 = .ok (.invokestatic 32, 3) := by decide +kernel
theorem dX1_middle_16 : decode cX1_middle 16 = .ok (.lreturn, 1) := by decide +kernel
theorem dX1_median_0 : decode cX1_median 0 = .ok (.aload_n 0, 1) := by decide +kernel
theorem dX1_median_1 : decode cX1_median 1 = .ok (.invokevirtual 48, 3) := by decide +kernel
theorem dX1_median_4 : decode cX1_median 4 = .ok (.istore_n 1, 1) := by decide +kernel
theorem dX1_median_5 : decode cX1_median 5 = .ok (.iconst 0, 1) := by decide +kernel
theorem dX1_median_6 : decode cX1_median 6 = .ok (.istore_n 2, 1) := by decide +kernel
theorem dX1_median_7 : decode cX1_median 7 = .ok (.iload_n 2, 1) := by decide +kernel
theorem dX1_median_8 : decode cX1_median 8 = .ok (.bipush 24, 2) := by decide +kernel
theorem dX1_median_10 : decode cX1_median 10 = .ok (.if_icmp .ge 114, 3) := by decide +kernel
theorem dX1_median_13 : decode cX1_median 13 = .ok (.iconst 0, 1) := by decide +kernel
theorem dX1_median_14 : decode cX1_median 14 = .ok (.istore_n 3, 1) := by decide +kernel
theorem dX1_median_15 : decode cX1_median 15 = .ok (.iconst 0, 1) := by decide +kernel
theorem dX1_median_16 : decode cX1_median 16 = .ok (.istore 4, 2) := by decide +kernel
theorem dX1_median_18 : decode cX1_median 18 = .ok (.iload 4, 2) := by decide +kernel
theorem dX1_median_20 : decode cX1_median 20 = .ok (.bipush 24, 2) := by decide +kernel
theorem dX1_median_22 : decode cX1_median 22 = .ok (.if_icmp .ge 72, 3) := by decide +kernel
theorem dX1_median_25 : decode cX1_median 25 = .ok (.iload_n 3, 1) := by decide +kernel
theorem dX1_median_26 : decode cX1_median 26 = .ok (.aload_n 0, 1) := by decide +kernel
theorem dX1_median_27 : decode cX1_median 27 = .ok (.getfield 7, 3) := by decide +kernel
theorem dX1_median_30 : decode cX1_median 30 = .ok (.iload_n 2, 1) := by decide +kernel
theorem dX1_median_31 : decode cX1_median 31 = .ok (.baload, 1) := by decide +kernel
theorem dX1_median_32 : decode cX1_median 32 = .ok (.ifCond .eq 53, 3) := by decide +kernel
theorem dX1_median_35 : decode cX1_median 35 = .ok (.aload_n 0, 1) := by decide +kernel
theorem dX1_median_36 : decode cX1_median 36 = .ok (.getfield 7, 3) := by decide +kernel
theorem dX1_median_39 : decode cX1_median 39 = .ok (.iload 4, 2) := by decide +kernel
theorem dX1_median_41 : decode cX1_median 41 = .ok (.baload, 1) := by decide +kernel
theorem dX1_median_42 : decode cX1_median 42 = .ok (.ifCond .eq 43, 3) := by decide +kernel
theorem dX1_median_45 : decode cX1_median 45 = .ok (.aload_n 0, 1) := by decide +kernel
theorem dX1_median_46 : decode cX1_median 46 = .ok (.iload 4, 2) := by decide +kernel
theorem dX1_median_48 : decode cX1_median 48 = .ok (.invokevirtual 57, 3) := by decide +kernel
theorem dX1_median_51 : decode cX1_median 51 = .ok (.aload_n 0, 1) := by decide +kernel
theorem dX1_median_52 : decode cX1_median 52 = .ok (.iload_n 2, 1) := by decide +kernel
theorem dX1_median_53 : decode cX1_median 53 = .ok (.invokevirtual 57, 3) := by decide +kernel
theorem dX1_median_56 : decode cX1_median 56 = .ok (.lcmp, 1) := by decide +kernel
theorem dX1_median_57 : decode cX1_median 57 = .ok (.ifCond .lt 24, 3) := by decide +kernel
theorem dX1_median_60 : decode cX1_median 60 = .ok (.aload_n 0, 1) := by decide +kernel
theorem dX1_median_61 : decode cX1_median 61 = .ok (.iload 4, 2) := by decide +kernel
theorem dX1_median_63 : decode cX1_median 63 = .ok (.invokevirtual 57, 3) := by decide +kernel
theorem dX1_median_66 : decode cX1_median 66 = .ok (.aload_n 0, 1) := by decide +kernel
theorem dX1_median_67 : decode cX1_median 67 = .ok (.iload_n 2, 1) := by decide +kernel
theorem dX1_median_68 : decode cX1_median 68 = .ok (.invokevirtual 57, 3) := by decide +kernel
theorem dX1_median_71 : decode cX1_median 71 = .ok (.lcmp, 1) := by decide +kernel
theorem dX1_median_72 : decode cX1_median 72 = .ok (.ifCond .ne 13, 3) := by decide +kernel
theorem dX1_median_75 : decode cX1_median 75 = .ok (.iload 4, 2) := by decide +kernel
theorem dX1_median_77 : decode cX1_median 77 = .ok (.iload_n 2, 1) := by decide +kernel
theorem dX1_median_78 : decode cX1_median 78 = .ok (.if_icmp .ge 7, 3) := by decide +kernel
theorem dX1_median_81 : decode cX1_median 81 = .ok (.iconst 1, 1) := by decide +kernel
theorem dX1_median_82 : decode cX1_median 82 = .ok (.goto 4, 3) := by decide +kernel
theorem dX1_median_85 : decode cX1_median 85 = .ok (.iconst 0, 1) := by decide +kernel
theorem dX1_median_86 : decode cX1_median 86 = .ok (.iadd, 1) := by decide +kernel
theorem dX1_median_87 : decode cX1_median 87 = .ok (.istore_n 3, 1) := by decide +kernel
theorem dX1_median_88 : decode cX1_median 88 = .ok (.iinc 4 1, 3) := by decide +kernel
theorem dX1_median_91 : decode cX1_median 91 = .ok (.goto (-73), 3) := by decide +kernel
theorem dX1_median_94 : decode cX1_median 94 = .ok (.aload_n 0, 1) := by decide +kernel
theorem dX1_median_95 : decode cX1_median 95 = .ok (.getfield 7, 3) := by decide +kernel
theorem dX1_median_98 : decode cX1_median 98 = .ok (.iload_n 2, 1) := by decide +kernel
theorem dX1_median_99 : decode cX1_median 99 = .ok (.baload, 1) := by decide +kernel
theorem dX1_median_100 : decode cX1_median 100 = .ok (.ifCond .eq 18, 3) := by decide +kernel
theorem dX1_median_103 : decode cX1_median 103 = .ok (.iload_n 3, 1) := by decide +kernel
theorem dX1_median_104 : decode cX1_median 104 = .ok (.iload_n 1, 1) := by decide +kernel
theorem dX1_median_105 : decode cX1_median 105 = .ok (.iconst 1, 1) := by decide +kernel
theorem dX1_median_106 : decode cX1_median 106 = .ok (.isub, 1) := by decide +kernel
theorem dX1_median_107 : decode cX1_median 107 = .ok (.iconst 2, 1) := by decide +kernel
theorem dX1_median_108 : decode cX1_median 108 = .ok (.idiv, 1) := by decide +kernel
theorem dX1_median_109 : decode cX1_median 109 = .ok (.if_icmp .ne 9, 3) := by decide +kernel
theorem dX1_median_112 : decode cX1_median 112 = .ok (.aload_n 0, 1) := by decide +kernel
theorem dX1_median_113 : decode cX1_median 113 = .ok (.iload_n 2, 1) := by decide +kernel
theorem dX1_median_114 : decode cX1_median 114 = .ok (.invokevirtual 57, 3) := by decide +kernel
theorem dX1_median_117 : decode cX1_median 117 = .ok (.lreturn, 1) := by decide +kernel
theorem dX1_median_118 : decode cX1_median 118 = .ok (.iinc 2 1, 3) := by decide +kernel
theorem dX1_median_121 : decode cX1_median 121 = .ok (.goto (-114), 3) := by decide +kernel
theorem dX1_median_124 : decode cX1_median 124 = .ok (.ldc2_w 30, 3) := by decide +kernel
theorem dX1_median_127 : decode cX1_median 127 = .ok (.lreturn, 1) := by decide +kernel
theorem dX1_mean_0 : decode cX1_mean 0 = .ok (.aload_n 0, 1) := by decide +kernel
theorem dX1_mean_1 : decode cX1_mean 1 = .ok (.invokevirtual 48, 3) := by decide +kernel
theorem dX1_mean_4 : decode cX1_mean 4 = .ok (.ifCond .eq 18, 3) := by decide +kernel
theorem dX1_mean_7 : decode cX1_mean 7 = .ok (.lload_n 1, 1) := by decide +kernel
theorem dX1_mean_8 : decode cX1_mean 8 = .ok (.lconst 0, 1) := by decide +kernel
theorem dX1_mean_9 : decode cX1_mean 9 = .ok (.lcmp, 1) := by decide +kernel
theorem dX1_mean_10 : decode cX1_mean 10 = .ok (.ifCond .lt 12, 3) := by decide +kernel
theorem dX1_mean_13 : decode cX1_mean 13 = .ok (.iload_n 3, 1) := by decide +kernel
theorem dX1_mean_14 : decode cX1_mean 14 = .ok (.ifCond .lt 8, 3) := by decide +kernel
theorem dX1_mean_17 : decode cX1_mean 17 = .ok (.iload_n 3, 1) := by decide +kernel
theorem dX1_mean_18 : decode cX1_mean 18 = .ok (.iconst 1, 1) := by decide +kernel
theorem dX1_mean_19 : decode cX1_mean 19 = .ok (.if_icmp .le 7, 3) := by decide +kernel
theorem dX1_mean_22 : decode cX1_mean 22 = .ok (.ldc2_w 30, 3) := by decide +kernel
theorem dX1_mean_25 : decode cX1_mean 25 = .ok (.lreturn, 1) := by decide +kernel
theorem dX1_mean_26 : decode cX1_mean 26 = .ok (.aload_n 0, 1) := by decide +kernel
theorem dX1_mean_27 : decode cX1_mean 27 = .ok (.invokevirtual 60, 3) := by decide +kernel
theorem dX1_mean_30 : decode cX1_mean 30 = .ok (.lstore 4, 2) := by decide +kernel
theorem dX1_mean_32 : decode cX1_mean 32 = .ok (.lconst 0, 1) := by decide +kernel
theorem dX1_mean_33 : decode cX1_mean 33 = .ok (.lstore 6, 2) := by decide +kernel
theorem dX1_mean_35 : decode cX1_mean 35 = .ok (.lconst 0, 1) := by decide +kernel
theorem dX1_mean_36 : decode cX1_mean 36 = .ok (.lstore 8, 2) := by decide +kernel
theorem dX1_mean_38 : decode cX1_mean 38 = .ok (.iconst 0, 1) := by decide +kernel
theorem dX1_mean_39 : decode cX1_mean 39 = .ok (.istore 10, 2) := by decide +kernel
theorem dX1_mean_41 : decode cX1_mean 41 = .ok (.iload 10, 2) := by decide +kernel
theorem dX1_mean_43 : decode cX1_mean 43 = .ok (.bipush 24, 2) := by decide +kernel
theorem dX1_mean_45 : decode cX1_mean 45 = .ok (.if_icmp .ge 53, 3) := by decide +kernel
theorem dX1_mean_48 : decode cX1_mean 48 = .ok (.aload_n 0, 1) := by decide +kernel
theorem dX1_mean_49 : decode cX1_mean 49 = .ok (.getfield 7, 3) := by decide +kernel
theorem dX1_mean_52 : decode cX1_mean 52 = .ok (.iload 10, 2) := by decide +kernel
theorem dX1_mean_54 : decode cX1_mean 54 = .ok (.baload, 1) := by decide +kernel
theorem dX1_mean_55 : decode cX1_mean 55 = .ok (.ifCond .eq 37, 3) := by decide +kernel
theorem dX1_mean_58 : decode cX1_mean 58 = .ok (.aload_n 0, 1) := by decide +kernel
theorem dX1_mean_59 : decode cX1_mean 59 = .ok (.iload 10, 2) := by decide +kernel
theorem dX1_mean_61 : decode cX1_mean 61 = .ok (.invokevirtual 57, 3) := by decide +kernel
theorem dX1_mean_64 : decode cX1_mean 64 = .ok (.lload 4, 2) := by decide +kernel
theorem dX1_mean_66 : decode cX1_mean 66 = .ok (.lsub, 1) := by decide +kernel
theorem dX1_mean_67 : decode cX1_mean 67 = .ok (.invokestatic 64, 3) := by decide +kernel
theorem dX1_mean_70 : decode cX1_mean 70 = .ok (.lload_n 1, 1) := by decide +kernel
theorem dX1_mean_71 : decode cX1_mean 71 = .ok (.lcmp, 1) := by decide +kernel
theorem dX1_mean_72 : decode cX1_mean 72 = .ok (.ifCond .gt 20, 3) := by decide +kernel
theorem dX1_mean_75 : decode cX1_mean 75 = .ok (.lload 6, 2) := by decide +kernel
theorem dX1_mean_77 : decode cX1_mean 77 = .ok (.aload_n 0, 1) := by decide +kernel
theorem dX1_mean_78 : decode cX1_mean 78 = .ok (.iload 10, 2) := by decide +kernel
theorem dX1_mean_80 : decode cX1_mean 80 = .ok (.invokevirtual 57, 3) := by decide +kernel
theorem dX1_mean_83 : decode cX1_mean 83 = .ok (.ladd, 1) := by decide +kernel
theorem dX1_mean_84 : decode cX1_mean 84 = .ok (.lstore 6, 2) := by decide +kernel
theorem dX1_mean_86 : decode cX1_mean 86 = .ok (.lload 8, 2) := by decide +kernel
theorem dX1_mean_88 : decode cX1_mean 88 = .ok (.lconst 1, 1) := by decide +kernel
theorem dX1_mean_89 : decode cX1_mean 89 = .ok (.ladd, 1) := by decide +kernel
theorem dX1_mean_90 : decode cX1_mean 90 = .ok (.lstore 8, 2) := by decide +kernel
theorem dX1_mean_92 : decode cX1_mean 92 = .ok (.iinc 10 1, 3) := by decide +kernel
theorem dX1_mean_95 : decode cX1_mean 95 = .ok (.goto (-54), 3) := by decide +kernel
theorem dX1_mean_98 : decode cX1_mean 98 = .ok (.iload_n 3, 1) := by decide +kernel
theorem dX1_mean_99 : decode cX1_mean 99 = .ok (.ifCond .ne 13, 3) := by decide +kernel
theorem dX1_mean_102 : decode cX1_mean 102 = .ok (.lload 6, 2) := by decide +kernel
theorem dX1_mean_104 : decode cX1_mean 104 = .ok (.lload 8, 2) := by decide +kernel
theorem dX1_mean_106 : decode cX1_mean 106 = .ok (.invokestatic 67, 3) := by decide +kernel
theorem dX1_mean_109 : decode cX1_mean 109 = .ok (.goto 5, 3) := by decide +kernel
theorem dX1_mean_112 : decode cX1_mean 112 = .ok (.lload 8, 2) := by decide +kernel
theorem dX1_mean_114 : decode cX1_mean 114 = .ok (.lreturn, 1) := by decide +kernel
theorem dX1_survivors_0 : decode cX1_survivors 0 = .ok (.iload_n 1, 1) := by decide +kernel
theorem dX1_survivors_1 : decode cX1_survivors 1 = .ok (.iconst 1, 1) := by decide +kernel
theorem dX1_survivors_2 : decode cX1_survivors 2 = .ok (.if_icmp .lt 9, 3) := by decide +kernel
theorem dX1_survivors_5 : decode cX1_survivors 5 = .ok (.iload_n 1, 1) := by decide +kernel
theorem dX1_survivors_6 : decode cX1_survivors 6 = .ok (.bipush 24, 2) := by decide +kernel
theorem dX1_survivors_8 : decode cX1_survivors 8 = .ok (.if_icmp .le 5, 3) := by decide +kernel
theorem dX1_survivors_11 : decode cX1_survivors 11 = .ok (.iconst (-1), 1) := by decide +kernel
theorem dX1_survivors_12 : decode cX1_survivors 12 = .ok (.ireturn, 1) := by decide +kernel
theorem dX1_survivors_13 : decode cX1_survivors 13 = .ok (.iconst 0, 1) := by decide +kernel
theorem dX1_survivors_14 : decode cX1_survivors 14 = .ok (.istore_n 2, 1) := by decide +kernel
theorem dX1_survivors_15 : decode cX1_survivors 15 = .ok (.iconst 0, 1) := by decide +kernel
theorem dX1_survivors_16 : decode cX1_survivors 16 = .ok (.istore_n 3, 1) := by decide +kernel
theorem dX1_survivors_17 : decode cX1_survivors 17 = .ok (.iconst 0, 1) := by decide +kernel
theorem dX1_survivors_18 : decode cX1_survivors 18 = .ok (.istore 4, 2) := by decide +kernel
theorem dX1_survivors_20 : decode cX1_survivors 20 = .ok (.iload 4, 2) := by decide +kernel
theorem dX1_survivors_22 : decode cX1_survivors 22 = .ok (.bipush 24, 2) := by decide +kernel
theorem dX1_survivors_24 : decode cX1_survivors 24 = .ok (.if_icmp .ge 48, 3) := by decide +kernel
theorem dX1_survivors_27 : decode cX1_survivors 27 = .ok (.aload_n 0, 1) := by decide +kernel
theorem dX1_survivors_28 : decode cX1_survivors 28 = .ok (.getfield 7, 3) := by decide +kernel
theorem dX1_survivors_31 : decode cX1_survivors 31 = .ok (.iload 4, 2) := by decide +kernel
theorem dX1_survivors_33 : decode cX1_survivors 33 = .ok (.baload, 1) := by decide +kernel
theorem dX1_survivors_34 : decode cX1_survivors 34 = .ok (.ifCond .eq 12, 3) := by decide +kernel
theorem dX1_survivors_37 : decode cX1_survivors 37 = .ok (.iload_n 2, 1) := by decide +kernel
theorem dX1_survivors_38 : decode cX1_survivors 38 = .ok (.iconst 1, 1) := by decide +kernel
theorem dX1_survivors_39 : decode cX1_survivors 39 = .ok (.iload 4, 2) := by decide +kernel
theorem dX1_survivors_41 : decode cX1_survivors 41 = .ok (.ishl, 1) := by decide +kernel
theorem dX1_survivors_42 : decode cX1_survivors 42 = .ok (.ior, 1) := by decide +kernel
theorem dX1_survivors_43 : decode cX1_survivors 43 = .ok (.goto 4, 3) := by decide +kernel
theorem dX1_survivors_46 : decode cX1_survivors 46 = .ok (.iload_n 2, 1) := by decide +kernel
theorem dX1_survivors_47 : decode cX1_survivors 47 = .ok (.istore_n 2, 1) := by decide +kernel
theorem dX1_survivors_48 : decode cX1_survivors 48 = .ok (.iload_n 3, 1) := by decide +kernel
theorem dX1_survivors_49 : decode cX1_survivors 49 = .ok (.aload_n 0, 1) := by decide +kernel
theorem dX1_survivors_50 : decode cX1_survivors 50 = .ok (.getfield 7, 3) := by decide +kernel
theorem dX1_survivors_53 : decode cX1_survivors 53 = .ok (.iload 4, 2) := by decide +kernel
theorem dX1_survivors_55 : decode cX1_survivors 55 = .ok (.baload, 1) := by decide +kernel
theorem dX1_survivors_56 : decode cX1_survivors 56 = .ok (.ifCond .eq 7, 3) := by decide +kernel
theorem dX1_survivors_59 : decode cX1_survivors 59 = .ok (.iconst 1, 1) := by decide +kernel
theorem dX1_survivors_60 : decode cX1_survivors 60 = .ok (.goto 4, 3) := by decide +kernel
theorem dX1_survivors_63 : decode cX1_survivors 63 = .ok (.iconst 0, 1) := by decide +kernel
theorem dX1_survivors_64 : decode cX1_survivors 64 = .ok (.iadd, 1) := by decide +kernel
theorem dX1_survivors_65 : decode cX1_survivors 65 = .ok (.istore_n 3, 1) := by decide +kernel
theorem dX1_survivors_66 : decode cX1_survivors 66 = .ok (.iinc 4 1, 3) := by decide +kernel
theorem dX1_survivors_69 : decode cX1_survivors 69 = .ok (.goto (-49), 3) := by decide +kernel
theorem dX1_survivors_72 : decode cX1_survivors 72 = .ok (.iload_n 3, 1) := by decide +kernel
theorem dX1_survivors_73 : decode cX1_survivors 73 = .ok (.iload_n 1, 1) := by decide +kernel
theorem dX1_survivors_74 : decode cX1_survivors 74 = .ok (.if_icmp .le 143, 3) := by decide +kernel
theorem dX1_survivors_77 : decode cX1_survivors 77 = .ok (.lconst 0, 1) := by decide +kernel
theorem dX1_survivors_78 : decode cX1_survivors 78 = .ok (.lstore 4, 2) := by decide +kernel
theorem dX1_survivors_80 : decode cX1_survivors 80 = .ok (.iconst 0, 1) := by decide +kernel
theorem dX1_survivors_81 : decode cX1_survivors 81 = .ok (.istore 6, 2) := by decide +kernel
theorem dX1_survivors_83 : decode cX1_survivors 83 = .ok (.iload 6, 2) := by decide +kernel
theorem dX1_survivors_85 : decode cX1_survivors 85 = .ok (.bipush 24, 2) := by decide +kernel
theorem dX1_survivors_87 : decode cX1_survivors 87 = .ok (.if_icmp .ge 34, 3) := by decide +kernel
theorem dX1_survivors_90 : decode cX1_survivors 90 = .ok (.lload 4, 2) := by decide +kernel
theorem dX1_survivors_92 : decode cX1_survivors 92 = .ok (.iload_n 2, 1) := by decide +kernel
theorem dX1_survivors_93 : decode cX1_survivors 93 = .ok (.iload 6, 2) := by decide +kernel
theorem dX1_survivors_95 : decode cX1_survivors 95 = .ok (.ishr, 1) := by decide +kernel
theorem dX1_survivors_96 : decode cX1_survivors 96 = .ok (.iconst 1, 1) := by decide +kernel
theorem dX1_survivors_97 : decode cX1_survivors 97 = .ok (.iand, 1) := by decide +kernel
theorem dX1_survivors_98 : decode cX1_survivors 98 = .ok (.iconst 1, 1) := by decide +kernel
theorem dX1_survivors_99 : decode cX1_survivors 99 = .ok (.if_icmp .ne 12, 3) := by decide +kernel
theorem dX1_survivors_102 : decode cX1_survivors 102 = .ok (.aload_n 0, 1) := by decide +kernel
theorem dX1_survivors_103 : decode cX1_survivors 103 = .ok (.iload 6, 2) := by decide +kernel
theorem dX1_survivors_105 : decode cX1_survivors 105 = .ok (.invokevirtual 57, 3) := by decide +kernel
theorem dX1_survivors_108 : decode cX1_survivors 108 = .ok (.goto 4, 3) := by decide +kernel
theorem dX1_survivors_111 : decode cX1_survivors 111 = .ok (.lconst 0, 1) := by decide +kernel
theorem dX1_survivors_112 : decode cX1_survivors 112 = .ok (.ladd, 1) := by decide +kernel
theorem dX1_survivors_113 : decode cX1_survivors 113 = .ok (.lstore 4, 2) := by decide +kernel
theorem dX1_survivors_115 : decode cX1_survivors 115 = .ok (.iinc 6 1, 3) := by decide +kernel
theorem dX1_survivors_118 : decode cX1_survivors 118 = .ok (.goto (-35), 3) := by decide +kernel
theorem dX1_survivors_121 : decode cX1_survivors 121 = .ok (.lload 4, 2) := by decide +kernel
theorem dX1_survivors_123 : decode cX1_survivors 123 = .ok (.iload_n 3, 1) := by decide +kernel
theorem dX1_survivors_124 : decode cX1_survivors 124 = .ok (.i2l, 1) := by decide +kernel
theorem dX1_survivors_125 : decode cX1_survivors 125 = .ok (.invokestatic 67, 3) := by decide +kernel
theorem dX1_survivors_128 : decode cX1_survivors 128 = .ok (.lstore 6, 2) := by decide +kernel
theorem dX1_survivors_130 : decode cX1_survivors 130 = .ok (.iconst (-1), 1) := by decide +kernel
theorem dX1_survivors_131 : decode cX1_survivors 131 = .ok (.istore 8, 2) := by decide +kernel
theorem dX1_survivors_133 : decode cX1_survivors 133 = .ok (.iconst 0, 1) := by decide +kernel
theorem dX1_survivors_134 : decode cX1_survivors 134 = .ok (.istore 9, 2) := by decide +kernel
theorem dX1_survivors_136 : decode cX1_survivors 136 = .ok (.iload 9, 2) := by decide +kernel
theorem dX1_survivors_138 : decode cX1_survivors 138 = .ok (.bipush 24, 2) := by decide +kernel
theorem dX1_survivors_140 : decode cX1_survivors 140 = .ok (.if_icmp .ge 62, 3) := by decide +kernel
theorem dX1_survivors_143 : decode cX1_survivors 143 = .ok (.iload_n 2, 1) := by decide +kernel
theorem dX1_survivors_144 : decode cX1_survivors 144 = .ok (.iload 9, 2) := by decide +kernel
theorem dX1_survivors_146 : decode cX1_survivors 146 = .ok (.ishr, 1) := by decide +kernel
theorem dX1_survivors_147 : decode cX1_survivors 147 = .ok (.iconst 1, 1) := by decide +kernel
theorem dX1_survivors_148 : decode cX1_survivors 148 = .ok (.iand, 1) := by decide +kernel
theorem dX1_survivors_149 : decode cX1_survivors 149 = .ok (.iconst 1, 1) := by decide +kernel
theorem dX1_survivors_150 : decode cX1_survivors 150 = .ok (.if_icmp .ne 42, 3) := by decide +kernel
theorem dX1_survivors_153 : decode cX1_survivors 153 = .ok (.iload 8, 2) := by decide +kernel
theorem dX1_survivors_155 : decode cX1_survivors 155 = .ok (.iconst (-1), 1) := by decide +kernel
theorem dX1_survivors_156 : decode cX1_survivors 156 = .ok (.if_icmp .eq 31, 3) := by decide +kernel
theorem dX1_survivors_159 : decode cX1_survivors 159 = .ok (.aload_n 0, 1) := by decide +kernel
theorem dX1_survivors_160 : decode cX1_survivors 160 = .ok (.iload 9, 2) := by decide +kernel
theorem dX1_survivors_162 : decode cX1_survivors 162 = .ok (.invokevirtual 57, 3) := by decide +kernel
theorem dX1_survivors_165 : decode cX1_survivors 165 = .ok (.lload 6, 2) := by decide +kernel
theorem dX1_survivors_167 : decode cX1_survivors 167 = .ok (.lsub, 1) := by decide +kernel
theorem dX1_survivors_168 : decode cX1_survivors 168 = .ok (.invokestatic 64, 3) := by decide +kernel
theorem dX1_survivors_171 : decode cX1_survivors 171 = .ok (.aload_n 0, 1) := by decide +kernel
theorem dX1_survivors_172 : decode cX1_survivors 172 = .ok (.iload 8, 2) := by decide +kernel
theorem dX1_survivors_174 : decode cX1_survivors 174 = .ok (.invokevirtual 57, 3) := by decide +kernel
theorem dX1_survivors_177 : decode cX1_survivors 177 = .ok (.lload 6, 2) := by decide +kernel
theorem dX1_survivors_179 : decode cX1_survivors 179 = .ok (.lsub, 1) := by decide +kernel
theorem dX1_survivors_180 : decode cX1_survivors 180 = .ok (.invokestatic 64, 3) := by decide +kernel
theorem dX1_survivors_183 : decode cX1_survivors 183 = .ok (.lcmp, 1) := by decide +kernel
theorem dX1_survivors_184 : decode cX1_survivors 184 = .ok (.ifCond .lt 8, 3) := by decide +kernel
theorem dX1_survivors_187 : decode cX1_survivors 187 = .ok (.iload 9, 2) := by decide +kernel
theorem dX1_survivors_189 : decode cX1_survivors 189 = .ok (.goto 5, 3) := by decide +kernel
theorem dX1_survivors_192 : decode cX1_survivors 192 = .ok (.iload 8, 2) := by decide +kernel
theorem dX1_survivors_194 : decode cX1_survivors 194 = .ok (.istore 8, 2) := by decide +kernel
theorem dX1_survivors_196 : decode cX1_survivors 196 = .ok (.iinc 9 1, 3) := by decide +kernel
theorem dX1_survivors_199 : decode cX1_survivors 199 = .ok (.goto (-63), 3) := by decide +kernel
theorem dX1_survivors_202 : decode cX1_survivors 202 = .ok (.iload_n 2, 1) := by decide +kernel
theorem dX1_survivors_203 : decode cX1_survivors 203 = .ok (.iconst 1, 1) := by decide +kernel
theorem dX1_survivors_204 : decode cX1_survivors 204 = .ok (.iload 8, 2) := by decide +kernel
theorem dX1_survivors_206 : decode cX1_survivors 206 = .ok (.ishl, 1) := by decide +kernel
theorem dX1_survivors_207 : decode cX1_survivors 207 = .ok (.iconst (-1), 1) := by decide +kernel
theorem dX1_survivors_208 : decode cX1_survivors 208 = .ok (.ixor, 1) := by decide +kernel
theorem dX1_survivors_209 : decode cX1_survivors 209 = .ok (.iand, 1) := by decide +kernel
theorem dX1_survivors_210 : decode cX1_survivors 210 = .ok (.istore_n 2, 1) := by decide +kernel
theorem dX1_survivors_211 : decode cX1_survivors 211 = .ok (.iinc 3 (-1), 3) := by decide +kernel
theorem dX1_survivors_214 : decode cX1_survivors 214 = .ok (.goto (-142), 3) := by decide +kernel
theorem dX1_survivors_217 : decode cX1_survivors 217 = .ok (.iload_n 2, 1) := by decide +kernel
theorem dX1_survivors_218 : decode cX1_survivors 218 = .ok (.ireturn, 1) := by decide +kernel
theorem dX1_rank_0 : decode cX1_rank 0 = .ok (.iload_n 2, 1) := by decide +kernel
theorem dX1_rank_1 : decode cX1_rank 1 = .ok (.iconst 1, 1) := by decide +kernel
theorem dX1_rank_2 : decode cX1_rank 2 = .ok (.if_icmp .lt 9, 3) := by decide +kernel
theorem dX1_rank_5 : decode cX1_rank 5 = .ok (.iload_n 2, 1) := by decide +kernel
theorem dX1_rank_6 : decode cX1_rank 6 = .ok (.bipush 24, 2) := by decide +kernel
theorem dX1_rank_8 : decode cX1_rank 8 = .ok (.if_icmp .le 7, 3) := by decide +kernel
theorem dX1_rank_11 : decode cX1_rank 11 = .ok (.iconst 0, 1) := by decide +kernel
theorem dX1_rank_12 : decode cX1_rank 12 = .ok (.goto 8, 3) := by decide +kernel
theorem dX1_rank_15 : decode cX1_rank 15 = .ok (.aload_n 0, 1) := by decide +kernel
theorem dX1_rank_16 : decode cX1_rank 16 = .ok (.iload_n 2, 1) := by decide +kernel
theorem dX1_rank_17 : decode cX1_rank 17 = .ok (.invokevirtual 71, 3) := by decide +kernel
theorem dX1_rank_20 : decode cX1_rank 20 = .ok (.istore_n 3, 1) := by decide +kernel
theorem dX1_rank_21 : decode cX1_rank 21 = .ok (.iload_n 1, 1) := by decide +kernel
theorem dX1_rank_22 : decode cX1_rank 22 = .ok (.invokestatic 20, 3) := by decide +kernel
theorem dX1_rank_25 : decode cX1_rank 25 = .ok (.ifCond .eq 11, 3) := by decide +kernel
theorem dX1_rank_28 : decode cX1_rank 28 = .ok (.iload_n 3, 1) := by decide +kernel
theorem dX1_rank_29 : decode cX1_rank 29 = .ok (.iload_n 1, 1) := by decide +kernel
theorem dX1_rank_30 : decode cX1_rank 30 = .ok (.ishr, 1) := by decide +kernel
theorem dX1_rank_31 : decode cX1_rank 31 = .ok (.iconst 1, 1) := by decide +kernel
theorem dX1_rank_32 : decode cX1_rank 32 = .ok (.iand, 1) := by decide +kernel
theorem dX1_rank_33 : decode cX1_rank 33 = .ok (.ifCond .ne 5, 3) := by decide +kernel
theorem dX1_rank_36 : decode cX1_rank 36 = .ok (.iconst (-1), 1) := by decide +kernel
theorem dX1_rank_37 : decode cX1_rank 37 = .ok (.ireturn, 1) := by decide +kernel
theorem dX1_rank_38 : decode cX1_rank 38 = .ok (.iconst 0, 1) := by decide +kernel
theorem dX1_rank_39 : decode cX1_rank 39 = .ok (.istore 4, 2) := by decide +kernel
theorem dX1_rank_41 : decode cX1_rank 41 = .ok (.iconst 0, 1) := by decide +kernel
theorem dX1_rank_42 : decode cX1_rank 42 = .ok (.istore 5, 2) := by decide +kernel
theorem dX1_rank_44 : decode cX1_rank 44 = .ok (.iload 5, 2) := by decide +kernel
theorem dX1_rank_46 : decode cX1_rank 46 = .ok (.bipush 24, 2) := by decide +kernel
theorem dX1_rank_48 : decode cX1_rank 48 = .ok (.if_icmp .ge 65, 3) := by decide +kernel
theorem dX1_rank_51 : decode cX1_rank 51 = .ok (.iload 4, 2) := by decide +kernel
theorem dX1_rank_53 : decode cX1_rank 53 = .ok (.iload_n 3, 1) := by decide +kernel
theorem dX1_rank_54 : decode cX1_rank 54 = .ok (.iload 5, 2) := by decide +kernel
theorem dX1_rank_56 : decode cX1_rank 56 = .ok (.ishr, 1) := by decide +kernel
theorem dX1_rank_57 : decode cX1_rank 57 = .ok (.iconst 1, 1) := by decide +kernel
theorem dX1_rank_58 : decode cX1_rank 58 = .ok (.iand, 1) := by decide +kernel
theorem dX1_rank_59 : decode cX1_rank 59 = .ok (.iconst 1, 1) := by decide +kernel
theorem dX1_rank_60 : decode cX1_rank 60 = .ok (.if_icmp .ne 43, 3) := by decide +kernel
theorem dX1_rank_63 : decode cX1_rank 63 = .ok (.aload_n 0, 1) := by decide +kernel
theorem dX1_rank_64 : decode cX1_rank 64 = .ok (.iload 5, 2) := by decide +kernel
theorem dX1_rank_66 : decode cX1_rank 66 = .ok (.invokevirtual 57, 3) := by decide +kernel
theorem dX1_rank_69 : decode cX1_rank 69 = .ok (.aload_n 0, 1) := by decide +kernel
theorem dX1_rank_70 : decode cX1_rank 70 = .ok (.iload_n 1, 1) := by decide +kernel
theorem dX1_rank_71 : decode cX1_rank 71 = .ok (.invokevirtual 57, 3) := by decide +kernel
theorem dX1_rank_74 : decode cX1_rank 74 = .ok (.lcmp, 1) := by decide +kernel
theorem dX1_rank_75 : decode cX1_rank 75 = .ok (.ifCond .lt 24, 3) := by decide +kernel
theorem dX1_rank_78 : decode cX1_rank 78 = .ok (.aload_n 0, 1) := by decide +kernel
theorem dX1_rank_79 : decode cX1_rank 79 = .ok (.iload 5, 2) := by decide +kernel
theorem dX1_rank_81 : decode cX1_rank 81 = .ok (.invokevirtual 57, 3) := by decide +kernel
theorem dX1_rank_84 : decode cX1_rank 84 = .ok (.aload_n 0, 1) := by decide +kernel
theorem dX1_rank_85 : decode cX1_rank 85 = .ok (.iload_n 1, 1) := by decide +kernel
theorem dX1_rank_86 : decode cX1_rank 86 = .ok (.invokevirtual 57, 3) := by decide +kernel
theorem dX1_rank_89 : decode cX1_rank 89 = .ok (.lcmp, 1) := by decide +kernel
theorem dX1_rank_90 : decode cX1_rank 90 = .ok (.ifCond .ne 13, 3) := by decide +kernel
theorem dX1_rank_93 : decode cX1_rank 93 = .ok (.iload 5, 2) := by decide +kernel
theorem dX1_rank_95 : decode cX1_rank 95 = .ok (.iload_n 1, 1) := by decide +kernel
theorem dX1_rank_96 : decode cX1_rank 96 = .ok (.if_icmp .ge 7, 3) := by decide +kernel
theorem dX1_rank_99 : decode cX1_rank 99 = .ok (.iconst 1, 1) := by decide +kernel
theorem dX1_rank_100 : decode cX1_rank 100 = .ok (.goto 4, 3) := by decide +kernel
theorem dX1_rank_103 : decode cX1_rank 103 = .ok (.iconst 0, 1) := by decide +kernel
theorem dX1_rank_104 : decode cX1_rank 104 = .ok (.iadd, 1) := by decide +kernel
theorem dX1_rank_105 : decode cX1_rank 105 = .ok (.istore 4, 2) := by decide +kernel
theorem dX1_rank_107 : decode cX1_rank 107 = .ok (.iinc 5 1, 3) := by decide +kernel
theorem dX1_rank_110 : decode cX1_rank 110 = .ok (.goto (-66), 3) := by decide +kernel
theorem dX1_rank_113 : decode cX1_rank 113 = .ok (.iload 4, 2) := by decide +kernel
theorem dX1_rank_115 : decode cX1_rank 115 = .ok (.ireturn, 1) := by decide +kernel
theorem dX1_tick_0 : decode cX1_tick 0 = .ok (.lload_n 1, 1) := by decide +kernel
theorem dX1_tick_1 : decode cX1_tick 1 = .ok (.aload_n 0, 1) := by decide +kernel
theorem dX1_tick_2 : decode cX1_tick 2 = .ok (.getfield 75, 3) := by decide +kernel
theorem dX1_tick_5 : decode cX1_tick 5 = .ok (.lcmp, 1) := by decide +kernel
theorem dX1_tick_6 : decode cX1_tick 6 = .ok (.ifCond .lt 11, 3) := by decide +kernel
theorem dX1_tick_9 : decode cX1_tick 9 = .ok (.lload_n 1, 1) := by decide +kernel
theorem dX1_tick_10 : decode cX1_tick 10 = .ok (.ldc2_w 28, 3) := by decide +kernel
theorem dX1_tick_13 : decode cX1_tick 13 = .ok (.lcmp, 1) := by decide +kernel
theorem dX1_tick_14 : decode cX1_tick 14 = .ok (.ifCond .le 5, 3) := by decide +kernel
theorem dX1_tick_17 : decode cX1_tick 17 = .ok (.iconst 0, 1) := by decide +kernel
theorem dX1_tick_18 : decode cX1_tick 18 = .ok (.ireturn, 1) := by decide +kernel
theorem dX1_tick_19 : decode cX1_tick 19 = .ok (.lload_n 1, 1) := by decide +kernel
theorem dX1_tick_20 : decode cX1_tick 20 = .ok (.aload_n 0, 1) := by decide +kernel
theorem dX1_tick_21 : decode cX1_tick 21 = .ok (.getfield 75, 3) := by decide +kernel
theorem dX1_tick_24 : decode cX1_tick 24 = .ok (.lsub, 1) := by decide +kernel
theorem dX1_tick_25 : decode cX1_tick 25 = .ok (.ldc2_w 79, 3) := by decide +kernel
theorem dX1_tick_28 : decode cX1_tick 28 = .ok (.ldiv, 1) := by decide +kernel
theorem dX1_tick_29 : decode cX1_tick 29 = .ok (.lstore_n 3, 1) := by decide +kernel
theorem dX1_tick_30 : decode cX1_tick 30 = .ok (.aload_n 0, 1) := by decide +kernel
theorem dX1_tick_31 : decode cX1_tick 31 = .ok (.getfield 81, 3) := by decide +kernel
theorem dX1_tick_34 : decode cX1_tick 34 = .ok (.aload_n 0, 1) := by decide +kernel
theorem dX1_tick_35 : decode cX1_tick 35 = .ok (.getfield 84, 3) := by decide +kernel
theorem dX1_tick_38 : decode cX1_tick 38 = .ok (.lsub, 1) := by decide +kernel
theorem dX1_tick_39 : decode cX1_tick 39 = .ok (.lstore 5, 2) := by decide +kernel
theorem dX1_tick_41 : decode cX1_tick 41 = .ok (.aload_n 0, 1) := by decide +kernel
theorem dX1_tick_42 : decode cX1_tick 42 = .ok (.dup, 1) := by decide +kernel
theorem dX1_tick_43 : decode cX1_tick 43 = .ok (.getfield 84, 3) := by decide +kernel
theorem dX1_tick_46 : decode cX1_tick 46 = .ok (.lload 5, 2) := by decide +kernel
theorem dX1_tick_48 : decode cX1_tick 48 = .ok (.lload_n 3, 1) := by decide +kernel
theorem dX1_tick_49 : decode cX1_tick 49 = .ok (.lcmp, 1) := by decide +kernel
theorem dX1_tick_50 : decode cX1_tick 50 = .ok (.ifCond .le 7, 3) := by decide +kernel
theorem dX1_tick_53 : decode cX1_tick 53 = .ok (.lload_n 3, 1) := by decide +kernel
theorem dX1_tick_54 : decode cX1_tick 54 = .ok (.goto 18, 3) := by decide +kernel
theorem dX1_tick_57 : decode cX1_tick 57 = .ok (.lload 5, 2) := by decide +kernel
theorem dX1_tick_59 : decode cX1_tick 59 = .ok (.lload_n 3, 1) := by decide +kernel
theorem dX1_tick_60 : decode cX1_tick 60 = .ok (.lneg, 1) := by decide +kernel
theorem dX1_tick_61 : decode cX1_tick 61 = .ok (.lcmp, 1) := by decide +kernel
theorem dX1_tick_62 : decode cX1_tick 62 = .ok (.ifCond .ge 8, 3) := by decide +kernel
theorem dX1_tick_65 : decode cX1_tick 65 = .ok (.lload_n 3, 1) := by decide +kernel
theorem dX1_tick_66 : decode cX1_tick 66 = .ok (.lneg, 1) := by decide +kernel
theorem dX1_tick_67 : decode cX1_tick 67 = .ok (.goto 5, 3) := by decide +kernel
theorem dX1_tick_70 : decode cX1_tick 70 = .ok (.lload 5, 2) := by decide +kernel
theorem dX1_tick_72 : decode cX1_tick 72 = .ok (.ladd, 1) := by decide +kernel
theorem dX1_tick_73 : decode cX1_tick 73 = .ok (.putfield 84, 3) := by decide +kernel
theorem dX1_tick_76 : decode cX1_tick 76 = .ok (.aload_n 0, 1) := by decide +kernel
theorem dX1_tick_77 : decode cX1_tick 77 = .ok (.lload_n 1, 1) := by decide +kernel
theorem dX1_tick_78 : decode cX1_tick 78 = .ok (.putfield 75, 3) := by decide +kernel
theorem dX1_tick_81 : decode cX1_tick 81 = .ok (.iconst 1, 1) := by decide +kernel
theorem dX1_tick_82 : decode cX1_tick 82 = .ok (.ireturn, 1) := by decide +kernel
theorem dX1_steer_0 : decode cX1_steer 0 = .ok (.iconst 2, 1) := by decide +kernel
theorem dX1_steer_1 : decode cX1_steer 1 = .ok (.aload_n 0, 1) := by decide +kernel
theorem dX1_steer_2 : decode cX1_steer 2 = .ok (.invokevirtual 40, 3) := by decide +kernel
theorem dX1_steer_5 : decode cX1_steer 5 = .ok (.imul, 1) := by decide +kernel
theorem dX1_steer_6 : decode cX1_steer 6 = .ok (.aload_n 0, 1) := by decide +kernel
theorem dX1_steer_7 : decode cX1_steer 7 = .ok (.invokevirtual 48, 3) := by decide +kernel
theorem dX1_steer_10 : decode cX1_steer 10 = .ok (.if_icmp .gt 5, 3) := by decide +kernel
theorem dX1_steer_13 : decode cX1_steer 13 = .ok (.iconst 0, 1) := by decide +kernel
theorem dX1_steer_14 : decode cX1_steer 14 = .ok (.ireturn, 1) := by decide +kernel
theorem dX1_steer_15 : decode cX1_steer 15 = .ok (.aload_n 0, 1) := by decide +kernel
theorem dX1_steer_16 : decode cX1_steer 16 = .ok (.aload_n 0, 1) := by decide +kernel
theorem dX1_steer_17 : decode cX1_steer 17 = .ok (.iconst 0, 1) := by decide +kernel
theorem dX1_steer_18 : decode cX1_steer 18 = .ok (.invokevirtual 54, 3) := by decide +kernel
theorem dX1_steer_21 : decode cX1_steer 21 = .ok (.aload_n 0, 1) := by decide +kernel
theorem dX1_steer_22 : decode cX1_steer 22 = .ok (.iconst 1, 1) := by decide +kernel
theorem dX1_steer_23 : decode cX1_steer 23 = .ok (.invokevirtual 54, 3) := by decide +kernel
theorem dX1_steer_26 : decode cX1_steer 26 = .ok (.ladd, 1) := by decide +kernel
theorem dX1_steer_27 : decode cX1_steer 27 = .ok (.invokestatic 32, 3) := by decide +kernel
theorem dX1_steer_30 : decode cX1_steer 30 = .ok (.putfield 81, 3) := by decide +kernel
theorem dX1_steer_33 : decode cX1_steer 33 = .ok (.iconst 1, 1) := by decide +kernel
theorem dX1_steer_34 : decode cX1_steer 34 = .ok (.ireturn, 1) := by decide +kernel
theorem dX1_read_0 : decode cX1_read 0 = .ok (.aload_n 0, 1) := by decide +kernel
theorem dX1_read_1 : decode cX1_read 1 = .ok (.getfield 75, 3) := by decide +kernel
theorem dX1_read_4 : decode cX1_read 4 = .ok (.aload_n 0, 1) := by decide +kernel
theorem dX1_read_5 : decode cX1_read 5 = .ok (.getfield 84, 3) := by decide +kernel
theorem dX1_read_8 : decode cX1_read 8 = .ok (.ladd, 1) := by decide +kernel
theorem dX1_read_9 : decode cX1_read 9 = .ok (.lreturn, 1) := by decide +kernel
theorem dX1_offset_0 : decode cX1_offset 0 = .ok (.iload_n 1, 1) := by decide +kernel
theorem dX1_offset_1 : decode cX1_offset 1 = .ok (.ifCond .ne 10, 3) := by decide +kernel
theorem dX1_offset_4 : decode cX1_offset 4 = .ok (.aload_n 0, 1) := by decide +kernel
theorem dX1_offset_5 : decode cX1_offset 5 = .ok (.getfield 84, 3) := by decide +kernel
theorem dX1_offset_8 : decode cX1_offset 8 = .ok (.goto 18, 3) := by decide +kernel
theorem dX1_offset_11 : decode cX1_offset 11 = .ok (.iload_n 1, 1) := by decide +kernel
theorem dX1_offset_12 : decode cX1_offset 12 = .ok (.iconst 1, 1) := by decide +kernel
theorem dX1_offset_13 : decode cX1_offset 13 = .ok (.if_icmp .ne 10, 3) := by decide +kernel
theorem dX1_offset_16 : decode cX1_offset 16 = .ok (.aload_n 0, 1) := by decide +kernel
theorem dX1_offset_17 : decode cX1_offset 17 = .ok (.getfield 81, 3) := by decide +kernel
theorem dX1_offset_20 : decode cX1_offset 20 = .ok (.goto 6, 3) := by decide +kernel
theorem dX1_offset_23 : decode cX1_offset 23 = .ok (.ldc2_w 30, 3) := by decide +kernel
theorem dX1_offset_26 : decode cX1_offset 26 = .ok (.lreturn, 1) := by decide +kernel
theorem dX1_settles_0 : decode cX1_settles 0 = .ok (.aload_n 0, 1) := by decide +kernel
theorem dX1_settles_1 : decode cX1_settles 1 = .ok (.getfield 81, 3) := by decide +kernel
theorem dX1_settles_4 : decode cX1_settles 4 = .ok (.aload_n 0, 1) := by decide +kernel
theorem dX1_settles_5 : decode cX1_settles 5 = .ok (.getfield 84, 3) := by decide +kernel
theorem dX1_settles_8 : decode cX1_settles 8 = .ok (.lsub, 1) := by decide +kernel
theorem dX1_settles_9 : decode cX1_settles 9 = .ok (.invokestatic 64, 3) := by decide +kernel
theorem dX1_settles_12 : decode cX1_settles 12 = .ok (.lstore_n 1, 1) := by decide +kernel
theorem dX1_settles_13 : decode cX1_settles 13 = .ok (.lload_n 1, 1) := by decide +kernel
theorem dX1_settles_14 : decode cX1_settles 14 = .ok (.ldc2_w 87, 3) := by decide +kernel
theorem dX1_settles_17 : decode cX1_settles 17 = .ok (.lcmp, 1) := by decide +kernel
theorem dX1_settles_18 : decode cX1_settles 18 = .ok (.ifCond .le 9, 3) := by decide +kernel
theorem dX1_settles_21 : decode cX1_settles 21 = .ok (.ldc2_w 30, 3) := by decide +kernel
theorem dX1_settles_24 : decode cX1_settles 24 = .ok (.goto 8, 3) := by decide +kernel
theorem dX1_settles_27 : decode cX1_settles 27 = .ok (.lload_n 1, 1) := by decide +kernel
theorem dX1_settles_28 : decode cX1_settles 28 = .ok (.ldc2_w 79, 3) := by decide +kernel
theorem dX1_settles_31 : decode cX1_settles 31 = .ok (.lmul, 1) := by decide +kernel
theorem dX1_settles_32 : decode cX1_settles 32 = .ok (.lreturn, 1) := by decide +kernel
