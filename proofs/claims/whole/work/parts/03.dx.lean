theorem dX0_init_0 : decode cX0_init 0 = .ok (.aload_n 0, 1) := by decide +kernel
theorem dX0_init_1 : decode cX0_init 1 = .ok (.invokespecial 1, 3) := by decide +kernel
theorem dX0_init_4 : decode cX0_init 4 = .ok (.aload_n 0, 1) := by decide +kernel
theorem dX0_init_5 : decode cX0_init 5 = .ok (.bipush 24, 2) := by decide +kernel
theorem dX0_init_7 : decode cX0_init 7 = .ok (.newarray .long, 2) := by decide +kernel
theorem dX0_init_9 : decode cX0_init 9 = .ok (.putfield 9, 3) := by decide +kernel
theorem dX0_init_12 : decode cX0_init 12 = .ok (.aload_n 0, 1) := by decide +kernel
theorem dX0_init_13 : decode cX0_init 13 = .ok (.bipush 24, 2) := by decide +kernel
theorem dX0_init_15 : decode cX0_init 15 = .ok (.newarray .long, 2) := by decide +kernel
theorem dX0_init_17 : decode cX0_init 17 = .ok (.putfield 13, 3) := by decide +kernel
theorem dX0_init_20 : decode cX0_init 20 = .ok (.aload_n 0, 1) := by decide +kernel
theorem dX0_init_21 : decode cX0_init 21 = .ok (.iconst 0, 1) := by decide +kernel
theorem dX0_init_22 : decode cX0_init 22 = .ok (.putfield 16, 3) := by decide +kernel
theorem dX0_init_25 : decode cX0_init 25 = .ok (.aload_n 0, 1) := by decide +kernel
theorem dX0_init_26 : decode cX0_init 26 = .ok (.lconst 0, 1) := by decide +kernel
theorem dX0_init_27 : decode cX0_init 27 = .ok (.putfield 20, 3) := by decide +kernel
theorem dX0_init_30 : decode cX0_init 30 = .ok (.aload_n 0, 1) := by decide +kernel
theorem dX0_init_31 : decode cX0_init 31 = .ok (.lconst 0, 1) := by decide +kernel
theorem dX0_init_32 : decode cX0_init 32 = .ok (.putfield 24, 3) := by decide +kernel
theorem dX0_init_35 : decode cX0_init 35 = .ok (.aload_n 0, 1) := by decide +kernel
theorem dX0_init_36 : decode cX0_init 36 = .ok (.lconst 0, 1) := by decide +kernel
theorem dX0_init_37 : decode cX0_init 37 = .ok (.putfield 27, 3) := by decide +kernel
theorem dX0_init_40 : decode cX0_init 40 = .ok (.return_, 1) := by decide +kernel
theorem dX0_interval_0 : decode cX0_interval 0 = .ok (.iload_n 1, 1) := by decide +kernel
theorem dX0_interval_1 : decode cX0_interval 1 = .ok (.invokestatic 30, 3) := by decide +kernel
theorem dX0_interval_4 : decode cX0_interval 4 = .ok (.ifCond .eq 27, 3) := by decide +kernel
theorem dX0_interval_7 : decode cX0_interval 7 = .ok (.lload_n 2, 1) := by decide +kernel
theorem dX0_interval_8 : decode cX0_interval 8 = .ok (.ldc2_w 34, 3) := by decide +kernel
theorem dX0_interval_11 : decode cX0_interval 11 = .ok (.lcmp, 1) := by decide +kernel
theorem dX0_interval_12 : decode cX0_interval 12 = .ok (.ifCond .lt 19, 3) := by decide +kernel
theorem dX0_interval_15 : decode cX0_interval 15 = .ok (.lload_n 2, 1) := by decide +kernel
theorem dX0_interval_16 : decode cX0_interval 16 = .ok (.lload 4, 2) := by decide +kernel
theorem dX0_interval_18 : decode cX0_interval 18 = .ok (.lcmp, 1) := by decide +kernel
theorem dX0_interval_19 : decode cX0_interval 19 = .ok (.ifCond .gt 12, 3) := by decide +kernel
theorem dX0_interval_22 : decode cX0_interval 22 = .ok (.lload 4, 2) := by decide +kernel
theorem dX0_interval_24 : decode cX0_interval 24 = .ok (.ldc2_w 36, 3) := by decide +kernel
theorem dX0_interval_27 : decode cX0_interval 27 = .ok (.lcmp, 1) := by decide +kernel
theorem dX0_interval_28 : decode cX0_interval 28 = .ok (.ifCond .le 5, 3) := by decide +kernel
theorem dX0_interval_31 : decode cX0_interval 31 = .ok (.iconst 0, 1) := by decide +kernel
theorem dX0_interval_32 : decode cX0_interval 32 = .ok (.ireturn, 1) := by decide +kernel
theorem dX0_interval_33 : decode cX0_interval 33 = .ok (.aload_n 0, 1) := by decide +kernel
theorem dX0_interval_34 : decode cX0_interval 34 = .ok (.iload_n 1, 1) := by decide +kernel
theorem dX0_interval_35 : decode cX0_interval 35 = .ok (.lload_n 2, 1) := by decide +kernel
theorem dX0_interval_36 : decode cX0_interval 36 = .ok (.lload 4, 2) := by decide +kernel
theorem dX0_interval_38 : decode cX0_interval 38 = .ok (.invokevirtual 38, 3) := by decide +kernel
theorem dX0_interval_41 : decode cX0_interval 41 = .ok (.iconst 1, 1) := by decide +kernel
theorem dX0_interval_42 : decode cX0_interval 42 = .ok (.ireturn, 1) := by decide +kernel
theorem dX0_exchange_0 : decode cX0_exchange 0 = .ok (.iload_n 1, 1) := by decide +kernel
theorem dX0_exchange_1 : decode cX0_exchange 1 = .ok (.invokestatic 30, 3) := by decide +kernel
theorem dX0_exchange_4 : decode cX0_exchange 4 = .ok (.ifCond .eq 33, 3) := by decide +kernel
theorem dX0_exchange_7 : decode cX0_exchange 7 = .ok (.lload_n 2, 1) := by decide +kernel
theorem dX0_exchange_8 : decode cX0_exchange 8 = .ok (.invokestatic 42, 3) := by decide +kernel
theorem dX0_exchange_11 : decode cX0_exchange 11 = .ok (.ifCond .eq 26, 3) := by decide +kernel
theorem dX0_exchange_14 : decode cX0_exchange 14 = .ok (.lload 4, 2) := by decide +kernel
theorem dX0_exchange_16 : decode cX0_exchange 16 = .ok (.invokestatic 42, 3) := by decide +kernel
theorem dX0_exchange_19 : decode cX0_exchange 19 = .ok (.ifCond .eq 18, 3) := by decide +kernel
theorem dX0_exchange_22 : decode cX0_exchange 22 = .ok (.lload 6, 2) := by decide +kernel
theorem dX0_exchange_24 : decode cX0_exchange 24 = .ok (.invokestatic 42, 3) := by decide +kernel
theorem dX0_exchange_27 : decode cX0_exchange 27 = .ok (.ifCond .eq 10, 3) := by decide +kernel
theorem dX0_exchange_30 : decode cX0_exchange 30 = .ok (.lload_n 2, 1) := by decide +kernel
theorem dX0_exchange_31 : decode cX0_exchange 31 = .ok (.lload 6, 2) := by decide +kernel
theorem dX0_exchange_33 : decode cX0_exchange 33 = .ok (.lcmp, 1) := by decide +kernel
theorem dX0_exchange_34 : decode cX0_exchange 34 = .ok (.ifCond .le 7, 3) := by decide +kernel
theorem dX0_exchange_37 : decode cX0_exchange 37 = .ok (.ldc2_w 46, 3) := by decide +kernel
theorem dX0_exchange_40 : decode cX0_exchange 40 = .ok (.lreturn, 1) := by decide +kernel
theorem dX0_exchange_41 : decode cX0_exchange 41 = .ok (.aload_n 0, 1) := by decide +kernel
theorem dX0_exchange_42 : decode cX0_exchange 42 = .ok (.iload_n 1, 1) := by decide +kernel
theorem dX0_exchange_43 : decode cX0_exchange 43 = .ok (.lload 4, 2) := by decide +kernel
theorem dX0_exchange_45 : decode cX0_exchange 45 = .ok (.lload 6, 2) := by decide +kernel
theorem dX0_exchange_47 : decode cX0_exchange 47 = .ok (.lsub, 1) := by decide +kernel
theorem dX0_exchange_48 : decode cX0_exchange 48 = .ok (.lload 4, 2) := by decide +kernel
theorem dX0_exchange_50 : decode cX0_exchange 50 = .ok (.lload_n 2, 1) := by decide +kernel
theorem dX0_exchange_51 : decode cX0_exchange 51 = .ok (.lsub, 1) := by decide +kernel
theorem dX0_exchange_52 : decode cX0_exchange 52 = .ok (.invokevirtual 38, 3) := by decide +kernel
theorem dX0_exchange_55 : decode cX0_exchange 55 = .ok (.lload 4, 2) := by decide +kernel
theorem dX0_exchange_57 : decode cX0_exchange 57 = .ok (.lload 6, 2) := by decide +kernel
theorem dX0_exchange_59 : decode cX0_exchange 59 = .ok (.lload_n 2, 1) := by decide +kernel
theorem dX0_exchange_60 : decode cX0_exchange 60 = .ok (.lsub, 1) := by decide +kernel
theorem dX0_exchange_61 : decode cX0_exchange 61 = .ok (.invokestatic 48, 3) := by decide +kernel
theorem dX0_exchange_64 : decode cX0_exchange 64 = .ok (.ladd, 1) := by decide +kernel
theorem dX0_exchange_65 : decode cX0_exchange 65 = .ok (.lload 6, 2) := by decide +kernel
theorem dX0_exchange_67 : decode cX0_exchange 67 = .ok (.lsub, 1) := by decide +kernel
theorem dX0_exchange_68 : decode cX0_exchange 68 = .ok (.lreturn, 1) := by decide +kernel
theorem dX0_drop_0 : decode cX0_drop 0 = .ok (.aload_n 0, 1) := by decide +kernel
theorem dX0_drop_1 : decode cX0_drop 1 = .ok (.getfield 16, 3) := by decide +kernel
theorem dX0_drop_4 : decode cX0_drop 4 = .ok (.iload_n 1, 1) := by decide +kernel
theorem dX0_drop_5 : decode cX0_drop 5 = .ok (.invokestatic 52, 3) := by decide +kernel
theorem dX0_drop_8 : decode cX0_drop 8 = .ok (.ifCond .ne 5, 3) := by decide +kernel
theorem dX0_drop_11 : decode cX0_drop 11 = .ok (.iconst 0, 1) := by decide +kernel
theorem dX0_drop_12 : decode cX0_drop 12 = .ok (.ireturn, 1) := by decide +kernel
theorem dX0_drop_13 : decode cX0_drop 13 = .ok (.aload_n 0, 1) := by decide +kernel
theorem dX0_drop_14 : decode cX0_drop 14 = .ok (.aload_n 0, 1) := by decide +kernel
theorem dX0_drop_15 : decode cX0_drop 15 = .ok (.getfield 16, 3) := by decide +kernel
theorem dX0_drop_18 : decode cX0_drop 18 = .ok (.iload_n 1, 1) := by decide +kernel
theorem dX0_drop_19 : decode cX0_drop 19 = .ok (.invokestatic 56, 3) := by decide +kernel
theorem dX0_drop_22 : decode cX0_drop 22 = .ok (.putfield 16, 3) := by decide +kernel
theorem dX0_drop_25 : decode cX0_drop 25 = .ok (.iconst 1, 1) := by decide +kernel
theorem dX0_drop_26 : decode cX0_drop 26 = .ok (.ireturn, 1) := by decide +kernel
theorem dX0_sources_0 : decode cX0_sources 0 = .ok (.aload_n 0, 1) := by decide +kernel
theorem dX0_sources_1 : decode cX0_sources 1 = .ok (.getfield 16, 3) := by decide +kernel
theorem dX0_sources_4 : decode cX0_sources 4 = .ok (.invokestatic 60, 3) := by decide +kernel
theorem dX0_sources_7 : decode cX0_sources 7 = .ok (.ireturn, 1) := by decide +kernel
theorem dX0_covers_0 : decode cX0_covers 0 = .ok (.iconst 0, 1) := by decide +kernel
theorem dX0_covers_1 : decode cX0_covers 1 = .ok (.istore_n 3, 1) := by decide +kernel
theorem dX0_covers_2 : decode cX0_covers 2 = .ok (.iconst 0, 1) := by decide +kernel
theorem dX0_covers_3 : decode cX0_covers 3 = .ok (.istore 4, 2) := by decide +kernel
theorem dX0_covers_5 : decode cX0_covers 5 = .ok (.iload 4, 2) := by decide +kernel
theorem dX0_covers_7 : decode cX0_covers 7 = .ok (.bipush 24, 2) := by decide +kernel
theorem dX0_covers_9 : decode cX0_covers 9 = .ok (.if_icmp .ge 22, 3) := by decide +kernel
theorem dX0_covers_12 : decode cX0_covers 12 = .ok (.aload_n 0, 1) := by decide +kernel
theorem dX0_covers_13 : decode cX0_covers 13 = .ok (.iload 4, 2) := by decide +kernel
theorem dX0_covers_15 : decode cX0_covers 15 = .ok (.lload_n 1, 1) := by decide +kernel
theorem dX0_covers_16 : decode cX0_covers 16 = .ok (.invokevirtual 66, 3) := by decide +kernel
theorem dX0_covers_19 : decode cX0_covers 19 = .ok (.ifCond .eq 6, 3) := by decide +kernel
theorem dX0_covers_22 : decode cX0_covers 22 = .ok (.iinc 3 1, 3) := by decide +kernel
theorem dX0_covers_25 : decode cX0_covers 25 = .ok (.iinc 4 1, 3) := by decide +kernel
theorem dX0_covers_28 : decode cX0_covers 28 = .ok (.goto (-23), 3) := by decide +kernel
theorem dX0_covers_31 : decode cX0_covers 31 = .ok (.iload_n 3, 1) := by decide +kernel
theorem dX0_covers_32 : decode cX0_covers 32 = .ok (.ireturn, 1) := by decide +kernel
theorem dX0_greatest_0 : decode cX0_greatest 0 = .ok (.iconst 0, 1) := by decide +kernel
theorem dX0_greatest_1 : decode cX0_greatest 1 = .ok (.istore_n 1, 1) := by decide +kernel
theorem dX0_greatest_2 : decode cX0_greatest 2 = .ok (.iconst 0, 1) := by decide +kernel
theorem dX0_greatest_3 : decode cX0_greatest 3 = .ok (.istore_n 2, 1) := by decide +kernel
theorem dX0_greatest_4 : decode cX0_greatest 4 = .ok (.iload_n 2, 1) := by decide +kernel
theorem dX0_greatest_5 : decode cX0_greatest 5 = .ok (.bipush 24, 2) := by decide +kernel
theorem dX0_greatest_7 : decode cX0_greatest 7 = .ok (.if_icmp .ge 35, 3) := by decide +kernel
theorem dX0_greatest_10 : decode cX0_greatest 10 = .ok (.aload_n 0, 1) := by decide +kernel
theorem dX0_greatest_11 : decode cX0_greatest 11 = .ok (.getfield 16, 3) := by decide +kernel
theorem dX0_greatest_14 : decode cX0_greatest 14 = .ok (.iload_n 2, 1) := by decide +kernel
theorem dX0_greatest_15 : decode cX0_greatest 15 = .ok (.invokestatic 52, 3) := by decide +kernel
theorem dX0_greatest_18 : decode cX0_greatest 18 = .ok (.ifCond .eq 18, 3) := by decide +kernel
theorem dX0_greatest_21 : decode cX0_greatest 21 = .ok (.iload_n 1, 1) := by decide +kernel
theorem dX0_greatest_22 : decode cX0_greatest 22 = .ok (.aload_n 0, 1) := by decide +kernel
theorem dX0_greatest_23 : decode cX0_greatest 23 = .ok (.aload_n 0, 1) := by decide +kernel
theorem dX0_greatest_24 : decode cX0_greatest 24 = .ok (.getfield 9, 3) := by decide +kernel
theorem dX0_greatest_27 : decode cX0_greatest 27 = .ok (.iload_n 2, 1) := by decide +kernel
theorem dX0_greatest_28 : decode cX0_greatest 28 = .ok (.laload, 1) := by decide +kernel
theorem dX0_greatest_29 : decode cX0_greatest 29 = .ok (.invokevirtual 70, 3) := by decide +kernel
theorem dX0_greatest_32 : decode cX0_greatest 32 = .ok (.invokestatic 74, 3) := by decide +kernel
theorem dX0_greatest_35 : decode cX0_greatest 35 = .ok (.istore_n 1, 1) := by decide +kernel
theorem dX0_greatest_36 : decode cX0_greatest 36 = .ok (.iinc 2 1, 3) := by decide +kernel
theorem dX0_greatest_39 : decode cX0_greatest 39 = .ok (.goto (-35), 3) := by decide +kernel
theorem dX0_greatest_42 : decode cX0_greatest 42 = .ok (.iload_n 1, 1) := by decide +kernel
theorem dX0_greatest_43 : decode cX0_greatest 43 = .ok (.ireturn, 1) := by decide +kernel
theorem dX0_region_0 : decode cX0_region 0 = .ok (.aload_n 0, 1) := by decide +kernel
theorem dX0_region_1 : decode cX0_region 1 = .ok (.getfield 16, 3) := by decide +kernel
theorem dX0_region_4 : decode cX0_region 4 = .ok (.ifCond .eq 10, 3) := by decide +kernel
theorem dX0_region_7 : decode cX0_region 7 = .ok (.iload_n 1, 1) := by decide +kernel
theorem dX0_region_8 : decode cX0_region 8 = .ok (.invokestatic 79, 3) := by decide +kernel
theorem dX0_region_11 : decode cX0_region 11 = .ok (.ifCond .ne 7, 3) := by decide +kernel
theorem dX0_region_14 : decode cX0_region 14 = .ok (.ldc2_w 46, 3) := by decide +kernel
theorem dX0_region_17 : decode cX0_region 17 = .ok (.lreturn, 1) := by decide +kernel
theorem dX0_region_18 : decode cX0_region 18 = .ok (.aload_n 0, 1) := by decide +kernel
theorem dX0_region_19 : decode cX0_region 19 = .ok (.invokevirtual 82, 3) := by decide +kernel
theorem dX0_region_22 : decode cX0_region 22 = .ok (.istore_n 2, 1) := by decide +kernel
theorem dX0_region_23 : decode cX0_region 23 = .ok (.aload_n 0, 1) := by decide +kernel
theorem dX0_region_24 : decode cX0_region 24 = .ok (.iload_n 2, 1) := by decide +kernel
theorem dX0_region_25 : decode cX0_region 25 = .ok (.invokevirtual 86, 3) := by decide +kernel
theorem dX0_region_28 : decode cX0_region 28 = .ok (.lstore_n 3, 1) := by decide +kernel
theorem dX0_region_29 : decode cX0_region 29 = .ok (.iload_n 1, 1) := by decide +kernel
theorem dX0_region_30 : decode cX0_region 30 = .ok (.ifCond .ne 7, 3) := by decide +kernel
theorem dX0_region_33 : decode cX0_region 33 = .ok (.lload_n 3, 1) := by decide +kernel
theorem dX0_region_34 : decode cX0_region 34 = .ok (.goto 9, 3) := by decide +kernel
theorem dX0_region_37 : decode cX0_region 37 = .ok (.aload_n 0, 1) := by decide +kernel
theorem dX0_region_38 : decode cX0_region 38 = .ok (.lload_n 3, 1) := by decide +kernel
theorem dX0_region_39 : decode cX0_region 39 = .ok (.iload_n 2, 1) := by decide +kernel
theorem dX0_region_40 : decode cX0_region 40 = .ok (.invokevirtual 90, 3) := by decide +kernel
theorem dX0_region_43 : decode cX0_region 43 = .ok (.lreturn, 1) := by decide +kernel
theorem dX0_hull_0 : decode cX0_hull 0 = .ok (.iload_n 1, 1) := by decide +kernel
theorem dX0_hull_1 : decode cX0_hull 1 = .ok (.ifCond .lt 18, 3) := by decide +kernel
theorem dX0_hull_4 : decode cX0_hull 4 = .ok (.iload_n 1, 1) := by decide +kernel
theorem dX0_hull_5 : decode cX0_hull 5 = .ok (.aload_n 0, 1) := by decide +kernel
theorem dX0_hull_6 : decode cX0_hull 6 = .ok (.invokevirtual 94, 3) := by decide +kernel
theorem dX0_hull_9 : decode cX0_hull 9 = .ok (.if_icmp .ge 10, 3) := by decide +kernel
theorem dX0_hull_12 : decode cX0_hull 12 = .ok (.iload_n 2, 1) := by decide +kernel
theorem dX0_hull_13 : decode cX0_hull 13 = .ok (.invokestatic 79, 3) := by decide +kernel
theorem dX0_hull_16 : decode cX0_hull 16 = .ok (.ifCond .ne 7, 3) := by decide +kernel
theorem dX0_hull_19 : decode cX0_hull 19 = .ok (.ldc2_w 46, 3) := by decide +kernel
theorem dX0_hull_22 : decode cX0_hull 22 = .ok (.lreturn, 1) := by decide +kernel
theorem dX0_hull_23 : decode cX0_hull 23 = .ok (.aload_n 0, 1) := by decide +kernel
theorem dX0_hull_24 : decode cX0_hull 24 = .ok (.invokevirtual 94, 3) := by decide +kernel
theorem dX0_hull_27 : decode cX0_hull 27 = .ok (.iload_n 1, 1) := by decide +kernel
theorem dX0_hull_28 : decode cX0_hull 28 = .ok (.isub, 1) := by decide +kernel
theorem dX0_hull_29 : decode cX0_hull 29 = .ok (.istore_n 3, 1) := by decide +kernel
theorem dX0_hull_30 : decode cX0_hull 30 = .ok (.iload_n 2, 1) := by decide +kernel
theorem dX0_hull_31 : decode cX0_hull 31 = .ok (.ifCond .ne 11, 3) := by decide +kernel
theorem dX0_hull_34 : decode cX0_hull 34 = .ok (.aload_n 0, 1) := by decide +kernel
theorem dX0_hull_35 : decode cX0_hull 35 = .ok (.iload_n 3, 1) := by decide +kernel
theorem dX0_hull_36 : decode cX0_hull 36 = .ok (.invokevirtual 86, 3) := by decide +kernel
theorem dX0_hull_39 : decode cX0_hull 39 = .ok (.goto 8, 3) := by decide +kernel
theorem dX0_hull_42 : decode cX0_hull 42 = .ok (.aload_n 0, 1) := by decide +kernel
theorem dX0_hull_43 : decode cX0_hull 43 = .ok (.iload_n 3, 1) := by decide +kernel
theorem dX0_hull_44 : decode cX0_hull 44 = .ok (.invokevirtual 97, 3) := by decide +kernel
theorem dX0_hull_47 : decode cX0_hull 47 = .ok (.lreturn, 1) := by decide +kernel
theorem dX0_chosen_0 : decode cX0_chosen 0 = .ok (.aload_n 0, 1) := by decide +kernel
theorem dX0_chosen_1 : decode cX0_chosen 1 = .ok (.getfield 16, 3) := by decide +kernel
theorem dX0_chosen_4 : decode cX0_chosen 4 = .ok (.iload_n 1, 1) := by decide +kernel
theorem dX0_chosen_5 : decode cX0_chosen 5 = .ok (.invokestatic 52, 3) := by decide +kernel
theorem dX0_chosen_8 : decode cX0_chosen 8 = .ok (.ifCond .eq 37, 3) := by decide +kernel
theorem dX0_chosen_11 : decode cX0_chosen 11 = .ok (.aload_n 0, 1) := by decide +kernel
theorem dX0_chosen_12 : decode cX0_chosen 12 = .ok (.getfield 9, 3) := by decide +kernel
theorem dX0_chosen_15 : decode cX0_chosen 15 = .ok (.iload_n 1, 1) := by decide +kernel
theorem dX0_chosen_16 : decode cX0_chosen 16 = .ok (.laload, 1) := by decide +kernel
theorem dX0_chosen_17 : decode cX0_chosen 17 = .ok (.aload_n 0, 1) := by decide +kernel
theorem dX0_chosen_18 : decode cX0_chosen 18 = .ok (.iconst 0, 1) := by decide +kernel
theorem dX0_chosen_19 : decode cX0_chosen 19 = .ok (.invokevirtual 100, 3) := by decide +kernel
theorem dX0_chosen_22 : decode cX0_chosen 22 = .ok (.lcmp, 1) := by decide +kernel
theorem dX0_chosen_23 : decode cX0_chosen 23 = .ok (.ifCond .gt 22, 3) := by decide +kernel
theorem dX0_chosen_26 : decode cX0_chosen 26 = .ok (.aload_n 0, 1) := by decide +kernel
theorem dX0_chosen_27 : decode cX0_chosen 27 = .ok (.iconst 1, 1) := by decide +kernel
theorem dX0_chosen_28 : decode cX0_chosen 28 = .ok (.invokevirtual 100, 3) := by decide +kernel
theorem dX0_chosen_31 : decode cX0_chosen 31 = .ok (.aload_n 0, 1) := by decide +kernel
theorem dX0_chosen_32 : decode cX0_chosen 32 = .ok (.getfield 13, 3) := by decide +kernel
theorem dX0_chosen_35 : decode cX0_chosen 35 = .ok (.iload_n 1, 1) := by decide +kernel
theorem dX0_chosen_36 : decode cX0_chosen 36 = .ok (.laload, 1) := by decide +kernel
theorem dX0_chosen_37 : decode cX0_chosen 37 = .ok (.lcmp, 1) := by decide +kernel
theorem dX0_chosen_38 : decode cX0_chosen 38 = .ok (.ifCond .gt 7, 3) := by decide +kernel
theorem dX0_chosen_41 : decode cX0_chosen 41 = .ok (.iconst 1, 1) := by decide +kernel
theorem dX0_chosen_42 : decode cX0_chosen 42 = .ok (.goto 4, 3) := by decide +kernel
theorem dX0_chosen_45 : decode cX0_chosen 45 = .ok (.iconst 0, 1) := by decide +kernel
theorem dX0_chosen_46 : decode cX0_chosen 46 = .ok (.ireturn, 1) := by decide +kernel
theorem dX0_mean_0 : decode cX0_mean 0 = .ok (.aload_n 0, 1) := by decide +kernel
theorem dX0_mean_1 : decode cX0_mean 1 = .ok (.getfield 16, 3) := by decide +kernel
theorem dX0_mean_4 : decode cX0_mean 4 = .ok (.ifCond .eq 16, 3) := by decide +kernel
theorem dX0_mean_7 : decode cX0_mean 7 = .ok (.lload_n 1, 1) := by decide +kernel
theorem dX0_mean_8 : decode cX0_mean 8 = .ok (.lconst 0, 1) := by decide +kernel
theorem dX0_mean_9 : decode cX0_mean 9 = .ok (.lcmp, 1) := by decide +kernel
theorem dX0_mean_10 : decode cX0_mean 10 = .ok (.ifCond .lt 10, 3) := by decide +kernel
theorem dX0_mean_13 : decode cX0_mean 13 = .ok (.iload_n 3, 1) := by decide +kernel
theorem dX0_mean_14 : decode cX0_mean 14 = .ok (.invokestatic 79, 3) := by decide +kernel
theorem dX0_mean_17 : decode cX0_mean 17 = .ok (.ifCond .ne 7, 3) := by decide +kernel
theorem dX0_mean_20 : decode cX0_mean 20 = .ok (.ldc2_w 46, 3) := by decide +kernel
theorem dX0_mean_23 : decode cX0_mean 23 = .ok (.lreturn, 1) := by decide +kernel
theorem dX0_mean_24 : decode cX0_mean 24 = .ok (.aload_n 0, 1) := by decide +kernel
theorem dX0_mean_25 : decode cX0_mean 25 = .ok (.aload_n 0, 1) := by decide +kernel
theorem dX0_mean_26 : decode cX0_mean 26 = .ok (.invokevirtual 103, 3) := by decide +kernel
theorem dX0_mean_29 : decode cX0_mean 29 = .ok (.lload_n 1, 1) := by decide +kernel
theorem dX0_mean_30 : decode cX0_mean 30 = .ok (.invokevirtual 107, 3) := by decide +kernel
theorem dX0_mean_33 : decode cX0_mean 33 = .ok (.istore 4, 2) := by decide +kernel
theorem dX0_mean_35 : decode cX0_mean 35 = .ok (.iload_n 3, 1) := by decide +kernel
theorem dX0_mean_36 : decode cX0_mean 36 = .ok (.ifCond .ne 12, 3) := by decide +kernel
theorem dX0_mean_39 : decode cX0_mean 39 = .ok (.aload_n 0, 1) := by decide +kernel
theorem dX0_mean_40 : decode cX0_mean 40 = .ok (.iload 4, 2) := by decide +kernel
theorem dX0_mean_42 : decode cX0_mean 42 = .ok (.invokevirtual 111, 3) := by decide +kernel
theorem dX0_mean_45 : decode cX0_mean 45 = .ok (.goto 9, 3) := by decide +kernel
theorem dX0_mean_48 : decode cX0_mean 48 = .ok (.iload 4, 2) := by decide +kernel
theorem dX0_mean_50 : decode cX0_mean 50 = .ok (.invokestatic 60, 3) := by decide +kernel
theorem dX0_mean_53 : decode cX0_mean 53 = .ok (.i2l, 1) := by decide +kernel
theorem dX0_mean_54 : decode cX0_mean 54 = .ok (.lreturn, 1) := by decide +kernel
theorem dX0_survivors_0 : decode cX0_survivors 0 = .ok (.iload_n 1, 1) := by decide +kernel
theorem dX0_survivors_1 : decode cX0_survivors 1 = .ok (.invokestatic 114, 3) := by decide +kernel
theorem dX0_survivors_4 : decode cX0_survivors 4 = .ok (.ifCond .eq 11, 3) := by decide +kernel
theorem dX0_survivors_7 : decode cX0_survivors 7 = .ok (.aload_n 0, 1) := by decide +kernel
theorem dX0_survivors_8 : decode cX0_survivors 8 = .ok (.iload_n 1, 1) := by decide +kernel
theorem dX0_survivors_9 : decode cX0_survivors 9 = .ok (.invokevirtual 117, 3) := by decide +kernel
theorem dX0_survivors_12 : decode cX0_survivors 12 = .ok (.goto 4, 3) := by decide +kernel
theorem dX0_survivors_15 : decode cX0_survivors 15 = .ok (.iconst (-1), 1) := by decide +kernel
theorem dX0_survivors_16 : decode cX0_survivors 16 = .ok (.ireturn, 1) := by decide +kernel
theorem dX0_rank_0 : decode cX0_rank 0 = .ok (.iload_n 2, 1) := by decide +kernel
theorem dX0_rank_1 : decode cX0_rank 1 = .ok (.invokestatic 114, 3) := by decide +kernel
theorem dX0_rank_4 : decode cX0_rank 4 = .ok (.ifCond .ne 5, 3) := by decide +kernel
theorem dX0_rank_7 : decode cX0_rank 7 = .ok (.iconst (-1), 1) := by decide +kernel
theorem dX0_rank_8 : decode cX0_rank 8 = .ok (.ireturn, 1) := by decide +kernel
theorem dX0_rank_9 : decode cX0_rank 9 = .ok (.aload_n 0, 1) := by decide +kernel
theorem dX0_rank_10 : decode cX0_rank 10 = .ok (.iload_n 2, 1) := by decide +kernel
theorem dX0_rank_11 : decode cX0_rank 11 = .ok (.invokevirtual 117, 3) := by decide +kernel
theorem dX0_rank_14 : decode cX0_rank 14 = .ok (.istore_n 3, 1) := by decide +kernel
theorem dX0_rank_15 : decode cX0_rank 15 = .ok (.iload_n 3, 1) := by decide +kernel
theorem dX0_rank_16 : decode cX0_rank 16 = .ok (.iload_n 1, 1) := by decide +kernel
theorem dX0_rank_17 : decode cX0_rank 17 = .ok (.invokestatic 52, 3) := by decide +kernel
theorem dX0_rank_20 : decode cX0_rank 20 = .ok (.ifCond .eq 12, 3) := by decide +kernel
theorem dX0_rank_23 : decode cX0_rank 23 = .ok (.aload_n 0, 1) := by decide +kernel
theorem dX0_rank_24 : decode cX0_rank 24 = .ok (.iload_n 1, 1) := by decide +kernel
theorem dX0_rank_25 : decode cX0_rank 25 = .ok (.iload_n 3, 1) := by decide +kernel
theorem dX0_rank_26 : decode cX0_rank 26 = .ok (.invokevirtual 120, 3) := by decide +kernel
theorem dX0_rank_29 : decode cX0_rank 29 = .ok (.goto 4, 3) := by decide +kernel
theorem dX0_rank_32 : decode cX0_rank 32 = .ok (.iconst (-1), 1) := by decide +kernel
theorem dX0_rank_33 : decode cX0_rank 33 = .ok (.ireturn, 1) := by decide +kernel
theorem dX0_tick_0 : decode cX0_tick 0 = .ok (.lload_n 1, 1) := by decide +kernel
theorem dX0_tick_1 : decode cX0_tick 1 = .ok (.aload_n 0, 1) := by decide +kernel
theorem dX0_tick_2 : decode cX0_tick 2 = .ok (.getfield 20, 3) := by decide +kernel
theorem dX0_tick_5 : decode cX0_tick 5 = .ok (.lcmp, 1) := by decide +kernel
theorem dX0_tick_6 : decode cX0_tick 6 = .ok (.ifCond .lt 11, 3) := by decide +kernel
theorem dX0_tick_9 : decode cX0_tick 9 = .ok (.lload_n 1, 1) := by decide +kernel
theorem dX0_tick_10 : decode cX0_tick 10 = .ok (.ldc2_w 123, 3) := by decide +kernel
theorem dX0_tick_13 : decode cX0_tick 13 = .ok (.lcmp, 1) := by decide +kernel
theorem dX0_tick_14 : decode cX0_tick 14 = .ok (.ifCond .le 5, 3) := by decide +kernel
theorem dX0_tick_17 : decode cX0_tick 17 = .ok (.iconst 0, 1) := by decide +kernel
theorem dX0_tick_18 : decode cX0_tick 18 = .ok (.ireturn, 1) := by decide +kernel
theorem dX0_tick_19 : decode cX0_tick 19 = .ok (.lload_n 1, 1) := by decide +kernel
theorem dX0_tick_20 : decode cX0_tick 20 = .ok (.aload_n 0, 1) := by decide +kernel
theorem dX0_tick_21 : decode cX0_tick 21 = .ok (.getfield 20, 3) := by decide +kernel
theorem dX0_tick_24 : decode cX0_tick 24 = .ok (.lsub, 1) := by decide +kernel
theorem dX0_tick_25 : decode cX0_tick 25 = .ok (.ldc2_w 125, 3) := by decide +kernel
theorem dX0_tick_28 : decode cX0_tick 28 = .ok (.ldiv, 1) := by decide +kernel
theorem dX0_tick_29 : decode cX0_tick 29 = .ok (.lstore_n 3, 1) := by decide +kernel
theorem dX0_tick_30 : decode cX0_tick 30 = .ok (.aload_n 0, 1) := by decide +kernel
theorem dX0_tick_31 : decode cX0_tick 31 = .ok (.dup, 1) := by decide +kernel
theorem dX0_tick_32 : decode cX0_tick 32 = .ok (.getfield 24, 3) := by decide +kernel
theorem dX0_tick_35 : decode cX0_tick 35 = .ok (.lload_n 3, 1) := by decide +kernel
theorem dX0_tick_36 : decode cX0_tick 36 = .ok (.lneg, 1) := by decide +kernel
theorem dX0_tick_37 : decode cX0_tick 37 = .ok (.lload_n 3, 1) := by decide +kernel
theorem dX0_tick_38 : decode cX0_tick 38 = .ok (.aload_n 0, 1) := by decide +kernel
theorem dX0_tick_39 : decode cX0_tick 39 = .ok (.getfield 27, 3) := by decide +kernel
theorem dX0_tick_42 : decode cX0_tick 42 = .ok (.aload_n 0, 1) := by decide +kernel
theorem dX0_tick_43 : decode cX0_tick 43 = .ok (.getfield 24, 3) := by decide +kernel
theorem dX0_tick_46 : decode cX0_tick 46 = .ok (.lsub, 1) := by decide +kernel
theorem dX0_tick_47 : decode cX0_tick 47 = .ok (.invokestatic 127, 3) := by decide +kernel
theorem dX0_tick_50 : decode cX0_tick 50 = .ok (.invokestatic 131, 3) := by decide +kernel
theorem dX0_tick_53 : decode cX0_tick 53 = .ok (.ladd, 1) := by decide +kernel
theorem dX0_tick_54 : decode cX0_tick 54 = .ok (.putfield 24, 3) := by decide +kernel
theorem dX0_tick_57 : decode cX0_tick 57 = .ok (.aload_n 0, 1) := by decide +kernel
theorem dX0_tick_58 : decode cX0_tick 58 = .ok (.lload_n 1, 1) := by decide +kernel
theorem dX0_tick_59 : decode cX0_tick 59 = .ok (.putfield 20, 3) := by decide +kernel
theorem dX0_tick_62 : decode cX0_tick 62 = .ok (.iconst 1, 1) := by decide +kernel
theorem dX0_tick_63 : decode cX0_tick 63 = .ok (.ireturn, 1) := by decide +kernel
theorem dX0_steer_0 : decode cX0_steer 0 = .ok (.iconst 2, 1) := by decide +kernel
theorem dX0_steer_1 : decode cX0_steer 1 = .ok (.aload_n 0, 1) := by decide +kernel
theorem dX0_steer_2 : decode cX0_steer 2 = .ok (.invokevirtual 82, 3) := by decide +kernel
theorem dX0_steer_5 : decode cX0_steer 5 = .ok (.imul, 1) := by decide +kernel
theorem dX0_steer_6 : decode cX0_steer 6 = .ok (.aload_n 0, 1) := by decide +kernel
theorem dX0_steer_7 : decode cX0_steer 7 = .ok (.invokevirtual 94, 3) := by decide +kernel
theorem dX0_steer_10 : decode cX0_steer 10 = .ok (.if_icmp .gt 5, 3) := by decide +kernel
theorem dX0_steer_13 : decode cX0_steer 13 = .ok (.iconst 0, 1) := by decide +kernel
theorem dX0_steer_14 : decode cX0_steer 14 = .ok (.ireturn, 1) := by decide +kernel
theorem dX0_steer_15 : decode cX0_steer 15 = .ok (.aload_n 0, 1) := by decide +kernel
theorem dX0_steer_16 : decode cX0_steer 16 = .ok (.aload_n 0, 1) := by decide +kernel
theorem dX0_steer_17 : decode cX0_steer 17 = .ok (.iconst 0, 1) := by decide +kernel
theorem dX0_steer_18 : decode cX0_steer 18 = .ok (.invokevirtual 100, 3) := by decide +kernel
theorem dX0_steer_21 : decode cX0_steer 21 = .ok (.aload_n 0, 1) := by decide +kernel
theorem dX0_steer_22 : decode cX0_steer 22 = .ok (.iconst 1, 1) := by decide +kernel
theorem dX0_steer_23 : decode cX0_steer 23 = .ok (.invokevirtual 100, 3) := by decide +kernel
theorem dX0_steer_26 : decode cX0_steer 26 = .ok (.ladd, 1) := by decide +kernel
theorem dX0_steer_27 : decode cX0_steer 27 = .ok (.invokestatic 48, 3) := by decide +kernel
theorem dX0_steer_30 : decode cX0_steer 30 = .ok (.putfield 27, 3) := by decide +kernel
theorem dX0_steer_33 : decode cX0_steer 33 = .ok (.iconst 1, 1) := by decide +kernel
theorem dX0_steer_34 : decode cX0_steer 34 = .ok (.ireturn, 1) := by decide +kernel
theorem dX0_read_0 : decode cX0_read 0 = .ok (.aload_n 0, 1) := by decide +kernel
theorem dX0_read_1 : decode cX0_read 1 = .ok (.getfield 20, 3) := by decide +kernel
theorem dX0_read_4 : decode cX0_read 4 = .ok (.aload_n 0, 1) := by decide +kernel
theorem dX0_read_5 : decode cX0_read 5 = .ok (.getfield 24, 3) := by decide +kernel
theorem dX0_read_8 : decode cX0_read 8 = .ok (.ladd, 1) := by decide +kernel
theorem dX0_read_9 : decode cX0_read 9 = .ok (.lreturn, 1) := by decide +kernel
theorem dX0_offset_0 : decode cX0_offset 0 = .ok (.iload_n 1, 1) := by decide +kernel
theorem dX0_offset_1 : decode cX0_offset 1 = .ok (.invokestatic 79, 3) := by decide +kernel
theorem dX0_offset_4 : decode cX0_offset 4 = .ok (.ifCond .ne 7, 3) := by decide +kernel
theorem dX0_offset_7 : decode cX0_offset 7 = .ok (.ldc2_w 46, 3) := by decide +kernel
theorem dX0_offset_10 : decode cX0_offset 10 = .ok (.lreturn, 1) := by decide +kernel
theorem dX0_offset_11 : decode cX0_offset 11 = .ok (.iload_n 1, 1) := by decide +kernel
theorem dX0_offset_12 : decode cX0_offset 12 = .ok (.ifCond .ne 10, 3) := by decide +kernel
theorem dX0_offset_15 : decode cX0_offset 15 = .ok (.aload_n 0, 1) := by decide +kernel
theorem dX0_offset_16 : decode cX0_offset 16 = .ok (.getfield 24, 3) := by decide +kernel
theorem dX0_offset_19 : decode cX0_offset 19 = .ok (.goto 7, 3) := by decide +kernel
theorem dX0_offset_22 : decode cX0_offset 22 = .ok (.aload_n 0, 1) := by decide +kernel
theorem dX0_offset_23 : decode cX0_offset 23 = .ok (.getfield 27, 3) := by decide +kernel
theorem dX0_offset_26 : decode cX0_offset 26 = .ok (.lreturn, 1) := by decide +kernel
theorem dX0_settles_0 : decode cX0_settles 0 = .ok (.aload_n 0, 1) := by decide +kernel
theorem dX0_settles_1 : decode cX0_settles 1 = .ok (.getfield 27, 3) := by decide +kernel
theorem dX0_settles_4 : decode cX0_settles 4 = .ok (.aload_n 0, 1) := by decide +kernel
theorem dX0_settles_5 : decode cX0_settles 5 = .ok (.getfield 24, 3) := by decide +kernel
theorem dX0_settles_8 : decode cX0_settles 8 = .ok (.lsub, 1) := by decide +kernel
theorem dX0_settles_9 : decode cX0_settles 9 = .ok (.invokestatic 133, 3) := by decide +kernel
theorem dX0_settles_12 : decode cX0_settles 12 = .ok (.lstore_n 1, 1) := by decide +kernel
theorem dX0_settles_13 : decode cX0_settles 13 = .ok (.lload_n 1, 1) := by decide +kernel
theorem dX0_settles_14 : decode cX0_settles 14 = .ok (.ldc2_w 136, 3) := by decide +kernel
theorem dX0_settles_17 : decode cX0_settles 17 = .ok (.lcmp, 1) := by decide +kernel
theorem dX0_settles_18 : decode cX0_settles 18 = .ok (.ifCond .le 9, 3) := by decide +kernel
theorem dX0_settles_21 : decode cX0_settles 21 = .ok (.ldc2_w 46, 3) := by decide +kernel
theorem dX0_settles_24 : decode cX0_settles 24 = .ok (.goto 8, 3) := by decide +kernel
theorem dX0_settles_27 : decode cX0_settles 27 = .ok (.lload_n 1, 1) := by decide +kernel
theorem dX0_settles_28 : decode cX0_settles 28 = .ok (.ldc2_w 125, 3) := by decide +kernel
theorem dX0_settles_31 : decode cX0_settles 31 = .ok (.lmul, 1) := by decide +kernel
theorem dX0_settles_32 : decode cX0_settles 32 = .ok (.lreturn, 1) := by decide +kernel
theorem dX0_isSource_0 : decode cX0_isSource 0 = .ok (.iload_n 0, 1) := by decide +kernel
theorem dX0_isSource_1 : decode cX0_isSource 1 = .ok (.ifCond .lt 13, 3) := by decide +kernel
theorem dX0_isSource_4 : decode cX0_isSource 4 = .ok (.iload_n 0, 1) := by decide +kernel
theorem dX0_isSource_5 : decode cX0_isSource 5 = .ok (.bipush 24, 2) := by decide +kernel
theorem dX0_isSource_7 : decode cX0_isSource 7 = .ok (.if_icmp .ge 7, 3) := by decide +kernel
theorem dX0_isSource_10 : decode cX0_isSource 10 = .ok (.iconst 1, 1) := by decide +kernel
theorem dX0_isSource_11 : decode cX0_isSource 11 = .ok (.goto 4, 3) := by decide +kernel
theorem dX0_isSource_14 : decode cX0_isSource 14 = .ok (.iconst 0, 1) := by decide +kernel
theorem dX0_isSource_15 : decode cX0_isSource 15 = .ok (.ireturn, 1) := by decide +kernel
theorem dX0_isTime_0 : decode cX0_isTime 0 = .ok (.lload_n 0, 1) := by decide +kernel
theorem dX0_isTime_1 : decode cX0_isTime 1 = .ok (.lconst 0, 1) := by decide +kernel
theorem dX0_isTime_2 : decode cX0_isTime 2 = .ok (.lcmp, 1) := by decide +kernel
theorem dX0_isTime_3 : decode cX0_isTime 3 = .ok (.ifCond .lt 15, 3) := by decide +kernel
theorem dX0_isTime_6 : decode cX0_isTime 6 = .ok (.lload_n 0, 1) := by decide +kernel
theorem dX0_isTime_7 : decode cX0_isTime 7 = .ok (.ldc2_w 123, 3) := by decide +kernel
theorem dX0_isTime_10 : decode cX0_isTime 10 = .ok (.lcmp, 1) := by decide +kernel
theorem dX0_isTime_11 : decode cX0_isTime 11 = .ok (.ifCond .gt 7, 3) := by decide +kernel
theorem dX0_isTime_14 : decode cX0_isTime 14 = .ok (.iconst 1, 1) := by decide +kernel
theorem dX0_isTime_15 : decode cX0_isTime 15 = .ok (.goto 4, 3) := by decide +kernel
theorem dX0_isTime_18 : decode cX0_isTime 18 = .ok (.iconst 0, 1) := by decide +kernel
theorem dX0_isTime_19 : decode cX0_isTime 19 = .ok (.ireturn, 1) := by decide +kernel
theorem dX0_isCount_0 : decode cX0_isCount 0 = .ok (.iload_n 0, 1) := by decide +kernel
theorem dX0_isCount_1 : decode cX0_isCount 1 = .ok (.iconst 1, 1) := by decide +kernel
theorem dX0_isCount_2 : decode cX0_isCount 2 = .ok (.if_icmp .lt 13, 3) := by decide +kernel
theorem dX0_isCount_5 : decode cX0_isCount 5 = .ok (.iload_n 0, 1) := by decide +kernel
theorem dX0_isCount_6 : decode cX0_isCount 6 = .ok (.bipush 24, 2) := by decide +kernel
theorem dX0_isCount_8 : decode cX0_isCount 8 = .ok (.if_icmp .gt 7, 3) := by decide +kernel
theorem dX0_isCount_11 : decode cX0_isCount 11 = .ok (.iconst 1, 1) := by decide +kernel
theorem dX0_isCount_12 : decode cX0_isCount 12 = .ok (.goto 4, 3) := by decide +kernel
theorem dX0_isCount_15 : decode cX0_isCount 15 = .ok (.iconst 0, 1) := by decide +kernel
theorem dX0_isCount_16 : decode cX0_isCount 16 = .ok (.ireturn, 1) := by decide +kernel
theorem dX0_isZeroOrOne_0 : decode cX0_isZeroOrOne 0 = .ok (.iload_n 0, 1) := by decide +kernel
theorem dX0_isZeroOrOne_1 : decode cX0_isZeroOrOne 1 = .ok (.ifCond .eq 8, 3) := by decide +kernel
theorem dX0_isZeroOrOne_4 : decode cX0_isZeroOrOne 4 = .ok (.iload_n 0, 1) := by decide +kernel
theorem dX0_isZeroOrOne_5 : decode cX0_isZeroOrOne 5 = .ok (.iconst 1, 1) := by decide +kernel
theorem dX0_isZeroOrOne_6 : decode cX0_isZeroOrOne 6 = .ok (.if_icmp .ne 7, 3) := by decide +kernel
theorem dX0_isZeroOrOne_9 : decode cX0_isZeroOrOne 9 = .ok (.iconst 1, 1) := by decide +kernel
theorem dX0_isZeroOrOne_10 : decode cX0_isZeroOrOne 10 = .ok (.goto 4, 3) := by decide +kernel
theorem dX0_isZeroOrOne_13 : decode cX0_isZeroOrOne 13 = .ok (.iconst 0, 1) := by decide +kernel
theorem dX0_isZeroOrOne_14 : decode cX0_isZeroOrOne 14 = .ok (.ireturn, 1) := by decide +kernel
theorem dX0_half_0 : decode cX0_half 0 = .ok (.lload_n 0, 1) := by decide +kernel
theorem dX0_half_1 : decode cX0_half 1 = .ok (.ldc2_w 138, 3) := by decide +kernel
theorem dX0_half_4 : decode cX0_half 4 = .ok (.invokestatic 140, 3) := by decide +kernel
theorem dX0_half_7 : decode cX0_half 7 = .ok (.lreturn, 1) := by decide +kernel
theorem dX0_isIn_0 : decode cX0_isIn 0 = .ok (.iload_n 1, 1) := by decide +kernel
theorem dX0_isIn_1 : decode cX0_isIn 1 = .ok (.invokestatic 30, 3) := by decide +kernel
theorem dX0_isIn_4 : decode cX0_isIn 4 = .ok (.ifCond .eq 15, 3) := by decide +kernel
theorem dX0_isIn_7 : decode cX0_isIn 7 = .ok (.iload_n 0, 1) := by decide +kernel
theorem dX0_isIn_8 : decode cX0_isIn 8 = .ok (.iconst 1, 1) := by decide +kernel
theorem dX0_isIn_9 : decode cX0_isIn 9 = .ok (.iload_n 1, 1) := by decide +kernel
theorem dX0_isIn_10 : decode cX0_isIn 10 = .ok (.ishl, 1) := by decide +kernel
theorem dX0_isIn_11 : decode cX0_isIn 11 = .ok (.iand, 1) := by decide +kernel
theorem dX0_isIn_12 : decode cX0_isIn 12 = .ok (.ifCond .eq 7, 3) := by decide +kernel
theorem dX0_isIn_15 : decode cX0_isIn 15 = .ok (.iconst 1, 1) := by decide +kernel
theorem dX0_isIn_16 : decode cX0_isIn 16 = .ok (.goto 4, 3) := by decide +kernel
theorem dX0_isIn_19 : decode cX0_isIn 19 = .ok (.iconst 0, 1) := by decide +kernel
theorem dX0_isIn_20 : decode cX0_isIn 20 = .ok (.ireturn, 1) := by decide +kernel
theorem dX0_without_0 : decode cX0_without 0 = .ok (.iload_n 0, 1) := by decide +kernel
theorem dX0_without_1 : decode cX0_without 1 = .ok (.iconst 1, 1) := by decide +kernel
theorem dX0_without_2 : decode cX0_without 2 = .ok (.iload_n 1, 1) := by decide +kernel
theorem dX0_without_3 : decode cX0_without 3 = .ok (.ishl, 1) := by decide +kernel
theorem dX0_without_4 : decode cX0_without 4 = .ok (.iconst (-1), 1) := by decide +kernel
theorem dX0_without_5 : decode cX0_without 5 = .ok (.ixor, 1) := by decide +kernel
theorem dX0_without_6 : decode cX0_without 6 = .ok (.iand, 1) := by decide +kernel
theorem dX0_without_7 : decode cX0_without 7 = .ok (.ireturn, 1) := by decide +kernel
theorem dX0_hold_0 : decode cX0_hold 0 = .ok (.aload_n 0, 1) := by decide +kernel
theorem dX0_hold_1 : decode cX0_hold 1 = .ok (.getfield 9, 3) := by decide +kernel
theorem dX0_hold_4 : decode cX0_hold 4 = .ok (.iload_n 1, 1) := by decide +kernel
theorem dX0_hold_5 : decode cX0_hold 5 = .ok (.lload_n 2, 1) := by decide +kernel
theorem dX0_hold_6 : decode cX0_hold 6 = .ok (.lastore, 1) := by decide +kernel
theorem dX0_hold_7 : decode cX0_hold 7 = .ok (.aload_n 0, 1) := by decide +kernel
theorem dX0_hold_8 : decode cX0_hold 8 = .ok (.getfield 13, 3) := by decide +kernel
theorem dX0_hold_11 : decode cX0_hold 11 = .ok (.iload_n 1, 1) := by decide +kernel
theorem dX0_hold_12 : decode cX0_hold 12 = .ok (.lload 4, 2) := by decide +kernel
theorem dX0_hold_14 : decode cX0_hold 14 = .ok (.lastore, 1) := by decide +kernel
theorem dX0_hold_15 : decode cX0_hold 15 = .ok (.aload_n 0, 1) := by decide +kernel
theorem dX0_hold_16 : decode cX0_hold 16 = .ok (.dup, 1) := by decide +kernel
theorem dX0_hold_17 : decode cX0_hold 17 = .ok (.getfield 16, 3) := by decide +kernel
theorem dX0_hold_20 : decode cX0_hold 20 = .ok (.iconst 1, 1) := by decide +kernel
theorem dX0_hold_21 : decode cX0_hold 21 = .ok (.iload_n 1, 1) := by decide +kernel
theorem dX0_hold_22 : decode cX0_hold 22 = .ok (.ishl, 1) := by decide +kernel
theorem dX0_hold_23 : decode cX0_hold 23 = .ok (.ior, 1) := by decide +kernel
theorem dX0_hold_24 : decode cX0_hold 24 = .ok (.putfield 16, 3) := by decide +kernel
theorem dX0_hold_27 : decode cX0_hold 27 = .ok (.return_, 1) := by decide +kernel
theorem dX0_isCoveredBy_0 : decode cX0_isCoveredBy 0 = .ok (.aload_n 0, 1) := by decide +kernel
theorem dX0_isCoveredBy_1 : decode cX0_isCoveredBy 1 = .ok (.getfield 16, 3) := by decide +kernel
theorem dX0_isCoveredBy_4 : decode cX0_isCoveredBy 4 = .ok (.iload_n 1, 1) := by decide +kernel
theorem dX0_isCoveredBy_5 : decode cX0_isCoveredBy 5 = .ok (.invokestatic 52, 3) := by decide +kernel
theorem dX0_isCoveredBy_8 : decode cX0_isCoveredBy 8 = .ok (.ifCond .eq 29, 3) := by decide +kernel
theorem dX0_isCoveredBy_11 : decode cX0_isCoveredBy 11 = .ok (.aload_n 0, 1) := by decide +kernel
theorem dX0_isCoveredBy_12 : decode cX0_isCoveredBy 12 = .ok (.getfield 9, 3) := by decide +kernel
theorem dX0_isCoveredBy_15 : decode cX0_isCoveredBy 15 = .ok (.iload_n 1, 1) := by decide +kernel
theorem dX0_isCoveredBy_16 : decode cX0_isCoveredBy 16 = .ok (.laload, 1) := by decide +kernel
theorem dX0_isCoveredBy_17 : decode cX0_isCoveredBy 17 = .ok (.lload_n 2, 1) := by decide +kernel
theorem dX0_isCoveredBy_18 : decode cX0_isCoveredBy 18 = .ok (.lcmp, 1) := by decide +kernel
theorem dX0_isCoveredBy_19 : decode cX0_isCoveredBy 19 = .ok (.ifCond .gt 18, 3) := by decide +kernel
theorem dX0_isCoveredBy_22 : decode cX0_isCoveredBy 22 = .ok (.lload_n 2, 1) := by decide +kernel
theorem dX0_isCoveredBy_23 : decode cX0_isCoveredBy 23 = .ok (.aload_n 0, 1) := by decide +kernel
theorem dX0_isCoveredBy_24 : decode cX0_isCoveredBy 24 = .ok (.getfield 13, 3) := by decide +kernel
theorem dX0_isCoveredBy_27 : decode cX0_isCoveredBy 27 = .ok (.iload_n 1, 1) := by decide +kernel
theorem dX0_isCoveredBy_28 : decode cX0_isCoveredBy 28 = .ok (.laload, 1) := by decide +kernel
theorem dX0_isCoveredBy_29 : decode cX0_isCoveredBy 29 = .ok (.lcmp, 1) := by decide +kernel
theorem dX0_isCoveredBy_30 : decode cX0_isCoveredBy 30 = .ok (.ifCond .gt 7, 3) := by decide +kernel
theorem dX0_isCoveredBy_33 : decode cX0_isCoveredBy 33 = .ok (.iconst 1, 1) := by decide +kernel
theorem dX0_isCoveredBy_34 : decode cX0_isCoveredBy 34 = .ok (.goto 4, 3) := by decide +kernel
theorem dX0_isCoveredBy_37 : decode cX0_isCoveredBy 37 = .ok (.iconst 0, 1) := by decide +kernel
theorem dX0_isCoveredBy_38 : decode cX0_isCoveredBy 38 = .ok (.ireturn, 1) := by decide +kernel
theorem dX0_leastCoveredBy_0 : decode cX0_leastCoveredBy 0 = .ok (.ldc2_w 46, 3) := by decide +kernel
theorem dX0_leastCoveredBy_3 : decode cX0_leastCoveredBy 3 = .ok (.lstore_n 2, 1) := by decide +kernel
theorem dX0_leastCoveredBy_4 : decode cX0_leastCoveredBy 4 = .ok (.iconst 0, 1) := by decide +kernel
theorem dX0_leastCoveredBy_5 : decode cX0_leastCoveredBy 5 = .ok (.istore 4, 2) := by decide +kernel
theorem dX0_leastCoveredBy_7 : decode cX0_leastCoveredBy 7 = .ok (.iload 4, 2) := by decide +kernel
theorem dX0_leastCoveredBy_9 : decode cX0_leastCoveredBy 9 = .ok (.bipush 24, 2) := by decide +kernel
theorem dX0_leastCoveredBy_11 : decode cX0_leastCoveredBy 11 = .ok (.if_icmp .ge 64, 3) := by decide +kernel
theorem dX0_leastCoveredBy_14 : decode cX0_leastCoveredBy 14 = .ok (.aload_n 0, 1) := by decide +kernel
theorem dX0_leastCoveredBy_15 : decode cX0_leastCoveredBy 15 = .ok (.getfield 16, 3) := by decide +kernel
theorem dX0_leastCoveredBy_18 : decode cX0_leastCoveredBy 18 = .ok (.iload 4, 2) := by decide +kernel
theorem dX0_leastCoveredBy_20 : decode cX0_leastCoveredBy 20 = .ok (.invokestatic 52, 3) := by decide +kernel
theorem dX0_leastCoveredBy_23 : decode cX0_leastCoveredBy 23 = .ok (.ifCond .eq 46, 3) := by decide +kernel
theorem dX0_leastCoveredBy_26 : decode cX0_leastCoveredBy 26 = .ok (.aload_n 0, 1) := by decide +kernel
theorem dX0_leastCoveredBy_27 : decode cX0_leastCoveredBy 27 = .ok (.aload_n 0, 1) := by decide +kernel
theorem dX0_leastCoveredBy_28 : decode cX0_leastCoveredBy 28 = .ok (.getfield 9, 3) := by decide +kernel
theorem dX0_leastCoveredBy_31 : decode cX0_leastCoveredBy 31 = .ok (.iload 4, 2) := by decide +kernel
theorem dX0_leastCoveredBy_33 : decode cX0_leastCoveredBy 33 = .ok (.laload, 1) := by decide +kernel
theorem dX0_leastCoveredBy_34 : decode cX0_leastCoveredBy 34 = .ok (.invokevirtual 70, 3) := by decide +kernel
theorem dX0_leastCoveredBy_37 : decode cX0_leastCoveredBy 37 = .ok (.iload_n 1, 1) := by decide +kernel
theorem dX0_leastCoveredBy_38 : decode cX0_leastCoveredBy 38 = .ok (.if_icmp .lt 31, 3) := by decide +kernel
theorem dX0_leastCoveredBy_41 : decode cX0_leastCoveredBy 41 = .ok (.lload_n 2, 1) := by decide +kernel
theorem dX0_leastCoveredBy_42 : decode cX0_leastCoveredBy 42 = .ok (.ldc2_w 46, 3) := by decide +kernel
theorem dX0_leastCoveredBy_45 : decode cX0_leastCoveredBy 45 = .ok (.lcmp, 1) := by decide +kernel
theorem dX0_leastCoveredBy_46 : decode cX0_leastCoveredBy 46 = .ok (.ifCond .eq 15, 3) := by decide +kernel
theorem dX0_leastCoveredBy_49 : decode cX0_leastCoveredBy 49 = .ok (.aload_n 0, 1) := by decide +kernel
theorem dX0_leastCoveredBy_50 : decode cX0_leastCoveredBy 50 = .ok (.getfield 9, 3) := by decide +kernel
theorem dX0_leastCoveredBy_53 : decode cX0_leastCoveredBy 53 = .ok (.iload 4, 2) := by decide +kernel
theorem dX0_leastCoveredBy_55 : decode cX0_leastCoveredBy 55 = .ok (.laload, 1) := by decide +kernel
theorem dX0_leastCoveredBy_56 : decode cX0_leastCoveredBy 56 = .ok (.lload_n 2, 1) := by decide +kernel
theorem dX0_leastCoveredBy_57 : decode cX0_leastCoveredBy 57 = .ok (.lcmp, 1) := by decide +kernel
theorem dX0_leastCoveredBy_58 : decode cX0_leastCoveredBy 58 = .ok (.ifCond .ge 11, 3) := by decide +kernel
theorem dX0_leastCoveredBy_61 : decode cX0_leastCoveredBy 61 = .ok (.aload_n 0, 1) := by decide +kernel
theorem dX0_leastCoveredBy_62 : decode cX0_leastCoveredBy 62 = .ok (.getfield 9, 3) := by decide +kernel
theorem dX0_leastCoveredBy_65 : decode cX0_leastCoveredBy 65 = .ok (.iload 4, 2) := by decide +kernel
theorem dX0_leastCoveredBy_67 : decode cX0_leastCoveredBy 67 = .ok (.laload, 1) := by decide +kernel
theorem dX0_leastCoveredBy_68 : decode cX0_leastCoveredBy 68 = .ok (.lstore_n 2, 1) := by decide +kernel
theorem dX0_leastCoveredBy_69 : decode cX0_leastCoveredBy 69 = .ok (.iinc 4 1, 3) := by decide +kernel
theorem dX0_leastCoveredBy_72 : decode cX0_leastCoveredBy 72 = .ok (.goto (-65), 3) := by decide +kernel
theorem dX0_leastCoveredBy_75 : decode cX0_leastCoveredBy 75 = .ok (.lload_n 2, 1) := by decide +kernel
theorem dX0_leastCoveredBy_76 : decode cX0_leastCoveredBy 76 = .ok (.lreturn, 1) := by decide +kernel
theorem dX0_greatestCoveredBy_0 : decode cX0_greatestCoveredBy 0 = .ok (.ldc2_w 46, 3) := by decide +kernel
theorem dX0_greatestCoveredBy_3 : decode cX0_greatestCoveredBy 3 = .ok (.lstore_n 2, 1) := by decide +kernel
theorem dX0_greatestCoveredBy_4 : decode cX0_greatestCoveredBy 4 = .ok (.iconst 0, 1) := by decide +kernel
theorem dX0_greatestCoveredBy_5 : decode cX0_greatestCoveredBy 5 = .ok (.istore 4, 2) := by decide +kernel
theorem dX0_greatestCoveredBy_7 : decode cX0_greatestCoveredBy 7 = .ok (.iload 4, 2) := by decide +kernel
theorem dX0_greatestCoveredBy_9 : decode cX0_greatestCoveredBy 9 = .ok (.bipush 24, 2) := by decide +kernel
theorem dX0_greatestCoveredBy_11 : decode cX0_greatestCoveredBy 11 = .ok (.if_icmp .ge 48, 3) := by decide +kernel
theorem dX0_greatestCoveredBy_14 : decode cX0_greatestCoveredBy 14 = .ok (.aload_n 0, 1) := by decide +kernel
theorem dX0_greatestCoveredBy_15 : decode cX0_greatestCoveredBy 15 = .ok (.getfield 16, 3) := by decide +kernel
theorem dX0_greatestCoveredBy_18 : decode cX0_greatestCoveredBy 18 = .ok (.iload 4, 2) := by decide +kernel
theorem dX0_greatestCoveredBy_20 : decode cX0_greatestCoveredBy 20 = .ok (.invokestatic 52, 3) := by decide +kernel
theorem dX0_greatestCoveredBy_23 : decode cX0_greatestCoveredBy 23 = .ok (.ifCond .eq 30, 3) := by decide +kernel
theorem dX0_greatestCoveredBy_26 : decode cX0_greatestCoveredBy 26 = .ok (.aload_n 0, 1) := by decide +kernel
theorem dX0_greatestCoveredBy_27 : decode cX0_greatestCoveredBy 27 = .ok (.aload_n 0, 1) := by decide +kernel
theorem dX0_greatestCoveredBy_28 : decode cX0_greatestCoveredBy 28 = .ok (.getfield 13, 3) := by decide +kernel
theorem dX0_greatestCoveredBy_31 : decode cX0_greatestCoveredBy 31 = .ok (.iload 4, 2) := by decide +kernel
theorem dX0_greatestCoveredBy_33 : decode cX0_greatestCoveredBy 33 = .ok (.laload, 1) := by decide +kernel
theorem dX0_greatestCoveredBy_34 : decode cX0_greatestCoveredBy 34 = .ok (.invokevirtual 70, 3) := by decide +kernel
theorem dX0_greatestCoveredBy_37 : decode cX0_greatestCoveredBy 37 = .ok (.iload_n 1, 1) := by decide +kernel
theorem dX0_greatestCoveredBy_38 : decode cX0_greatestCoveredBy 38 = .ok (.if_icmp .lt 15, 3) := by decide +kernel
theorem dX0_greatestCoveredBy_41 : decode cX0_greatestCoveredBy 41 = .ok (.lload_n 2, 1) := by decide +kernel
theorem dX0_greatestCoveredBy_42 : decode cX0_greatestCoveredBy 42 = .ok (.aload_n 0, 1) := by decide +kernel
theorem dX0_greatestCoveredBy_43 : decode cX0_greatestCoveredBy 43 = .ok (.getfield 13, 3) := by decide +kernel
theorem dX0_greatestCoveredBy_46 : decode cX0_greatestCoveredBy 46 = .ok (.iload 4, 2) := by decide +kernel
theorem dX0_greatestCoveredBy_48 : decode cX0_greatestCoveredBy 48 = .ok (.laload, 1) := by decide +kernel
theorem dX0_greatestCoveredBy_49 : decode cX0_greatestCoveredBy 49 = .ok (.invokestatic 131, 3) := by decide +kernel
theorem dX0_greatestCoveredBy_52 : decode cX0_greatestCoveredBy 52 = .ok (.lstore_n 2, 1) := by decide +kernel
theorem dX0_greatestCoveredBy_53 : decode cX0_greatestCoveredBy 53 = .ok (.iinc 4 1, 3) := by decide +kernel
theorem dX0_greatestCoveredBy_56 : decode cX0_greatestCoveredBy 56 = .ok (.goto (-49), 3) := by decide +kernel
theorem dX0_greatestCoveredBy_59 : decode cX0_greatestCoveredBy 59 = .ok (.lload_n 2, 1) := by decide +kernel
theorem dX0_greatestCoveredBy_60 : decode cX0_greatestCoveredBy 60 = .ok (.lreturn, 1) := by decide +kernel
theorem dX0_endOfRow_0 : decode cX0_endOfRow 0 = .ok (.aload_n 0, 1) := by decide +kernel
theorem dX0_endOfRow_1 : decode cX0_endOfRow 1 = .ok (.lload_n 1, 1) := by decide +kernel
theorem dX0_endOfRow_2 : decode cX0_endOfRow 2 = .ok (.invokevirtual 143, 3) := by decide +kernel
theorem dX0_endOfRow_5 : decode cX0_endOfRow 5 = .ok (.lstore 4, 2) := by decide +kernel
theorem dX0_endOfRow_7 : decode cX0_endOfRow 7 = .ok (.iconst 0, 1) := by decide +kernel
theorem dX0_endOfRow_8 : decode cX0_endOfRow 8 = .ok (.istore 6, 2) := by decide +kernel
theorem dX0_endOfRow_10 : decode cX0_endOfRow 10 = .ok (.iload 6, 2) := by decide +kernel
theorem dX0_endOfRow_12 : decode cX0_endOfRow 12 = .ok (.bipush 24, 2) := by decide +kernel
theorem dX0_endOfRow_14 : decode cX0_endOfRow 14 = .ok (.if_icmp .ge 31, 3) := by decide +kernel
theorem dX0_endOfRow_17 : decode cX0_endOfRow 17 = .ok (.aload_n 0, 1) := by decide +kernel
theorem dX0_endOfRow_18 : decode cX0_endOfRow 18 = .ok (.lload 4, 2) := by decide +kernel
theorem dX0_endOfRow_20 : decode cX0_endOfRow 20 = .ok (.lconst 1, 1) := by decide +kernel
theorem dX0_endOfRow_21 : decode cX0_endOfRow 21 = .ok (.ladd, 1) := by decide +kernel
theorem dX0_endOfRow_22 : decode cX0_endOfRow 22 = .ok (.invokevirtual 70, 3) := by decide +kernel
theorem dX0_endOfRow_25 : decode cX0_endOfRow 25 = .ok (.iload_n 3, 1) := by decide +kernel
theorem dX0_endOfRow_26 : decode cX0_endOfRow 26 = .ok (.if_icmp .ne 19, 3) := by decide +kernel
theorem dX0_endOfRow_29 : decode cX0_endOfRow 29 = .ok (.aload_n 0, 1) := by decide +kernel
theorem dX0_endOfRow_30 : decode cX0_endOfRow 30 = .ok (.lload 4, 2) := by decide +kernel
theorem dX0_endOfRow_32 : decode cX0_endOfRow 32 = .ok (.lconst 1, 1) := by decide +kernel
theorem dX0_endOfRow_33 : decode cX0_endOfRow 33 = .ok (.ladd, 1) := by decide +kernel
theorem dX0_endOfRow_34 : decode cX0_endOfRow 34 = .ok (.invokevirtual 143, 3) := by decide +kernel
theorem dX0_endOfRow_37 : decode cX0_endOfRow 37 = .ok (.lstore 4, 2) := by decide +kernel
theorem dX0_endOfRow_39 : decode cX0_endOfRow 39 = .ok (.iinc 6 1, 3) := by decide +kernel
theorem dX0_endOfRow_42 : decode cX0_endOfRow 42 = .ok (.goto (-32), 3) := by decide +kernel
theorem dX0_endOfRow_45 : decode cX0_endOfRow 45 = .ok (.lload 4, 2) := by decide +kernel
theorem dX0_endOfRow_47 : decode cX0_endOfRow 47 = .ok (.lreturn, 1) := by decide +kernel
theorem dX0_firstHighFrom_0 : decode cX0_firstHighFrom 0 = .ok (.ldc2_w 36, 3) := by decide +kernel
theorem dX0_firstHighFrom_3 : decode cX0_firstHighFrom 3 = .ok (.lstore_n 3, 1) := by decide +kernel
theorem dX0_firstHighFrom_4 : decode cX0_firstHighFrom 4 = .ok (.iconst 0, 1) := by decide +kernel
theorem dX0_firstHighFrom_5 : decode cX0_firstHighFrom 5 = .ok (.istore 5, 2) := by decide +kernel
theorem dX0_firstHighFrom_7 : decode cX0_firstHighFrom 7 = .ok (.iload 5, 2) := by decide +kernel
theorem dX0_firstHighFrom_9 : decode cX0_firstHighFrom 9 = .ok (.bipush 24, 2) := by decide +kernel
theorem dX0_firstHighFrom_11 : decode cX0_firstHighFrom 11 = .ok (.if_icmp .ge 31, 3) := by decide +kernel
theorem dX0_firstHighFrom_14 : decode cX0_firstHighFrom 14 = .ok (.aload_n 0, 1) := by decide +kernel
theorem dX0_firstHighFrom_15 : decode cX0_firstHighFrom 15 = .ok (.iload 5, 2) := by decide +kernel
theorem dX0_firstHighFrom_17 : decode cX0_firstHighFrom 17 = .ok (.lload_n 1, 1) := by decide +kernel
theorem dX0_firstHighFrom_18 : decode cX0_firstHighFrom 18 = .ok (.invokevirtual 66, 3) := by decide +kernel
theorem dX0_firstHighFrom_21 : decode cX0_firstHighFrom 21 = .ok (.ifCond .eq 15, 3) := by decide +kernel
theorem dX0_firstHighFrom_24 : decode cX0_firstHighFrom 24 = .ok (.lload_n 3, 1) := by decide +kernel
theorem dX0_firstHighFrom_25 : decode cX0_firstHighFrom 25 = .ok (.aload_n 0, 1) := by decide +kernel
theorem dX0_firstHighFrom_26 : decode cX0_firstHighFrom 26 = .ok (.getfield 13, 3) := by decide +kernel
theorem dX0_firstHighFrom_29 : decode cX0_firstHighFrom 29 = .ok (.iload 5, 2) := by decide +kernel
theorem dX0_firstHighFrom_31 : decode cX0_firstHighFrom 31 = .ok (.laload, 1) := by decide +kernel
theorem dX0_firstHighFrom_32 : decode cX0_firstHighFrom 32 = .ok (.invokestatic 127, 3) := by decide +kernel
theorem dX0_firstHighFrom_35 : decode cX0_firstHighFrom 35 = .ok (.lstore_n 3, 1) := by decide +kernel
theorem dX0_firstHighFrom_36 : decode cX0_firstHighFrom 36 = .ok (.iinc 5 1, 3) := by decide +kernel
theorem dX0_firstHighFrom_39 : decode cX0_firstHighFrom 39 = .ok (.goto (-32), 3) := by decide +kernel
theorem dX0_firstHighFrom_42 : decode cX0_firstHighFrom 42 = .ok (.lload_n 3, 1) := by decide +kernel
theorem dX0_firstHighFrom_43 : decode cX0_firstHighFrom 43 = .ok (.lreturn, 1) := by decide +kernel
theorem dX0_middle_0 : decode cX0_middle 0 = .ok (.aload_n 0, 1) := by decide +kernel
theorem dX0_middle_1 : decode cX0_middle 1 = .ok (.getfield 9, 3) := by decide +kernel
theorem dX0_middle_4 : decode cX0_middle 4 = .ok (.iload_n 1, 1) := by decide +kernel
theorem dX0_middle_5 : decode cX0_middle 5 = .ok (.laload, 1) := by decide +kernel
theorem dX0_middle_6 : decode cX0_middle 6 = .ok (.aload_n 0, 1) := by decide +kernel
theorem dX0_middle_7 : decode cX0_middle 7 = .ok (.getfield 13, 3) := by decide +kernel
theorem dX0_middle_10 : decode cX0_middle 10 = .ok (.iload_n 1, 1) := by decide +kernel
theorem dX0_middle_11 : decode cX0_middle 11 = .ok (.laload, 1) := by decide +kernel
theorem dX0_middle_12 : decode cX0_middle 12 = .ok (.ladd, 1) := by decide +kernel
theorem dX0_middle_13 : decode cX0_middle 13 = .ok (.invokestatic 48, 3) := by decide +kernel
theorem dX0_middle_16 : decode cX0_middle 16 = .ok (.lreturn, 1) := by decide +kernel
theorem dX0_medianMiddle_0 : decode cX0_medianMiddle 0 = .ok (.aload_n 0, 1) := by decide +kernel
theorem dX0_medianMiddle_1 : decode cX0_medianMiddle 1 = .ok (.invokevirtual 94, 3) := by decide +kernel
theorem dX0_medianMiddle_4 : decode cX0_medianMiddle 4 = .ok (.iconst 1, 1) := by decide +kernel
theorem dX0_medianMiddle_5 : decode cX0_medianMiddle 5 = .ok (.isub, 1) := by decide +kernel
theorem dX0_medianMiddle_6 : decode cX0_medianMiddle 6 = .ok (.iconst 2, 1) := by decide +kernel
theorem dX0_medianMiddle_7 : decode cX0_medianMiddle 7 = .ok (.idiv, 1) := by decide +kernel
theorem dX0_medianMiddle_8 : decode cX0_medianMiddle 8 = .ok (.istore_n 1, 1) := by decide +kernel
theorem dX0_medianMiddle_9 : decode cX0_medianMiddle 9 = .ok (.iconst 0, 1) := by decide +kernel
theorem dX0_medianMiddle_10 : decode cX0_medianMiddle 10 = .ok (.istore_n 2, 1) := by decide +kernel
theorem dX0_medianMiddle_11 : decode cX0_medianMiddle 11 = .ok (.iload_n 2, 1) := by decide +kernel
theorem dX0_medianMiddle_12 : decode cX0_medianMiddle 12 = .ok (.bipush 24, 2) := by decide +kernel
theorem dX0_medianMiddle_14 : decode cX0_medianMiddle 14 = .ok (.if_icmp .ge 39, 3) := by decide +kernel
theorem dX0_medianMiddle_17 : decode cX0_medianMiddle 17 = .ok (.aload_n 0, 1) := by decide +kernel
theorem dX0_medianMiddle_18 : decode cX0_medianMiddle 18 = .ok (.getfield 16, 3) := by decide +kernel
theorem dX0_medianMiddle_21 : decode cX0_medianMiddle 21 = .ok (.iload_n 2, 1) := by decide +kernel
theorem dX0_medianMiddle_22 : decode cX0_medianMiddle 22 = .ok (.invokestatic 52, 3) := by decide +kernel
theorem dX0_medianMiddle_25 : decode cX0_medianMiddle 25 = .ok (.ifCond .eq 22, 3) := by decide +kernel
theorem dX0_medianMiddle_28 : decode cX0_medianMiddle 28 = .ok (.aload_n 0, 1) := by decide +kernel
theorem dX0_medianMiddle_29 : decode cX0_medianMiddle 29 = .ok (.iload_n 2, 1) := by decide +kernel
theorem dX0_medianMiddle_30 : decode cX0_medianMiddle 30 = .ok (.aload_n 0, 1) := by decide +kernel
theorem dX0_medianMiddle_31 : decode cX0_medianMiddle 31 = .ok (.getfield 16, 3) := by decide +kernel
theorem dX0_medianMiddle_34 : decode cX0_medianMiddle 34 = .ok (.invokevirtual 120, 3) := by decide +kernel
theorem dX0_medianMiddle_37 : decode cX0_medianMiddle 37 = .ok (.iload_n 1, 1) := by decide +kernel
theorem dX0_medianMiddle_38 : decode cX0_medianMiddle 38 = .ok (.if_icmp .ne 9, 3) := by decide +kernel
theorem dX0_medianMiddle_41 : decode cX0_medianMiddle 41 = .ok (.aload_n 0, 1) := by decide +kernel
theorem dX0_medianMiddle_42 : decode cX0_medianMiddle 42 = .ok (.iload_n 2, 1) := by decide +kernel
theorem dX0_medianMiddle_43 : decode cX0_medianMiddle 43 = .ok (.invokevirtual 146, 3) := by decide +kernel
theorem dX0_medianMiddle_46 : decode cX0_medianMiddle 46 = .ok (.lreturn, 1) := by decide +kernel
theorem dX0_medianMiddle_47 : decode cX0_medianMiddle 47 = .ok (.iinc 2 1, 3) := by decide +kernel
theorem dX0_medianMiddle_50 : decode cX0_medianMiddle 50 = .ok (.goto (-39), 3) := by decide +kernel
theorem dX0_medianMiddle_53 : decode cX0_medianMiddle 53 = .ok (.ldc2_w 46, 3) := by decide +kernel
theorem dX0_medianMiddle_56 : decode cX0_medianMiddle 56 = .ok (.lreturn, 1) := by decide +kernel
theorem dX0_place_0 : decode cX0_place 0 = .ok (.aload_n 0, 1) := by decide +kernel
theorem dX0_place_1 : decode cX0_place 1 = .ok (.iload_n 1, 1) := by decide +kernel
theorem dX0_place_2 : decode cX0_place 2 = .ok (.invokevirtual 146, 3) := by decide +kernel
theorem dX0_place_5 : decode cX0_place 5 = .ok (.lstore_n 3, 1) := by decide +kernel
theorem dX0_place_6 : decode cX0_place 6 = .ok (.iconst 0, 1) := by decide +kernel
theorem dX0_place_7 : decode cX0_place 7 = .ok (.istore 5, 2) := by decide +kernel
theorem dX0_place_9 : decode cX0_place 9 = .ok (.iconst 0, 1) := by decide +kernel
theorem dX0_place_10 : decode cX0_place 10 = .ok (.istore 6, 2) := by decide +kernel
theorem dX0_place_12 : decode cX0_place 12 = .ok (.iload 6, 2) := by decide +kernel
theorem dX0_place_14 : decode cX0_place 14 = .ok (.bipush 24, 2) := by decide +kernel
theorem dX0_place_16 : decode cX0_place 16 = .ok (.if_icmp .ge 49, 3) := by decide +kernel
theorem dX0_place_19 : decode cX0_place 19 = .ok (.iload_n 2, 1) := by decide +kernel
theorem dX0_place_20 : decode cX0_place 20 = .ok (.iload 6, 2) := by decide +kernel
theorem dX0_place_22 : decode cX0_place 22 = .ok (.invokestatic 52, 3) := by decide +kernel
theorem dX0_place_25 : decode cX0_place 25 = .ok (.ifCond .eq 34, 3) := by decide +kernel
theorem dX0_place_28 : decode cX0_place 28 = .ok (.aload_n 0, 1) := by decide +kernel
theorem dX0_place_29 : decode cX0_place 29 = .ok (.iload 6, 2) := by decide +kernel
theorem dX0_place_31 : decode cX0_place 31 = .ok (.invokevirtual 146, 3) := by decide +kernel
theorem dX0_place_34 : decode cX0_place 34 = .ok (.lload_n 3, 1) := by decide +kernel
theorem dX0_place_35 : decode cX0_place 35 = .ok (.lcmp, 1) := by decide +kernel
theorem dX0_place_36 : decode cX0_place 36 = .ok (.ifCond .lt 20, 3) := by decide +kernel
theorem dX0_place_39 : decode cX0_place 39 = .ok (.aload_n 0, 1) := by decide +kernel
theorem dX0_place_40 : decode cX0_place 40 = .ok (.iload 6, 2) := by decide +kernel
theorem dX0_place_42 : decode cX0_place 42 = .ok (.invokevirtual 146, 3) := by decide +kernel
theorem dX0_place_45 : decode cX0_place 45 = .ok (.lload_n 3, 1) := by decide +kernel
theorem dX0_place_46 : decode cX0_place 46 = .ok (.lcmp, 1) := by decide +kernel
theorem dX0_place_47 : decode cX0_place 47 = .ok (.ifCond .ne 12, 3) := by decide +kernel
theorem dX0_place_50 : decode cX0_place 50 = .ok (.iload 6, 2) := by decide +kernel
theorem dX0_place_52 : decode cX0_place 52 = .ok (.iload_n 1, 1) := by decide +kernel
theorem dX0_place_53 : decode cX0_place 53 = .ok (.if_icmp .ge 6, 3) := by decide +kernel
theorem dX0_place_56 : decode cX0_place 56 = .ok (.iinc 5 1, 3) := by decide +kernel
theorem dX0_place_59 : decode cX0_place 59 = .ok (.iinc 6 1, 3) := by decide +kernel
theorem dX0_place_62 : decode cX0_place 62 = .ok (.goto (-50), 3) := by decide +kernel
theorem dX0_place_65 : decode cX0_place 65 = .ok (.iload 5, 2) := by decide +kernel
theorem dX0_place_67 : decode cX0_place 67 = .ok (.ireturn, 1) := by decide +kernel
theorem dX0_nearTo_0 : decode cX0_nearTo 0 = .ok (.aload_n 0, 1) := by decide +kernel
theorem dX0_nearTo_1 : decode cX0_nearTo 1 = .ok (.getfield 16, 3) := by decide +kernel
theorem dX0_nearTo_4 : decode cX0_nearTo 4 = .ok (.istore 5, 2) := by decide +kernel
theorem dX0_nearTo_6 : decode cX0_nearTo 6 = .ok (.iconst 0, 1) := by decide +kernel
theorem dX0_nearTo_7 : decode cX0_nearTo 7 = .ok (.istore 6, 2) := by decide +kernel
theorem dX0_nearTo_9 : decode cX0_nearTo 9 = .ok (.iload 6, 2) := by decide +kernel
theorem dX0_nearTo_11 : decode cX0_nearTo 11 = .ok (.bipush 24, 2) := by decide +kernel
theorem dX0_nearTo_13 : decode cX0_nearTo 13 = .ok (.if_icmp .ge 46, 3) := by decide +kernel
theorem dX0_nearTo_16 : decode cX0_nearTo 16 = .ok (.aload_n 0, 1) := by decide +kernel
theorem dX0_nearTo_17 : decode cX0_nearTo 17 = .ok (.getfield 16, 3) := by decide +kernel
theorem dX0_nearTo_20 : decode cX0_nearTo 20 = .ok (.iload 6, 2) := by decide +kernel
theorem dX0_nearTo_22 : decode cX0_nearTo 22 = .ok (.invokestatic 52, 3) := by decide +kernel
theorem dX0_nearTo_25 : decode cX0_nearTo 25 = .ok (.ifCond .eq 28, 3) := by decide +kernel
theorem dX0_nearTo_28 : decode cX0_nearTo 28 = .ok (.aload_n 0, 1) := by decide +kernel
theorem dX0_nearTo_29 : decode cX0_nearTo 29 = .ok (.iload 6, 2) := by decide +kernel
theorem dX0_nearTo_31 : decode cX0_nearTo 31 = .ok (.invokevirtual 146, 3) := by decide +kernel
theorem dX0_nearTo_34 : decode cX0_nearTo 34 = .ok (.lload_n 1, 1) := by decide +kernel
theorem dX0_nearTo_35 : decode cX0_nearTo 35 = .ok (.lsub, 1) := by decide +kernel
theorem dX0_nearTo_36 : decode cX0_nearTo 36 = .ok (.invokestatic 133, 3) := by decide +kernel
theorem dX0_nearTo_39 : decode cX0_nearTo 39 = .ok (.lload_n 3, 1) := by decide +kernel
theorem dX0_nearTo_40 : decode cX0_nearTo 40 = .ok (.lcmp, 1) := by decide +kernel
theorem dX0_nearTo_41 : decode cX0_nearTo 41 = .ok (.ifCond .le 12, 3) := by decide +kernel
theorem dX0_nearTo_44 : decode cX0_nearTo 44 = .ok (.iload 5, 2) := by decide +kernel
theorem dX0_nearTo_46 : decode cX0_nearTo 46 = .ok (.iload 6, 2) := by decide +kernel
theorem dX0_nearTo_48 : decode cX0_nearTo 48 = .ok (.invokestatic 56, 3) := by decide +kernel
theorem dX0_nearTo_51 : decode cX0_nearTo 51 = .ok (.istore 5, 2) := by decide +kernel
theorem dX0_nearTo_53 : decode cX0_nearTo 53 = .ok (.iinc 6 1, 3) := by decide +kernel
theorem dX0_nearTo_56 : decode cX0_nearTo 56 = .ok (.goto (-47), 3) := by decide +kernel
theorem dX0_nearTo_59 : decode cX0_nearTo 59 = .ok (.iload 5, 2) := by decide +kernel
theorem dX0_nearTo_61 : decode cX0_nearTo 61 = .ok (.ireturn, 1) := by decide +kernel
theorem dX0_meanMiddle_0 : decode cX0_meanMiddle 0 = .ok (.iload_n 1, 1) := by decide +kernel
theorem dX0_meanMiddle_1 : decode cX0_meanMiddle 1 = .ok (.ifCond .ne 7, 3) := by decide +kernel
theorem dX0_meanMiddle_4 : decode cX0_meanMiddle 4 = .ok (.ldc2_w 46, 3) := by decide +kernel
theorem dX0_meanMiddle_7 : decode cX0_meanMiddle 7 = .ok (.lreturn, 1) := by decide +kernel
theorem dX0_meanMiddle_8 : decode cX0_meanMiddle 8 = .ok (.lconst 0, 1) := by decide +kernel
theorem dX0_meanMiddle_9 : decode cX0_meanMiddle 9 = .ok (.lstore_n 2, 1) := by decide +kernel
theorem dX0_meanMiddle_10 : decode cX0_meanMiddle 10 = .ok (.iconst 0, 1) := by decide +kernel
theorem dX0_meanMiddle_11 : decode cX0_meanMiddle 11 = .ok (.istore 4, 2) := by decide +kernel
theorem dX0_meanMiddle_13 : decode cX0_meanMiddle 13 = .ok (.iload 4, 2) := by decide +kernel
theorem dX0_meanMiddle_15 : decode cX0_meanMiddle 15 = .ok (.bipush 24, 2) := by decide +kernel
theorem dX0_meanMiddle_17 : decode cX0_meanMiddle 17 = .ok (.if_icmp .ge 27, 3) := by decide +kernel
theorem dX0_meanMiddle_20 : decode cX0_meanMiddle 20 = .ok (.iload_n 1, 1) := by decide +kernel
theorem dX0_meanMiddle_21 : decode cX0_meanMiddle 21 = .ok (.iload 4, 2) := by decide +kernel
theorem dX0_meanMiddle_23 : decode cX0_meanMiddle 23 = .ok (.invokestatic 52, 3) := by decide +kernel
theorem dX0_meanMiddle_26 : decode cX0_meanMiddle 26 = .ok (.ifCond .eq 12, 3) := by decide +kernel
theorem dX0_meanMiddle_29 : decode cX0_meanMiddle 29 = .ok (.lload_n 2, 1) := by decide +kernel
theorem dX0_meanMiddle_30 : decode cX0_meanMiddle 30 = .ok (.aload_n 0, 1) := by decide +kernel
theorem dX0_meanMiddle_31 : decode cX0_meanMiddle 31 = .ok (.iload 4, 2) := by decide +kernel
theorem dX0_meanMiddle_33 : decode cX0_meanMiddle 33 = .ok (.invokevirtual 146, 3) := by decide +kernel
theorem dX0_meanMiddle_36 : decode cX0_meanMiddle 36 = .ok (.ladd, 1) := by decide +kernel
theorem dX0_meanMiddle_37 : decode cX0_meanMiddle 37 = .ok (.lstore_n 2, 1) := by decide +kernel
theorem dX0_meanMiddle_38 : decode cX0_meanMiddle 38 = .ok (.iinc 4 1, 3) := by decide +kernel
theorem dX0_meanMiddle_41 : decode cX0_meanMiddle 41 = .ok (.goto (-28), 3) := by decide +kernel
theorem dX0_meanMiddle_44 : decode cX0_meanMiddle 44 = .ok (.lload_n 2, 1) := by decide +kernel
theorem dX0_meanMiddle_45 : decode cX0_meanMiddle 45 = .ok (.iload_n 1, 1) := by decide +kernel
theorem dX0_meanMiddle_46 : decode cX0_meanMiddle 46 = .ok (.invokestatic 60, 3) := by decide +kernel
theorem dX0_meanMiddle_49 : decode cX0_meanMiddle 49 = .ok (.i2l, 1) := by decide +kernel
theorem dX0_meanMiddle_50 : decode cX0_meanMiddle 50 = .ok (.invokestatic 140, 3) := by decide +kernel
theorem dX0_meanMiddle_53 : decode cX0_meanMiddle 53 = .ok (.lreturn, 1) := by decide +kernel
theorem dX0_leftOf_0 : decode cX0_leftOf 0 = .ok (.aload_n 0, 1) := by decide +kernel
theorem dX0_leftOf_1 : decode cX0_leftOf 1 = .ok (.getfield 16, 3) := by decide +kernel
theorem dX0_leftOf_4 : decode cX0_leftOf 4 = .ok (.istore_n 2, 1) := by decide +kernel
theorem dX0_leftOf_5 : decode cX0_leftOf 5 = .ok (.iconst 0, 1) := by decide +kernel
theorem dX0_leftOf_6 : decode cX0_leftOf 6 = .ok (.istore_n 3, 1) := by decide +kernel
theorem dX0_leftOf_7 : decode cX0_leftOf 7 = .ok (.iload_n 3, 1) := by decide +kernel
theorem dX0_leftOf_8 : decode cX0_leftOf 8 = .ok (.bipush 24, 2) := by decide +kernel
theorem dX0_leftOf_10 : decode cX0_leftOf 10 = .ok (.if_icmp .ge 27, 3) := by decide +kernel
theorem dX0_leftOf_13 : decode cX0_leftOf 13 = .ok (.iload_n 2, 1) := by decide +kernel
theorem dX0_leftOf_14 : decode cX0_leftOf 14 = .ok (.invokestatic 60, 3) := by decide +kernel
theorem dX0_leftOf_17 : decode cX0_leftOf 17 = .ok (.iload_n 1, 1) := by decide +kernel
theorem dX0_leftOf_18 : decode cX0_leftOf 18 = .ok (.if_icmp .le 19, 3) := by decide +kernel
theorem dX0_leftOf_21 : decode cX0_leftOf 21 = .ok (.iload_n 2, 1) := by decide +kernel
theorem dX0_leftOf_22 : decode cX0_leftOf 22 = .ok (.aload_n 0, 1) := by decide +kernel
theorem dX0_leftOf_23 : decode cX0_leftOf 23 = .ok (.iload_n 2, 1) := by decide +kernel
theorem dX0_leftOf_24 : decode cX0_leftOf 24 = .ok (.invokevirtual 149, 3) := by decide +kernel
theorem dX0_leftOf_27 : decode cX0_leftOf 27 = .ok (.invokestatic 56, 3) := by decide +kernel
theorem dX0_leftOf_30 : decode cX0_leftOf 30 = .ok (.istore_n 2, 1) := by decide +kernel
theorem dX0_leftOf_31 : decode cX0_leftOf 31 = .ok (.iinc 3 1, 3) := by decide +kernel
theorem dX0_leftOf_34 : decode cX0_leftOf 34 = .ok (.goto (-27), 3) := by decide +kernel
theorem dX0_leftOf_37 : decode cX0_leftOf 37 = .ok (.iload_n 2, 1) := by decide +kernel
theorem dX0_leftOf_38 : decode cX0_leftOf 38 = .ok (.ireturn, 1) := by decide +kernel
theorem dX0_farthest_0 : decode cX0_farthest 0 = .ok (.aload_n 0, 1) := by decide +kernel
theorem dX0_farthest_1 : decode cX0_farthest 1 = .ok (.iload_n 1, 1) := by decide +kernel
theorem dX0_farthest_2 : decode cX0_farthest 2 = .ok (.invokevirtual 111, 3) := by decide +kernel
theorem dX0_farthest_5 : decode cX0_farthest 5 = .ok (.lstore_n 2, 1) := by decide +kernel
theorem dX0_farthest_6 : decode cX0_farthest 6 = .ok (.lconst 0, 1) := by decide +kernel
theorem dX0_farthest_7 : decode cX0_farthest 7 = .ok (.lstore 4, 2) := by decide +kernel
theorem dX0_farthest_9 : decode cX0_farthest 9 = .ok (.iconst 0, 1) := by decide +kernel
theorem dX0_farthest_10 : decode cX0_farthest 10 = .ok (.istore 6, 2) := by decide +kernel
theorem dX0_farthest_12 : decode cX0_farthest 12 = .ok (.iconst 0, 1) := by decide +kernel
theorem dX0_farthest_13 : decode cX0_farthest 13 = .ok (.istore 7, 2) := by decide +kernel
theorem dX0_farthest_15 : decode cX0_farthest 15 = .ok (.iload 7, 2) := by decide +kernel
theorem dX0_farthest_17 : decode cX0_farthest 17 = .ok (.bipush 24, 2) := by decide +kernel
theorem dX0_farthest_19 : decode cX0_farthest 19 = .ok (.if_icmp .ge 52, 3) := by decide +kernel
theorem dX0_farthest_22 : decode cX0_farthest 22 = .ok (.iload_n 1, 1) := by decide +kernel
theorem dX0_farthest_23 : decode cX0_farthest 23 = .ok (.iload 7, 2) := by decide +kernel
theorem dX0_farthest_25 : decode cX0_farthest 25 = .ok (.invokestatic 52, 3) := by decide +kernel
theorem dX0_farthest_28 : decode cX0_farthest 28 = .ok (.ifCond .eq 37, 3) := by decide +kernel
theorem dX0_farthest_31 : decode cX0_farthest 31 = .ok (.aload_n 0, 1) := by decide +kernel
theorem dX0_farthest_32 : decode cX0_farthest 32 = .ok (.iload 7, 2) := by decide +kernel
theorem dX0_farthest_34 : decode cX0_farthest 34 = .ok (.invokevirtual 146, 3) := by decide +kernel
theorem dX0_farthest_37 : decode cX0_farthest 37 = .ok (.lload_n 2, 1) := by decide +kernel
theorem dX0_farthest_38 : decode cX0_farthest 38 = .ok (.lsub, 1) := by decide +kernel
theorem dX0_farthest_39 : decode cX0_farthest 39 = .ok (.invokestatic 133, 3) := by decide +kernel
theorem dX0_farthest_42 : decode cX0_farthest 42 = .ok (.lload 4, 2) := by decide +kernel
theorem dX0_farthest_44 : decode cX0_farthest 44 = .ok (.lcmp, 1) := by decide +kernel
theorem dX0_farthest_45 : decode cX0_farthest 45 = .ok (.ifCond .lt 20, 3) := by decide +kernel
theorem dX0_farthest_48 : decode cX0_farthest 48 = .ok (.aload_n 0, 1) := by decide +kernel
theorem dX0_farthest_49 : decode cX0_farthest 49 = .ok (.iload 7, 2) := by decide +kernel
theorem dX0_farthest_51 : decode cX0_farthest 51 = .ok (.invokevirtual 146, 3) := by decide +kernel
theorem dX0_farthest_54 : decode cX0_farthest 54 = .ok (.lload_n 2, 1) := by decide +kernel
theorem dX0_farthest_55 : decode cX0_farthest 55 = .ok (.lsub, 1) := by decide +kernel
theorem dX0_farthest_56 : decode cX0_farthest 56 = .ok (.invokestatic 133, 3) := by decide +kernel
theorem dX0_farthest_59 : decode cX0_farthest 59 = .ok (.lstore 4, 2) := by decide +kernel
theorem dX0_farthest_61 : decode cX0_farthest 61 = .ok (.iload 7, 2) := by decide +kernel
theorem dX0_farthest_63 : decode cX0_farthest 63 = .ok (.istore 6, 2) := by decide +kernel
theorem dX0_farthest_65 : decode cX0_farthest 65 = .ok (.iinc 7 1, 3) := by decide +kernel
theorem dX0_farthest_68 : decode cX0_farthest 68 = .ok (.goto (-53), 3) := by decide +kernel
theorem dX0_farthest_71 : decode cX0_farthest 71 = .ok (.iload 6, 2) := by decide +kernel
theorem dX0_farthest_73 : decode cX0_farthest 73 = .ok (.ireturn, 1) := by decide +kernel
theorem dJ6_bitCount_0f7a4_0 : decode cJ6_bitCount_0f7a4 0 = .ok (.iload_n 0, 1) := by decide +kernel
theorem dJ6_bitCount_0f7a4_1 : decode cJ6_bitCount_0f7a4 1 = .ok (.iload_n 0, 1) := by decide +kernel
theorem dJ6_bitCount_0f7a4_2 : decode cJ6_bitCount_0f7a4 2 = .ok (.iconst 1, 1) := by decide +kernel
theorem dJ6_bitCount_0f7a4_3 : decode cJ6_bitCount_0f7a4 3 = .ok (.iushr, 1) := by decide +kernel
theorem dJ6_bitCount_0f7a4_4 : decode cJ6_bitCount_0f7a4 4 = .ok (.ldc_w 265, 3) := by decide +kernel
theorem dJ6_bitCount_0f7a4_7 : decode cJ6_bitCount_0f7a4 7 = .ok (.iand, 1) := by decide +kernel
theorem dJ6_bitCount_0f7a4_8 : decode cJ6_bitCount_0f7a4 8 = .ok (.isub, 1) := by decide +kernel
theorem dJ6_bitCount_0f7a4_9 : decode cJ6_bitCount_0f7a4 9 = .ok (.istore_n 0, 1) := by decide +kernel
theorem dJ6_bitCount_0f7a4_10 : decode cJ6_bitCount_0f7a4 10 = .ok (.iload_n 0, 1) := by decide +kernel
theorem dJ6_bitCount_0f7a4_11 : decode cJ6_bitCount_0f7a4 11 = .ok (.ldc_w 266, 3) := by decide +kernel
theorem dJ6_bitCount_0f7a4_14 : decode cJ6_bitCount_0f7a4 14 = .ok (.iand, 1) := by decide +kernel
theorem dJ6_bitCount_0f7a4_15 : decode cJ6_bitCount_0f7a4 15 = .ok (.iload_n 0, 1) := by decide +kernel
theorem dJ6_bitCount_0f7a4_16 : decode cJ6_bitCount_0f7a4 16 = .ok (.iconst 2, 1) := by decide +kernel
theorem dJ6_bitCount_0f7a4_17 : decode cJ6_bitCount_0f7a4 17 = .ok (.iushr, 1) := by decide +kernel
theorem dJ6_bitCount_0f7a4_18 : decode cJ6_bitCount_0f7a4 18 = .ok (.ldc_w 266, 3) := by decide +kernel
theorem dJ6_bitCount_0f7a4_21 : decode cJ6_bitCount_0f7a4 21 = .ok (.iand, 1) := by decide +kernel
theorem dJ6_bitCount_0f7a4_22 : decode cJ6_bitCount_0f7a4 22 = .ok (.iadd, 1) := by decide +kernel
theorem dJ6_bitCount_0f7a4_23 : decode cJ6_bitCount_0f7a4 23 = .ok (.istore_n 0, 1) := by decide +kernel
theorem dJ6_bitCount_0f7a4_24 : decode cJ6_bitCount_0f7a4 24 = .ok (.iload_n 0, 1) := by decide +kernel
theorem dJ6_bitCount_0f7a4_25 : decode cJ6_bitCount_0f7a4 25 = .ok (.iload_n 0, 1) := by decide +kernel
theorem dJ6_bitCount_0f7a4_26 : decode cJ6_bitCount_0f7a4 26 = .ok (.iconst 4, 1) := by decide +kernel
theorem dJ6_bitCount_0f7a4_27 : decode cJ6_bitCount_0f7a4 27 = .ok (.iushr, 1) := by decide +kernel
theorem dJ6_bitCount_0f7a4_28 : decode cJ6_bitCount_0f7a4 28 = .ok (.iadd, 1) := by decide +kernel
theorem dJ6_bitCount_0f7a4_29 : decode cJ6_bitCount_0f7a4 29 = .ok (.ldc_w 267, 3) := by decide +kernel
theorem dJ6_bitCount_0f7a4_32 : decode cJ6_bitCount_0f7a4 32 = .ok (.iand, 1) := by decide +kernel
theorem dJ6_bitCount_0f7a4_33 : decode cJ6_bitCount_0f7a4 33 = .ok (.istore_n 0, 1) := by decide +kernel
theorem dJ6_bitCount_0f7a4_34 : decode cJ6_bitCount_0f7a4 34 = .ok (.iload_n 0, 1) := by decide +kernel
theorem dJ6_bitCount_0f7a4_35 : decode cJ6_bitCount_0f7a4 35 = .ok (.iload_n 0, 1) := by decide +kernel
theorem dJ6_bitCount_0f7a4_36 : decode cJ6_bitCount_0f7a4 36 = .ok (.bipush 8, 2) := by decide +kernel
theorem dJ6_bitCount_0f7a4_38 : decode cJ6_bitCount_0f7a4 38 = .ok (.iushr, 1) := by decide +kernel
theorem dJ6_bitCount_0f7a4_39 : decode cJ6_bitCount_0f7a4 39 = .ok (.iadd, 1) := by decide +kernel
theorem dJ6_bitCount_0f7a4_40 : decode cJ6_bitCount_0f7a4 40 = .ok (.istore_n 0, 1) := by decide +kernel
theorem dJ6_bitCount_0f7a4_41 : decode cJ6_bitCount_0f7a4 41 = .ok (.iload_n 0, 1) := by decide +kernel
theorem dJ6_bitCount_0f7a4_42 : decode cJ6_bitCount_0f7a4 42 = .ok (.iload_n 0, 1) := by decide +kernel
theorem dJ6_bitCount_0f7a4_43 : decode cJ6_bitCount_0f7a4 43 = .ok (.bipush 16, 2) := by decide +kernel
theorem dJ6_bitCount_0f7a4_45 : decode cJ6_bitCount_0f7a4 45 = .ok (.iushr, 1) := by decide +kernel
theorem dJ6_bitCount_0f7a4_46 : decode cJ6_bitCount_0f7a4 46 = .ok (.iadd, 1) := by decide +kernel
theorem dJ6_bitCount_0f7a4_47 : decode cJ6_bitCount_0f7a4 47 = .ok (.istore_n 0, 1) := by decide +kernel
theorem dJ6_bitCount_0f7a4_48 : decode cJ6_bitCount_0f7a4 48 = .ok (.iload_n 0, 1) := by decide +kernel
theorem dJ6_bitCount_0f7a4_49 : decode cJ6_bitCount_0f7a4 49 = .ok (.bipush 63, 2) := by decide +kernel
theorem dJ6_bitCount_0f7a4_51 : decode cJ6_bitCount_0f7a4 51 = .ok (.iand, 1) := by decide +kernel
theorem dJ6_bitCount_0f7a4_52 : decode cJ6_bitCount_0f7a4 52 = .ok (.ireturn, 1) := by decide +kernel
theorem dJ9_floorDiv_f86c9_0 : decode cJ9_floorDiv_f86c9 0 = .ok (.lload_n 0, 1) := by decide +kernel
theorem dJ9_floorDiv_f86c9_1 : decode cJ9_floorDiv_f86c9 1 = .ok (.lload_n 2, 1) := by decide +kernel
theorem dJ9_floorDiv_f86c9_2 : decode cJ9_floorDiv_f86c9 2 = .ok (.ldiv, 1) := by decide +kernel
theorem dJ9_floorDiv_f86c9_3 : decode cJ9_floorDiv_f86c9 3 = .ok (.lstore 4, 2) := by decide +kernel
theorem dJ9_floorDiv_f86c9_5 : decode cJ9_floorDiv_f86c9 5 = .ok (.lload_n 0, 1) := by decide +kernel
theorem dJ9_floorDiv_f86c9_6 : decode cJ9_floorDiv_f86c9 6 = .ok (.lload_n 2, 1) := by decide +kernel
theorem dJ9_floorDiv_f86c9_7 : decode cJ9_floorDiv_f86c9 7 = .ok (.lxor, 1) := by decide +kernel
theorem dJ9_floorDiv_f86c9_8 : decode cJ9_floorDiv_f86c9 8 = .ok (.lconst 0, 1) := by decide +kernel
theorem dJ9_floorDiv_f86c9_9 : decode cJ9_floorDiv_f86c9 9 = .ok (.lcmp, 1) := by decide +kernel
theorem dJ9_floorDiv_f86c9_10 : decode cJ9_floorDiv_f86c9 10 = .ok (.ifCond .ge 17, 3) := by decide +kernel
theorem dJ9_floorDiv_f86c9_13 : decode cJ9_floorDiv_f86c9 13 = .ok (.lload 4, 2) := by decide +kernel
theorem dJ9_floorDiv_f86c9_15 : decode cJ9_floorDiv_f86c9 15 = .ok (.lload_n 2, 1) := by decide +kernel
theorem dJ9_floorDiv_f86c9_16 : decode cJ9_floorDiv_f86c9 16 = .ok (.lmul, 1) := by decide +kernel
theorem dJ9_floorDiv_f86c9_17 : decode cJ9_floorDiv_f86c9 17 = .ok (.lload_n 0, 1) := by decide +kernel
theorem dJ9_floorDiv_f86c9_18 : decode cJ9_floorDiv_f86c9 18 = .ok (.lcmp, 1) := by decide +kernel
theorem dJ9_floorDiv_f86c9_19 : decode cJ9_floorDiv_f86c9 19 = .ok (.ifCond .eq 8, 3) := by decide +kernel
theorem dJ9_floorDiv_f86c9_22 : decode cJ9_floorDiv_f86c9 22 = .ok (.lload 4, 2) := by decide +kernel
theorem dJ9_floorDiv_f86c9_24 : decode cJ9_floorDiv_f86c9 24 = .ok (.lconst 1, 1) := by decide +kernel
theorem dJ9_floorDiv_f86c9_25 : decode cJ9_floorDiv_f86c9 25 = .ok (.lsub, 1) := by decide +kernel
theorem dJ9_floorDiv_f86c9_26 : decode cJ9_floorDiv_f86c9 26 = .ok (.lreturn, 1) := by decide +kernel
theorem dJ9_floorDiv_f86c9_27 : decode cJ9_floorDiv_f86c9 27 = .ok (.lload 4, 2) := by decide +kernel
theorem dJ9_floorDiv_f86c9_29 : decode cJ9_floorDiv_f86c9 29 = .ok (.lreturn, 1) := by decide +kernel
theorem dJ9_abs_067f4_0 : decode cJ9_abs_067f4 0 = .ok (.lload_n 0, 1) := by decide +kernel
theorem dJ9_abs_067f4_1 : decode cJ9_abs_067f4 1 = .ok (.lconst 0, 1) := by decide +kernel
theorem dJ9_abs_067f4_2 : decode cJ9_abs_067f4 2 = .ok (.lcmp, 1) := by decide +kernel
theorem dJ9_abs_067f4_3 : decode cJ9_abs_067f4 3 = .ok (.ifCond .ge 8, 3) := by decide +kernel
theorem dJ9_abs_067f4_6 : decode cJ9_abs_067f4 6 = .ok (.lload_n 0, 1) := by decide +kernel
theorem dJ9_abs_067f4_7 : decode cJ9_abs_067f4 7 = .ok (.lneg, 1) := by decide +kernel
theorem dJ9_abs_067f4_8 : decode cJ9_abs_067f4 8 = .ok (.goto 4, 3) := by decide +kernel
theorem dJ9_abs_067f4_11 : decode cJ9_abs_067f4 11 = .ok (.lload_n 0, 1) := by decide +kernel
theorem dJ9_abs_067f4_12 : decode cJ9_abs_067f4 12 = .ok (.lreturn, 1) := by decide +kernel
theorem dJ9_max_7cf53_0 : decode cJ9_max_7cf53 0 = .ok (.iload_n 0, 1) := by decide +kernel
theorem dJ9_max_7cf53_1 : decode cJ9_max_7cf53 1 = .ok (.iload_n 1, 1) := by decide +kernel
theorem dJ9_max_7cf53_2 : decode cJ9_max_7cf53 2 = .ok (.if_icmp .lt 7, 3) := by decide +kernel
theorem dJ9_max_7cf53_5 : decode cJ9_max_7cf53 5 = .ok (.iload_n 0, 1) := by decide +kernel
theorem dJ9_max_7cf53_6 : decode cJ9_max_7cf53 6 = .ok (.goto 4, 3) := by decide +kernel
theorem dJ9_max_7cf53_9 : decode cJ9_max_7cf53 9 = .ok (.iload_n 1, 1) := by decide +kernel
theorem dJ9_max_7cf53_10 : decode cJ9_max_7cf53 10 = .ok (.ireturn, 1) := by decide +kernel
theorem dJ9_max_f86c9_0 : decode cJ9_max_f86c9 0 = .ok (.lload_n 0, 1) := by decide +kernel
theorem dJ9_max_f86c9_1 : decode cJ9_max_f86c9 1 = .ok (.lload_n 2, 1) := by decide +kernel
theorem dJ9_max_f86c9_2 : decode cJ9_max_f86c9 2 = .ok (.lcmp, 1) := by decide +kernel
theorem dJ9_max_f86c9_3 : decode cJ9_max_f86c9 3 = .ok (.ifCond .lt 7, 3) := by decide +kernel
theorem dJ9_max_f86c9_6 : decode cJ9_max_f86c9 6 = .ok (.lload_n 0, 1) := by decide +kernel
theorem dJ9_max_f86c9_7 : decode cJ9_max_f86c9 7 = .ok (.goto 4, 3) := by decide +kernel
theorem dJ9_max_f86c9_10 : decode cJ9_max_f86c9 10 = .ok (.lload_n 2, 1) := by decide +kernel
theorem dJ9_max_f86c9_11 : decode cJ9_max_f86c9 11 = .ok (.lreturn, 1) := by decide +kernel
theorem dJ9_min_f86c9_0 : decode cJ9_min_f86c9 0 = .ok (.lload_n 0, 1) := by decide +kernel
theorem dJ9_min_f86c9_1 : decode cJ9_min_f86c9 1 = .ok (.lload_n 2, 1) := by decide +kernel
theorem dJ9_min_f86c9_2 : decode cJ9_min_f86c9 2 = .ok (.lcmp, 1) := by decide +kernel
theorem dJ9_min_f86c9_3 : decode cJ9_min_f86c9 3 = .ok (.ifCond .gt 7, 3) := by decide +kernel
theorem dJ9_min_f86c9_6 : decode cJ9_min_f86c9 6 = .ok (.lload_n 0, 1) := by decide +kernel
theorem dJ9_min_f86c9_7 : decode cJ9_min_f86c9 7 = .ok (.goto 4, 3) := by decide +kernel
theorem dJ9_min_f86c9_10 : decode cJ9_min_f86c9 10 = .ok (.lload_n 2, 1) := by decide +kernel
theorem dJ9_min_f86c9_11 : decode cJ9_min_f86c9 11 = .ok (.lreturn, 1) := by decide +kernel
