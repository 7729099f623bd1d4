theorem dX5_bumps_61 : decode cX5_bumps 61 = .ok (.goto (-40), 3) := by decide +kernel
theorem dX5_bumps_64 : decode cX5_bumps 64 = .ok (.aload_n 0, 1) := by decide +kernel
theorem dX5_bumps_65 : decode cX5_bumps 65 = .ok (.ldc 109, 2) := by decide +kernel
theorem dX5_bumps_67 : decode cX5_bumps 67 = .ok (.invokevirtual 49, 3) := by decide +kernel
theorem dX5_bumps_70 : decode cX5_bumps 70 = .ok (.ireturn, 1) := by decide +kernel
theorem dX5_meet_0 : decode cX5_meet 0 = .ok (.aload_n 0, 1) := by decide +kernel
theorem dX5_meet_1 : decode cX5_meet 1 = .ok (.iload_n 1, 1) := by decide +kernel
theorem dX5_meet_2 : decode cX5_meet 2 = .ok (.invokevirtual 68, 3) := by decide +kernel
theorem dX5_meet_5 : decode cX5_meet 5 = .ok (.ifCond .eq 16, 3) := by decide +kernel
theorem dX5_meet_8 : decode cX5_meet 8 = .ok (.aload_n 0, 1) := by decide +kernel
theorem dX5_meet_9 : decode cX5_meet 9 = .ok (.iload_n 2, 1) := by decide +kernel
theorem dX5_meet_10 : decode cX5_meet 10 = .ok (.invokevirtual 68, 3) := by decide +kernel
theorem dX5_meet_13 : decode cX5_meet 13 = .ok (.ifCond .eq 8, 3) := by decide +kernel
theorem dX5_meet_16 : decode cX5_meet 16 = .ok (.iload_n 1, 1) := by decide +kernel
theorem dX5_meet_17 : decode cX5_meet 17 = .ok (.iload_n 2, 1) := by decide +kernel
theorem dX5_meet_18 : decode cX5_meet 18 = .ok (.if_icmp .ne 10, 3) := by decide +kernel
theorem dX5_meet_21 : decode cX5_meet 21 = .ok (.aload_n 0, 1) := by decide +kernel
theorem dX5_meet_22 : decode cX5_meet 22 = .ok (.ldc 48, 2) := by decide +kernel
theorem dX5_meet_24 : decode cX5_meet 24 = .ok (.invokevirtual 49, 3) := by decide +kernel
theorem dX5_meet_27 : decode cX5_meet 27 = .ok (.ireturn, 1) := by decide +kernel
theorem dX5_meet_28 : decode cX5_meet 28 = .ok (.aload_n 0, 1) := by decide +kernel
theorem dX5_meet_29 : decode cX5_meet 29 = .ok (.invokevirtual 129, 3) := by decide +kernel
theorem dX5_meet_32 : decode cX5_meet 32 = .ok (.iconst 0, 1) := by decide +kernel
theorem dX5_meet_33 : decode cX5_meet 33 = .ok (.istore_n 3, 1) := by decide +kernel
theorem dX5_meet_34 : decode cX5_meet 34 = .ok (.iload_n 3, 1) := by decide +kernel
theorem dX5_meet_35 : decode cX5_meet 35 = .ok (.sipush 200, 3) := by decide +kernel
theorem dX5_meet_38 : decode cX5_meet 38 = .ok (.if_icmp .gt 42, 3) := by decide +kernel
theorem dX5_meet_41 : decode cX5_meet 41 = .ok (.aload_n 0, 1) := by decide +kernel
theorem dX5_meet_42 : decode cX5_meet 42 = .ok (.getfield 16, 3) := by decide +kernel
theorem dX5_meet_45 : decode cX5_meet 45 = .ok (.iload_n 1, 1) := by decide +kernel
theorem dX5_meet_46 : decode cX5_meet 46 = .ok (.iload_n 2, 1) := by decide +kernel
theorem dX5_meet_47 : decode cX5_meet 47 = .ok (.invokevirtual 150, 3) := by decide +kernel
theorem dX5_meet_50 : decode cX5_meet 50 = .ok (.ifCond .le 17, 3) := by decide +kernel
theorem dX5_meet_53 : decode cX5_meet 53 = .ok (.aload_n 0, 1) := by decide +kernel
theorem dX5_meet_54 : decode cX5_meet 54 = .ok (.getfield 16, 3) := by decide +kernel
theorem dX5_meet_57 : decode cX5_meet 57 = .ok (.iload_n 2, 1) := by decide +kernel
theorem dX5_meet_58 : decode cX5_meet 58 = .ok (.iload_n 1, 1) := by decide +kernel
theorem dX5_meet_59 : decode cX5_meet 59 = .ok (.invokevirtual 150, 3) := by decide +kernel
theorem dX5_meet_62 : decode cX5_meet 62 = .ok (.ifCond .le 5, 3) := by decide +kernel
theorem dX5_meet_65 : decode cX5_meet 65 = .ok (.iload_n 3, 1) := by decide +kernel
theorem dX5_meet_66 : decode cX5_meet 66 = .ok (.ireturn, 1) := by decide +kernel
theorem dX5_meet_67 : decode cX5_meet 67 = .ok (.aload_n 0, 1) := by decide +kernel
theorem dX5_meet_68 : decode cX5_meet 68 = .ok (.getfield 16, 3) := by decide +kernel
theorem dX5_meet_71 : decode cX5_meet 71 = .ok (.invokevirtual 147, 3) := by decide +kernel
theorem dX5_meet_74 : decode cX5_meet 74 = .ok (.iinc 3 1, 3) := by decide +kernel
theorem dX5_meet_77 : decode cX5_meet 77 = .ok (.goto (-43), 3) := by decide +kernel
theorem dX5_meet_80 : decode cX5_meet 80 = .ok (.aload_n 0, 1) := by decide +kernel
theorem dX5_meet_81 : decode cX5_meet 81 = .ok (.ldc 109, 2) := by decide +kernel
theorem dX5_meet_83 : decode cX5_meet 83 = .ok (.invokevirtual 49, 3) := by decide +kernel
theorem dX5_meet_86 : decode cX5_meet 86 = .ok (.ireturn, 1) := by decide +kernel
theorem dX5_pace_0 : decode cX5_pace 0 = .ok (.aload_n 0, 1) := by decide +kernel
theorem dX5_pace_1 : decode cX5_pace 1 = .ok (.iload_n 1, 1) := by decide +kernel
theorem dX5_pace_2 : decode cX5_pace 2 = .ok (.invokevirtual 68, 3) := by decide +kernel
theorem dX5_pace_5 : decode cX5_pace 5 = .ok (.ifCond .eq 12, 3) := by decide +kernel
theorem dX5_pace_8 : decode cX5_pace 8 = .ok (.aload_n 0, 1) := by decide +kernel
theorem dX5_pace_9 : decode cX5_pace 9 = .ok (.iload_n 1, 1) := by decide +kernel
theorem dX5_pace_10 : decode cX5_pace 10 = .ok (.iconst 3, 1) := by decide +kernel
theorem dX5_pace_11 : decode cX5_pace 11 = .ok (.invokevirtual 153, 3) := by decide +kernel
theorem dX5_pace_14 : decode cX5_pace 14 = .ok (.goto 9, 3) := by decide +kernel
theorem dX5_pace_17 : decode cX5_pace 17 = .ok (.aload_n 0, 1) := by decide +kernel
theorem dX5_pace_18 : decode cX5_pace 18 = .ok (.ldc 48, 2) := by decide +kernel
theorem dX5_pace_20 : decode cX5_pace 20 = .ok (.invokevirtual 49, 3) := by decide +kernel
theorem dX5_pace_23 : decode cX5_pace 23 = .ok (.ireturn, 1) := by decide +kernel
theorem dX5_kind_0 : decode cX5_kind 0 = .ok (.aload_n 0, 1) := by decide +kernel
theorem dX5_kind_1 : decode cX5_kind 1 = .ok (.iload_n 1, 1) := by decide +kernel
theorem dX5_kind_2 : decode cX5_kind 2 = .ok (.invokevirtual 68, 3) := by decide +kernel
theorem dX5_kind_5 : decode cX5_kind 5 = .ok (.ifCond .eq 12, 3) := by decide +kernel
theorem dX5_kind_8 : decode cX5_kind 8 = .ok (.aload_n 0, 1) := by decide +kernel
theorem dX5_kind_9 : decode cX5_kind 9 = .ok (.iload_n 1, 1) := by decide +kernel
theorem dX5_kind_10 : decode cX5_kind 10 = .ok (.iconst 0, 1) := by decide +kernel
theorem dX5_kind_11 : decode cX5_kind 11 = .ok (.invokevirtual 153, 3) := by decide +kernel
theorem dX5_kind_14 : decode cX5_kind 14 = .ok (.goto 9, 3) := by decide +kernel
theorem dX5_kind_17 : decode cX5_kind 17 = .ok (.aload_n 0, 1) := by decide +kernel
theorem dX5_kind_18 : decode cX5_kind 18 = .ok (.ldc 48, 2) := by decide +kernel
theorem dX5_kind_20 : decode cX5_kind 20 = .ok (.invokevirtual 49, 3) := by decide +kernel
theorem dX5_kind_23 : decode cX5_kind 23 = .ok (.ireturn, 1) := by decide +kernel
theorem dX5_begin_0 : decode cX5_begin 0 = .ok (.aload_n 0, 1) := by decide +kernel
theorem dX5_begin_1 : decode cX5_begin 1 = .ok (.iload_n 1, 1) := by decide +kernel
theorem dX5_begin_2 : decode cX5_begin 2 = .ok (.invokevirtual 68, 3) := by decide +kernel
theorem dX5_begin_5 : decode cX5_begin 5 = .ok (.ifCond .eq 13, 3) := by decide +kernel
theorem dX5_begin_8 : decode cX5_begin 8 = .ok (.iload_n 2, 1) := by decide +kernel
theorem dX5_begin_9 : decode cX5_begin 9 = .ok (.iconst 1, 1) := by decide +kernel
theorem dX5_begin_10 : decode cX5_begin 10 = .ok (.bipush 20, 2) := by decide +kernel
theorem dX5_begin_12 : decode cX5_begin 12 = .ok (.invokestatic 44, 3) := by decide +kernel
theorem dX5_begin_15 : decode cX5_begin 15 = .ok (.ifCond .ne 10, 3) := by decide +kernel
theorem dX5_begin_18 : decode cX5_begin 18 = .ok (.aload_n 0, 1) := by decide +kernel
theorem dX5_begin_19 : decode cX5_begin 19 = .ok (.ldc 48, 2) := by decide +kernel
theorem dX5_begin_21 : decode cX5_begin 21 = .ok (.invokevirtual 49, 3) := by decide +kernel
theorem dX5_begin_24 : decode cX5_begin 24 = .ok (.ireturn, 1) := by decide +kernel
theorem dX5_begin_25 : decode cX5_begin 25 = .ok (.iconst 0, 1) := by decide +kernel
theorem dX5_begin_26 : decode cX5_begin 26 = .ok (.istore_n 3, 1) := by decide +kernel
theorem dX5_begin_27 : decode cX5_begin 27 = .ok (.ldc 156, 2) := by decide +kernel
theorem dX5_begin_29 : decode cX5_begin 29 = .ok (.istore 4, 2) := by decide +kernel
theorem dX5_begin_31 : decode cX5_begin 31 = .ok (.iconst 0, 1) := by decide +kernel
theorem dX5_begin_32 : decode cX5_begin 32 = .ok (.istore 5, 2) := by decide +kernel
theorem dX5_begin_34 : decode cX5_begin 34 = .ok (.iload 5, 2) := by decide +kernel
theorem dX5_begin_36 : decode cX5_begin 36 = .ok (.bipush 99, 2) := by decide +kernel
theorem dX5_begin_38 : decode cX5_begin 38 = .ok (.if_icmp .gt 47, 3) := by decide +kernel
theorem dX5_begin_41 : decode cX5_begin 41 = .ok (.aload_n 0, 1) := by decide +kernel
theorem dX5_begin_42 : decode cX5_begin 42 = .ok (.invokevirtual 129, 3) := by decide +kernel
theorem dX5_begin_45 : decode cX5_begin 45 = .ok (.aload_n 0, 1) := by decide +kernel
theorem dX5_begin_46 : decode cX5_begin 46 = .ok (.getfield 16, 3) := by decide +kernel
theorem dX5_begin_49 : decode cX5_begin 49 = .ok (.getfield 132, 3) := by decide +kernel
theorem dX5_begin_52 : decode cX5_begin 52 = .ok (.iload_n 1, 1) := by decide +kernel
theorem dX5_begin_53 : decode cX5_begin 53 = .ok (.iload 5, 2) := by decide +kernel
theorem dX5_begin_55 : decode cX5_begin 55 = .ok (.iastore, 1) := by decide +kernel
theorem dX5_begin_56 : decode cX5_begin 56 = .ok (.aload_n 0, 1) := by decide +kernel
theorem dX5_begin_57 : decode cX5_begin 57 = .ok (.iload_n 2, 1) := by decide +kernel
theorem dX5_begin_58 : decode cX5_begin 58 = .ok (.iload 4, 2) := by decide +kernel
theorem dX5_begin_60 : decode cX5_begin 60 = .ok (.invokevirtual 157, 3) := by decide +kernel
theorem dX5_begin_63 : decode cX5_begin 63 = .ok (.istore 6, 2) := by decide +kernel
theorem dX5_begin_65 : decode cX5_begin 65 = .ok (.iload 6, 2) := by decide +kernel
theorem dX5_begin_67 : decode cX5_begin 67 = .ok (.iload 4, 2) := by decide +kernel
theorem dX5_begin_69 : decode cX5_begin 69 = .ok (.if_icmp .ge 10, 3) := by decide +kernel
theorem dX5_begin_72 : decode cX5_begin 72 = .ok (.iload 6, 2) := by decide +kernel
theorem dX5_begin_74 : decode cX5_begin 74 = .ok (.istore 4, 2) := by decide +kernel
theorem dX5_begin_76 : decode cX5_begin 76 = .ok (.iload 5, 2) := by decide +kernel
theorem dX5_begin_78 : decode cX5_begin 78 = .ok (.istore_n 3, 1) := by decide +kernel
theorem dX5_begin_79 : decode cX5_begin 79 = .ok (.iinc 5 1, 3) := by decide +kernel
theorem dX5_begin_82 : decode cX5_begin 82 = .ok (.goto (-48), 3) := by decide +kernel
theorem dX5_begin_85 : decode cX5_begin 85 = .ok (.iload_n 3, 1) := by decide +kernel
theorem dX5_begin_86 : decode cX5_begin 86 = .ok (.ireturn, 1) := by decide +kernel
theorem dX5_fewest_0 : decode cX5_fewest 0 = .ok (.iload_n 1, 1) := by decide +kernel
theorem dX5_fewest_1 : decode cX5_fewest 1 = .ok (.iconst 1, 1) := by decide +kernel
theorem dX5_fewest_2 : decode cX5_fewest 2 = .ok (.bipush 20, 2) := by decide +kernel
theorem dX5_fewest_4 : decode cX5_fewest 4 = .ok (.invokestatic 44, 3) := by decide +kernel
theorem dX5_fewest_7 : decode cX5_fewest 7 = .ok (.ifCond .ne 10, 3) := by decide +kernel
theorem dX5_fewest_10 : decode cX5_fewest 10 = .ok (.aload_n 0, 1) := by decide +kernel
theorem dX5_fewest_11 : decode cX5_fewest 11 = .ok (.ldc 48, 2) := by decide +kernel
theorem dX5_fewest_13 : decode cX5_fewest 13 = .ok (.invokevirtual 49, 3) := by decide +kernel
theorem dX5_fewest_16 : decode cX5_fewest 16 = .ok (.ireturn, 1) := by decide +kernel
theorem dX5_fewest_17 : decode cX5_fewest 17 = .ok (.iconst 1, 1) := by decide +kernel
theorem dX5_fewest_18 : decode cX5_fewest 18 = .ok (.aload_n 0, 1) := by decide +kernel
theorem dX5_fewest_19 : decode cX5_fewest 19 = .ok (.getfield 10, 3) := by decide +kernel
theorem dX5_fewest_22 : decode cX5_fewest 22 = .ok (.getfield 160, 3) := by decide +kernel
theorem dX5_fewest_25 : decode cX5_fewest 25 = .ok (.ishl, 1) := by decide +kernel
theorem dX5_fewest_26 : decode cX5_fewest 26 = .ok (.istore_n 2, 1) := by decide +kernel
theorem dX5_fewest_27 : decode cX5_fewest 27 = .ok (.iconst 0, 1) := by decide +kernel
theorem dX5_fewest_28 : decode cX5_fewest 28 = .ok (.istore_n 3, 1) := by decide +kernel
theorem dX5_fewest_29 : decode cX5_fewest 29 = .ok (.iload_n 3, 1) := by decide +kernel
theorem dX5_fewest_30 : decode cX5_fewest 30 = .ok (.aload_n 0, 1) := by decide +kernel
theorem dX5_fewest_31 : decode cX5_fewest 31 = .ok (.getfield 10, 3) := by decide +kernel
theorem dX5_fewest_34 : decode cX5_fewest 34 = .ok (.getfield 160, 3) := by decide +kernel
theorem dX5_fewest_37 : decode cX5_fewest 37 = .ok (.if_icmp .gt 46, 3) := by decide +kernel
theorem dX5_fewest_40 : decode cX5_fewest 40 = .ok (.iconst 0, 1) := by decide +kernel
theorem dX5_fewest_41 : decode cX5_fewest 41 = .ok (.istore 4, 2) := by decide +kernel
theorem dX5_fewest_43 : decode cX5_fewest 43 = .ok (.iload 4, 2) := by decide +kernel
theorem dX5_fewest_45 : decode cX5_fewest 45 = .ok (.iload_n 2, 1) := by decide +kernel
theorem dX5_fewest_46 : decode cX5_fewest 46 = .ok (.if_icmp .ge 31, 3) := by decide +kernel
theorem dX5_fewest_49 : decode cX5_fewest 49 = .ok (.iload 4, 2) := by decide +kernel
theorem dX5_fewest_51 : decode cX5_fewest 51 = .ok (.invokestatic 163, 3) := by decide +kernel
theorem dX5_fewest_54 : decode cX5_fewest 54 = .ok (.iload_n 3, 1) := by decide +kernel
theorem dX5_fewest_55 : decode cX5_fewest 55 = .ok (.if_icmp .ne 16, 3) := by decide +kernel
theorem dX5_fewest_58 : decode cX5_fewest 58 = .ok (.aload_n 0, 1) := by decide +kernel
theorem dX5_fewest_59 : decode cX5_fewest 59 = .ok (.iload 4, 2) := by decide +kernel
theorem dX5_fewest_61 : decode cX5_fewest 61 = .ok (.iload_n 1, 1) := by decide +kernel
theorem dX5_fewest_62 : decode cX5_fewest 62 = .ok (.invokevirtual 168, 3) := by decide +kernel
theorem dX5_fewest_65 : decode cX5_fewest 65 = .ok (.ifCond .eq 6, 3) := by decide +kernel
theorem dX5_fewest_68 : decode cX5_fewest 68 = .ok (.iload 4, 2) := by decide +kernel
theorem dX5_fewest_70 : decode cX5_fewest 70 = .ok (.ireturn, 1) := by decide +kernel
theorem dX5_fewest_71 : decode cX5_fewest 71 = .ok (.iinc 4 1, 3) := by decide +kernel
theorem dX5_fewest_74 : decode cX5_fewest 74 = .ok (.goto (-31), 3) := by decide +kernel
theorem dX5_fewest_77 : decode cX5_fewest 77 = .ok (.iinc 3 1, 3) := by decide +kernel
theorem dX5_fewest_80 : decode cX5_fewest 80 = .ok (.goto (-51), 3) := by decide +kernel
theorem dX5_fewest_83 : decode cX5_fewest 83 = .ok (.aload_n 0, 1) := by decide +kernel
theorem dX5_fewest_84 : decode cX5_fewest 84 = .ok (.ldc 109, 2) := by decide +kernel
theorem dX5_fewest_86 : decode cX5_fewest 86 = .ok (.invokevirtual 49, 3) := by decide +kernel
theorem dX5_fewest_89 : decode cX5_fewest 89 = .ok (.ireturn, 1) := by decide +kernel
theorem dX5_other_0 : decode cX5_other 0 = .ok (.iload_n 1, 1) := by decide +kernel
theorem dX5_other_1 : decode cX5_other 1 = .ok (.iconst 1, 1) := by decide +kernel
theorem dX5_other_2 : decode cX5_other 2 = .ok (.bipush 60, 2) := by decide +kernel
theorem dX5_other_4 : decode cX5_other 4 = .ok (.invokestatic 44, 3) := by decide +kernel
theorem dX5_other_7 : decode cX5_other 7 = .ok (.ifCond .ne 10, 3) := by decide +kernel
theorem dX5_other_10 : decode cX5_other 10 = .ok (.aload_n 0, 1) := by decide +kernel
theorem dX5_other_11 : decode cX5_other 11 = .ok (.ldc 48, 2) := by decide +kernel
theorem dX5_other_13 : decode cX5_other 13 = .ok (.invokevirtual 49, 3) := by decide +kernel
theorem dX5_other_16 : decode cX5_other 16 = .ok (.ireturn, 1) := by decide +kernel
theorem dX5_other_17 : decode cX5_other 17 = .ok (.aload_n 0, 1) := by decide +kernel
theorem dX5_other_18 : decode cX5_other 18 = .ok (.invokevirtual 129, 3) := by decide +kernel
theorem dX5_other_21 : decode cX5_other 21 = .ok (.aload_n 0, 1) := by decide +kernel
theorem dX5_other_22 : decode cX5_other 22 = .ok (.iload_n 1, 1) := by decide +kernel
theorem dX5_other_23 : decode cX5_other 23 = .ok (.ldc 156, 2) := by decide +kernel
theorem dX5_other_25 : decode cX5_other 25 = .ok (.invokevirtual 157, 3) := by decide +kernel
theorem dX5_other_28 : decode cX5_other 28 = .ok (.istore_n 2, 1) := by decide +kernel
theorem dX5_other_29 : decode cX5_other 29 = .ok (.iconst (-1), 1) := by decide +kernel
theorem dX5_other_30 : decode cX5_other 30 = .ok (.istore_n 3, 1) := by decide +kernel
theorem dX5_other_31 : decode cX5_other 31 = .ok (.iconst 0, 1) := by decide +kernel
theorem dX5_other_32 : decode cX5_other 32 = .ok (.istore 4, 2) := by decide +kernel
theorem dX5_other_34 : decode cX5_other 34 = .ok (.iload 4, 2) := by decide +kernel
theorem dX5_other_36 : decode cX5_other 36 = .ok (.aload_n 0, 1) := by decide +kernel
theorem dX5_other_37 : decode cX5_other 37 = .ok (.getfield 10, 3) := by decide +kernel
theorem dX5_other_40 : decode cX5_other 40 = .ok (.getfield 160, 3) := by decide +kernel
theorem dX5_other_43 : decode cX5_other 43 = .ok (.if_icmp .ge 55, 3) := by decide +kernel
theorem dX5_other_46 : decode cX5_other 46 = .ok (.aload_n 0, 1) := by decide +kernel
theorem dX5_other_47 : decode cX5_other 47 = .ok (.invokevirtual 129, 3) := by decide +kernel
theorem dX5_other_50 : decode cX5_other 50 = .ok (.aload_n 0, 1) := by decide +kernel
theorem dX5_other_51 : decode cX5_other 51 = .ok (.getfield 16, 3) := by decide +kernel
theorem dX5_other_54 : decode cX5_other 54 = .ok (.getfield 171, 3) := by decide +kernel
theorem dX5_other_57 : decode cX5_other 57 = .ok (.iload 4, 2) := by decide +kernel
theorem dX5_other_59 : decode cX5_other 59 = .ok (.iconst 1, 1) := by decide +kernel
theorem dX5_other_60 : decode cX5_other 60 = .ok (.aload_n 0, 1) := by decide +kernel
theorem dX5_other_61 : decode cX5_other 61 = .ok (.getfield 16, 3) := by decide +kernel
theorem dX5_other_64 : decode cX5_other 64 = .ok (.getfield 171, 3) := by decide +kernel
theorem dX5_other_67 : decode cX5_other 67 = .ok (.iload 4, 2) := by decide +kernel
theorem dX5_other_69 : decode cX5_other 69 = .ok (.iaload, 1) := by decide +kernel
theorem dX5_other_70 : decode cX5_other 70 = .ok (.isub, 1) := by decide +kernel
theorem dX5_other_71 : decode cX5_other 71 = .ok (.iastore, 1) := by decide +kernel
theorem dX5_other_72 : decode cX5_other 72 = .ok (.aload_n 0, 1) := by decide +kernel
theorem dX5_other_73 : decode cX5_other 73 = .ok (.iload_n 1, 1) := by decide +kernel
theorem dX5_other_74 : decode cX5_other 74 = .ok (.iload_n 2, 1) := by decide +kernel
theorem dX5_other_75 : decode cX5_other 75 = .ok (.invokevirtual 157, 3) := by decide +kernel
theorem dX5_other_78 : decode cX5_other 78 = .ok (.istore 5, 2) := by decide +kernel
theorem dX5_other_80 : decode cX5_other 80 = .ok (.iload 5, 2) := by decide +kernel
theorem dX5_other_82 : decode cX5_other 82 = .ok (.iload_n 2, 1) := by decide +kernel
theorem dX5_other_83 : decode cX5_other 83 = .ok (.if_icmp .ge 9, 3) := by decide +kernel
theorem dX5_other_86 : decode cX5_other 86 = .ok (.iload 5, 2) := by decide +kernel
theorem dX5_other_88 : decode cX5_other 88 = .ok (.istore_n 2, 1) := by decide +kernel
theorem dX5_other_89 : decode cX5_other 89 = .ok (.iload 4, 2) := by decide +kernel
theorem dX5_other_91 : decode cX5_other 91 = .ok (.istore_n 3, 1) := by decide +kernel
theorem dX5_other_92 : decode cX5_other 92 = .ok (.iinc 4 1, 3) := by decide +kernel
theorem dX5_other_95 : decode cX5_other 95 = .ok (.goto (-61), 3) := by decide +kernel
theorem dX5_other_98 : decode cX5_other 98 = .ok (.iload_n 3, 1) := by decide +kernel
theorem dX5_other_99 : decode cX5_other 99 = .ok (.ifCond .lt 7, 3) := by decide +kernel
theorem dX5_other_102 : decode cX5_other 102 = .ok (.iload_n 3, 1) := by decide +kernel
theorem dX5_other_103 : decode cX5_other 103 = .ok (.goto 9, 3) := by decide +kernel
theorem dX5_other_106 : decode cX5_other 106 = .ok (.aload_n 0, 1) := by decide +kernel
theorem dX5_other_107 : decode cX5_other 107 = .ok (.ldc 109, 2) := by decide +kernel
theorem dX5_other_109 : decode cX5_other 109 = .ok (.invokevirtual 49, 3) := by decide +kernel
theorem dX5_other_112 : decode cX5_other 112 = .ok (.ireturn, 1) := by decide +kernel
theorem dX5_first_0 : decode cX5_first 0 = .ok (.aload_n 0, 1) := by decide +kernel
theorem dX5_first_1 : decode cX5_first 1 = .ok (.invokevirtual 129, 3) := by decide +kernel
theorem dX5_first_4 : decode cX5_first 4 = .ok (.iconst 0, 1) := by decide +kernel
theorem dX5_first_5 : decode cX5_first 5 = .ok (.istore_n 1, 1) := by decide +kernel
theorem dX5_first_6 : decode cX5_first 6 = .ok (.iload_n 1, 1) := by decide +kernel
theorem dX5_first_7 : decode cX5_first 7 = .ok (.sipush 200, 3) := by decide +kernel
theorem dX5_first_10 : decode cX5_first 10 = .ok (.if_icmp .gt 33, 3) := by decide +kernel
theorem dX5_first_13 : decode cX5_first 13 = .ok (.aload_n 0, 1) := by decide +kernel
theorem dX5_first_14 : decode cX5_first 14 = .ok (.getfield 16, 3) := by decide +kernel
theorem dX5_first_17 : decode cX5_first 17 = .ok (.invokevirtual 119, 3) := by decide +kernel
theorem dX5_first_20 : decode cX5_first 20 = .ok (.istore_n 2, 1) := by decide +kernel
theorem dX5_first_21 : decode cX5_first 21 = .ok (.iload_n 2, 1) := by decide +kernel
theorem dX5_first_22 : decode cX5_first 22 = .ok (.ifCond .eq 8, 3) := by decide +kernel
theorem dX5_first_25 : decode cX5_first 25 = .ok (.iload_n 2, 1) := by decide +kernel
theorem dX5_first_26 : decode cX5_first 26 = .ok (.invokestatic 174, 3) := by decide +kernel
theorem dX5_first_29 : decode cX5_first 29 = .ok (.ireturn, 1) := by decide +kernel
theorem dX5_first_30 : decode cX5_first 30 = .ok (.aload_n 0, 1) := by decide +kernel
theorem dX5_first_31 : decode cX5_first 31 = .ok (.getfield 16, 3) := by decide +kernel
theorem dX5_first_34 : decode cX5_first 34 = .ok (.invokevirtual 147, 3) := by decide +kernel
theorem dX5_first_37 : decode cX5_first 37 = .ok (.iinc 1 1, 3) := by decide +kernel
theorem dX5_first_40 : decode cX5_first 40 = .ok (.goto (-34), 3) := by decide +kernel
theorem dX5_first_43 : decode cX5_first 43 = .ok (.aload_n 0, 1) := by decide +kernel
theorem dX5_first_44 : decode cX5_first 44 = .ok (.ldc 109, 2) := by decide +kernel
theorem dX5_first_46 : decode cX5_first 46 = .ok (.invokevirtual 49, 3) := by decide +kernel
theorem dX5_first_49 : decode cX5_first 49 = .ok (.ireturn, 1) := by decide +kernel
theorem dX5_feed_0 : decode cX5_feed 0 = .ok (.iload_n 2, 1) := by decide +kernel
theorem dX5_feed_1 : decode cX5_feed 1 = .ok (.iconst 1, 1) := by decide +kernel
theorem dX5_feed_2 : decode cX5_feed 2 = .ok (.iconst 4, 1) := by decide +kernel
theorem dX5_feed_3 : decode cX5_feed 3 = .ok (.invokestatic 44, 3) := by decide +kernel
theorem dX5_feed_6 : decode cX5_feed 6 = .ok (.ifCond .ne 10, 3) := by decide +kernel
theorem dX5_feed_9 : decode cX5_feed 9 = .ok (.aload_n 0, 1) := by decide +kernel
theorem dX5_feed_10 : decode cX5_feed 10 = .ok (.ldc 48, 2) := by decide +kernel
theorem dX5_feed_12 : decode cX5_feed 12 = .ok (.invokevirtual 49, 3) := by decide +kernel
theorem dX5_feed_15 : decode cX5_feed 15 = .ok (.ireturn, 1) := by decide +kernel
theorem dX5_feed_16 : decode cX5_feed 16 = .ok (.aload_n 0, 1) := by decide +kernel
theorem dX5_feed_17 : decode cX5_feed 17 = .ok (.getfield 29, 3) := by decide +kernel
theorem dX5_feed_20 : decode cX5_feed 20 = .ok (.iload_n 2, 1) := by decide +kernel
theorem dX5_feed_21 : decode cX5_feed 21 = .ok (.invokevirtual 177, 3) := by decide +kernel
theorem dX5_feed_24 : decode cX5_feed 24 = .ok (.ifCond .ne 10, 3) := by decide +kernel
theorem dX5_feed_27 : decode cX5_feed 27 = .ok (.aload_n 0, 1) := by decide +kernel
theorem dX5_feed_28 : decode cX5_feed 28 = .ok (.ldc 63, 2) := by decide +kernel
theorem dX5_feed_30 : decode cX5_feed 30 = .ok (.invokevirtual 49, 3) := by decide +kernel
theorem dX5_feed_33 : decode cX5_feed 33 = .ok (.ireturn, 1) := by decide +kernel
theorem dX5_feed_34 : decode cX5_feed 34 = .ok (.iload_n 2, 1) := by decide +kernel
theorem dX5_feed_35 : decode cX5_feed 35 = .ok (.iconst 1, 1) := by decide +kernel
theorem dX5_feed_36 : decode cX5_feed 36 = .ok (.isub, 1) := by decide +kernel
theorem dX5_feed_37 : decode cX5_feed 37 = .ok (.istore_n 3, 1) := by decide +kernel
theorem dX5_feed_38 : decode cX5_feed 38 = .ok (.iload_n 3, 1) := by decide +kernel
theorem dX5_feed_39 : decode cX5_feed 39 = .ok (.ifCond .lt 23, 3) := by decide +kernel
theorem dX5_feed_42 : decode cX5_feed 42 = .ok (.aload_n 0, 1) := by decide +kernel
theorem dX5_feed_43 : decode cX5_feed 43 = .ok (.getfield 29, 3) := by decide +kernel
theorem dX5_feed_46 : decode cX5_feed 46 = .ok (.iload_n 1, 1) := by decide +kernel
theorem dX5_feed_47 : decode cX5_feed 47 = .ok (.bipush 8, 2) := by decide +kernel
theorem dX5_feed_49 : decode cX5_feed 49 = .ok (.iload_n 3, 1) := by decide +kernel
theorem dX5_feed_50 : decode cX5_feed 50 = .ok (.imul, 1) := by decide +kernel
theorem dX5_feed_51 : decode cX5_feed 51 = .ok (.ishr, 1) := by decide +kernel
theorem dX5_feed_52 : decode cX5_feed 52 = .ok (.i2b, 1) := by decide +kernel
theorem dX5_feed_53 : decode cX5_feed 53 = .ok (.invokevirtual 180, 3) := by decide +kernel
theorem dX5_feed_56 : decode cX5_feed 56 = .ok (.iinc 3 (-1), 3) := by decide +kernel
theorem dX5_feed_59 : decode cX5_feed 59 = .ok (.goto (-21), 3) := by decide +kernel
theorem dX5_feed_62 : decode cX5_feed 62 = .ok (.aload_n 0, 1) := by decide +kernel
theorem dX5_feed_63 : decode cX5_feed 63 = .ok (.getfield 29, 3) := by decide +kernel
theorem dX5_feed_66 : decode cX5_feed 66 = .ok (.getfield 184, 3) := by decide +kernel
theorem dX5_feed_69 : decode cX5_feed 69 = .ok (.ireturn, 1) := by decide +kernel
theorem dX5_wipe_0 : decode cX5_wipe 0 = .ok (.aload_n 0, 1) := by decide +kernel
theorem dX5_wipe_1 : decode cX5_wipe 1 = .ok (.getfield 29, 3) := by decide +kernel
theorem dX5_wipe_4 : decode cX5_wipe 4 = .ok (.getfield 184, 3) := by decide +kernel
theorem dX5_wipe_7 : decode cX5_wipe 7 = .ok (.istore_n 1, 1) := by decide +kernel
theorem dX5_wipe_8 : decode cX5_wipe 8 = .ok (.aload_n 0, 1) := by decide +kernel
theorem dX5_wipe_9 : decode cX5_wipe 9 = .ok (.getfield 29, 3) := by decide +kernel
theorem dX5_wipe_12 : decode cX5_wipe 12 = .ok (.iconst 0, 1) := by decide +kernel
theorem dX5_wipe_13 : decode cX5_wipe 13 = .ok (.putfield 184, 3) := by decide +kernel
theorem dX5_wipe_16 : decode cX5_wipe 16 = .ok (.iload_n 1, 1) := by decide +kernel
theorem dX5_wipe_17 : decode cX5_wipe 17 = .ok (.ireturn, 1) := by decide +kernel
theorem dX5_avenue_0 : decode cX5_avenue 0 = .ok (.aload_n 0, 1) := by decide +kernel
theorem dX5_avenue_1 : decode cX5_avenue 1 = .ok (.invokevirtual 129, 3) := by decide +kernel
theorem dX5_avenue_4 : decode cX5_avenue 4 = .ok (.aload_n 0, 1) := by decide +kernel
theorem dX5_avenue_5 : decode cX5_avenue 5 = .ok (.getfield 16, 3) := by decide +kernel
theorem dX5_avenue_8 : decode cX5_avenue 8 = .ok (.aload_n 0, 1) := by decide +kernel
theorem dX5_avenue_9 : decode cX5_avenue 9 = .ok (.getfield 29, 3) := by decide +kernel
theorem dX5_avenue_12 : decode cX5_avenue 12 = .ok (.invokestatic 187, 3) := by decide +kernel
theorem dX5_avenue_15 : decode cX5_avenue 15 = .ok (.istore_n 1, 1) := by decide +kernel
theorem dX5_avenue_16 : decode cX5_avenue 16 = .ok (.iload_n 1, 1) := by decide +kernel
theorem dX5_avenue_17 : decode cX5_avenue 17 = .ok (.ifCond .lt 14, 3) := by decide +kernel
theorem dX5_avenue_20 : decode cX5_avenue 20 = .ok (.aload_n 0, 1) := by decide +kernel
theorem dX5_avenue_21 : decode cX5_avenue 21 = .ok (.getfield 10, 3) := by decide +kernel
theorem dX5_avenue_24 : decode cX5_avenue 24 = .ok (.aload_n 0, 1) := by decide +kernel
theorem dX5_avenue_25 : decode cX5_avenue 25 = .ok (.getfield 16, 3) := by decide +kernel
theorem dX5_avenue_28 : decode cX5_avenue 28 = .ok (.invokevirtual 193, 3) := by decide +kernel
theorem dX5_avenue_31 : decode cX5_avenue 31 = .ok (.aload_n 0, 1) := by decide +kernel
theorem dX5_avenue_32 : decode cX5_avenue 32 = .ok (.getfield 29, 3) := by decide +kernel
theorem dX5_avenue_35 : decode cX5_avenue 35 = .ok (.iconst 0, 1) := by decide +kernel
theorem dX5_avenue_36 : decode cX5_avenue 36 = .ok (.putfield 184, 3) := by decide +kernel
theorem dX5_avenue_39 : decode cX5_avenue 39 = .ok (.iload_n 1, 1) := by decide +kernel
theorem dX5_avenue_40 : decode cX5_avenue 40 = .ok (.ireturn, 1) := by decide +kernel
theorem dX5_sheet_0 : decode cX5_sheet 0 = .ok (.aload_n 0, 1) := by decide +kernel
theorem dX5_sheet_1 : decode cX5_sheet 1 = .ok (.iload_n 1, 1) := by decide +kernel
theorem dX5_sheet_2 : decode cX5_sheet 2 = .ok (.invokevirtual 197, 3) := by decide +kernel
theorem dX5_sheet_5 : decode cX5_sheet 5 = .ok (.ifCond .eq 25, 3) := by decide +kernel
theorem dX5_sheet_8 : decode cX5_sheet 8 = .ok (.iload_n 2, 1) := by decide +kernel
theorem dX5_sheet_9 : decode cX5_sheet 9 = .ok (.ifCond .eq 28, 3) := by decide +kernel
theorem dX5_sheet_12 : decode cX5_sheet 12 = .ok (.iload_n 2, 1) := by decide +kernel
theorem dX5_sheet_13 : decode cX5_sheet 13 = .ok (.bipush 8, 2) := by decide +kernel
theorem dX5_sheet_15 : decode cX5_sheet 15 = .ok (.if_icmp .eq 22, 3) := by decide +kernel
theorem dX5_sheet_18 : decode cX5_sheet 18 = .ok (.iload_n 2, 1) := by decide +kernel
theorem dX5_sheet_19 : decode cX5_sheet 19 = .ok (.bipush 16, 2) := by decide +kernel
theorem dX5_sheet_21 : decode cX5_sheet 21 = .ok (.if_icmp .eq 16, 3) := by decide +kernel
theorem dX5_sheet_24 : decode cX5_sheet 24 = .ok (.iload_n 2, 1) := by decide +kernel
theorem dX5_sheet_25 : decode cX5_sheet 25 = .ok (.bipush 64, 2) := by decide +kernel
theorem dX5_sheet_27 : decode cX5_sheet 27 = .ok (.if_icmp .eq 10, 3) := by decide +kernel
theorem dX5_sheet_30 : decode cX5_sheet 30 = .ok (.aload_n 0, 1) := by decide +kernel
theorem dX5_sheet_31 : decode cX5_sheet 31 = .ok (.ldc 48, 2) := by decide +kernel
theorem dX5_sheet_33 : decode cX5_sheet 33 = .ok (.invokevirtual 49, 3) := by decide +kernel
theorem dX5_sheet_36 : decode cX5_sheet 36 = .ok (.ireturn, 1) := by decide +kernel
theorem dX5_sheet_37 : decode cX5_sheet 37 = .ok (.iload_n 3, 1) := by decide +kernel
theorem dX5_sheet_38 : decode cX5_sheet 38 = .ok (.ifCond .ge 10, 3) := by decide +kernel
theorem dX5_sheet_41 : decode cX5_sheet 41 = .ok (.aload_n 0, 1) := by decide +kernel
theorem dX5_sheet_42 : decode cX5_sheet 42 = .ok (.ldc 200, 2) := by decide +kernel
theorem dX5_sheet_44 : decode cX5_sheet 44 = .ok (.invokevirtual 49, 3) := by decide +kernel
theorem dX5_sheet_47 : decode cX5_sheet 47 = .ok (.ireturn, 1) := by decide +kernel
theorem dX5_sheet_48 : decode cX5_sheet 48 = .ok (.iload_n 3, 1) := by decide +kernel
theorem dX5_sheet_49 : decode cX5_sheet 49 = .ok (.bipush 40, 2) := by decide +kernel
theorem dX5_sheet_51 : decode cX5_sheet 51 = .ok (.if_icmp .le 10, 3) := by decide +kernel
theorem dX5_sheet_54 : decode cX5_sheet 54 = .ok (.aload_n 0, 1) := by decide +kernel
theorem dX5_sheet_55 : decode cX5_sheet 55 = .ok (.ldc 48, 2) := by decide +kernel
theorem dX5_sheet_57 : decode cX5_sheet 57 = .ok (.invokevirtual 49, 3) := by decide +kernel
theorem dX5_sheet_60 : decode cX5_sheet 60 = .ok (.ireturn, 1) := by decide +kernel
theorem dX5_sheet_61 : decode cX5_sheet 61 = .ok (.aload_n 0, 1) := by decide +kernel
theorem dX5_sheet_62 : decode cX5_sheet 62 = .ok (.getfield 36, 3) := by decide +kernel
theorem dX5_sheet_65 : decode cX5_sheet 65 = .ok (.iload_n 1, 1) := by decide +kernel
theorem dX5_sheet_66 : decode cX5_sheet 66 = .ok (.aaload, 1) := by decide +kernel
theorem dX5_sheet_67 : decode cX5_sheet 67 = .ok (.iload_n 2, 1) := by decide +kernel
theorem dX5_sheet_68 : decode cX5_sheet 68 = .ok (.iload_n 3, 1) := by decide +kernel
theorem dX5_sheet_69 : decode cX5_sheet 69 = .ok (.invokevirtual 201, 3) := by decide +kernel
theorem dX5_sheet_72 : decode cX5_sheet 72 = .ok (.aload_n 0, 1) := by decide +kernel
theorem dX5_sheet_73 : decode cX5_sheet 73 = .ok (.getfield 36, 3) := by decide +kernel
theorem dX5_sheet_76 : decode cX5_sheet 76 = .ok (.iload_n 1, 1) := by decide +kernel
theorem dX5_sheet_77 : decode cX5_sheet 77 = .ok (.aaload, 1) := by decide +kernel
theorem dX5_sheet_78 : decode cX5_sheet 78 = .ok (.getfield 205, 3) := by decide +kernel
theorem dX5_sheet_81 : decode cX5_sheet 81 = .ok (.ireturn, 1) := by decide +kernel
theorem dX5_write_0 : decode cX5_write 0 = .ok (.aload_n 0, 1) := by decide +kernel
theorem dX5_write_1 : decode cX5_write 1 = .ok (.iload_n 1, 1) := by decide +kernel
theorem dX5_write_2 : decode cX5_write 2 = .ok (.invokevirtual 206, 3) := by decide +kernel
theorem dX5_write_5 : decode cX5_write 5 = .ok (.istore 5, 2) := by decide +kernel
theorem dX5_write_7 : decode cX5_write 7 = .ok (.iload 5, 2) := by decide +kernel
theorem dX5_write_9 : decode cX5_write 9 = .ok (.ifCond .eq 11, 3) := by decide +kernel
theorem dX5_write_12 : decode cX5_write 12 = .ok (.aload_n 0, 1) := by decide +kernel
theorem dX5_write_13 : decode cX5_write 13 = .ok (.iload 5, 2) := by decide +kernel
theorem dX5_write_15 : decode cX5_write 15 = .ok (.invokevirtual 49, 3) := by decide +kernel
theorem dX5_write_18 : decode cX5_write 18 = .ok (.i2l, 1) := by decide +kernel
theorem dX5_write_19 : decode cX5_write 19 = .ok (.lreturn, 1) := by decide +kernel
theorem dX5_write_20 : decode cX5_write 20 = .ok (.iload_n 2, 1) := by decide +kernel
theorem dX5_write_21 : decode cX5_write 21 = .ok (.iconst 0, 1) := by decide +kernel
theorem dX5_write_22 : decode cX5_write 22 = .ok (.aload_n 0, 1) := by decide +kernel
theorem dX5_write_23 : decode cX5_write 23 = .ok (.getfield 36, 3) := by decide +kernel
theorem dX5_write_26 : decode cX5_write 26 = .ok (.iload_n 1, 1) := by decide +kernel
theorem dX5_write_27 : decode cX5_write 27 = .ok (.aaload, 1) := by decide +kernel
theorem dX5_write_28 : decode cX5_write 28 = .ok (.getfield 205, 3) := by decide +kernel
theorem dX5_write_31 : decode cX5_write 31 = .ok (.iconst 1, 1) := by decide +kernel
theorem dX5_write_32 : decode cX5_write 32 = .ok (.isub, 1) := by decide +kernel
theorem dX5_write_33 : decode cX5_write 33 = .ok (.invokestatic 44, 3) := by decide +kernel
theorem dX5_write_36 : decode cX5_write 36 = .ok (.ifCond .ne 11, 3) := by decide +kernel
theorem dX5_write_39 : decode cX5_write 39 = .ok (.aload_n 0, 1) := by decide +kernel
theorem dX5_write_40 : decode cX5_write 40 = .ok (.ldc 48, 2) := by decide +kernel
theorem dX5_write_42 : decode cX5_write 42 = .ok (.invokevirtual 49, 3) := by decide +kernel
theorem dX5_write_45 : decode cX5_write 45 = .ok (.i2l, 1) := by decide +kernel
theorem dX5_write_46 : decode cX5_write 46 = .ok (.lreturn, 1) := by decide +kernel
theorem dX5_write_47 : decode cX5_write 47 = .ok (.aload_n 0, 1) := by decide +kernel
theorem dX5_write_48 : decode cX5_write 48 = .ok (.getfield 36, 3) := by decide +kernel
theorem dX5_write_51 : decode cX5_write 51 = .ok (.iload_n 1, 1) := by decide +kernel
theorem dX5_write_52 : decode cX5_write 52 = .ok (.aaload, 1) := by decide +kernel
theorem dX5_write_53 : decode cX5_write 53 = .ok (.getfield 209, 3) := by decide +kernel
theorem dX5_write_56 : decode cX5_write 56 = .ok (.iload_n 2, 1) := by decide +kernel
theorem dX5_write_57 : decode cX5_write 57 = .ok (.laload, 1) := by decide +kernel
theorem dX5_write_58 : decode cX5_write 58 = .ok (.lstore 6, 2) := by decide +kernel
theorem dX5_write_60 : decode cX5_write 60 = .ok (.aload_n 0, 1) := by decide +kernel
theorem dX5_write_61 : decode cX5_write 61 = .ok (.getfield 36, 3) := by decide +kernel
theorem dX5_write_64 : decode cX5_write 64 = .ok (.iload_n 1, 1) := by decide +kernel
theorem dX5_write_65 : decode cX5_write 65 = .ok (.aaload, 1) := by decide +kernel
theorem dX5_write_66 : decode cX5_write 66 = .ok (.iload_n 2, 1) := by decide +kernel
theorem dX5_write_67 : decode cX5_write 67 = .ok (.lload_n 3, 1) := by decide +kernel
theorem dX5_write_68 : decode cX5_write 68 = .ok (.invokevirtual 213, 3) := by decide +kernel
theorem dX5_write_71 : decode cX5_write 71 = .ok (.lload 6, 2) := by decide +kernel
theorem dX5_write_73 : decode cX5_write 73 = .ok (.lreturn, 1) := by decide +kernel
theorem dX5_copy_0 : decode cX5_copy 0 = .ok (.aload_n 0, 1) := by decide +kernel
theorem dX5_copy_1 : decode cX5_copy 1 = .ok (.iload_n 1, 1) := by decide +kernel
theorem dX5_copy_2 : decode cX5_copy 2 = .ok (.invokevirtual 197, 3) := by decide +kernel
theorem dX5_copy_5 : decode cX5_copy 5 = .ok (.ifCond .eq 11, 3) := by decide +kernel
theorem dX5_copy_8 : decode cX5_copy 8 = .ok (.aload_n 0, 1) := by decide +kernel
theorem dX5_copy_9 : decode cX5_copy 9 = .ok (.iload_n 3, 1) := by decide +kernel
theorem dX5_copy_10 : decode cX5_copy 10 = .ok (.invokevirtual 197, 3) := by decide +kernel
theorem dX5_copy_13 : decode cX5_copy 13 = .ok (.ifCond .ne 10, 3) := by decide +kernel
theorem dX5_copy_16 : decode cX5_copy 16 = .ok (.aload_n 0, 1) := by decide +kernel
theorem dX5_copy_17 : decode cX5_copy 17 = .ok (.ldc 48, 2) := by decide +kernel
theorem dX5_copy_19 : decode cX5_copy 19 = .ok (.invokevirtual 49, 3) := by decide +kernel
theorem dX5_copy_22 : decode cX5_copy 22 = .ok (.ireturn, 1) := by decide +kernel
theorem dX5_copy_23 : decode cX5_copy 23 = .ok (.aload_n 0, 1) := by decide +kernel
theorem dX5_copy_24 : decode cX5_copy 24 = .ok (.getfield 36, 3) := by decide +kernel
theorem dX5_copy_27 : decode cX5_copy 27 = .ok (.iload_n 1, 1) := by decide +kernel
theorem dX5_copy_28 : decode cX5_copy 28 = .ok (.aaload, 1) := by decide +kernel
theorem dX5_copy_29 : decode cX5_copy 29 = .ok (.astore 6, 2) := by decide +kernel
theorem dX5_copy_31 : decode cX5_copy 31 = .ok (.aload_n 0, 1) := by decide +kernel
theorem dX5_copy_32 : decode cX5_copy 32 = .ok (.getfield 36, 3) := by decide +kernel
theorem dX5_copy_35 : decode cX5_copy 35 = .ok (.iload_n 3, 1) := by decide +kernel
theorem dX5_copy_36 : decode cX5_copy 36 = .ok (.aaload, 1) := by decide +kernel
theorem dX5_copy_37 : decode cX5_copy 37 = .ok (.astore 7, 2) := by decide +kernel
theorem dX5_copy_39 : decode cX5_copy 39 = .ok (.aload 6, 2) := by decide +kernel
theorem dX5_copy_41 : decode cX5_copy 41 = .ok (.invokevirtual 216, 3) := by decide +kernel
theorem dX5_copy_44 : decode cX5_copy 44 = .ok (.ifCond .ne 11, 3) := by decide +kernel
theorem dX5_copy_47 : decode cX5_copy 47 = .ok (.aload 7, 2) := by decide +kernel
theorem dX5_copy_49 : decode cX5_copy 49 = .ok (.invokevirtual 216, 3) := by decide +kernel
theorem dX5_copy_52 : decode cX5_copy 52 = .ok (.ifCond .eq 10, 3) := by decide +kernel
theorem dX5_copy_55 : decode cX5_copy 55 = .ok (.aload_n 0, 1) := by decide +kernel
theorem dX5_copy_56 : decode cX5_copy 56 = .ok (.ldc 219, 2) := by decide +kernel
theorem dX5_copy_58 : decode cX5_copy 58 = .ok (.invokevirtual 49, 3) := by decide +kernel
theorem dX5_copy_61 : decode cX5_copy 61 = .ok (.ireturn, 1) := by decide +kernel
theorem dX5_copy_62 : decode cX5_copy 62 = .ok (.aload 6, 2) := by decide +kernel
theorem dX5_copy_64 : decode cX5_copy 64 = .ok (.getfield 220, 3) := by decide +kernel
theorem dX5_copy_67 : decode cX5_copy 67 = .ok (.aload 7, 2) := by decide +kernel
theorem dX5_copy_69 : decode cX5_copy 69 = .ok (.getfield 220, 3) := by decide +kernel
theorem dX5_copy_72 : decode cX5_copy 72 = .ok (.if_icmp .eq 10, 3) := by decide +kernel
theorem dX5_copy_75 : decode cX5_copy 75 = .ok (.aload_n 0, 1) := by decide +kernel
theorem dX5_copy_76 : decode cX5_copy 76 = .ok (.ldc 99, 2) := by decide +kernel
theorem dX5_copy_78 : decode cX5_copy 78 = .ok (.invokevirtual 49, 3) := by decide +kernel
theorem dX5_copy_81 : decode cX5_copy 81 = .ok (.ireturn, 1) := by decide +kernel
theorem dX5_copy_82 : decode cX5_copy 82 = .ok (.aload 6, 2) := by decide +kernel
theorem dX5_copy_84 : decode cX5_copy 84 = .ok (.iload_n 2, 1) := by decide +kernel
theorem dX5_copy_85 : decode cX5_copy 85 = .ok (.iload 5, 2) := by decide +kernel
theorem dX5_copy_87 : decode cX5_copy 87 = .ok (.invokevirtual 223, 3) := by decide +kernel
theorem dX5_copy_90 : decode cX5_copy 90 = .ok (.ifCond .eq 15, 3) := by decide +kernel
theorem dX5_copy_93 : decode cX5_copy 93 = .ok (.aload 7, 2) := by decide +kernel
theorem dX5_copy_95 : decode cX5_copy 95 = .ok (.iload 4, 2) := by decide +kernel
theorem dX5_copy_97 : decode cX5_copy 97 = .ok (.iload 5, 2) := by decide +kernel
theorem dX5_copy_99 : decode cX5_copy 99 = .ok (.invokevirtual 223, 3) := by decide +kernel
theorem dX5_copy_102 : decode cX5_copy 102 = .ok (.ifCond .ne 10, 3) := by decide +kernel
theorem dX5_copy_105 : decode cX5_copy 105 = .ok (.aload_n 0, 1) := by decide +kernel
theorem dX5_copy_106 : decode cX5_copy 106 = .ok (.ldc 48, 2) := by decide +kernel
theorem dX5_copy_108 : decode cX5_copy 108 = .ok (.invokevirtual 49, 3) := by decide +kernel
theorem dX5_copy_111 : decode cX5_copy 111 = .ok (.ireturn, 1) := by decide +kernel
theorem dX5_copy_112 : decode cX5_copy 112 = .ok (.aload 6, 2) := by decide +kernel
theorem dX5_copy_114 : decode cX5_copy 114 = .ok (.getfield 209, 3) := by decide +kernel
theorem dX5_copy_117 : decode cX5_copy 117 = .ok (.iload_n 2, 1) := by decide +kernel
theorem dX5_copy_118 : decode cX5_copy 118 = .ok (.aload 7, 2) := by decide +kernel
theorem dX5_copy_120 : decode cX5_copy 120 = .ok (.getfield 209, 3) := by decide +kernel
theorem dX5_copy_123 : decode cX5_copy 123 = .ok (.iload 4, 2) := by decide +kernel
theorem dX5_copy_125 : decode cX5_copy 125 = .ok (.iload 5, 2) := by decide +kernel
theorem dX5_copy_127 : decode cX5_copy 127 = .ok (.invokestatic 226, 3) := by decide +kernel
theorem dX5_copy_130 : decode cX5_copy 130 = .ok (.iload 5, 2) := by decide +kernel
theorem dX5_copy_132 : decode cX5_copy 132 = .ok (.ireturn, 1) := by decide +kernel
theorem dX5_lays_0 : decode cX5_lays 0 = .ok (.aload_n 0, 1) := by decide +kernel
theorem dX5_lays_1 : decode cX5_lays 1 = .ok (.iload_n 1, 1) := by decide +kernel
theorem dX5_lays_2 : decode cX5_lays 2 = .ok (.invokevirtual 206, 3) := by decide +kernel
theorem dX5_lays_5 : decode cX5_lays 5 = .ok (.istore_n 2, 1) := by decide +kernel
theorem dX5_lays_6 : decode cX5_lays 6 = .ok (.iload_n 2, 1) := by decide +kernel
theorem dX5_lays_7 : decode cX5_lays 7 = .ok (.ifCond .eq 9, 3) := by decide +kernel
theorem dX5_lays_10 : decode cX5_lays 10 = .ok (.aload_n 0, 1) := by decide +kernel
theorem dX5_lays_11 : decode cX5_lays 11 = .ok (.iload_n 2, 1) := by decide +kernel
theorem dX5_lays_12 : decode cX5_lays 12 = .ok (.invokevirtual 49, 3) := by decide +kernel
theorem dX5_lays_15 : decode cX5_lays 15 = .ok (.ireturn, 1) := by decide +kernel
theorem dX5_lays_16 : decode cX5_lays 16 = .ok (.iconst 0, 1) := by decide +kernel
theorem dX5_lays_17 : decode cX5_lays 17 = .ok (.istore_n 3, 1) := by decide +kernel
theorem dX5_lays_18 : decode cX5_lays 18 = .ok (.iconst 0, 1) := by decide +kernel
theorem dX5_lays_19 : decode cX5_lays 19 = .ok (.istore 4, 2) := by decide +kernel
theorem dX5_lays_21 : decode cX5_lays 21 = .ok (.iload 4, 2) := by decide +kernel
theorem dX5_lays_23 : decode cX5_lays 23 = .ok (.aload_n 0, 1) := by decide +kernel
theorem dX5_lays_24 : decode cX5_lays 24 = .ok (.getfield 36, 3) := by decide +kernel
theorem dX5_lays_27 : decode cX5_lays 27 = .ok (.iload_n 1, 1) := by decide +kernel
theorem dX5_lays_28 : decode cX5_lays 28 = .ok (.aaload, 1) := by decide +kernel
theorem dX5_lays_29 : decode cX5_lays 29 = .ok (.getfield 205, 3) := by decide +kernel
theorem dX5_lays_32 : decode cX5_lays 32 = .ok (.if_icmp .ge 69, 3) := by decide +kernel
theorem dX5_lays_35 : decode cX5_lays 35 = .ok (.iload 4, 2) := by decide +kernel
theorem dX5_lays_37 : decode cX5_lays 37 = .ok (.aload_n 0, 1) := by decide +kernel
theorem dX5_lays_38 : decode cX5_lays 38 = .ok (.getfield 10, 3) := by decide +kernel
theorem dX5_lays_41 : decode cX5_lays 41 = .ok (.getfield 160, 3) := by decide +kernel
theorem dX5_lays_44 : decode cX5_lays 44 = .ok (.if_icmp .ge 57, 3) := by decide +kernel
theorem dX5_lays_47 : decode cX5_lays 47 = .ok (.aload_n 0, 1) := by decide +kernel
theorem dX5_lays_48 : decode cX5_lays 48 = .ok (.getfield 36, 3) := by decide +kernel
theorem dX5_lays_51 : decode cX5_lays 51 = .ok (.iload_n 1, 1) := by decide +kernel
theorem dX5_lays_52 : decode cX5_lays 52 = .ok (.aaload, 1) := by decide +kernel
theorem dX5_lays_53 : decode cX5_lays 53 = .ok (.getfield 209, 3) := by decide +kernel
theorem dX5_lays_56 : decode cX5_lays 56 = .ok (.iload 4, 2) := by decide +kernel
theorem dX5_lays_58 : decode cX5_lays 58 = .ok (.laload, 1) := by decide +kernel
theorem dX5_lays_59 : decode cX5_lays 59 = .ok (.lstore 5, 2) := by decide +kernel
theorem dX5_lays_61 : decode cX5_lays 61 = .ok (.lload 5, 2) := by decide +kernel
theorem dX5_lays_63 : decode cX5_lays 63 = .ok (.lconst 0, 1) := by decide +kernel
theorem dX5_lays_64 : decode cX5_lays 64 = .ok (.lcmp, 1) := by decide +kernel
theorem dX5_lays_65 : decode cX5_lays 65 = .ok (.ifCond .lt 30, 3) := by decide +kernel
theorem dX5_lays_68 : decode cX5_lays 68 = .ok (.lload 5, 2) := by decide +kernel
theorem dX5_lays_70 : decode cX5_lays 70 = .ok (.iconst 3, 1) := by decide +kernel
theorem dX5_lays_71 : decode cX5_lays 71 = .ok (.invokestatic 88, 3) := by decide +kernel
theorem dX5_lays_74 : decode cX5_lays 74 = .ok (.i2l, 1) := by decide +kernel
theorem dX5_lays_75 : decode cX5_lays 75 = .ok (.lcmp, 1) := by decide +kernel
theorem dX5_lays_76 : decode cX5_lays 76 = .ok (.ifCond .gt 19, 3) := by decide +kernel
theorem dX5_lays_79 : decode cX5_lays 79 = .ok (.aload_n 0, 1) := by decide +kernel
theorem dX5_lays_80 : decode cX5_lays 80 = .ok (.getfield 10, 3) := by decide +kernel
theorem dX5_lays_83 : decode cX5_lays 83 = .ok (.getfield 100, 3) := by decide +kernel
theorem dX5_lays_86 : decode cX5_lays 86 = .ok (.iload 4, 2) := by decide +kernel
theorem dX5_lays_88 : decode cX5_lays 88 = .ok (.lload 5, 2) := by decide +kernel
theorem dX5_lays_90 : decode cX5_lays 90 = .ok (.l2i, 1) := by decide +kernel
theorem dX5_lays_91 : decode cX5_lays 91 = .ok (.iastore, 1) := by decide +kernel
theorem dX5_lays_92 : decode cX5_lays 92 = .ok (.iinc 3 1, 3) := by decide +kernel
theorem dX5_lays_95 : decode cX5_lays 95 = .ok (.iinc 4 1, 3) := by decide +kernel
theorem dX5_lays_98 : decode cX5_lays 98 = .ok (.goto (-77), 3) := by decide +kernel
theorem dX5_lays_101 : decode cX5_lays 101 = .ok (.iload_n 3, 1) := by decide +kernel
theorem dX5_lays_102 : decode cX5_lays 102 = .ok (.ireturn, 1) := by decide +kernel
theorem dX5_book_0 : decode cX5_book 0 = .ok (.aload_n 0, 1) := by decide +kernel
theorem dX5_book_1 : decode cX5_book 1 = .ok (.iload_n 1, 1) := by decide +kernel
theorem dX5_book_2 : decode cX5_book 2 = .ok (.iload_n 2, 1) := by decide +kernel
theorem dX5_book_3 : decode cX5_book 3 = .ok (.invokevirtual 232, 3) := by decide +kernel
theorem dX5_book_6 : decode cX5_book 6 = .ok (.istore_n 3, 1) := by decide +kernel
theorem dX5_book_7 : decode cX5_book 7 = .ok (.iload_n 3, 1) := by decide +kernel
theorem dX5_book_8 : decode cX5_book 8 = .ok (.ifCond .eq 9, 3) := by decide +kernel
theorem dX5_book_11 : decode cX5_book 11 = .ok (.aload_n 0, 1) := by decide +kernel
theorem dX5_book_12 : decode cX5_book 12 = .ok (.iload_n 3, 1) := by decide +kernel
theorem dX5_book_13 : decode cX5_book 13 = .ok (.invokevirtual 49, 3) := by decide +kernel
theorem dX5_book_16 : decode cX5_book 16 = .ok (.ireturn, 1) := by decide +kernel
theorem dX5_book_17 : decode cX5_book 17 = .ok (.aload_n 0, 1) := by decide +kernel
theorem dX5_book_18 : decode cX5_book 18 = .ok (.invokevirtual 129, 3) := by decide +kernel
theorem dX5_book_21 : decode cX5_book 21 = .ok (.iconst 0, 1) := by decide +kernel
theorem dX5_book_22 : decode cX5_book 22 = .ok (.istore 4, 2) := by decide +kernel
theorem dX5_book_24 : decode cX5_book 24 = .ok (.iload 4, 2) := by decide +kernel
theorem dX5_book_26 : decode cX5_book 26 = .ok (.aload_n 0, 1) := by decide +kernel
theorem dX5_book_27 : decode cX5_book 27 = .ok (.getfield 36, 3) := by decide +kernel
theorem dX5_book_30 : decode cX5_book 30 = .ok (.iload_n 1, 1) := by decide +kernel
theorem dX5_book_31 : decode cX5_book 31 = .ok (.aaload, 1) := by decide +kernel
theorem dX5_book_32 : decode cX5_book 32 = .ok (.getfield 205, 3) := by decide +kernel
theorem dX5_book_35 : decode cX5_book 35 = .ok (.if_icmp .ge 37, 3) := by decide +kernel
theorem dX5_book_38 : decode cX5_book 38 = .ok (.aload_n 0, 1) := by decide +kernel
theorem dX5_book_39 : decode cX5_book 39 = .ok (.getfield 36, 3) := by decide +kernel
theorem dX5_book_42 : decode cX5_book 42 = .ok (.iload_n 1, 1) := by decide +kernel
theorem dX5_book_43 : decode cX5_book 43 = .ok (.aaload, 1) := by decide +kernel
theorem dX5_book_44 : decode cX5_book 44 = .ok (.iload 4, 2) := by decide +kernel
theorem dX5_book_46 : decode cX5_book 46 = .ok (.aload_n 0, 1) := by decide +kernel
theorem dX5_book_47 : decode cX5_book 47 = .ok (.getfield 16, 3) := by decide +kernel
theorem dX5_book_50 : decode cX5_book 50 = .ok (.getfield 132, 3) := by decide +kernel
theorem dX5_book_53 : decode cX5_book 53 = .ok (.iload_n 2, 1) := by decide +kernel
theorem dX5_book_54 : decode cX5_book 54 = .ok (.iaload, 1) := by decide +kernel
theorem dX5_book_55 : decode cX5_book 55 = .ok (.i2l, 1) := by decide +kernel
theorem dX5_book_56 : decode cX5_book 56 = .ok (.invokevirtual 213, 3) := by decide +kernel
theorem dX5_book_59 : decode cX5_book 59 = .ok (.aload_n 0, 1) := by decide +kernel
theorem dX5_book_60 : decode cX5_book 60 = .ok (.getfield 16, 3) := by decide +kernel
theorem dX5_book_63 : decode cX5_book 63 = .ok (.invokevirtual 147, 3) := by decide +kernel
theorem dX5_book_66 : decode cX5_book 66 = .ok (.iinc 4 1, 3) := by decide +kernel
theorem dX5_book_69 : decode cX5_book 69 = .ok (.goto (-45), 3) := by decide +kernel
theorem dX5_book_72 : decode cX5_book 72 = .ok (.aload_n 0, 1) := by decide +kernel
theorem dX5_book_73 : decode cX5_book 73 = .ok (.getfield 36, 3) := by decide +kernel
theorem dX5_book_76 : decode cX5_book 76 = .ok (.iload_n 1, 1) := by decide +kernel
theorem dX5_book_77 : decode cX5_book 77 = .ok (.aaload, 1) := by decide +kernel
theorem dX5_book_78 : decode cX5_book 78 = .ok (.getfield 205, 3) := by decide +kernel
theorem dX5_book_81 : decode cX5_book 81 = .ok (.ireturn, 1) := by decide +kernel
theorem dX5_read_0 : decode cX5_read 0 = .ok (.aload_n 0, 1) := by decide +kernel
theorem dX5_read_1 : decode cX5_read 1 = .ok (.iload_n 1, 1) := by decide +kernel
theorem dX5_read_2 : decode cX5_read 2 = .ok (.iload_n 2, 1) := by decide +kernel
theorem dX5_read_3 : decode cX5_read 3 = .ok (.invokevirtual 232, 3) := by decide +kernel
theorem dX5_read_6 : decode cX5_read 6 = .ok (.istore_n 3, 1) := by decide +kernel
theorem dX5_read_7 : decode cX5_read 7 = .ok (.iload_n 3, 1) := by decide +kernel
theorem dX5_read_8 : decode cX5_read 8 = .ok (.ifCond .eq 9, 3) := by decide +kernel
theorem dX5_read_11 : decode cX5_read 11 = .ok (.aload_n 0, 1) := by decide +kernel
theorem dX5_read_12 : decode cX5_read 12 = .ok (.iload_n 3, 1) := by decide +kernel
theorem dX5_read_13 : decode cX5_read 13 = .ok (.invokevirtual 49, 3) := by decide +kernel
theorem dX5_read_16 : decode cX5_read 16 = .ok (.ireturn, 1) := by decide +kernel
theorem dX5_read_17 : decode cX5_read 17 = .ok (.iconst 0, 1) := by decide +kernel
theorem dX5_read_18 : decode cX5_read 18 = .ok (.istore 4, 2) := by decide +kernel
theorem dX5_read_20 : decode cX5_read 20 = .ok (.iconst 0, 1) := by decide +kernel
theorem dX5_read_21 : decode cX5_read 21 = .ok (.istore 5, 2) := by decide +kernel
theorem dX5_read_23 : decode cX5_read 23 = .ok (.iload 5, 2) := by decide +kernel
theorem dX5_read_25 : decode cX5_read 25 = .ok (.iconst 5, 1) := by decide +kernel
theorem dX5_read_26 : decode cX5_read 26 = .ok (.if_icmp .gt 70, 3) := by decide +kernel
theorem dX5_read_29 : decode cX5_read 29 = .ok (.iconst 0, 1) := by decide +kernel
theorem dX5_read_30 : decode cX5_read 30 = .ok (.istore 6, 2) := by decide +kernel
theorem dX5_read_32 : decode cX5_read 32 = .ok (.iload 6, 2) := by decide +kernel
theorem dX5_read_34 : decode cX5_read 34 = .ok (.iconst 3, 1) := by decide +kernel
theorem dX5_read_35 : decode cX5_read 35 = .ok (.invokestatic 88, 3) := by decide +kernel
theorem dX5_read_38 : decode cX5_read 38 = .ok (.if_icmp .gt 52, 3) := by decide +kernel
theorem dX5_read_41 : decode cX5_read 41 = .ok (.aload_n 0, 1) := by decide +kernel
theorem dX5_read_42 : decode cX5_read 42 = .ok (.invokevirtual 129, 3) := by decide +kernel
theorem dX5_read_45 : decode cX5_read 45 = .ok (.aload_n 0, 1) := by decide +kernel
theorem dX5_read_46 : decode cX5_read 46 = .ok (.getfield 16, 3) := by decide +kernel
theorem dX5_read_49 : decode cX5_read 49 = .ok (.getfield 75, 3) := by decide +kernel
theorem dX5_read_52 : decode cX5_read 52 = .ok (.iload_n 2, 1) := by decide +kernel
theorem dX5_read_53 : decode cX5_read 53 = .ok (.iload 5, 2) := by decide +kernel
theorem dX5_read_55 : decode cX5_read 55 = .ok (.iastore, 1) := by decide +kernel
theorem dX5_read_56 : decode cX5_read 56 = .ok (.aload_n 0, 1) := by decide +kernel
theorem dX5_read_57 : decode cX5_read 57 = .ok (.getfield 16, 3) := by decide +kernel
theorem dX5_read_60 : decode cX5_read 60 = .ok (.getfield 100, 3) := by decide +kernel
theorem dX5_read_63 : decode cX5_read 63 = .ok (.iload_n 2, 1) := by decide +kernel
theorem dX5_read_64 : decode cX5_read 64 = .ok (.iload 6, 2) := by decide +kernel
theorem dX5_read_66 : decode cX5_read 66 = .ok (.iastore, 1) := by decide +kernel
theorem dX5_read_67 : decode cX5_read 67 = .ok (.aload_n 0, 1) := by decide +kernel
theorem dX5_read_68 : decode cX5_read 68 = .ok (.aload_n 0, 1) := by decide +kernel
theorem dX5_read_69 : decode cX5_read 69 = .ok (.getfield 36, 3) := by decide +kernel
theorem dX5_read_72 : decode cX5_read 72 = .ok (.iload_n 1, 1) := by decide +kernel
theorem dX5_read_73 : decode cX5_read 73 = .ok (.aaload, 1) := by decide +kernel
theorem dX5_read_74 : decode cX5_read 74 = .ok (.iload_n 2, 1) := by decide +kernel
theorem dX5_read_75 : decode cX5_read 75 = .ok (.invokevirtual 235, 3) := by decide +kernel
theorem dX5_read_78 : decode cX5_read 78 = .ok (.ifCond .eq 6, 3) := by decide +kernel
theorem dX5_read_81 : decode cX5_read 81 = .ok (.iinc 4 1, 3) := by decide +kernel
theorem dX5_read_84 : decode cX5_read 84 = .ok (.iinc 6 1, 3) := by decide +kernel
theorem dX5_read_87 : decode cX5_read 87 = .ok (.goto (-55), 3) := by decide +kernel
theorem dX5_read_90 : decode cX5_read 90 = .ok (.iinc 5 1, 3) := by decide +kernel
theorem dX5_read_93 : decode cX5_read 93 = .ok (.goto (-70), 3) := by decide +kernel
theorem dX5_read_96 : decode cX5_read 96 = .ok (.iload 4, 2) := by decide +kernel
theorem dX5_read_98 : decode cX5_read 98 = .ok (.ireturn, 1) := by decide +kernel
theorem dX5_image_0 : decode cX5_image 0 = .ok (.aload_n 0, 1) := by decide +kernel
theorem dX5_image_1 : decode cX5_image 1 = .ok (.getfield 19, 3) := by decide +kernel
theorem dX5_image_4 : decode cX5_image 4 = .ok (.aload_n 0, 1) := by decide +kernel
theorem dX5_image_5 : decode cX5_image 5 = .ok (.getfield 10, 3) := by decide +kernel
theorem dX5_image_8 : decode cX5_image 8 = .ok (.invokevirtual 193, 3) := by decide +kernel
theorem dX5_image_11 : decode cX5_image 11 = .ok (.aload_n 0, 1) := by decide +kernel
theorem dX5_image_12 : decode cX5_image 12 = .ok (.iconst 1, 1) := by decide +kernel
theorem dX5_image_13 : decode cX5_image 13 = .ok (.putfield 22, 3) := by decide +kernel
theorem dX5_image_16 : decode cX5_image 16 = .ok (.iconst 1, 1) := by decide +kernel
theorem dX5_image_17 : decode cX5_image 17 = .ok (.ireturn, 1) := by decide +kernel
theorem dX5_undo_0 : decode cX5_undo 0 = .ok (.aload_n 0, 1) := by decide +kernel
theorem dX5_undo_1 : decode cX5_undo 1 = .ok (.getfield 22, 3) := by decide +kernel
theorem dX5_undo_4 : decode cX5_undo 4 = .ok (.ifCond .ne 10, 3) := by decide +kernel
theorem dX5_undo_7 : decode cX5_undo 7 = .ok (.aload_n 0, 1) := by decide +kernel
theorem dX5_undo_8 : decode cX5_undo 8 = .ok (.ldc 109, 2) := by decide +kernel
theorem dX5_undo_10 : decode cX5_undo 10 = .ok (.invokevirtual 49, 3) := by decide +kernel
theorem dX5_undo_13 : decode cX5_undo 13 = .ok (.ireturn, 1) := by decide +kernel
theorem dX5_undo_14 : decode cX5_undo 14 = .ok (.aload_n 0, 1) := by decide +kernel
theorem dX5_undo_15 : decode cX5_undo 15 = .ok (.getfield 10, 3) := by decide +kernel
theorem dX5_undo_18 : decode cX5_undo 18 = .ok (.aload_n 0, 1) := by decide +kernel
theorem dX5_undo_19 : decode cX5_undo 19 = .ok (.getfield 19, 3) := by decide +kernel
theorem dX5_undo_22 : decode cX5_undo 22 = .ok (.invokevirtual 193, 3) := by decide +kernel
theorem dX5_undo_25 : decode cX5_undo 25 = .ok (.aload_n 0, 1) := by decide +kernel
theorem dX5_undo_26 : decode cX5_undo 26 = .ok (.getfield 10, 3) := by decide +kernel
theorem dX5_undo_29 : decode cX5_undo 29 = .ok (.getfield 160, 3) := by decide +kernel
theorem dX5_undo_32 : decode cX5_undo 32 = .ok (.ireturn, 1) := by decide +kernel
theorem dX5_tear_0 : decode cX5_tear 0 = .ok (.aload_n 0, 1) := by decide +kernel
theorem dX5_tear_1 : decode cX5_tear 1 = .ok (.getfield 22, 3) := by decide +kernel
theorem dX5_tear_4 : decode cX5_tear 4 = .ok (.ifCond .eq 7, 3) := by decide +kernel
theorem dX5_tear_7 : decode cX5_tear 7 = .ok (.iconst 1, 1) := by decide +kernel
theorem dX5_tear_8 : decode cX5_tear 8 = .ok (.goto 4, 3) := by decide +kernel
theorem dX5_tear_11 : decode cX5_tear 11 = .ok (.iconst 0, 1) := by decide +kernel
theorem dX5_tear_12 : decode cX5_tear 12 = .ok (.istore_n 1, 1) := by decide +kernel
theorem dX5_tear_13 : decode cX5_tear 13 = .ok (.aload_n 0, 1) := by decide +kernel
theorem dX5_tear_14 : decode cX5_tear 14 = .ok (.iconst 0, 1) := by decide +kernel
theorem dX5_tear_15 : decode cX5_tear 15 = .ok (.putfield 22, 3) := by decide +kernel
theorem dX5_tear_18 : decode cX5_tear 18 = .ok (.iload_n 1, 1) := by decide +kernel
theorem dX5_tear_19 : decode cX5_tear 19 = .ok (.ireturn, 1) := by decide +kernel
theorem dX5_count_0 : decode cX5_count 0 = .ok (.iload_n 1, 1) := by decide +kernel
theorem dX5_count_1 : decode cX5_count 1 = .ok (.tableswitch 65 0 3 #[31, 39, 47, 56], 31) := by decide +kernel
theorem dX5_count_32 : decode cX5_count 32 = .ok (.aload_n 0, 1) := by decide +kernel
theorem dX5_count_33 : decode cX5_count 33 = .ok (.getfield 10, 3) := by decide +kernel
theorem dX5_count_36 : decode cX5_count 36 = .ok (.getfield 160, 3) := by decide +kernel
theorem dX5_count_39 : decode cX5_count 39 = .ok (.ireturn, 1) := by decide +kernel
theorem dX5_count_40 : decode cX5_count 40 = .ok (.aload_n 0, 1) := by decide +kernel
theorem dX5_count_41 : decode cX5_count 41 = .ok (.getfield 29, 3) := by decide +kernel
theorem dX5_count_44 : decode cX5_count 44 = .ok (.getfield 184, 3) := by decide +kernel
theorem dX5_count_47 : decode cX5_count 47 = .ok (.ireturn, 1) := by decide +kernel
theorem dX5_count_48 : decode cX5_count 48 = .ok (.aload_n 0, 1) := by decide +kernel
theorem dX5_count_49 : decode cX5_count 49 = .ok (.getfield 10, 3) := by decide +kernel
theorem dX5_count_52 : decode cX5_count 52 = .ok (.iconst 4, 1) := by decide +kernel
theorem dX5_count_53 : decode cX5_count 53 = .ok (.invokevirtual 126, 3) := by decide +kernel
theorem dX5_count_56 : decode cX5_count 56 = .ok (.ireturn, 1) := by decide +kernel
theorem dX5_count_57 : decode cX5_count 57 = .ok (.aload_n 0, 1) := by decide +kernel
theorem dX5_count_58 : decode cX5_count 58 = .ok (.getfield 10, 3) := by decide +kernel
theorem dX5_count_61 : decode cX5_count 61 = .ok (.iconst 3, 1) := by decide +kernel
theorem dX5_count_62 : decode cX5_count 62 = .ok (.invokevirtual 126, 3) := by decide +kernel
theorem dX5_count_65 : decode cX5_count 65 = .ok (.ireturn, 1) := by decide +kernel
theorem dX5_count_66 : decode cX5_count 66 = .ok (.aload_n 0, 1) := by decide +kernel
theorem dX5_count_67 : decode cX5_count 67 = .ok (.ldc 48, 2) := by decide +kernel
theorem dX5_count_69 : decode cX5_count 69 = .ok (.invokevirtual 49, 3) := by decide +kernel
theorem dX5_count_72 : decode cX5_count 72 = .ok (.ireturn, 1) := by decide +kernel
theorem dX5_status_0 : decode cX5_status 0 = .ok (.iload_n 1, 1) := by decide +kernel
theorem dX5_status_1 : decode cX5_status 1 = .ok (.iconst (-1), 1) := by decide +kernel
theorem dX5_status_2 : decode cX5_status 2 = .ok (.bipush 6, 2) := by decide +kernel
theorem dX5_status_4 : decode cX5_status 4 = .ok (.invokestatic 44, 3) := by decide +kernel
theorem dX5_status_7 : decode cX5_status 7 = .ok (.ifCond .ne 10, 3) := by decide +kernel
theorem dX5_status_10 : decode cX5_status 10 = .ok (.aload_n 0, 1) := by decide +kernel
theorem dX5_status_11 : decode cX5_status 11 = .ok (.ldc 48, 2) := by decide +kernel
theorem dX5_status_13 : decode cX5_status 13 = .ok (.invokevirtual 49, 3) := by decide +kernel
theorem dX5_status_16 : decode cX5_status 16 = .ok (.ireturn, 1) := by decide +kernel
theorem dX5_status_17 : decode cX5_status 17 = .ok (.iload_n 1, 1) := by decide +kernel
theorem dX5_status_18 : decode cX5_status 18 = .ok (.ifCond .lt 10, 3) := by decide +kernel
theorem dX5_status_21 : decode cX5_status 21 = .ok (.aload_n 0, 1) := by decide +kernel
theorem dX5_status_22 : decode cX5_status 22 = .ok (.getfield 40, 3) := by decide +kernel
theorem dX5_status_25 : decode cX5_status 25 = .ok (.iload_n 1, 1) := by decide +kernel
theorem dX5_status_26 : decode cX5_status 26 = .ok (.iaload, 1) := by decide +kernel
theorem dX5_status_27 : decode cX5_status 27 = .ok (.ireturn, 1) := by decide +kernel
theorem dX5_status_28 : decode cX5_status 28 = .ok (.iconst 0, 1) := by decide +kernel
theorem dX5_status_29 : decode cX5_status 29 = .ok (.istore_n 2, 1) := by decide +kernel
theorem dX5_status_30 : decode cX5_status 30 = .ok (.iconst 0, 1) := by decide +kernel
theorem dX5_status_31 : decode cX5_status 31 = .ok (.istore_n 3, 1) := by decide +kernel
theorem dX5_status_32 : decode cX5_status 32 = .ok (.iload_n 3, 1) := by decide +kernel
theorem dX5_status_33 : decode cX5_status 33 = .ok (.bipush 7, 2) := by decide +kernel
theorem dX5_status_35 : decode cX5_status 35 = .ok (.if_icmp .ge 18, 3) := by decide +kernel
theorem dX5_status_38 : decode cX5_status 38 = .ok (.iload_n 2, 1) := by decide +kernel
theorem dX5_status_39 : decode cX5_status 39 = .ok (.aload_n 0, 1) := by decide +kernel
theorem dX5_status_40 : decode cX5_status 40 = .ok (.getfield 40, 3) := by decide +kernel
theorem dX5_status_43 : decode cX5_status 43 = .ok (.iload_n 3, 1) := by decide +kernel
theorem dX5_status_44 : decode cX5_status 44 = .ok (.iaload, 1) := by decide +kernel
theorem dX5_status_45 : decode cX5_status 45 = .ok (.iadd, 1) := by decide +kernel
theorem dX5_status_46 : decode cX5_status 46 = .ok (.istore_n 2, 1) := by decide +kernel
theorem dX5_status_47 : decode cX5_status 47 = .ok (.iinc 3 1, 3) := by decide +kernel
theorem dX5_status_50 : decode cX5_status 50 = .ok (.goto (-18), 3) := by decide +kernel
theorem dX5_status_53 : decode cX5_status 53 = .ok (.iload_n 2, 1) := by decide +kernel
theorem dX5_status_54 : decode cX5_status 54 = .ok (.ireturn, 1) := by decide +kernel
theorem dX5_finding_0 : decode cX5_finding 0 = .ok (.ldc 48, 2) := by decide +kernel
theorem dX5_finding_2 : decode cX5_finding 2 = .ok (.iload_n 1, 1) := by decide +kernel
theorem dX5_finding_3 : decode cX5_finding 3 = .ok (.isub, 1) := by decide +kernel
theorem dX5_finding_4 : decode cX5_finding 4 = .ok (.istore_n 2, 1) := by decide +kernel
theorem dX5_finding_5 : decode cX5_finding 5 = .ok (.iload_n 2, 1) := by decide +kernel
theorem dX5_finding_6 : decode cX5_finding 6 = .ok (.iconst 0, 1) := by decide +kernel
theorem dX5_finding_7 : decode cX5_finding 7 = .ok (.bipush 6, 2) := by decide +kernel
theorem dX5_finding_9 : decode cX5_finding 9 = .ok (.invokestatic 44, 3) := by decide +kernel
theorem dX5_finding_12 : decode cX5_finding 12 = .ok (.ifCond .eq 13, 3) := by decide +kernel
theorem dX5_finding_15 : decode cX5_finding 15 = .ok (.aload_n 0, 1) := by decide +kernel
theorem dX5_finding_16 : decode cX5_finding 16 = .ok (.getfield 40, 3) := by decide +kernel
theorem dX5_finding_19 : decode cX5_finding 19 = .ok (.iload_n 2, 1) := by decide +kernel
theorem dX5_finding_20 : decode cX5_finding 20 = .ok (.dup2, 1) := by decide +kernel
theorem dX5_finding_21 : decode cX5_finding 21 = .ok (.iaload, 1) := by decide +kernel
theorem dX5_finding_22 : decode cX5_finding 22 = .ok (.iconst 1, 1) := by decide +kernel
theorem dX5_finding_23 : decode cX5_finding 23 = .ok (.iadd, 1) := by decide +kernel
theorem dX5_finding_24 : decode cX5_finding 24 = .ok (.iastore, 1) := by decide +kernel
theorem dX5_finding_25 : decode cX5_finding 25 = .ok (.iload_n 1, 1) := by decide +kernel
theorem dX5_finding_26 : decode cX5_finding 26 = .ok (.ireturn, 1) := by decide +kernel
theorem dX5_isWithin_0 : decode cX5_isWithin 0 = .ok (.iload_n 0, 1) := by decide +kernel
theorem dX5_isWithin_1 : decode cX5_isWithin 1 = .ok (.iload_n 1, 1) := by decide +kernel
theorem dX5_isWithin_2 : decode cX5_isWithin 2 = .ok (.if_icmp .lt 12, 3) := by decide +kernel
theorem dX5_isWithin_5 : decode cX5_isWithin 5 = .ok (.iload_n 0, 1) := by decide +kernel
theorem dX5_isWithin_6 : decode cX5_isWithin 6 = .ok (.iload_n 2, 1) := by decide +kernel
theorem dX5_isWithin_7 : decode cX5_isWithin 7 = .ok (.if_icmp .gt 7, 3) := by decide +kernel
theorem dX5_isWithin_10 : decode cX5_isWithin 10 = .ok (.iconst 1, 1) := by decide +kernel
theorem dX5_isWithin_11 : decode cX5_isWithin 11 = .ok (.goto 4, 3) := by decide +kernel
theorem dX5_isWithin_14 : decode cX5_isWithin 14 = .ok (.iconst 0, 1) := by decide +kernel
theorem dX5_isWithin_15 : decode cX5_isWithin 15 = .ok (.ireturn, 1) := by decide +kernel
theorem dX5_isWalker_0 : decode cX5_isWalker 0 = .ok (.iload_n 1, 1) := by decide +kernel
theorem dX5_isWalker_1 : decode cX5_isWalker 1 = .ok (.ifCond .lt 18, 3) := by decide +kernel
theorem dX5_isWalker_4 : decode cX5_isWalker 4 = .ok (.iload_n 1, 1) := by decide +kernel
theorem dX5_isWalker_5 : decode cX5_isWalker 5 = .ok (.aload_n 0, 1) := by decide +kernel
theorem dX5_isWalker_6 : decode cX5_isWalker 6 = .ok (.getfield 10, 3) := by decide +kernel
theorem dX5_isWalker_9 : decode cX5_isWalker 9 = .ok (.getfield 160, 3) := by decide +kernel
theorem dX5_isWalker_12 : decode cX5_isWalker 12 = .ok (.if_icmp .ge 7, 3) := by decide +kernel
theorem dX5_isWalker_15 : decode cX5_isWalker 15 = .ok (.iconst 1, 1) := by decide +kernel
theorem dX5_isWalker_16 : decode cX5_isWalker 16 = .ok (.goto 4, 3) := by decide +kernel
theorem dX5_isWalker_19 : decode cX5_isWalker 19 = .ok (.iconst 0, 1) := by decide +kernel
theorem dX5_isWalker_20 : decode cX5_isWalker 20 = .ok (.ireturn, 1) := by decide +kernel
theorem dX5_isSheet_0 : decode cX5_isSheet 0 = .ok (.iload_n 1, 1) := by decide +kernel
theorem dX5_isSheet_1 : decode cX5_isSheet 1 = .ok (.ifCond .lt 16, 3) := by decide +kernel
theorem dX5_isSheet_4 : decode cX5_isSheet 4 = .ok (.iload_n 1, 1) := by decide +kernel
theorem dX5_isSheet_5 : decode cX5_isSheet 5 = .ok (.aload_n 0, 1) := by decide +kernel
theorem dX5_isSheet_6 : decode cX5_isSheet 6 = .ok (.getfield 36, 3) := by decide +kernel
theorem dX5_isSheet_9 : decode cX5_isSheet 9 = .ok (.arraylength, 1) := by decide +kernel
theorem dX5_isSheet_10 : decode cX5_isSheet 10 = .ok (.if_icmp .ge 7, 3) := by decide +kernel
theorem dX5_isSheet_13 : decode cX5_isSheet 13 = .ok (.iconst 1, 1) := by decide +kernel
theorem dX5_isSheet_14 : decode cX5_isSheet 14 = .ok (.goto 4, 3) := by decide +kernel
theorem dX5_isSheet_17 : decode cX5_isSheet 17 = .ok (.iconst 0, 1) := by decide +kernel
theorem dX5_isSheet_18 : decode cX5_isSheet 18 = .ok (.ireturn, 1) := by decide +kernel
theorem dX5_sheetFault_0 : decode cX5_sheetFault 0 = .ok (.aload_n 0, 1) := by decide +kernel
theorem dX5_sheetFault_1 : decode cX5_sheetFault 1 = .ok (.iload_n 1, 1) := by decide +kernel
theorem dX5_sheetFault_2 : decode cX5_sheetFault 2 = .ok (.invokevirtual 197, 3) := by decide +kernel
theorem dX5_sheetFault_5 : decode cX5_sheetFault 5 = .ok (.ifCond .ne 6, 3) := by decide +kernel
theorem dX5_sheetFault_8 : decode cX5_sheetFault 8 = .ok (.ldc 48, 2) := by decide +kernel
theorem dX5_sheetFault_10 : decode cX5_sheetFault 10 = .ok (.ireturn, 1) := by decide +kernel
theorem dX5_sheetFault_11 : decode cX5_sheetFault 11 = .ok (.aload_n 0, 1) := by decide +kernel
theorem dX5_sheetFault_12 : decode cX5_sheetFault 12 = .ok (.getfield 36, 3) := by decide +kernel
theorem dX5_sheetFault_15 : decode cX5_sheetFault 15 = .ok (.iload_n 1, 1) := by decide +kernel
theorem dX5_sheetFault_16 : decode cX5_sheetFault 16 = .ok (.aaload, 1) := by decide +kernel
theorem dX5_sheetFault_17 : decode cX5_sheetFault 17 = .ok (.invokevirtual 216, 3) := by decide +kernel
theorem dX5_sheetFault_20 : decode cX5_sheetFault 20 = .ok (.ifCond .eq 8, 3) := by decide +kernel
theorem dX5_sheetFault_23 : decode cX5_sheetFault 23 = .ok (.ldc 219, 2) := by decide +kernel
theorem dX5_sheetFault_25 : decode cX5_sheetFault 25 = .ok (.goto 4, 3) := by decide +kernel
theorem dX5_sheetFault_28 : decode cX5_sheetFault 28 = .ok (.iconst 0, 1) := by decide +kernel
theorem dX5_sheetFault_29 : decode cX5_sheetFault 29 = .ok (.ireturn, 1) := by decide +kernel
theorem dX5_sheetAndWalkerFault_0 : decode cX5_sheetAndWalkerFault 0 = .ok (.aload_n 0, 1) := by decide +kernel
theorem dX5_sheetAndWalkerFault_1 : decode cX5_sheetAndWalkerFault 1 = .ok (.iload_n 1, 1) := by decide +kernel
theorem dX5_sheetAndWalkerFault_2 : decode cX5_sheetAndWalkerFault 2 = .ok (.invokevirtual 206, 3) := by decide +kernel
theorem dX5_sheetAndWalkerFault_5 : decode cX5_sheetAndWalkerFault 5 = .ok (.istore_n 3, 1) := by decide +kernel
theorem dX5_sheetAndWalkerFault_6 : decode cX5_sheetAndWalkerFault 6 = .ok (.iload_n 3, 1) := by decide +kernel
theorem dX5_sheetAndWalkerFault_7 : decode cX5_sheetAndWalkerFault 7 = .ok (.ifCond .eq 5, 3) := by decide +kernel
theorem dX5_sheetAndWalkerFault_10 : decode cX5_sheetAndWalkerFault 10 = .ok (.iload_n 3, 1) := by decide +kernel
theorem dX5_sheetAndWalkerFault_11 : decode cX5_sheetAndWalkerFault 11 = .ok (.ireturn, 1) := by decide +kernel
theorem dX5_sheetAndWalkerFault_12 : decode cX5_sheetAndWalkerFault 12 = .ok (.aload_n 0, 1) := by decide +kernel
theorem dX5_sheetAndWalkerFault_13 : decode cX5_sheetAndWalkerFault 13 = .ok (.iload_n 2, 1) := by decide +kernel
theorem dX5_sheetAndWalkerFault_14 : decode cX5_sheetAndWalkerFault 14 = .ok (.invokevirtual 68, 3) := by decide +kernel
theorem dX5_sheetAndWalkerFault_17 : decode cX5_sheetAndWalkerFault 17 = .ok (.ifCond .eq 7, 3) := by decide +kernel
theorem dX5_sheetAndWalkerFault_20 : decode cX5_sheetAndWalkerFault 20 = .ok (.iconst 0, 1) := by decide +kernel
theorem dX5_sheetAndWalkerFault_21 : decode cX5_sheetAndWalkerFault 21 = .ok (.goto 5, 3) := by decide +kernel
theorem dX5_sheetAndWalkerFault_24 : decode cX5_sheetAndWalkerFault 24 = .ok (.ldc 48, 2) := by decide +kernel
theorem dX5_sheetAndWalkerFault_26 : decode cX5_sheetAndWalkerFault 26 = .ok (.ireturn, 1) := by decide +kernel
theorem dX5_lookAhead_0 : decode cX5_lookAhead 0 = .ok (.aload_n 0, 1) := by decide +kernel
theorem dX5_lookAhead_1 : decode cX5_lookAhead 1 = .ok (.getfield 16, 3) := by decide +kernel
theorem dX5_lookAhead_4 : decode cX5_lookAhead 4 = .ok (.aload_n 0, 1) := by decide +kernel
theorem dX5_lookAhead_5 : decode cX5_lookAhead 5 = .ok (.getfield 10, 3) := by decide +kernel
theorem dX5_lookAhead_8 : decode cX5_lookAhead 8 = .ok (.invokevirtual 193, 3) := by decide +kernel
theorem dX5_lookAhead_11 : decode cX5_lookAhead 11 = .ok (.return_, 1) := by decide +kernel
theorem dX5_soonestThrough_0 : decode cX5_soonestThrough 0 = .ok (.iconst (-1), 1) := by decide +kernel
theorem dX5_soonestThrough_1 : decode cX5_soonestThrough 1 = .ok (.istore_n 3, 1) := by decide +kernel
theorem dX5_soonestThrough_2 : decode cX5_soonestThrough 2 = .ok (.sipush 201, 3) := by decide +kernel
theorem dX5_soonestThrough_5 : decode cX5_soonestThrough 5 = .ok (.istore 4, 2) := by decide +kernel
theorem dX5_soonestThrough_7 : decode cX5_soonestThrough 7 = .ok (.iconst 0, 1) := by decide +kernel
theorem dX5_soonestThrough_8 : decode cX5_soonestThrough 8 = .ok (.istore 5, 2) := by decide +kernel
theorem dX5_soonestThrough_10 : decode cX5_soonestThrough 10 = .ok (.iload 5, 2) := by decide +kernel
theorem dX5_soonestThrough_12 : decode cX5_soonestThrough 12 = .ok (.iload_n 2, 1) := by decide +kernel
theorem dX5_soonestThrough_13 : decode cX5_soonestThrough 13 = .ok (.invokestatic 88, 3) := by decide +kernel
theorem dX5_soonestThrough_16 : decode cX5_soonestThrough 16 = .ok (.if_icmp .gt 51, 3) := by decide +kernel
theorem dX5_soonestThrough_19 : decode cX5_soonestThrough 19 = .ok (.aload_n 0, 1) := by decide +kernel
theorem dX5_soonestThrough_20 : decode cX5_soonestThrough 20 = .ok (.invokevirtual 129, 3) := by decide +kernel
theorem dX5_soonestThrough_23 : decode cX5_soonestThrough 23 = .ok (.aload_n 0, 1) := by decide +kernel
theorem dX5_soonestThrough_24 : decode cX5_soonestThrough 24 = .ok (.getfield 16, 3) := by decide +kernel
theorem dX5_soonestThrough_27 : decode cX5_soonestThrough 27 = .ok (.iload_n 1, 1) := by decide +kernel
theorem dX5_soonestThrough_28 : decode cX5_soonestThrough 28 = .ok (.iload_n 2, 1) := by decide +kernel
theorem dX5_soonestThrough_29 : decode cX5_soonestThrough 29 = .ok (.iload 5, 2) := by decide +kernel
theorem dX5_soonestThrough_31 : decode cX5_soonestThrough 31 = .ok (.invokevirtual 91, 3) := by decide +kernel
theorem dX5_soonestThrough_34 : decode cX5_soonestThrough 34 = .ok (.pop, 1) := by decide +kernel
theorem dX5_soonestThrough_35 : decode cX5_soonestThrough 35 = .ok (.aload_n 0, 1) := by decide +kernel
theorem dX5_soonestThrough_36 : decode cX5_soonestThrough 36 = .ok (.getfield 16, 3) := by decide +kernel
theorem dX5_soonestThrough_39 : decode cX5_soonestThrough 39 = .ok (.iload_n 1, 1) := by decide +kernel
theorem dX5_soonestThrough_40 : decode cX5_soonestThrough 40 = .ok (.iload 4, 2) := by decide +kernel
theorem dX5_soonestThrough_42 : decode cX5_soonestThrough 42 = .ok (.invokevirtual 144, 3) := by decide +kernel
theorem dX5_soonestThrough_45 : decode cX5_soonestThrough 45 = .ok (.istore 6, 2) := by decide +kernel
theorem dX5_soonestThrough_47 : decode cX5_soonestThrough 47 = .ok (.iload 6, 2) := by decide +kernel
theorem dX5_soonestThrough_49 : decode cX5_soonestThrough 49 = .ok (.iload 4, 2) := by decide +kernel
theorem dX5_soonestThrough_51 : decode cX5_soonestThrough 51 = .ok (.if_icmp .ge 10, 3) := by decide +kernel
theorem dX5_soonestThrough_54 : decode cX5_soonestThrough 54 = .ok (.iload 6, 2) := by decide +kernel
theorem dX5_soonestThrough_56 : decode cX5_soonestThrough 56 = .ok (.istore 4, 2) := by decide +kernel
theorem dX5_soonestThrough_58 : decode cX5_soonestThrough 58 = .ok (.iload 5, 2) := by decide +kernel
theorem dX5_soonestThrough_60 : decode cX5_soonestThrough 60 = .ok (.istore_n 3, 1) := by decide +kernel
theorem dX5_soonestThrough_61 : decode cX5_soonestThrough 61 = .ok (.iinc 5 1, 3) := by decide +kernel
theorem dX5_soonestThrough_64 : decode cX5_soonestThrough 64 = .ok (.goto (-54), 3) := by decide +kernel
theorem dX5_soonestThrough_67 : decode cX5_soonestThrough 67 = .ok (.iload_n 3, 1) := by decide +kernel
theorem dX5_soonestThrough_68 : decode cX5_soonestThrough 68 = .ok (.ifCond .lt 7, 3) := by decide +kernel
theorem dX5_soonestThrough_71 : decode cX5_soonestThrough 71 = .ok (.iload_n 3, 1) := by decide +kernel
theorem dX5_soonestThrough_72 : decode cX5_soonestThrough 72 = .ok (.goto 9, 3) := by decide +kernel
theorem dX5_soonestThrough_75 : decode cX5_soonestThrough 75 = .ok (.aload_n 0, 1) := by decide +kernel
theorem dX5_soonestThrough_76 : decode cX5_soonestThrough 76 = .ok (.ldc 109, 2) := by decide +kernel
theorem dX5_soonestThrough_78 : decode cX5_soonestThrough 78 = .ok (.invokevirtual 49, 3) := by decide +kernel
theorem dX5_soonestThrough_81 : decode cX5_soonestThrough 81 = .ok (.ireturn, 1) := by decide +kernel
theorem dX5_bumpsAhead_0 : decode cX5_bumpsAhead 0 = .ok (.aload_n 0, 1) := by decide +kernel
theorem dX5_bumpsAhead_1 : decode cX5_bumpsAhead 1 = .ok (.getfield 16, 3) := by decide +kernel
theorem dX5_bumpsAhead_4 : decode cX5_bumpsAhead 4 = .ok (.bipush 6, 2) := by decide +kernel
theorem dX5_bumpsAhead_6 : decode cX5_bumpsAhead 6 = .ok (.invokevirtual 126, 3) := by decide +kernel
theorem dX5_bumpsAhead_9 : decode cX5_bumpsAhead 9 = .ok (.istore_n 3, 1) := by decide +kernel
theorem dX5_bumpsAhead_10 : decode cX5_bumpsAhead 10 = .ok (.iconst 0, 1) := by decide +kernel
theorem dX5_bumpsAhead_11 : decode cX5_bumpsAhead 11 = .ok (.istore 4, 2) := by decide +kernel
theorem dX5_bumpsAhead_13 : decode cX5_bumpsAhead 13 = .ok (.iload 4, 2) := by decide +kernel
theorem dX5_bumpsAhead_15 : decode cX5_bumpsAhead 15 = .ok (.iload_n 1, 1) := by decide +kernel
theorem dX5_bumpsAhead_16 : decode cX5_bumpsAhead 16 = .ok (.if_icmp .ge 31, 3) := by decide +kernel
theorem dX5_bumpsAhead_19 : decode cX5_bumpsAhead 19 = .ok (.iload_n 3, 1) := by decide +kernel
theorem dX5_bumpsAhead_20 : decode cX5_bumpsAhead 20 = .ok (.iload_n 2, 1) := by decide +kernel
theorem dX5_bumpsAhead_21 : decode cX5_bumpsAhead 21 = .ok (.if_icmp .ge 26, 3) := by decide +kernel
theorem dX5_bumpsAhead_24 : decode cX5_bumpsAhead 24 = .ok (.aload_n 0, 1) := by decide +kernel
theorem dX5_bumpsAhead_25 : decode cX5_bumpsAhead 25 = .ok (.getfield 16, 3) := by decide +kernel
theorem dX5_bumpsAhead_28 : decode cX5_bumpsAhead 28 = .ok (.invokevirtual 147, 3) := by decide +kernel
theorem dX5_bumpsAhead_31 : decode cX5_bumpsAhead 31 = .ok (.aload_n 0, 1) := by decide +kernel
theorem dX5_bumpsAhead_32 : decode cX5_bumpsAhead 32 = .ok (.getfield 16, 3) := by decide +kernel
theorem dX5_bumpsAhead_35 : decode cX5_bumpsAhead 35 = .ok (.bipush 6, 2) := by decide +kernel
theorem dX5_bumpsAhead_37 : decode cX5_bumpsAhead 37 = .ok (.invokevirtual 126, 3) := by decide +kernel
theorem dX5_bumpsAhead_40 : decode cX5_bumpsAhead 40 = .ok (.istore_n 3, 1) := by decide +kernel
theorem dX5_bumpsAhead_41 : decode cX5_bumpsAhead 41 = .ok (.iinc 4 1, 3) := by decide +kernel
theorem dX5_bumpsAhead_44 : decode cX5_bumpsAhead 44 = .ok (.goto (-31), 3) := by decide +kernel
theorem dX5_bumpsAhead_47 : decode cX5_bumpsAhead 47 = .ok (.iload_n 3, 1) := by decide +kernel
theorem dX5_bumpsAhead_48 : decode cX5_bumpsAhead 48 = .ok (.ireturn, 1) := by decide +kernel
theorem dX5_isWithoutFines_0 : decode cX5_isWithoutFines 0 = .ok (.aload_n 0, 1) := by decide +kernel
theorem dX5_isWithoutFines_1 : decode cX5_isWithoutFines 1 = .ok (.invokevirtual 129, 3) := by decide +kernel
theorem dX5_isWithoutFines_4 : decode cX5_isWithoutFines 4 = .ok (.iconst 0, 1) := by decide +kernel
theorem dX5_isWithoutFines_5 : decode cX5_isWithoutFines 5 = .ok (.istore_n 3, 1) := by decide +kernel
theorem dX5_isWithoutFines_6 : decode cX5_isWithoutFines 6 = .ok (.iload_n 3, 1) := by decide +kernel
theorem dX5_isWithoutFines_7 : decode cX5_isWithoutFines 7 = .ok (.aload_n 0, 1) := by decide +kernel
theorem dX5_isWithoutFines_8 : decode cX5_isWithoutFines 8 = .ok (.getfield 16, 3) := by decide +kernel
theorem dX5_isWithoutFines_11 : decode cX5_isWithoutFines 11 = .ok (.getfield 160, 3) := by decide +kernel
theorem dX5_isWithoutFines_14 : decode cX5_isWithoutFines 14 = .ok (.if_icmp .ge 26, 3) := by decide +kernel
theorem dX5_isWithoutFines_17 : decode cX5_isWithoutFines 17 = .ok (.aload_n 0, 1) := by decide +kernel
theorem dX5_isWithoutFines_18 : decode cX5_isWithoutFines 18 = .ok (.getfield 16, 3) := by decide +kernel
theorem dX5_isWithoutFines_21 : decode cX5_isWithoutFines 21 = .ok (.getfield 135, 3) := by decide +kernel
theorem dX5_isWithoutFines_24 : decode cX5_isWithoutFines 24 = .ok (.iload_n 3, 1) := by decide +kernel
theorem dX5_isWithoutFines_25 : decode cX5_isWithoutFines 25 = .ok (.dup2, 1) := by decide +kernel
theorem dX5_isWithoutFines_26 : decode cX5_isWithoutFines 26 = .ok (.iaload, 1) := by decide +kernel
theorem dX5_isWithoutFines_27 : decode cX5_isWithoutFines 27 = .ok (.iload_n 1, 1) := by decide +kernel
theorem dX5_isWithoutFines_28 : decode cX5_isWithoutFines 28 = .ok (.iload_n 3, 1) := by decide +kernel
theorem dX5_isWithoutFines_29 : decode cX5_isWithoutFines 29 = .ok (.ishr, 1) := by decide +kernel
theorem dX5_isWithoutFines_30 : decode cX5_isWithoutFines 30 = .ok (.iconst 1, 1) := by decide +kernel
theorem dX5_isWithoutFines_31 : decode cX5_isWithoutFines 31 = .ok (.iand, 1) := by decide +kernel
theorem dX5_isWithoutFines_32 : decode cX5_isWithoutFines 32 = .ok (.ixor, 1) := by decide +kernel
theorem dX5_isWithoutFines_33 : decode cX5_isWithoutFines 33 = .ok (.iastore, 1) := by decide +kernel
theorem dX5_isWithoutFines_34 : decode cX5_isWithoutFines 34 = .ok (.iinc 3 1, 3) := by decide +kernel
theorem dX5_isWithoutFines_37 : decode cX5_isWithoutFines 37 = .ok (.goto (-31), 3) := by decide +kernel
theorem dX5_isWithoutFines_40 : decode cX5_isWithoutFines 40 = .ok (.aload_n 0, 1) := by decide +kernel
theorem dX5_isWithoutFines_41 : decode cX5_isWithoutFines 41 = .ok (.getfield 16, 3) := by decide +kernel
theorem dX5_isWithoutFines_44 : decode cX5_isWithoutFines 44 = .ok (.iconst 5, 1) := by decide +kernel
theorem dX5_isWithoutFines_45 : decode cX5_isWithoutFines 45 = .ok (.invokevirtual 126, 3) := by decide +kernel
theorem dX5_isWithoutFines_48 : decode cX5_isWithoutFines 48 = .ok (.istore_n 3, 1) := by decide +kernel
theorem dX5_isWithoutFines_49 : decode cX5_isWithoutFines 49 = .ok (.iconst 0, 1) := by decide +kernel
theorem dX5_isWithoutFines_50 : decode cX5_isWithoutFines 50 = .ok (.istore 4, 2) := by decide +kernel
theorem dX5_isWithoutFines_52 : decode cX5_isWithoutFines 52 = .ok (.iload 4, 2) := by decide +kernel
theorem dX5_isWithoutFines_54 : decode cX5_isWithoutFines 54 = .ok (.iload_n 2, 1) := by decide +kernel
theorem dX5_isWithoutFines_55 : decode cX5_isWithoutFines 55 = .ok (.if_icmp .ge 30, 3) := by decide +kernel
theorem dX5_isWithoutFines_58 : decode cX5_isWithoutFines 58 = .ok (.aload_n 0, 1) := by decide +kernel
theorem dX5_isWithoutFines_59 : decode cX5_isWithoutFines 59 = .ok (.getfield 16, 3) := by decide +kernel
theorem dX5_isWithoutFines_62 : decode cX5_isWithoutFines 62 = .ok (.invokevirtual 147, 3) := by decide +kernel
theorem dX5_isWithoutFines_65 : decode cX5_isWithoutFines 65 = .ok (.aload_n 0, 1) := by decide +kernel
theorem dX5_isWithoutFines_66 : decode cX5_isWithoutFines 66 = .ok (.getfield 16, 3) := by decide +kernel
theorem dX5_isWithoutFines_69 : decode cX5_isWithoutFines 69 = .ok (.iconst 5, 1) := by decide +kernel
theorem dX5_isWithoutFines_70 : decode cX5_isWithoutFines 70 = .ok (.invokevirtual 126, 3) := by decide +kernel
theorem dX5_isWithoutFines_73 : decode cX5_isWithoutFines 73 = .ok (.iload_n 3, 1) := by decide +kernel
theorem dX5_isWithoutFines_74 : decode cX5_isWithoutFines 74 = .ok (.if_icmp .le 5, 3) := by decide +kernel
theorem dX5_isWithoutFines_77 : decode cX5_isWithoutFines 77 = .ok (.iconst 0, 1) := by decide +kernel
theorem dX5_isWithoutFines_78 : decode cX5_isWithoutFines 78 = .ok (.ireturn, 1) := by decide +kernel
theorem dX5_isWithoutFines_79 : decode cX5_isWithoutFines 79 = .ok (.iinc 4 1, 3) := by decide +kernel
theorem dX5_isWithoutFines_82 : decode cX5_isWithoutFines 82 = .ok (.goto (-30), 3) := by decide +kernel
theorem dX5_isWithoutFines_85 : decode cX5_isWithoutFines 85 = .ok (.iconst 1, 1) := by decide +kernel
theorem dX5_isWithoutFines_86 : decode cX5_isWithoutFines 86 = .ok (.ireturn, 1) := by decide +kernel
theorem dX5_isJustSo_0 : decode cX5_isJustSo 0 = .ok (.iconst 0, 1) := by decide +kernel
theorem dX5_isJustSo_1 : decode cX5_isJustSo 1 = .ok (.istore_n 3, 1) := by decide +kernel
theorem dX5_isJustSo_2 : decode cX5_isJustSo 2 = .ok (.iload_n 3, 1) := by decide +kernel
theorem dX5_isJustSo_3 : decode cX5_isJustSo 3 = .ok (.aload_n 1, 1) := by decide +kernel
theorem dX5_isJustSo_4 : decode cX5_isJustSo 4 = .ok (.getfield 205, 3) := by decide +kernel
theorem dX5_isJustSo_7 : decode cX5_isJustSo 7 = .ok (.if_icmp .ge 38, 3) := by decide +kernel
theorem dX5_isJustSo_10 : decode cX5_isJustSo 10 = .ok (.aload_n 1, 1) := by decide +kernel
theorem dX5_isJustSo_11 : decode cX5_isJustSo 11 = .ok (.getfield 209, 3) := by decide +kernel
theorem dX5_isJustSo_14 : decode cX5_isJustSo 14 = .ok (.iload_n 3, 1) := by decide +kernel
theorem dX5_isJustSo_15 : decode cX5_isJustSo 15 = .ok (.laload, 1) := by decide +kernel
theorem dX5_isJustSo_16 : decode cX5_isJustSo 16 = .ok (.aload_n 0, 1) := by decide +kernel
theorem dX5_isJustSo_17 : decode cX5_isJustSo 17 = .ok (.getfield 16, 3) := by decide +kernel
theorem dX5_isJustSo_20 : decode cX5_isJustSo 20 = .ok (.getfield 132, 3) := by decide +kernel
theorem dX5_isJustSo_23 : decode cX5_isJustSo 23 = .ok (.iload_n 2, 1) := by decide +kernel
theorem dX5_isJustSo_24 : decode cX5_isJustSo 24 = .ok (.iaload, 1) := by decide +kernel
theorem dX5_isJustSo_25 : decode cX5_isJustSo 25 = .ok (.i2l, 1) := by decide +kernel
theorem dX5_isJustSo_26 : decode cX5_isJustSo 26 = .ok (.lcmp, 1) := by decide +kernel
theorem dX5_isJustSo_27 : decode cX5_isJustSo 27 = .ok (.ifCond .eq 5, 3) := by decide +kernel
theorem dX5_isJustSo_30 : decode cX5_isJustSo 30 = .ok (.iconst 0, 1) := by decide +kernel
theorem dX5_isJustSo_31 : decode cX5_isJustSo 31 = .ok (.ireturn, 1) := by decide +kernel
theorem dX5_isJustSo_32 : decode cX5_isJustSo 32 = .ok (.aload_n 0, 1) := by decide +kernel
theorem dX5_isJustSo_33 : decode cX5_isJustSo 33 = .ok (.getfield 16, 3) := by decide +kernel
theorem dX5_isJustSo_36 : decode cX5_isJustSo 36 = .ok (.invokevirtual 147, 3) := by decide +kernel
theorem dX5_isJustSo_39 : decode cX5_isJustSo 39 = .ok (.iinc 3 1, 3) := by decide +kernel
theorem dX5_isJustSo_42 : decode cX5_isJustSo 42 = .ok (.goto (-40), 3) := by decide +kernel
theorem dX5_isJustSo_45 : decode cX5_isJustSo 45 = .ok (.iconst 1, 1) := by decide +kernel
theorem dX5_isJustSo_46 : decode cX5_isJustSo 46 = .ok (.ireturn, 1) := by decide +kernel
theorem dX6_init_0 : decode cX6_init 0 = .ok (.aload_n 0, 1) := by decide +kernel
theorem dX6_init_1 : decode cX6_init 1 = .ok (.invokespecial 1, 3) := by decide +kernel
theorem dX6_init_4 : decode cX6_init 4 = .ok (.aload_n 0, 1) := by decide +kernel
theorem dX6_init_5 : decode cX6_init 5 = .ok (.bipush 59, 2) := by decide +kernel
theorem dX6_init_7 : decode cX6_init 7 = .ok (.newarray .int, 2) := by decide +kernel
theorem dX6_init_9 : decode cX6_init 9 = .ok (.putfield 7, 3) := by decide +kernel
theorem dX6_init_12 : decode cX6_init 12 = .ok (.aload_n 0, 1) := by decide +kernel
theorem dX6_init_13 : decode cX6_init 13 = .ok (.bipush 7, 2) := by decide +kernel
theorem dX6_init_15 : decode cX6_init 15 = .ok (.newarray .int, 2) := by decide +kernel
theorem dX6_init_17 : decode cX6_init 17 = .ok (.putfield 13, 3) := by decide +kernel
theorem dX6_init_20 : decode cX6_init 20 = .ok (.aload_n 0, 1) := by decide +kernel
theorem dX6_init_21 : decode cX6_init 21 = .ok (.bipush 59, 2) := by decide +kernel
theorem dX6_init_23 : decode cX6_init 23 = .ok (.newarray .int, 2) := by decide +kernel
theorem dX6_init_25 : decode cX6_init 25 = .ok (.putfield 16, 3) := by decide +kernel
theorem dX6_init_28 : decode cX6_init 28 = .ok (.aload_n 0, 1) := by decide +kernel
theorem dX6_init_29 : decode cX6_init 29 = .ok (.bipush 59, 2) := by decide +kernel
theorem dX6_init_31 : decode cX6_init 31 = .ok (.newarray .int, 2) := by decide +kernel
theorem dX6_init_33 : decode cX6_init 33 = .ok (.putfield 19, 3) := by decide +kernel
theorem dX6_init_36 : decode cX6_init 36 = .ok (.aload_n 0, 1) := by decide +kernel
theorem dX6_init_37 : decode cX6_init 37 = .ok (.bipush 120, 2) := by decide +kernel
theorem dX6_init_39 : decode cX6_init 39 = .ok (.newarray .int, 2) := by decide +kernel
theorem dX6_init_41 : decode cX6_init 41 = .ok (.putfield 22, 3) := by decide +kernel
theorem dX6_init_44 : decode cX6_init 44 = .ok (.aload_n 0, 1) := by decide +kernel
theorem dX6_init_45 : decode cX6_init 45 = .ok (.iconst 4, 1) := by decide +kernel
theorem dX6_init_46 : decode cX6_init 46 = .ok (.newarray .int, 2) := by decide +kernel
theorem dX6_init_48 : decode cX6_init 48 = .ok (.putfield 25, 3) := by decide +kernel
theorem dX6_init_51 : decode cX6_init 51 = .ok (.aload_n 0, 1) := by decide +kernel
theorem dX6_init_52 : decode cX6_init 52 = .ok (.iconst 4, 1) := by decide +kernel
theorem dX6_init_53 : decode cX6_init 53 = .ok (.newarray .int, 2) := by decide +kernel
theorem dX6_init_55 : decode cX6_init 55 = .ok (.putfield 28, 3) := by decide +kernel
theorem dX6_init_58 : decode cX6_init 58 = .ok (.aload_n 0, 1) := by decide +kernel
theorem dX6_init_59 : decode cX6_init 59 = .ok (.sipush 160, 3) := by decide +kernel
theorem dX6_init_62 : decode cX6_init 62 = .ok (.newarray .long, 2) := by decide +kernel
theorem dX6_init_64 : decode cX6_init 64 = .ok (.putfield 31, 3) := by decide +kernel
theorem dX6_init_67 : decode cX6_init 67 = .ok (.aload_n 0, 1) := by decide +kernel
theorem dX6_init_68 : decode cX6_init 68 = .ok (.bipush 40, 2) := by decide +kernel
theorem dX6_init_70 : decode cX6_init 70 = .ok (.newarray .long, 2) := by decide +kernel
theorem dX6_init_72 : decode cX6_init 72 = .ok (.putfield 35, 3) := by decide +kernel
theorem dX6_init_75 : decode cX6_init 75 = .ok (.aload_n 0, 1) := by decide +kernel
theorem dX6_init_76 : decode cX6_init 76 = .ok (.bipush 59, 2) := by decide +kernel
theorem dX6_init_78 : decode cX6_init 78 = .ok (.newarray .int, 2) := by decide +kernel
theorem dX6_init_80 : decode cX6_init 80 = .ok (.putfield 38, 3) := by decide +kernel
theorem dX6_init_83 : decode cX6_init 83 = .ok (.aload_n 0, 1) := by decide +kernel
theorem dX6_init_84 : decode cX6_init 84 = .ok (.bipush 59, 2) := by decide +kernel
theorem dX6_init_86 : decode cX6_init 86 = .ok (.newarray .int, 2) := by decide +kernel
theorem dX6_init_88 : decode cX6_init 88 = .ok (.putfield 41, 3) := by decide +kernel
theorem dX6_init_91 : decode cX6_init 91 = .ok (.aload_n 0, 1) := by decide +kernel
theorem dX6_init_92 : decode cX6_init 92 = .ok (.getfield 7, 3) := by decide +kernel
theorem dX6_init_95 : decode cX6_init 95 = .ok (.iconst 1, 1) := by decide +kernel
theorem dX6_init_96 : decode cX6_init 96 = .ok (.iconst 1, 1) := by decide +kernel
theorem dX6_init_97 : decode cX6_init 97 = .ok (.iastore, 1) := by decide +kernel
theorem dX6_init_98 : decode cX6_init 98 = .ok (.return_, 1) := by decide +kernel
theorem dX6_in_0 : decode cX6_in 0 = .ok (.iload_n 0, 1) := by decide +kernel
theorem dX6_in_1 : decode cX6_in 1 = .ok (.iload_n 1, 1) := by decide +kernel
theorem dX6_in_2 : decode cX6_in 2 = .ok (.if_icmp .lt 12, 3) := by decide +kernel
theorem dX6_in_5 : decode cX6_in 5 = .ok (.iload_n 0, 1) := by decide +kernel
theorem dX6_in_6 : decode cX6_in 6 = .ok (.iload_n 2, 1) := by decide +kernel
theorem dX6_in_7 : decode cX6_in 7 = .ok (.if_icmp .gt 7, 3) := by decide +kernel
theorem dX6_in_10 : decode cX6_in 10 = .ok (.iconst 1, 1) := by decide +kernel
theorem dX6_in_11 : decode cX6_in 11 = .ok (.goto 4, 3) := by decide +kernel
theorem dX6_in_14 : decode cX6_in 14 = .ok (.iconst 0, 1) := by decide +kernel
theorem dX6_in_15 : decode cX6_in 15 = .ok (.ireturn, 1) := by decide +kernel
theorem dX6_finds_0 : decode cX6_finds 0 = .ok (.aload_n 0, 1) := by decide +kernel
theorem dX6_finds_1 : decode cX6_finds 1 = .ok (.getfield 13, 3) := by decide +kernel
theorem dX6_finds_4 : decode cX6_finds 4 = .ok (.ldc 44, 2) := by decide +kernel
theorem dX6_finds_6 : decode cX6_finds 6 = .ok (.iload_n 1, 1) := by decide +kernel
theorem dX6_finds_7 : decode cX6_finds 7 = .ok (.isub, 1) := by decide +kernel
theorem dX6_finds_8 : decode cX6_finds 8 = .ok (.dup2, 1) := by decide +kernel
theorem dX6_finds_9 : decode cX6_finds 9 = .ok (.iaload, 1) := by decide +kernel
theorem dX6_finds_10 : decode cX6_finds 10 = .ok (.iconst 1, 1) := by decide +kernel
theorem dX6_finds_11 : decode cX6_finds 11 = .ok (.iadd, 1) := by decide +kernel
theorem dX6_finds_12 : decode cX6_finds 12 = .ok (.iastore, 1) := by decide +kernel
theorem dX6_finds_13 : decode cX6_finds 13 = .ok (.iload_n 1, 1) := by decide +kernel
theorem dX6_finds_14 : decode cX6_finds 14 = .ok (.ireturn, 1) := by decide +kernel
theorem dX6_held_0 : decode cX6_held 0 = .ok (.iload_n 0, 1) := by decide +kernel
theorem dX6_held_1 : decode cX6_held 1 = .ok (.iload_n 1, 1) := by decide +kernel
theorem dX6_held_2 : decode cX6_held 2 = .ok (.if_icmp .ge 7, 3) := by decide +kernel
theorem dX6_held_5 : decode cX6_held 5 = .ok (.iload_n 1, 1) := by decide +kernel
theorem dX6_held_6 : decode cX6_held 6 = .ok (.goto 13, 3) := by decide +kernel
theorem dX6_held_9 : decode cX6_held 9 = .ok (.iload_n 0, 1) := by decide +kernel
theorem dX6_held_10 : decode cX6_held 10 = .ok (.iload_n 2, 1) := by decide +kernel
theorem dX6_held_11 : decode cX6_held 11 = .ok (.if_icmp .le 7, 3) := by decide +kernel
theorem dX6_held_14 : decode cX6_held 14 = .ok (.iload_n 2, 1) := by decide +kernel
theorem dX6_held_15 : decode cX6_held 15 = .ok (.goto 4, 3) := by decide +kernel
theorem dX6_held_18 : decode cX6_held 18 = .ok (.iload_n 0, 1) := by decide +kernel
theorem dX6_held_19 : decode cX6_held 19 = .ok (.ireturn, 1) := by decide +kernel
theorem dX6_its_0 : decode cX6_its 0 = .ok (.aload_n 0, 1) := by decide +kernel
theorem dX6_its_1 : decode cX6_its 1 = .ok (.getfield 7, 3) := by decide +kernel
theorem dX6_its_4 : decode cX6_its 4 = .ok (.iconst 3, 1) := by decide +kernel
theorem dX6_its_5 : decode cX6_its 5 = .ok (.bipush 7, 2) := by decide +kernel
theorem dX6_its_7 : decode cX6_its 7 = .ok (.iload_n 1, 1) := by decide +kernel
theorem dX6_its_8 : decode cX6_its 8 = .ok (.imul, 1) := by decide +kernel
theorem dX6_its_9 : decode cX6_its 9 = .ok (.iadd, 1) := by decide +kernel
theorem dX6_its_10 : decode cX6_its 10 = .ok (.iload_n 2, 1) := by decide +kernel
theorem dX6_its_11 : decode cX6_its 11 = .ok (.iadd, 1) := by decide +kernel
theorem dX6_its_12 : decode cX6_its 12 = .ok (.iaload, 1) := by decide +kernel
theorem dX6_its_13 : decode cX6_its 13 = .ok (.ireturn, 1) := by decide +kernel
theorem dX6_puts_0 : decode cX6_puts 0 = .ok (.aload_n 0, 1) := by decide +kernel
theorem dX6_puts_1 : decode cX6_puts 1 = .ok (.getfield 7, 3) := by decide +kernel
theorem dX6_puts_4 : decode cX6_puts 4 = .ok (.iconst 3, 1) := by decide +kernel
theorem dX6_puts_5 : decode cX6_puts 5 = .ok (.bipush 7, 2) := by decide +kernel
theorem dX6_puts_7 : decode cX6_puts 7 = .ok (.iload_n 1, 1) := by decide +kernel
theorem dX6_puts_8 : decode cX6_puts 8 = .ok (.imul, 1) := by decide +kernel
theorem dX6_puts_9 : decode cX6_puts 9 = .ok (.iadd, 1) := by decide +kernel
theorem dX6_puts_10 : decode cX6_puts 10 = .ok (.iload_n 2, 1) := by decide +kernel
theorem dX6_puts_11 : decode cX6_puts 11 = .ok (.iadd, 1) := by decide +kernel
theorem dX6_puts_12 : decode cX6_puts 12 = .ok (.iload_n 3, 1) := by decide +kernel
theorem dX6_puts_13 : decode cX6_puts 13 = .ok (.iastore, 1) := by decide +kernel
theorem dX6_puts_14 : decode cX6_puts 14 = .ok (.return_, 1) := by decide +kernel
theorem dX6_more_0 : decode cX6_more 0 = .ok (.aload_n 0, 1) := by decide +kernel
theorem dX6_more_1 : decode cX6_more 1 = .ok (.iload_n 1, 1) := by decide +kernel
theorem dX6_more_2 : decode cX6_more 2 = .ok (.iload_n 2, 1) := by decide +kernel
theorem dX6_more_3 : decode cX6_more 3 = .ok (.aload_n 0, 1) := by decide +kernel
theorem dX6_more_4 : decode cX6_more 4 = .ok (.iload_n 1, 1) := by decide +kernel
theorem dX6_more_5 : decode cX6_more 5 = .ok (.iload_n 2, 1) := by decide +kernel
theorem dX6_more_6 : decode cX6_more 6 = .ok (.invokevirtual 45, 3) := by decide +kernel
theorem dX6_more_9 : decode cX6_more 9 = .ok (.iconst 1, 1) := by decide +kernel
theorem dX6_more_10 : decode cX6_more 10 = .ok (.iadd, 1) := by decide +kernel
theorem dX6_more_11 : decode cX6_more 11 = .ok (.iconst 0, 1) := by decide +kernel
theorem dX6_more_12 : decode cX6_more 12 = .ok (.sipush 999, 3) := by decide +kernel
theorem dX6_more_15 : decode cX6_more 15 = .ok (.invokestatic 49, 3) := by decide +kernel
theorem dX6_more_18 : decode cX6_more 18 = .ok (.invokevirtual 53, 3) := by decide +kernel
theorem dX6_more_21 : decode cX6_more 21 = .ok (.return_, 1) := by decide +kernel
theorem dX6_becomes_0 : decode cX6_becomes 0 = .ok (.aload_n 0, 1) := by decide +kernel
theorem dX6_becomes_1 : decode cX6_becomes 1 = .ok (.getfield 7, 3) := by decide +kernel
theorem dX6_becomes_4 : decode cX6_becomes 4 = .ok (.iload_n 1, 1) := by decide +kernel
theorem dX6_becomes_5 : decode cX6_becomes 5 = .ok (.iaload, 1) := by decide +kernel
theorem dX6_becomes_6 : decode cX6_becomes 6 = .ok (.istore_n 3, 1) := by decide +kernel
theorem dX6_becomes_7 : decode cX6_becomes 7 = .ok (.aload_n 0, 1) := by decide +kernel
theorem dX6_becomes_8 : decode cX6_becomes 8 = .ok (.getfield 7, 3) := by decide +kernel
theorem dX6_becomes_11 : decode cX6_becomes 11 = .ok (.iload_n 1, 1) := by decide +kernel
theorem dX6_becomes_12 : decode cX6_becomes 12 = .ok (.iload_n 2, 1) := by decide +kernel
theorem dX6_becomes_13 : decode cX6_becomes 13 = .ok (.iastore, 1) := by decide +kernel
theorem dX6_becomes_14 : decode cX6_becomes 14 = .ok (.iload_n 3, 1) := by decide +kernel
theorem dX6_becomes_15 : decode cX6_becomes 15 = .ok (.ireturn, 1) := by decide +kernel
theorem dX6_isOne_0 : decode cX6_isOne 0 = .ok (.iload_n 1, 1) := by decide +kernel
theorem dX6_isOne_1 : decode cX6_isOne 1 = .ok (.iconst 0, 1) := by decide +kernel
theorem dX6_isOne_2 : decode cX6_isOne 2 = .ok (.aload_n 0, 1) := by decide +kernel
theorem dX6_isOne_3 : decode cX6_isOne 3 = .ok (.getfield 7, 3) := by decide +kernel
theorem dX6_isOne_6 : decode cX6_isOne 6 = .ok (.iconst 2, 1) := by decide +kernel
theorem dX6_isOne_7 : decode cX6_isOne 7 = .ok (.iaload, 1) := by decide +kernel
theorem dX6_isOne_8 : decode cX6_isOne 8 = .ok (.iconst 1, 1) := by decide +kernel
theorem dX6_isOne_9 : decode cX6_isOne 9 = .ok (.isub, 1) := by decide +kernel
theorem dX6_isOne_10 : decode cX6_isOne 10 = .ok (.invokestatic 57, 3) := by decide +kernel
theorem dX6_isOne_13 : decode cX6_isOne 13 = .ok (.ireturn, 1) := by decide +kernel
theorem dX6_isKind_0 : decode cX6_isKind 0 = .ok (.iload_n 0, 1) := by decide +kernel
theorem dX6_isKind_1 : decode cX6_isKind 1 = .ok (.iconst 0, 1) := by decide +kernel
theorem dX6_isKind_2 : decode cX6_isKind 2 = .ok (.iconst 5, 1) := by decide +kernel
theorem dX6_isKind_3 : decode cX6_isKind 3 = .ok (.invokestatic 57, 3) := by decide +kernel
theorem dX6_isKind_6 : decode cX6_isKind 6 = .ok (.ireturn, 1) := by decide +kernel
theorem dX6_bits_0 : decode cX6_bits 0 = .ok (.iconst 0, 1) := by decide +kernel
theorem dX6_bits_1 : decode cX6_bits 1 = .ok (.istore_n 1, 1) := by decide +kernel
theorem dX6_bits_2 : decode cX6_bits 2 = .ok (.iload_n 0, 1) := by decide +kernel
theorem dX6_bits_3 : decode cX6_bits 3 = .ok (.istore_n 2, 1) := by decide +kernel
theorem dX6_bits_4 : decode cX6_bits 4 = .ok (.iload_n 2, 1) := by decide +kernel
theorem dX6_bits_5 : decode cX6_bits 5 = .ok (.ifCond .eq 15, 3) := by decide +kernel
theorem dX6_bits_8 : decode cX6_bits 8 = .ok (.iinc 1 1, 3) := by decide +kernel
theorem dX6_bits_11 : decode cX6_bits 11 = .ok (.iload_n 2, 1) := by decide +kernel
theorem dX6_bits_12 : decode cX6_bits 12 = .ok (.iload_n 2, 1) := by decide +kernel
theorem dX6_bits_13 : decode cX6_bits 13 = .ok (.iconst 1, 1) := by decide +kernel
theorem dX6_bits_14 : decode cX6_bits 14 = .ok (.isub, 1) := by decide +kernel
theorem dX6_bits_15 : decode cX6_bits 15 = .ok (.iand, 1) := by decide +kernel
theorem dX6_bits_16 : decode cX6_bits 16 = .ok (.istore_n 2, 1) := by decide +kernel
theorem dX6_bits_17 : decode cX6_bits 17 = .ok (.goto (-13), 3) := by decide +kernel
theorem dX6_bits_20 : decode cX6_bits 20 = .ok (.iload_n 1, 1) := by decide +kernel
theorem dX6_bits_21 : decode cX6_bits 21 = .ok (.ireturn, 1) := by decide +kernel
theorem dX6_trams_0 : decode cX6_trams 0 = .ok (.iload_n 1, 1) := by decide +kernel
theorem dX6_trams_1 : decode cX6_trams 1 = .ok (.iconst 0, 1) := by decide +kernel
theorem dX6_trams_2 : decode cX6_trams 2 = .ok (.iconst 1, 1) := by decide +kernel
theorem dX6_trams_3 : decode cX6_trams 3 = .ok (.invokestatic 57, 3) := by decide +kernel
theorem dX6_trams_6 : decode cX6_trams 6 = .ok (.ifCond .eq 12, 3) := by decide +kernel
theorem dX6_trams_9 : decode cX6_trams 9 = .ok (.aload_n 0, 1) := by decide +kernel
theorem dX6_trams_10 : decode cX6_trams 10 = .ok (.iconst 1, 1) := by decide +kernel
theorem dX6_trams_11 : decode cX6_trams 11 = .ok (.iload_n 1, 1) := by decide +kernel
theorem dX6_trams_12 : decode cX6_trams 12 = .ok (.invokevirtual 61, 3) := by decide +kernel
theorem dX6_trams_15 : decode cX6_trams 15 = .ok (.goto 9, 3) := by decide +kernel
theorem dX6_trams_18 : decode cX6_trams 18 = .ok (.aload_n 0, 1) := by decide +kernel
theorem dX6_trams_19 : decode cX6_trams 19 = .ok (.ldc 44, 2) := by decide +kernel
theorem dX6_trams_21 : decode cX6_trams 21 = .ok (.invokevirtual 64, 3) := by decide +kernel
theorem dX6_trams_24 : decode cX6_trams 24 = .ok (.ireturn, 1) := by decide +kernel
theorem dX6_isThrough_0 : decode cX6_isThrough 0 = .ok (.aload_n 0, 1) := by decide +kernel
theorem dX6_isThrough_1 : decode cX6_isThrough 1 = .ok (.iload_n 1, 1) := by decide +kernel
theorem dX6_isThrough_2 : decode cX6_isThrough 2 = .ok (.iconst 1, 1) := by decide +kernel
theorem dX6_isThrough_3 : decode cX6_isThrough 3 = .ok (.invokevirtual 45, 3) := by decide +kernel
theorem dX6_isThrough_6 : decode cX6_isThrough 6 = .ok (.aload_n 0, 1) := by decide +kernel
theorem dX6_isThrough_7 : decode cX6_isThrough 7 = .ok (.iload_n 1, 1) := by decide +kernel
theorem dX6_isThrough_8 : decode cX6_isThrough 8 = .ok (.iconst 2, 1) := by decide +kernel
theorem dX6_isThrough_9 : decode cX6_isThrough 9 = .ok (.invokevirtual 45, 3) := by decide +kernel
theorem dX6_isThrough_12 : decode cX6_isThrough 12 = .ok (.iconst 1, 1) := by decide +kernel
theorem dX6_isThrough_13 : decode cX6_isThrough 13 = .ok (.if_icmp .ne 8, 3) := by decide +kernel
theorem dX6_isThrough_16 : decode cX6_isThrough 16 = .ok (.bipush 99, 2) := by decide +kernel
theorem dX6_isThrough_18 : decode cX6_isThrough 18 = .ok (.goto 4, 3) := by decide +kernel
theorem dX6_isThrough_21 : decode cX6_isThrough 21 = .ok (.iconst 0, 1) := by decide +kernel
theorem dX6_isThrough_22 : decode cX6_isThrough 22 = .ok (.if_icmp .ne 7, 3) := by decide +kernel
theorem dX6_isThrough_25 : decode cX6_isThrough 25 = .ok (.iconst 1, 1) := by decide +kernel
theorem dX6_isThrough_26 : decode cX6_isThrough 26 = .ok (.goto 4, 3) := by decide +kernel
theorem dX6_isThrough_29 : decode cX6_isThrough 29 = .ok (.iconst 0, 1) := by decide +kernel
theorem dX6_isThrough_30 : decode cX6_isThrough 30 = .ok (.ireturn, 1) := by decide +kernel
theorem dX6_sight_0 : decode cX6_sight 0 = .ok (.aload_n 0, 1) := by decide +kernel
theorem dX6_sight_1 : decode cX6_sight 1 = .ok (.iload_n 1, 1) := by decide +kernel
theorem dX6_sight_2 : decode cX6_sight 2 = .ok (.iconst 0, 1) := by decide +kernel
theorem dX6_sight_3 : decode cX6_sight 3 = .ok (.invokevirtual 45, 3) := by decide +kernel
theorem dX6_sight_6 : decode cX6_sight 6 = .ok (.tableswitch 45 1 5 #[34, 45, 37, 40, 42], 34) := by decide +kernel
theorem dX6_sight_40 : decode cX6_sight 40 = .ok (.bipush 30, 2) := by decide +kernel
theorem dX6_sight_42 : decode cX6_sight 42 = .ok (.ireturn, 1) := by decide +kernel
theorem dX6_sight_43 : decode cX6_sight 43 = .ok (.bipush 10, 2) := by decide +kernel
theorem dX6_sight_45 : decode cX6_sight 45 = .ok (.ireturn, 1) := by decide +kernel
theorem dX6_sight_46 : decode cX6_sight 46 = .ok (.iconst 0, 1) := by decide +kernel
theorem dX6_sight_47 : decode cX6_sight 47 = .ok (.ireturn, 1) := by decide +kernel
theorem dX6_sight_48 : decode cX6_sight 48 = .ok (.bipush 40, 2) := by decide +kernel
theorem dX6_sight_50 : decode cX6_sight 50 = .ok (.ireturn, 1) := by decide +kernel
theorem dX6_sight_51 : decode cX6_sight 51 = .ok (.bipush 20, 2) := by decide +kernel
theorem dX6_sight_53 : decode cX6_sight 53 = .ok (.ireturn, 1) := by decide +kernel
theorem dX6_offFrom_0 : decode cX6_offFrom 0 = .ok (.aload_n 0, 1) := by decide +kernel
theorem dX6_offFrom_1 : decode cX6_offFrom 1 = .ok (.iload_n 1, 1) := by decide +kernel
theorem dX6_offFrom_2 : decode cX6_offFrom 2 = .ok (.iconst 1, 1) := by decide +kernel
theorem dX6_offFrom_3 : decode cX6_offFrom 3 = .ok (.invokevirtual 45, 3) := by decide +kernel
theorem dX6_offFrom_6 : decode cX6_offFrom 6 = .ok (.aload_n 0, 1) := by decide +kernel
theorem dX6_offFrom_7 : decode cX6_offFrom 7 = .ok (.iload_n 2, 1) := by decide +kernel
theorem dX6_offFrom_8 : decode cX6_offFrom 8 = .ok (.iconst 1, 1) := by decide +kernel
theorem dX6_offFrom_9 : decode cX6_offFrom 9 = .ok (.invokevirtual 45, 3) := by decide +kernel
theorem dX6_offFrom_12 : decode cX6_offFrom 12 = .ok (.isub, 1) := by decide +kernel
theorem dX6_offFrom_13 : decode cX6_offFrom 13 = .ok (.istore_n 3, 1) := by decide +kernel
theorem dX6_offFrom_14 : decode cX6_offFrom 14 = .ok (.aload_n 0, 1) := by decide +kernel
theorem dX6_offFrom_15 : decode cX6_offFrom 15 = .ok (.iload_n 1, 1) := by decide +kernel
theorem dX6_offFrom_16 : decode cX6_offFrom 16 = .ok (.iconst 2, 1) := by decide +kernel
theorem dX6_offFrom_17 : decode cX6_offFrom 17 = .ok (.invokevirtual 45, 3) := by decide +kernel
theorem dX6_offFrom_20 : decode cX6_offFrom 20 = .ok (.aload_n 0, 1) := by decide +kernel
theorem dX6_offFrom_21 : decode cX6_offFrom 21 = .ok (.iload_n 1, 1) := by decide +kernel
theorem dX6_offFrom_22 : decode cX6_offFrom 22 = .ok (.iconst 4, 1) := by decide +kernel
theorem dX6_offFrom_23 : decode cX6_offFrom 23 = .ok (.invokevirtual 45, 3) := by decide +kernel
theorem dX6_offFrom_26 : decode cX6_offFrom 26 = .ok (.if_icmp .eq 7, 3) := by decide +kernel
theorem dX6_offFrom_29 : decode cX6_offFrom 29 = .ok (.iload_n 3, 1) := by decide +kernel
theorem dX6_offFrom_30 : decode cX6_offFrom 30 = .ok (.goto 5, 3) := by decide +kernel
theorem dX6_offFrom_33 : decode cX6_offFrom 33 = .ok (.iload_n 3, 1) := by decide +kernel
theorem dX6_offFrom_34 : decode cX6_offFrom 34 = .ok (.ineg, 1) := by decide +kernel
theorem dX6_offFrom_35 : decode cX6_offFrom 35 = .ok (.ireturn, 1) := by decide +kernel
theorem dX6_seen_0 : decode cX6_seen 0 = .ok (.iconst 0, 1) := by decide +kernel
theorem dX6_seen_1 : decode cX6_seen 1 = .ok (.istore_n 2, 1) := by decide +kernel
theorem dX6_seen_2 : decode cX6_seen 2 = .ok (.iconst 0, 1) := by decide +kernel
theorem dX6_seen_3 : decode cX6_seen 3 = .ok (.istore_n 3, 1) := by decide +kernel
theorem dX6_seen_4 : decode cX6_seen 4 = .ok (.iload_n 3, 1) := by decide +kernel
theorem dX6_seen_5 : decode cX6_seen 5 = .ok (.aload_n 0, 1) := by decide +kernel
theorem dX6_seen_6 : decode cX6_seen 6 = .ok (.getfield 7, 3) := by decide +kernel
theorem dX6_seen_9 : decode cX6_seen 9 = .ok (.iconst 2, 1) := by decide +kernel
theorem dX6_seen_10 : decode cX6_seen 10 = .ok (.iaload, 1) := by decide +kernel
theorem dX6_seen_11 : decode cX6_seen 11 = .ok (.if_icmp .ge 50, 3) := by decide +kernel
theorem dX6_seen_14 : decode cX6_seen 14 = .ok (.iload_n 2, 1) := by decide +kernel
theorem dX6_seen_15 : decode cX6_seen 15 = .ok (.iload_n 3, 1) := by decide +kernel
theorem dX6_seen_16 : decode cX6_seen 16 = .ok (.iload_n 1, 1) := by decide +kernel
theorem dX6_seen_17 : decode cX6_seen 17 = .ok (.if_icmp .eq 35, 3) := by decide +kernel
theorem dX6_seen_20 : decode cX6_seen 20 = .ok (.aload_n 0, 1) := by decide +kernel
theorem dX6_seen_21 : decode cX6_seen 21 = .ok (.iload_n 3, 1) := by decide +kernel
theorem dX6_seen_22 : decode cX6_seen 22 = .ok (.invokevirtual 68, 3) := by decide +kernel
theorem dX6_seen_25 : decode cX6_seen 25 = .ok (.ifCond .ne 27, 3) := by decide +kernel
theorem dX6_seen_28 : decode cX6_seen 28 = .ok (.aload_n 0, 1) := by decide +kernel
theorem dX6_seen_29 : decode cX6_seen 29 = .ok (.iload_n 1, 1) := by decide +kernel
theorem dX6_seen_30 : decode cX6_seen 30 = .ok (.iload_n 3, 1) := by decide +kernel
theorem dX6_seen_31 : decode cX6_seen 31 = .ok (.invokevirtual 72, 3) := by decide +kernel
theorem dX6_seen_34 : decode cX6_seen 34 = .ok (.iconst 1, 1) := by decide +kernel
theorem dX6_seen_35 : decode cX6_seen 35 = .ok (.aload_n 0, 1) := by decide +kernel
theorem dX6_seen_36 : decode cX6_seen 36 = .ok (.iload_n 1, 1) := by decide +kernel
theorem dX6_seen_37 : decode cX6_seen 37 = .ok (.invokevirtual 75, 3) := by decide +kernel
theorem dX6_seen_40 : decode cX6_seen 40 = .ok (.invokestatic 57, 3) := by decide +kernel
theorem dX6_seen_43 : decode cX6_seen 43 = .ok (.ifCond .eq 9, 3) := by decide +kernel
theorem dX6_seen_46 : decode cX6_seen 46 = .ok (.iconst 1, 1) := by decide +kernel
theorem dX6_seen_47 : decode cX6_seen 47 = .ok (.iload_n 3, 1) := by decide +kernel
theorem dX6_seen_48 : decode cX6_seen 48 = .ok (.ishl, 1) := by decide +kernel
theorem dX6_seen_49 : decode cX6_seen 49 = .ok (.goto 4, 3) := by decide +kernel
theorem dX6_seen_52 : decode cX6_seen 52 = .ok (.iconst 0, 1) := by decide +kernel
theorem dX6_seen_53 : decode cX6_seen 53 = .ok (.ior, 1) := by decide +kernel
theorem dX6_seen_54 : decode cX6_seen 54 = .ok (.istore_n 2, 1) := by decide +kernel
theorem dX6_seen_55 : decode cX6_seen 55 = .ok (.iinc 3 1, 3) := by decide +kernel
theorem dX6_seen_58 : decode cX6_seen 58 = .ok (.goto (-54), 3) := by decide +kernel
theorem dX6_seen_61 : decode cX6_seen 61 = .ok (.iload_n 2, 1) := by decide +kernel
theorem dX6_seen_62 : decode cX6_seen 62 = .ok (.ireturn, 1) := by decide +kernel
theorem dX6_followed_0 : decode cX6_followed 0 = .ok (.aload_n 0, 1) := by decide +kernel
theorem dX6_followed_1 : decode cX6_followed 1 = .ok (.iload_n 1, 1) := by decide +kernel
theorem dX6_followed_2 : decode cX6_followed 2 = .ok (.invokevirtual 78, 3) := by decide +kernel
theorem dX6_followed_5 : decode cX6_followed 5 = .ok (.istore_n 2, 1) := by decide +kernel
theorem dX6_followed_6 : decode cX6_followed 6 = .ok (.iconst (-1), 1) := by decide +kernel
theorem dX6_followed_7 : decode cX6_followed 7 = .ok (.istore_n 3, 1) := by decide +kernel
theorem dX6_followed_8 : decode cX6_followed 8 = .ok (.iconst 0, 1) := by decide +kernel
theorem dX6_followed_9 : decode cX6_followed 9 = .ok (.istore 4, 2) := by decide +kernel
theorem dX6_followed_11 : decode cX6_followed 11 = .ok (.iload 4, 2) := by decide +kernel
theorem dX6_followed_13 : decode cX6_followed 13 = .ok (.aload_n 0, 1) := by decide +kernel
theorem dX6_followed_14 : decode cX6_followed 14 = .ok (.getfield 7, 3) := by decide +kernel
theorem dX6_followed_17 : decode cX6_followed 17 = .ok (.iconst 2, 1) := by decide +kernel
theorem dX6_followed_18 : decode cX6_followed 18 = .ok (.iaload, 1) := by decide +kernel
theorem dX6_followed_19 : decode cX6_followed 19 = .ok (.if_icmp .ge 46, 3) := by decide +kernel
theorem dX6_followed_22 : decode cX6_followed 22 = .ok (.iload_n 2, 1) := by decide +kernel
theorem dX6_followed_23 : decode cX6_followed 23 = .ok (.iload 4, 2) := by decide +kernel
theorem dX6_followed_25 : decode cX6_followed 25 = .ok (.ishr, 1) := by decide +kernel
theorem dX6_followed_26 : decode cX6_followed 26 = .ok (.iconst 1, 1) := by decide +kernel
theorem dX6_followed_27 : decode cX6_followed 27 = .ok (.iand, 1) := by decide +kernel
theorem dX6_followed_28 : decode cX6_followed 28 = .ok (.iconst 1, 1) := by decide +kernel
theorem dX6_followed_29 : decode cX6_followed 29 = .ok (.if_icmp .ne 28, 3) := by decide +kernel
theorem dX6_followed_32 : decode cX6_followed 32 = .ok (.iload_n 3, 1) := by decide +kernel
theorem dX6_followed_33 : decode cX6_followed 33 = .ok (.ifCond .lt 19, 3) := by decide +kernel
theorem dX6_followed_36 : decode cX6_followed 36 = .ok (.aload_n 0, 1) := by decide +kernel
theorem dX6_followed_37 : decode cX6_followed 37 = .ok (.iload_n 1, 1) := by decide +kernel
theorem dX6_followed_38 : decode cX6_followed 38 = .ok (.iload 4, 2) := by decide +kernel
theorem dX6_followed_40 : decode cX6_followed 40 = .ok (.invokevirtual 72, 3) := by decide +kernel
theorem dX6_followed_43 : decode cX6_followed 43 = .ok (.aload_n 0, 1) := by decide +kernel
theorem dX6_followed_44 : decode cX6_followed 44 = .ok (.iload_n 1, 1) := by decide +kernel
theorem dX6_followed_45 : decode cX6_followed 45 = .ok (.iload_n 3, 1) := by decide +kernel
theorem dX6_followed_46 : decode cX6_followed 46 = .ok (.invokevirtual 72, 3) := by decide +kernel
theorem dX6_followed_49 : decode cX6_followed 49 = .ok (.if_icmp .ge 8, 3) := by decide +kernel
theorem dX6_followed_52 : decode cX6_followed 52 = .ok (.iload 4, 2) := by decide +kernel
theorem dX6_followed_54 : decode cX6_followed 54 = .ok (.goto 4, 3) := by decide +kernel
theorem dX6_followed_57 : decode cX6_followed 57 = .ok (.iload_n 3, 1) := by decide +kernel
theorem dX6_followed_58 : decode cX6_followed 58 = .ok (.istore_n 3, 1) := by decide +kernel
theorem dX6_followed_59 : decode cX6_followed 59 = .ok (.iinc 4 1, 3) := by decide +kernel
theorem dX6_followed_62 : decode cX6_followed 62 = .ok (.goto (-51), 3) := by decide +kernel
theorem dX6_followed_65 : decode cX6_followed 65 = .ok (.iload_n 3, 1) := by decide +kernel
theorem dX6_followed_66 : decode cX6_followed 66 = .ok (.ireturn, 1) := by decide +kernel
theorem dX6_goes_0 : decode cX6_goes 0 = .ok (.aload_n 0, 1) := by decide +kernel
theorem dX6_goes_1 : decode cX6_goes 1 = .ok (.iload_n 1, 1) := by decide +kernel
theorem dX6_goes_2 : decode cX6_goes 2 = .ok (.iconst 3, 1) := by decide +kernel
theorem dX6_goes_3 : decode cX6_goes 3 = .ok (.invokevirtual 45, 3) := by decide +kernel
theorem dX6_goes_6 : decode cX6_goes 6 = .ok (.istore_n 2, 1) := by decide +kernel
theorem dX6_goes_7 : decode cX6_goes 7 = .ok (.aload_n 0, 1) := by decide +kernel
theorem dX6_goes_8 : decode cX6_goes 8 = .ok (.iload_n 1, 1) := by decide +kernel
theorem dX6_goes_9 : decode cX6_goes 9 = .ok (.invokevirtual 78, 3) := by decide +kernel
theorem dX6_goes_12 : decode cX6_goes 12 = .ok (.ifCond .eq 7, 3) := by decide +kernel
theorem dX6_goes_15 : decode cX6_goes 15 = .ok (.iconst 1, 1) := by decide +kernel
theorem dX6_goes_16 : decode cX6_goes 16 = .ok (.goto 4, 3) := by decide +kernel
theorem dX6_goes_19 : decode cX6_goes 19 = .ok (.iconst 0, 1) := by decide +kernel
theorem dX6_goes_20 : decode cX6_goes 20 = .ok (.istore_n 3, 1) := by decide +kernel
theorem dX6_goes_21 : decode cX6_goes 21 = .ok (.iload_n 3, 1) := by decide +kernel
theorem dX6_goes_22 : decode cX6_goes 22 = .ok (.ifCond .eq 9, 3) := by decide +kernel
theorem dX6_goes_25 : decode cX6_goes 25 = .ok (.iload_n 2, 1) := by decide +kernel
theorem dX6_goes_26 : decode cX6_goes 26 = .ok (.iconst 1, 1) := by decide +kernel
theorem dX6_goes_27 : decode cX6_goes 27 = .ok (.iadd, 1) := by decide +kernel
theorem dX6_goes_28 : decode cX6_goes 28 = .ok (.goto 4, 3) := by decide +kernel
theorem dX6_goes_31 : decode cX6_goes 31 = .ok (.iload_n 2, 1) := by decide +kernel
theorem dX6_goes_32 : decode cX6_goes 32 = .ok (.istore 4, 2) := by decide +kernel
theorem dX6_goes_34 : decode cX6_goes 34 = .ok (.iload_n 3, 1) := by decide +kernel
theorem dX6_goes_35 : decode cX6_goes 35 = .ok (.ifCond .eq 9, 3) := by decide +kernel
theorem dX6_goes_38 : decode cX6_goes 38 = .ok (.iload_n 2, 1) := by decide +kernel
theorem dX6_goes_39 : decode cX6_goes 39 = .ok (.iconst 2, 1) := by decide +kernel
theorem dX6_goes_40 : decode cX6_goes 40 = .ok (.idiv, 1) := by decide +kernel
theorem dX6_goes_41 : decode cX6_goes 41 = .ok (.goto 4, 3) := by decide +kernel
theorem dX6_goes_44 : decode cX6_goes 44 = .ok (.iload_n 2, 1) := by decide +kernel
theorem dX6_goes_45 : decode cX6_goes 45 = .ok (.istore 5, 2) := by decide +kernel
theorem dX6_goes_47 : decode cX6_goes 47 = .ok (.aload_n 0, 1) := by decide +kernel
theorem dX6_goes_48 : decode cX6_goes 48 = .ok (.getfield 7, 3) := by decide +kernel
theorem dX6_goes_51 : decode cX6_goes 51 = .ok (.iconst 0, 1) := by decide +kernel
theorem dX6_goes_52 : decode cX6_goes 52 = .ok (.iaload, 1) := by decide +kernel
theorem dX6_goes_53 : decode cX6_goes 53 = .ok (.iconst 4, 1) := by decide +kernel
theorem dX6_goes_54 : decode cX6_goes 54 = .ok (.irem, 1) := by decide +kernel
theorem dX6_goes_55 : decode cX6_goes 55 = .ok (.iconst 3, 1) := by decide +kernel
theorem dX6_goes_56 : decode cX6_goes 56 = .ok (.if_icmp .ne 7, 3) := by decide +kernel
theorem dX6_goes_59 : decode cX6_goes 59 = .ok (.iconst 0, 1) := by decide +kernel
theorem dX6_goes_60 : decode cX6_goes 60 = .ok (.goto 5, 3) := by decide +kernel
theorem dX6_goes_63 : decode cX6_goes 63 = .ok (.iload 4, 2) := by decide +kernel
theorem dX6_goes_65 : decode cX6_goes 65 = .ok (.istore 6, 2) := by decide +kernel
theorem dX6_goes_67 : decode cX6_goes 67 = .ok (.aload_n 0, 1) := by decide +kernel
theorem dX6_goes_68 : decode cX6_goes 68 = .ok (.iload_n 1, 1) := by decide +kernel
theorem dX6_goes_69 : decode cX6_goes 69 = .ok (.iconst 0, 1) := by decide +kernel
theorem dX6_goes_70 : decode cX6_goes 70 = .ok (.invokevirtual 45, 3) := by decide +kernel
theorem dX6_goes_73 : decode cX6_goes 73 = .ok (.tableswitch 79 1 5 #[35, 52, 65, 38, 55], 35) := by decide +kernel
theorem dX6_goes_108 : decode cX6_goes 108 = .ok (.iload 5, 2) := by decide +kernel
theorem dX6_goes_110 : decode cX6_goes 110 = .ok (.ireturn, 1) := by decide +kernel
theorem dX6_goes_111 : decode cX6_goes 111 = .ok (.iload 5, 2) := by decide +kernel
theorem dX6_goes_113 : decode cX6_goes 113 = .ok (.ifCond .le 10, 3) := by decide +kernel
theorem dX6_goes_116 : decode cX6_goes 116 = .ok (.iload 5, 2) := by decide +kernel
theorem dX6_goes_118 : decode cX6_goes 118 = .ok (.iconst 1, 1) := by decide +kernel
theorem dX6_goes_119 : decode cX6_goes 119 = .ok (.isub, 1) := by decide +kernel
theorem dX6_goes_120 : decode cX6_goes 120 = .ok (.goto 4, 3) := by decide +kernel
theorem dX6_goes_123 : decode cX6_goes 123 = .ok (.iconst 0, 1) := by decide +kernel
theorem dX6_goes_124 : decode cX6_goes 124 = .ok (.ireturn, 1) := by decide +kernel
theorem dX6_goes_125 : decode cX6_goes 125 = .ok (.iload 6, 2) := by decide +kernel
theorem dX6_goes_127 : decode cX6_goes 127 = .ok (.ireturn, 1) := by decide +kernel
theorem dX6_goes_128 : decode cX6_goes 128 = .ok (.iload 6, 2) := by decide +kernel
theorem dX6_goes_130 : decode cX6_goes 130 = .ok (.aload_n 0, 1) := by decide +kernel
theorem dX6_goes_131 : decode cX6_goes 131 = .ok (.iload_n 1, 1) := by decide +kernel
theorem dX6_goes_132 : decode cX6_goes 132 = .ok (.iconst 4, 1) := by decide +kernel
theorem dX6_goes_133 : decode cX6_goes 133 = .ok (.invokevirtual 45, 3) := by decide +kernel
theorem dX6_goes_136 : decode cX6_goes 136 = .ok (.iadd, 1) := by decide +kernel
theorem dX6_goes_137 : decode cX6_goes 137 = .ok (.ireturn, 1) := by decide +kernel
theorem dX6_goes_138 : decode cX6_goes 138 = .ok (.iload_n 3, 1) := by decide +kernel
theorem dX6_goes_139 : decode cX6_goes 139 = .ok (.ifCond .eq 8, 3) := by decide +kernel
theorem dX6_goes_142 : decode cX6_goes 142 = .ok (.iload 4, 2) := by decide +kernel
theorem dX6_goes_144 : decode cX6_goes 144 = .ok (.goto 7, 3) := by decide +kernel
theorem dX6_goes_147 : decode cX6_goes 147 = .ok (.iconst 2, 1) := by decide +kernel
theorem dX6_goes_148 : decode cX6_goes 148 = .ok (.iload 4, 2) := by decide +kernel
theorem dX6_goes_150 : decode cX6_goes 150 = .ok (.imul, 1) := by decide +kernel
theorem dX6_goes_151 : decode cX6_goes 151 = .ok (.ireturn, 1) := by decide +kernel
theorem dX6_goes_152 : decode cX6_goes 152 = .ok (.iload 4, 2) := by decide +kernel
theorem dX6_goes_154 : decode cX6_goes 154 = .ok (.ireturn, 1) := by decide +kernel
theorem dX6_isTurned_0 : decode cX6_isTurned 0 = .ok (.aload_n 0, 1) := by decide +kernel
theorem dX6_isTurned_1 : decode cX6_isTurned 1 = .ok (.iload_n 1, 1) := by decide +kernel
theorem dX6_isTurned_2 : decode cX6_isTurned 2 = .ok (.iconst 0, 1) := by decide +kernel
theorem dX6_isTurned_3 : decode cX6_isTurned 3 = .ok (.invokevirtual 45, 3) := by decide +kernel
theorem dX6_isTurned_6 : decode cX6_isTurned 6 = .ok (.istore_n 2, 1) := by decide +kernel
theorem dX6_isTurned_7 : decode cX6_isTurned 7 = .ok (.iload_n 2, 1) := by decide +kernel
theorem dX6_isTurned_8 : decode cX6_isTurned 8 = .ok (.iconst 4, 1) := by decide +kernel
theorem dX6_isTurned_9 : decode cX6_isTurned 9 = .ok (.if_icmp .ne 21, 3) := by decide +kernel
theorem dX6_isTurned_12 : decode cX6_isTurned 12 = .ok (.aload_n 0, 1) := by decide +kernel
theorem dX6_isTurned_13 : decode cX6_isTurned 13 = .ok (.iload_n 1, 1) := by decide +kernel
theorem dX6_isTurned_14 : decode cX6_isTurned 14 = .ok (.iconst 3, 1) := by decide +kernel
theorem dX6_isTurned_15 : decode cX6_isTurned 15 = .ok (.invokevirtual 45, 3) := by decide +kernel
theorem dX6_isTurned_18 : decode cX6_isTurned 18 = .ok (.iconst 3, 1) := by decide +kernel
theorem dX6_isTurned_19 : decode cX6_isTurned 19 = .ok (.if_icmp .le 7, 3) := by decide +kernel
theorem dX6_isTurned_22 : decode cX6_isTurned 22 = .ok (.iconst 1, 1) := by decide +kernel
theorem dX6_isTurned_23 : decode cX6_isTurned 23 = .ok (.goto 17, 3) := by decide +kernel
theorem dX6_isTurned_26 : decode cX6_isTurned 26 = .ok (.iconst 0, 1) := by decide +kernel
theorem dX6_isTurned_27 : decode cX6_isTurned 27 = .ok (.goto 13, 3) := by decide +kernel
theorem dX6_isTurned_30 : decode cX6_isTurned 30 = .ok (.iload_n 2, 1) := by decide +kernel
theorem dX6_isTurned_31 : decode cX6_isTurned 31 = .ok (.iconst 2, 1) := by decide +kernel
theorem dX6_isTurned_32 : decode cX6_isTurned 32 = .ok (.if_icmp .eq 7, 3) := by decide +kernel
theorem dX6_isTurned_35 : decode cX6_isTurned 35 = .ok (.iconst 1, 1) := by decide +kernel
theorem dX6_isTurned_36 : decode cX6_isTurned 36 = .ok (.goto 4, 3) := by decide +kernel
theorem dX6_isTurned_39 : decode cX6_isTurned 39 = .ok (.iconst 0, 1) := by decide +kernel
theorem dX6_isTurned_40 : decode cX6_isTurned 40 = .ok (.ireturn, 1) := by decide +kernel
theorem dX6_adds_0 : decode cX6_adds 0 = .ok (.aload_n 0, 1) := by decide +kernel
theorem dX6_adds_1 : decode cX6_adds 1 = .ok (.getfield 7, 3) := by decide +kernel
theorem dX6_adds_4 : decode cX6_adds 4 = .ok (.iconst 2, 1) := by decide +kernel
theorem dX6_adds_5 : decode cX6_adds 5 = .ok (.iaload, 1) := by decide +kernel
theorem dX6_adds_6 : decode cX6_adds 6 = .ok (.istore 6, 2) := by decide +kernel
theorem dX6_adds_8 : decode cX6_adds 8 = .ok (.aload_n 0, 1) := by decide +kernel
theorem dX6_adds_9 : decode cX6_adds 9 = .ok (.iload 6, 2) := by decide +kernel
theorem dX6_adds_11 : decode cX6_adds 11 = .ok (.iconst 0, 1) := by decide +kernel
theorem dX6_adds_12 : decode cX6_adds 12 = .ok (.iload_n 1, 1) := by decide +kernel
theorem dX6_adds_13 : decode cX6_adds 13 = .ok (.invokevirtual 53, 3) := by decide +kernel
theorem dX6_adds_16 : decode cX6_adds 16 = .ok (.aload_n 0, 1) := by decide +kernel
theorem dX6_adds_17 : decode cX6_adds 17 = .ok (.iload 6, 2) := by decide +kernel
theorem dX6_adds_19 : decode cX6_adds 19 = .ok (.iconst 1, 1) := by decide +kernel
theorem dX6_adds_20 : decode cX6_adds 20 = .ok (.iload_n 2, 1) := by decide +kernel
theorem dX6_adds_21 : decode cX6_adds 21 = .ok (.invokevirtual 53, 3) := by decide +kernel
theorem dX6_adds_24 : decode cX6_adds 24 = .ok (.aload_n 0, 1) := by decide +kernel
theorem dX6_adds_25 : decode cX6_adds 25 = .ok (.iload 6, 2) := by decide +kernel
theorem dX6_adds_27 : decode cX6_adds 27 = .ok (.iconst 2, 1) := by decide +kernel
theorem dX6_adds_28 : decode cX6_adds 28 = .ok (.iload_n 3, 1) := by decide +kernel
theorem dX6_adds_29 : decode cX6_adds 29 = .ok (.invokevirtual 53, 3) := by decide +kernel
theorem dX6_adds_32 : decode cX6_adds 32 = .ok (.aload_n 0, 1) := by decide +kernel
theorem dX6_adds_33 : decode cX6_adds 33 = .ok (.iload 6, 2) := by decide +kernel
theorem dX6_adds_35 : decode cX6_adds 35 = .ok (.iconst 3, 1) := by decide +kernel
theorem dX6_adds_36 : decode cX6_adds 36 = .ok (.iload 4, 2) := by decide +kernel
theorem dX6_adds_38 : decode cX6_adds 38 = .ok (.invokevirtual 53, 3) := by decide +kernel
theorem dX6_adds_41 : decode cX6_adds 41 = .ok (.aload_n 0, 1) := by decide +kernel
theorem dX6_adds_42 : decode cX6_adds 42 = .ok (.iload 6, 2) := by decide +kernel
theorem dX6_adds_44 : decode cX6_adds 44 = .ok (.iconst 4, 1) := by decide +kernel
theorem dX6_adds_45 : decode cX6_adds 45 = .ok (.iload 5, 2) := by decide +kernel
theorem dX6_adds_47 : decode cX6_adds 47 = .ok (.invokevirtual 53, 3) := by decide +kernel
theorem dX6_adds_50 : decode cX6_adds 50 = .ok (.aload_n 0, 1) := by decide +kernel
theorem dX6_adds_51 : decode cX6_adds 51 = .ok (.iload 6, 2) := by decide +kernel
theorem dX6_adds_53 : decode cX6_adds 53 = .ok (.iconst 5, 1) := by decide +kernel
theorem dX6_adds_54 : decode cX6_adds 54 = .ok (.iconst 0, 1) := by decide +kernel
theorem dX6_adds_55 : decode cX6_adds 55 = .ok (.invokevirtual 53, 3) := by decide +kernel
theorem dX6_adds_58 : decode cX6_adds 58 = .ok (.aload_n 0, 1) := by decide +kernel
theorem dX6_adds_59 : decode cX6_adds 59 = .ok (.iload 6, 2) := by decide +kernel
theorem dX6_adds_61 : decode cX6_adds 61 = .ok (.bipush 6, 2) := by decide +kernel
theorem dX6_adds_63 : decode cX6_adds 63 = .ok (.iconst 0, 1) := by decide +kernel
theorem dX6_adds_64 : decode cX6_adds 64 = .ok (.invokevirtual 53, 3) := by decide +kernel
theorem dX6_adds_67 : decode cX6_adds 67 = .ok (.aload_n 0, 1) := by decide +kernel
theorem dX6_adds_68 : decode cX6_adds 68 = .ok (.getfield 7, 3) := by decide +kernel
theorem dX6_adds_71 : decode cX6_adds 71 = .ok (.iconst 2, 1) := by decide +kernel
theorem dX6_adds_72 : decode cX6_adds 72 = .ok (.dup2, 1) := by decide +kernel
theorem dX6_adds_73 : decode cX6_adds 73 = .ok (.iaload, 1) := by decide +kernel
theorem dX6_adds_74 : decode cX6_adds 74 = .ok (.iconst 1, 1) := by decide +kernel
theorem dX6_adds_75 : decode cX6_adds 75 = .ok (.iadd, 1) := by decide +kernel
theorem dX6_adds_76 : decode cX6_adds 76 = .ok (.iastore, 1) := by decide +kernel
theorem dX6_adds_77 : decode cX6_adds 77 = .ok (.return_, 1) := by decide +kernel
theorem dX6_walker_0 : decode cX6_walker 0 = .ok (.iload_n 1, 1) := by decide +kernel
theorem dX6_walker_1 : decode cX6_walker 1 = .ok (.invokestatic 81, 3) := by decide +kernel
theorem dX6_walker_4 : decode cX6_walker 4 = .ok (.ifCond .eq 13, 3) := by decide +kernel
theorem dX6_walker_7 : decode cX6_walker 7 = .ok (.iload_n 2, 1) := by decide +kernel
theorem dX6_walker_8 : decode cX6_walker 8 = .ok (.iconst 0, 1) := by decide +kernel
theorem dX6_walker_9 : decode cX6_walker 9 = .ok (.bipush 99, 2) := by decide +kernel
theorem dX6_walker_11 : decode cX6_walker 11 = .ok (.invokestatic 57, 3) := by decide +kernel
theorem dX6_walker_14 : decode cX6_walker 14 = .ok (.ifCond .ne 10, 3) := by decide +kernel
theorem dX6_walker_17 : decode cX6_walker 17 = .ok (.aload_n 0, 1) := by decide +kernel
theorem dX6_walker_18 : decode cX6_walker 18 = .ok (.ldc 44, 2) := by decide +kernel
theorem dX6_walker_20 : decode cX6_walker 20 = .ok (.invokevirtual 64, 3) := by decide +kernel
theorem dX6_walker_23 : decode cX6_walker 23 = .ok (.ireturn, 1) := by decide +kernel
theorem dX6_walker_24 : decode cX6_walker 24 = .ok (.aload_n 0, 1) := by decide +kernel
theorem dX6_walker_25 : decode cX6_walker 25 = .ok (.getfield 7, 3) := by decide +kernel
theorem dX6_walker_28 : decode cX6_walker 28 = .ok (.iconst 2, 1) := by decide +kernel
theorem dX6_walker_29 : decode cX6_walker 29 = .ok (.iaload, 1) := by decide +kernel
theorem dX6_walker_30 : decode cX6_walker 30 = .ok (.bipush 8, 2) := by decide +kernel
theorem dX6_walker_32 : decode cX6_walker 32 = .ok (.if_icmp .ne 10, 3) := by decide +kernel
theorem dX6_walker_35 : decode cX6_walker 35 = .ok (.aload_n 0, 1) := by decide +kernel
theorem dX6_walker_36 : decode cX6_walker 36 = .ok (.ldc 84, 2) := by decide +kernel
theorem dX6_walker_38 : decode cX6_walker 38 = .ok (.invokevirtual 64, 3) := by decide +kernel
theorem dX6_walker_41 : decode cX6_walker 41 = .ok (.ireturn, 1) := by decide +kernel
theorem dX6_walker_42 : decode cX6_walker 42 = .ok (.aload_n 0, 1) := by decide +kernel
theorem dX6_walker_43 : decode cX6_walker 43 = .ok (.iload_n 1, 1) := by decide +kernel
theorem dX6_walker_44 : decode cX6_walker 44 = .ok (.iload_n 2, 1) := by decide +kernel
theorem dX6_walker_45 : decode cX6_walker 45 = .ok (.iconst 1, 1) := by decide +kernel
theorem dX6_walker_46 : decode cX6_walker 46 = .ok (.iconst 2, 1) := by decide +kernel
theorem dX6_walker_47 : decode cX6_walker 47 = .ok (.iconst 0, 1) := by decide +kernel
theorem dX6_walker_48 : decode cX6_walker 48 = .ok (.invokevirtual 85, 3) := by decide +kernel
theorem dX6_walker_51 : decode cX6_walker 51 = .ok (.aload_n 0, 1) := by decide +kernel
theorem dX6_walker_52 : decode cX6_walker 52 = .ok (.getfield 7, 3) := by decide +kernel
theorem dX6_walker_55 : decode cX6_walker 55 = .ok (.iconst 2, 1) := by decide +kernel
theorem dX6_walker_56 : decode cX6_walker 56 = .ok (.iaload, 1) := by decide +kernel
theorem dX6_walker_57 : decode cX6_walker 57 = .ok (.iconst 1, 1) := by decide +kernel
theorem dX6_walker_58 : decode cX6_walker 58 = .ok (.isub, 1) := by decide +kernel
theorem dX6_walker_59 : decode cX6_walker 59 = .ok (.ireturn, 1) := by decide +kernel
theorem dX6_of_0 : decode cX6_of 0 = .ok (.aload_n 0, 1) := by decide +kernel
theorem dX6_of_1 : decode cX6_of 1 = .ok (.iload_n 1, 1) := by decide +kernel
theorem dX6_of_2 : decode cX6_of 2 = .ok (.invokevirtual 89, 3) := by decide +kernel
theorem dX6_of_5 : decode cX6_of 5 = .ok (.ifCond .eq 13, 3) := by decide +kernel
theorem dX6_of_8 : decode cX6_of 8 = .ok (.iload_n 2, 1) := by decide +kernel
theorem dX6_of_9 : decode cX6_of 9 = .ok (.iconst 0, 1) := by decide +kernel
theorem dX6_of_10 : decode cX6_of 10 = .ok (.bipush 9, 2) := by decide +kernel
theorem dX6_of_12 : decode cX6_of 12 = .ok (.invokestatic 57, 3) := by decide +kernel
theorem dX6_of_15 : decode cX6_of 15 = .ok (.ifCond .ne 10, 3) := by decide +kernel
theorem dX6_of_18 : decode cX6_of 18 = .ok (.aload_n 0, 1) := by decide +kernel
theorem dX6_of_19 : decode cX6_of 19 = .ok (.ldc 44, 2) := by decide +kernel
theorem dX6_of_21 : decode cX6_of 21 = .ok (.invokevirtual 64, 3) := by decide +kernel
theorem dX6_of_24 : decode cX6_of 24 = .ok (.ireturn, 1) := by decide +kernel
theorem dX6_of_25 : decode cX6_of 25 = .ok (.iload_n 2, 1) := by decide +kernel
theorem dX6_of_26 : decode cX6_of 26 = .ok (.tableswitch 52 7 9 #[26, 40, 46], 26) := by decide +kernel
theorem dX6_of_52 : decode cX6_of 52 = .ok (.aload_n 0, 1) := by decide +kernel
theorem dX6_of_53 : decode cX6_of 53 = .ok (.iload_n 1, 1) := by decide +kernel
theorem dX6_of_54 : decode cX6_of 54 = .ok (.invokevirtual 68, 3) := by decide +kernel
theorem dX6_of_57 : decode cX6_of 57 = .ok (.ifCond .eq 7, 3) := by decide +kernel
theorem dX6_of_60 : decode cX6_of 60 = .ok (.iconst 1, 1) := by decide +kernel
theorem dX6_of_61 : decode cX6_of 61 = .ok (.goto 4, 3) := by decide +kernel
theorem dX6_of_64 : decode cX6_of 64 = .ok (.iconst 0, 1) := by decide +kernel
theorem dX6_of_65 : decode cX6_of 65 = .ok (.ireturn, 1) := by decide +kernel
theorem dX6_of_66 : decode cX6_of 66 = .ok (.aload_n 0, 1) := by decide +kernel
theorem dX6_of_67 : decode cX6_of 67 = .ok (.iload_n 1, 1) := by decide +kernel
theorem dX6_of_68 : decode cX6_of 68 = .ok (.invokevirtual 75, 3) := by decide +kernel
theorem dX6_of_71 : decode cX6_of 71 = .ok (.ireturn, 1) := by decide +kernel
theorem dX6_of_72 : decode cX6_of 72 = .ok (.aload_n 0, 1) := by decide +kernel
theorem dX6_of_73 : decode cX6_of 73 = .ok (.iload_n 1, 1) := by decide +kernel
theorem dX6_of_74 : decode cX6_of 74 = .ok (.invokevirtual 92, 3) := by decide +kernel
theorem dX6_of_77 : decode cX6_of 77 = .ok (.ireturn, 1) := by decide +kernel
theorem dX6_of_78 : decode cX6_of 78 = .ok (.aload_n 0, 1) := by decide +kernel
theorem dX6_of_79 : decode cX6_of 79 = .ok (.iload_n 1, 1) := by decide +kernel
theorem dX6_of_80 : decode cX6_of 80 = .ok (.iload_n 2, 1) := by decide +kernel
theorem dX6_of_81 : decode cX6_of 81 = .ok (.invokevirtual 45, 3) := by decide +kernel
theorem dX6_of_84 : decode cX6_of 84 = .ok (.ireturn, 1) := by decide +kernel
theorem dX6_isPart_0 : decode cX6_isPart 0 = .ok (.iload_n 0, 1) := by decide +kernel
theorem dX6_isPart_1 : decode cX6_isPart 1 = .ok (.tableswitch 54 1 4 #[31, 39, 46, 39], 31) := by decide +kernel
theorem dX6_isPart_32 : decode cX6_isPart 32 = .ok (.iload_n 1, 1) := by decide +kernel
theorem dX6_isPart_33 : decode cX6_isPart 33 = .ok (.iconst 0, 1) := by decide +kernel
theorem dX6_isPart_34 : decode cX6_isPart 34 = .ok (.bipush 99, 2) := by decide +kernel
theorem dX6_isPart_36 : decode cX6_isPart 36 = .ok (.invokestatic 57, 3) := by decide +kernel
theorem dX6_isPart_39 : decode cX6_isPart 39 = .ok (.ireturn, 1) := by decide +kernel
theorem dX6_isPart_40 : decode cX6_isPart 40 = .ok (.iload_n 1, 1) := by decide +kernel
theorem dX6_isPart_41 : decode cX6_isPart 41 = .ok (.iconst 0, 1) := by decide +kernel
theorem dX6_isPart_42 : decode cX6_isPart 42 = .ok (.iconst 1, 1) := by decide +kernel
theorem dX6_isPart_43 : decode cX6_isPart 43 = .ok (.invokestatic 57, 3) := by decide +kernel
theorem dX6_isPart_46 : decode cX6_isPart 46 = .ok (.ireturn, 1) := by decide +kernel
theorem dX6_isPart_47 : decode cX6_isPart 47 = .ok (.iload_n 1, 1) := by decide +kernel
theorem dX6_isPart_48 : decode cX6_isPart 48 = .ok (.iconst 0, 1) := by decide +kernel
theorem dX6_isPart_49 : decode cX6_isPart 49 = .ok (.bipush 9, 2) := by decide +kernel
theorem dX6_isPart_51 : decode cX6_isPart 51 = .ok (.invokestatic 57, 3) := by decide +kernel
theorem dX6_isPart_54 : decode cX6_isPart 54 = .ok (.ireturn, 1) := by decide +kernel
theorem dX6_isPart_55 : decode cX6_isPart 55 = .ok (.iload_n 0, 1) := by decide +kernel
theorem dX6_isPart_56 : decode cX6_isPart 56 = .ok (.iconst 5, 1) := by decide +kernel
theorem dX6_isPart_57 : decode cX6_isPart 57 = .ok (.bipush 6, 2) := by decide +kernel
theorem dX6_isPart_59 : decode cX6_isPart 59 = .ok (.invokestatic 57, 3) := by decide +kernel
theorem dX6_isPart_62 : decode cX6_isPart 62 = .ok (.ifCond .eq 18, 3) := by decide +kernel
theorem dX6_isPart_65 : decode cX6_isPart 65 = .ok (.iload_n 1, 1) := by decide +kernel
theorem dX6_isPart_66 : decode cX6_isPart 66 = .ok (.iconst 0, 1) := by decide +kernel
theorem dX6_isPart_67 : decode cX6_isPart 67 = .ok (.sipush 999, 3) := by decide +kernel
theorem dX6_isPart_70 : decode cX6_isPart 70 = .ok (.invokestatic 57, 3) := by decide +kernel
theorem dX6_isPart_73 : decode cX6_isPart 73 = .ok (.ifCond .eq 7, 3) := by decide +kernel
theorem dX6_isPart_76 : decode cX6_isPart 76 = .ok (.iconst 1, 1) := by decide +kernel
theorem dX6_isPart_77 : decode cX6_isPart 77 = .ok (.goto 4, 3) := by decide +kernel
theorem dX6_isPart_80 : decode cX6_isPart 80 = .ok (.iconst 0, 1) := by decide +kernel
theorem dX6_isPart_81 : decode cX6_isPart 81 = .ok (.ireturn, 1) := by decide +kernel
theorem dX6_set_0 : decode cX6_set 0 = .ok (.aload_n 0, 1) := by decide +kernel
theorem dX6_set_1 : decode cX6_set 1 = .ok (.iload_n 1, 1) := by decide +kernel
theorem dX6_set_2 : decode cX6_set 2 = .ok (.invokevirtual 89, 3) := by decide +kernel
theorem dX6_set_5 : decode cX6_set 5 = .ok (.ifCond .eq 27, 3) := by decide +kernel
theorem dX6_set_8 : decode cX6_set 8 = .ok (.iload_n 2, 1) := by decide +kernel
theorem dX6_set_9 : decode cX6_set 9 = .ok (.iload_n 3, 1) := by decide +kernel
theorem dX6_set_10 : decode cX6_set 10 = .ok (.invokestatic 95, 3) := by decide +kernel
theorem dX6_set_13 : decode cX6_set 13 = .ok (.ifCond .eq 19, 3) := by decide +kernel
theorem dX6_set_16 : decode cX6_set 16 = .ok (.aload_n 0, 1) := by decide +kernel
theorem dX6_set_17 : decode cX6_set 17 = .ok (.iconst 3, 1) := by decide +kernel
theorem dX6_set_18 : decode cX6_set 18 = .ok (.bipush 7, 2) := by decide +kernel
theorem dX6_set_20 : decode cX6_set 20 = .ok (.iload_n 1, 1) := by decide +kernel
theorem dX6_set_21 : decode cX6_set 21 = .ok (.imul, 1) := by decide +kernel
theorem dX6_set_22 : decode cX6_set 22 = .ok (.iadd, 1) := by decide +kernel
theorem dX6_set_23 : decode cX6_set 23 = .ok (.iload_n 2, 1) := by decide +kernel
theorem dX6_set_24 : decode cX6_set 24 = .ok (.iadd, 1) := by decide +kernel
theorem dX6_set_25 : decode cX6_set 25 = .ok (.iload_n 3, 1) := by decide +kernel
theorem dX6_set_26 : decode cX6_set 26 = .ok (.invokevirtual 61, 3) := by decide +kernel
theorem dX6_set_29 : decode cX6_set 29 = .ok (.goto 9, 3) := by decide +kernel
theorem dX6_set_32 : decode cX6_set 32 = .ok (.aload_n 0, 1) := by decide +kernel
theorem dX6_set_33 : decode cX6_set 33 = .ok (.ldc 44, 2) := by decide +kernel
theorem dX6_set_35 : decode cX6_set 35 = .ok (.invokevirtual 64, 3) := by decide +kernel
theorem dX6_set_38 : decode cX6_set 38 = .ok (.ireturn, 1) := by decide +kernel
theorem dX6_turn_0 : decode cX6_turn 0 = .ok (.aload_n 0, 1) := by decide +kernel
theorem dX6_turn_1 : decode cX6_turn 1 = .ok (.iload_n 1, 1) := by decide +kernel
theorem dX6_turn_2 : decode cX6_turn 2 = .ok (.invokevirtual 89, 3) := by decide +kernel
theorem dX6_turn_5 : decode cX6_turn 5 = .ok (.ifCond .eq 24, 3) := by decide +kernel
theorem dX6_turn_8 : decode cX6_turn 8 = .ok (.iload_n 2, 1) := by decide +kernel
theorem dX6_turn_9 : decode cX6_turn 9 = .ok (.invokestatic 81, 3) := by decide +kernel
theorem dX6_turn_12 : decode cX6_turn 12 = .ok (.ifCond .eq 17, 3) := by decide +kernel
theorem dX6_turn_15 : decode cX6_turn 15 = .ok (.aload_n 0, 1) := by decide +kernel
theorem dX6_turn_16 : decode cX6_turn 16 = .ok (.iconst 3, 1) := by decide +kernel
theorem dX6_turn_17 : decode cX6_turn 17 = .ok (.bipush 7, 2) := by decide +kernel
theorem dX6_turn_19 : decode cX6_turn 19 = .ok (.iload_n 1, 1) := by decide +kernel
theorem dX6_turn_20 : decode cX6_turn 20 = .ok (.imul, 1) := by decide +kernel
theorem dX6_turn_21 : decode cX6_turn 21 = .ok (.iadd, 1) := by decide +kernel
theorem dX6_turn_22 : decode cX6_turn 22 = .ok (.iload_n 2, 1) := by decide +kernel
theorem dX6_turn_23 : decode cX6_turn 23 = .ok (.invokevirtual 61, 3) := by decide +kernel
theorem dX6_turn_26 : decode cX6_turn 26 = .ok (.goto 9, 3) := by decide +kernel
theorem dX6_turn_29 : decode cX6_turn 29 = .ok (.aload_n 0, 1) := by decide +kernel
theorem dX6_turn_30 : decode cX6_turn 30 = .ok (.ldc 44, 2) := by decide +kernel
theorem dX6_turn_32 : decode cX6_turn 32 = .ok (.invokevirtual 64, 3) := by decide +kernel
theorem dX6_turn_35 : decode cX6_turn 35 = .ok (.ireturn, 1) := by decide +kernel
theorem dX6_as_0 : decode cX6_as 0 = .ok (.aload_n 0, 1) := by decide +kernel
theorem dX6_as_1 : decode cX6_as 1 = .ok (.iload_n 1, 1) := by decide +kernel
theorem dX6_as_2 : decode cX6_as 2 = .ok (.invokevirtual 89, 3) := by decide +kernel
theorem dX6_as_5 : decode cX6_as 5 = .ok (.ifCond .eq 10, 3) := by decide +kernel
theorem dX6_as_8 : decode cX6_as 8 = .ok (.iload_n 2, 1) := by decide +kernel
theorem dX6_as_9 : decode cX6_as 9 = .ok (.invokestatic 81, 3) := by decide +kernel
theorem dX6_as_12 : decode cX6_as 12 = .ok (.ifCond .ne 10, 3) := by decide +kernel
theorem dX6_as_15 : decode cX6_as 15 = .ok (.aload_n 0, 1) := by decide +kernel
theorem dX6_as_16 : decode cX6_as 16 = .ok (.ldc 44, 2) := by decide +kernel
theorem dX6_as_18 : decode cX6_as 18 = .ok (.invokevirtual 64, 3) := by decide +kernel
theorem dX6_as_21 : decode cX6_as 21 = .ok (.ireturn, 1) := by decide +kernel
theorem dX6_as_22 : decode cX6_as 22 = .ok (.aload_n 0, 1) := by decide +kernel
theorem dX6_as_23 : decode cX6_as 23 = .ok (.iload_n 1, 1) := by decide +kernel
theorem dX6_as_24 : decode cX6_as 24 = .ok (.iconst 0, 1) := by decide +kernel
theorem dX6_as_25 : decode cX6_as 25 = .ok (.invokevirtual 45, 3) := by decide +kernel
theorem dX6_as_28 : decode cX6_as 28 = .ok (.istore_n 3, 1) := by decide +kernel
theorem dX6_as_29 : decode cX6_as 29 = .ok (.iload_n 2, 1) := by decide +kernel
theorem dX6_as_30 : decode cX6_as 30 = .ok (.ifCond .eq 28, 3) := by decide +kernel
theorem dX6_as_33 : decode cX6_as 33 = .ok (.iload_n 2, 1) := by decide +kernel
theorem dX6_as_34 : decode cX6_as 34 = .ok (.iload_n 3, 1) := by decide +kernel
theorem dX6_as_35 : decode cX6_as 35 = .ok (.if_icmp .eq 23, 3) := by decide +kernel
theorem dX6_as_38 : decode cX6_as 38 = .ok (.iload_n 2, 1) := by decide +kernel
theorem dX6_as_39 : decode cX6_as 39 = .ok (.iconst 1, 1) := by decide +kernel
theorem dX6_as_40 : decode cX6_as 40 = .ok (.if_icmp .ne 8, 3) := by decide +kernel
theorem dX6_as_43 : decode cX6_as 43 = .ok (.iload_n 3, 1) := by decide +kernel
theorem dX6_as_44 : decode cX6_as 44 = .ok (.iconst 4, 1) := by decide +kernel
theorem dX6_as_45 : decode cX6_as 45 = .ok (.if_icmp .eq 13, 3) := by decide +kernel
theorem dX6_as_48 : decode cX6_as 48 = .ok (.iload_n 2, 1) := by decide +kernel
theorem dX6_as_49 : decode cX6_as 49 = .ok (.iconst 2, 1) := by decide +kernel
