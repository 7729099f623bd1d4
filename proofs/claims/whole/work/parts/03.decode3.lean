theorem dX6_as_50 : decode cX6_as 50 = .ok (.if_icmp .ne 12, 3) := by decide +kernel
theorem dX6_as_53 : decode cX6_as 53 = .ok (.iload_n 3, 1) := by decide +kernel
theorem dX6_as_54 : decode cX6_as 54 = .ok (.iconst 5, 1) := by decide +kernel
theorem dX6_as_55 : decode cX6_as 55 = .ok (.if_icmp .ne 7, 3) := by decide +kernel
theorem dX6_as_58 : decode cX6_as 58 = .ok (.iconst 1, 1) := by decide +kernel
theorem dX6_as_59 : decode cX6_as 59 = .ok (.goto 4, 3) := by decide +kernel
theorem dX6_as_62 : decode cX6_as 62 = .ok (.iconst 0, 1) := by decide +kernel
theorem dX6_as_63 : decode cX6_as 63 = .ok (.istore 4, 2) := by decide +kernel
theorem dX6_as_65 : decode cX6_as 65 = .ok (.iload 4, 2) := by decide +kernel
theorem dX6_as_67 : decode cX6_as 67 = .ok (.ifCond .eq 12, 3) := by decide +kernel
theorem dX6_as_70 : decode cX6_as 70 = .ok (.aload_n 0, 1) := by decide +kernel
theorem dX6_as_71 : decode cX6_as 71 = .ok (.iload_n 1, 1) := by decide +kernel
theorem dX6_as_72 : decode cX6_as 72 = .ok (.iconst 3, 1) := by decide +kernel
theorem dX6_as_73 : decode cX6_as 73 = .ok (.invokevirtual 45, 3) := by decide +kernel
theorem dX6_as_76 : decode cX6_as 76 = .ok (.goto 9, 3) := by decide +kernel
theorem dX6_as_79 : decode cX6_as 79 = .ok (.aload_n 0, 1) := by decide +kernel
theorem dX6_as_80 : decode cX6_as 80 = .ok (.ldc 99, 2) := by decide +kernel
theorem dX6_as_82 : decode cX6_as 82 = .ok (.invokevirtual 64, 3) := by decide +kernel
theorem dX6_as_85 : decode cX6_as 85 = .ok (.ireturn, 1) := by decide +kernel
theorem dX6_sees_0 : decode cX6_sees 0 = .ok (.aload_n 0, 1) := by decide +kernel
theorem dX6_sees_1 : decode cX6_sees 1 = .ok (.iload_n 1, 1) := by decide +kernel
theorem dX6_sees_2 : decode cX6_sees 2 = .ok (.invokevirtual 89, 3) := by decide +kernel
theorem dX6_sees_5 : decode cX6_sees 5 = .ok (.ifCond .eq 11, 3) := by decide +kernel
theorem dX6_sees_8 : decode cX6_sees 8 = .ok (.aload_n 0, 1) := by decide +kernel
theorem dX6_sees_9 : decode cX6_sees 9 = .ok (.iload_n 1, 1) := by decide +kernel
theorem dX6_sees_10 : decode cX6_sees 10 = .ok (.invokevirtual 78, 3) := by decide +kernel
theorem dX6_sees_13 : decode cX6_sees 13 = .ok (.goto 9, 3) := by decide +kernel
theorem dX6_sees_16 : decode cX6_sees 16 = .ok (.aload_n 0, 1) := by decide +kernel
theorem dX6_sees_17 : decode cX6_sees 17 = .ok (.ldc 44, 2) := by decide +kernel
theorem dX6_sees_19 : decode cX6_sees 19 = .ok (.invokevirtual 64, 3) := by decide +kernel
theorem dX6_sees_22 : decode cX6_sees 22 = .ok (.ireturn, 1) := by decide +kernel
theorem dX6_leader_0 : decode cX6_leader 0 = .ok (.aload_n 0, 1) := by decide +kernel
theorem dX6_leader_1 : decode cX6_leader 1 = .ok (.iload_n 1, 1) := by decide +kernel
theorem dX6_leader_2 : decode cX6_leader 2 = .ok (.invokevirtual 89, 3) := by decide +kernel
theorem dX6_leader_5 : decode cX6_leader 5 = .ok (.ifCond .ne 10, 3) := by decide +kernel
theorem dX6_leader_8 : decode cX6_leader 8 = .ok (.aload_n 0, 1) := by decide +kernel
theorem dX6_leader_9 : decode cX6_leader 9 = .ok (.ldc 44, 2) := by decide +kernel
theorem dX6_leader_11 : decode cX6_leader 11 = .ok (.invokevirtual 64, 3) := by decide +kernel
theorem dX6_leader_14 : decode cX6_leader 14 = .ok (.ireturn, 1) := by decide +kernel
theorem dX6_leader_15 : decode cX6_leader 15 = .ok (.aload_n 0, 1) := by decide +kernel
theorem dX6_leader_16 : decode cX6_leader 16 = .ok (.iload_n 1, 1) := by decide +kernel
theorem dX6_leader_17 : decode cX6_leader 17 = .ok (.invokevirtual 100, 3) := by decide +kernel
theorem dX6_leader_20 : decode cX6_leader 20 = .ok (.istore_n 2, 1) := by decide +kernel
theorem dX6_leader_21 : decode cX6_leader 21 = .ok (.iload_n 2, 1) := by decide +kernel
theorem dX6_leader_22 : decode cX6_leader 22 = .ok (.ifCond .ge 12, 3) := by decide +kernel
theorem dX6_leader_25 : decode cX6_leader 25 = .ok (.aload_n 0, 1) := by decide +kernel
theorem dX6_leader_26 : decode cX6_leader 26 = .ok (.ldc 103, 2) := by decide +kernel
theorem dX6_leader_28 : decode cX6_leader 28 = .ok (.invokevirtual 64, 3) := by decide +kernel
theorem dX6_leader_31 : decode cX6_leader 31 = .ok (.goto 4, 3) := by decide +kernel
theorem dX6_leader_34 : decode cX6_leader 34 = .ok (.iload_n 2, 1) := by decide +kernel
theorem dX6_leader_35 : decode cX6_leader 35 = .ok (.ireturn, 1) := by decide +kernel
theorem dX6_besides_0 : decode cX6_besides 0 = .ok (.iconst 0, 1) := by decide +kernel
theorem dX6_besides_1 : decode cX6_besides 1 = .ok (.istore_n 2, 1) := by decide +kernel
theorem dX6_besides_2 : decode cX6_besides 2 = .ok (.iload_n 2, 1) := by decide +kernel
theorem dX6_besides_3 : decode cX6_besides 3 = .ok (.aload_n 0, 1) := by decide +kernel
theorem dX6_besides_4 : decode cX6_besides 4 = .ok (.getfield 7, 3) := by decide +kernel
theorem dX6_besides_7 : decode cX6_besides 7 = .ok (.iconst 2, 1) := by decide +kernel
theorem dX6_besides_8 : decode cX6_besides 8 = .ok (.iaload, 1) := by decide +kernel
theorem dX6_besides_9 : decode cX6_besides 9 = .ok (.if_icmp .ge 37, 3) := by decide +kernel
theorem dX6_besides_12 : decode cX6_besides 12 = .ok (.iload_n 2, 1) := by decide +kernel
theorem dX6_besides_13 : decode cX6_besides 13 = .ok (.iload_n 1, 1) := by decide +kernel
theorem dX6_besides_14 : decode cX6_besides 14 = .ok (.if_icmp .eq 26, 3) := by decide +kernel
theorem dX6_besides_17 : decode cX6_besides 17 = .ok (.aload_n 0, 1) := by decide +kernel
theorem dX6_besides_18 : decode cX6_besides 18 = .ok (.iload_n 2, 1) := by decide +kernel
theorem dX6_besides_19 : decode cX6_besides 19 = .ok (.invokevirtual 68, 3) := by decide +kernel
theorem dX6_besides_22 : decode cX6_besides 22 = .ok (.ifCond .ne 18, 3) := by decide +kernel
theorem dX6_besides_25 : decode cX6_besides 25 = .ok (.aload_n 0, 1) := by decide +kernel
theorem dX6_besides_26 : decode cX6_besides 26 = .ok (.iload_n 2, 1) := by decide +kernel
theorem dX6_besides_27 : decode cX6_besides 27 = .ok (.iconst 1, 1) := by decide +kernel
theorem dX6_besides_28 : decode cX6_besides 28 = .ok (.invokevirtual 45, 3) := by decide +kernel
theorem dX6_besides_31 : decode cX6_besides 31 = .ok (.aload_n 0, 1) := by decide +kernel
theorem dX6_besides_32 : decode cX6_besides 32 = .ok (.iload_n 1, 1) := by decide +kernel
theorem dX6_besides_33 : decode cX6_besides 33 = .ok (.iconst 1, 1) := by decide +kernel
theorem dX6_besides_34 : decode cX6_besides 34 = .ok (.invokevirtual 45, 3) := by decide +kernel
theorem dX6_besides_37 : decode cX6_besides 37 = .ok (.if_icmp .eq 9, 3) := by decide +kernel
theorem dX6_besides_40 : decode cX6_besides 40 = .ok (.iinc 2 1, 3) := by decide +kernel
theorem dX6_besides_43 : decode cX6_besides 43 = .ok (.goto (-41), 3) := by decide +kernel
theorem dX6_besides_46 : decode cX6_besides 46 = .ok (.iload_n 2, 1) := by decide +kernel
theorem dX6_besides_47 : decode cX6_besides 47 = .ok (.aload_n 0, 1) := by decide +kernel
theorem dX6_besides_48 : decode cX6_besides 48 = .ok (.getfield 7, 3) := by decide +kernel
theorem dX6_besides_51 : decode cX6_besides 51 = .ok (.iconst 2, 1) := by decide +kernel
theorem dX6_besides_52 : decode cX6_besides 52 = .ok (.iaload, 1) := by decide +kernel
theorem dX6_besides_53 : decode cX6_besides 53 = .ok (.if_icmp .ge 7, 3) := by decide +kernel
theorem dX6_besides_56 : decode cX6_besides 56 = .ok (.iload_n 2, 1) := by decide +kernel
theorem dX6_besides_57 : decode cX6_besides 57 = .ok (.goto 4, 3) := by decide +kernel
theorem dX6_besides_60 : decode cX6_besides 60 = .ok (.iconst (-1), 1) := by decide +kernel
theorem dX6_besides_61 : decode cX6_besides 61 = .ok (.ireturn, 1) := by decide +kernel
theorem dX6_bumpInto_0 : decode cX6_bumpInto 0 = .ok (.aload_n 0, 1) := by decide +kernel
theorem dX6_bumpInto_1 : decode cX6_bumpInto 1 = .ok (.iload_n 1, 1) := by decide +kernel
theorem dX6_bumpInto_2 : decode cX6_bumpInto 2 = .ok (.bipush 6, 2) := by decide +kernel
theorem dX6_bumpInto_4 : decode cX6_bumpInto 4 = .ok (.invokevirtual 104, 3) := by decide +kernel
theorem dX6_bumpInto_7 : decode cX6_bumpInto 7 = .ok (.aload_n 0, 1) := by decide +kernel
theorem dX6_bumpInto_8 : decode cX6_bumpInto 8 = .ok (.iload_n 2, 1) := by decide +kernel
theorem dX6_bumpInto_9 : decode cX6_bumpInto 9 = .ok (.bipush 6, 2) := by decide +kernel
theorem dX6_bumpInto_11 : decode cX6_bumpInto 11 = .ok (.invokevirtual 104, 3) := by decide +kernel
theorem dX6_bumpInto_14 : decode cX6_bumpInto 14 = .ok (.aload_n 0, 1) := by decide +kernel
theorem dX6_bumpInto_15 : decode cX6_bumpInto 15 = .ok (.iload_n 1, 1) := by decide +kernel
theorem dX6_bumpInto_16 : decode cX6_bumpInto 16 = .ok (.invokevirtual 108, 3) := by decide +kernel
theorem dX6_bumpInto_19 : decode cX6_bumpInto 19 = .ok (.ifCond .eq 33, 3) := by decide +kernel
theorem dX6_bumpInto_22 : decode cX6_bumpInto 22 = .ok (.aload_n 0, 1) := by decide +kernel
theorem dX6_bumpInto_23 : decode cX6_bumpInto 23 = .ok (.iload_n 1, 1) := by decide +kernel
theorem dX6_bumpInto_24 : decode cX6_bumpInto 24 = .ok (.iconst 4, 1) := by decide +kernel
theorem dX6_bumpInto_25 : decode cX6_bumpInto 25 = .ok (.iconst 1, 1) := by decide +kernel
theorem dX6_bumpInto_26 : decode cX6_bumpInto 26 = .ok (.aload_n 0, 1) := by decide +kernel
theorem dX6_bumpInto_27 : decode cX6_bumpInto 27 = .ok (.iload_n 1, 1) := by decide +kernel
theorem dX6_bumpInto_28 : decode cX6_bumpInto 28 = .ok (.iconst 4, 1) := by decide +kernel
theorem dX6_bumpInto_29 : decode cX6_bumpInto 29 = .ok (.invokevirtual 45, 3) := by decide +kernel
theorem dX6_bumpInto_32 : decode cX6_bumpInto 32 = .ok (.isub, 1) := by decide +kernel
theorem dX6_bumpInto_33 : decode cX6_bumpInto 33 = .ok (.invokevirtual 53, 3) := by decide +kernel
theorem dX6_bumpInto_36 : decode cX6_bumpInto 36 = .ok (.aload_n 0, 1) := by decide +kernel
theorem dX6_bumpInto_37 : decode cX6_bumpInto 37 = .ok (.iload_n 1, 1) := by decide +kernel
theorem dX6_bumpInto_38 : decode cX6_bumpInto 38 = .ok (.iconst 4, 1) := by decide +kernel
theorem dX6_bumpInto_39 : decode cX6_bumpInto 39 = .ok (.invokevirtual 45, 3) := by decide +kernel
theorem dX6_bumpInto_42 : decode cX6_bumpInto 42 = .ok (.iconst 1, 1) := by decide +kernel
theorem dX6_bumpInto_43 : decode cX6_bumpInto 43 = .ok (.if_icmp .ne 9, 3) := by decide +kernel
theorem dX6_bumpInto_46 : decode cX6_bumpInto 46 = .ok (.aload_n 0, 1) := by decide +kernel
theorem dX6_bumpInto_47 : decode cX6_bumpInto 47 = .ok (.iload_n 1, 1) := by decide +kernel
theorem dX6_bumpInto_48 : decode cX6_bumpInto 48 = .ok (.iconst 5, 1) := by decide +kernel
theorem dX6_bumpInto_49 : decode cX6_bumpInto 49 = .ok (.invokevirtual 104, 3) := by decide +kernel
theorem dX6_bumpInto_52 : decode cX6_bumpInto 52 = .ok (.return_, 1) := by decide +kernel
theorem dX6_tram_0 : decode cX6_tram 0 = .ok (.iconst 4, 1) := by decide +kernel
theorem dX6_tram_1 : decode cX6_tram 1 = .ok (.aload_n 0, 1) := by decide +kernel
theorem dX6_tram_2 : decode cX6_tram 2 = .ok (.getfield 7, 3) := by decide +kernel
theorem dX6_tram_5 : decode cX6_tram 5 = .ok (.iconst 0, 1) := by decide +kernel
theorem dX6_tram_6 : decode cX6_tram 6 = .ok (.iaload, 1) := by decide +kernel
theorem dX6_tram_7 : decode cX6_tram 7 = .ok (.imul, 1) := by decide +kernel
theorem dX6_tram_8 : decode cX6_tram 8 = .ok (.bipush 100, 2) := by decide +kernel
theorem dX6_tram_10 : decode cX6_tram 10 = .ok (.irem, 1) := by decide +kernel
theorem dX6_tram_11 : decode cX6_tram 11 = .ok (.ireturn, 1) := by decide +kernel
theorem dX6_walks_0 : decode cX6_walks 0 = .ok (.aload_n 0, 1) := by decide +kernel
theorem dX6_walks_1 : decode cX6_walks 1 = .ok (.iload_n 1, 1) := by decide +kernel
theorem dX6_walks_2 : decode cX6_walks 2 = .ok (.iconst 2, 1) := by decide +kernel
theorem dX6_walks_3 : decode cX6_walks 3 = .ok (.invokevirtual 45, 3) := by decide +kernel
theorem dX6_walks_6 : decode cX6_walks 6 = .ok (.iconst 1, 1) := by decide +kernel
theorem dX6_walks_7 : decode cX6_walks 7 = .ok (.if_icmp .ne 7, 3) := by decide +kernel
theorem dX6_walks_10 : decode cX6_walks 10 = .ok (.iconst 1, 1) := by decide +kernel
theorem dX6_walks_11 : decode cX6_walks 11 = .ok (.goto 4, 3) := by decide +kernel
theorem dX6_walks_14 : decode cX6_walks 14 = .ok (.iconst (-1), 1) := by decide +kernel
theorem dX6_walks_15 : decode cX6_walks 15 = .ok (.istore_n 2, 1) := by decide +kernel
theorem dX6_walks_16 : decode cX6_walks 16 = .ok (.aload_n 0, 1) := by decide +kernel
theorem dX6_walks_17 : decode cX6_walks 17 = .ok (.iload_n 1, 1) := by decide +kernel
theorem dX6_walks_18 : decode cX6_walks 18 = .ok (.invokevirtual 92, 3) := by decide +kernel
theorem dX6_walks_21 : decode cX6_walks 21 = .ok (.istore_n 3, 1) := by decide +kernel
theorem dX6_walks_22 : decode cX6_walks 22 = .ok (.iload_n 3, 1) := by decide +kernel
theorem dX6_walks_23 : decode cX6_walks 23 = .ok (.ifCond .le 72, 3) := by decide +kernel
theorem dX6_walks_26 : decode cX6_walks 26 = .ok (.aload_n 0, 1) := by decide +kernel
theorem dX6_walks_27 : decode cX6_walks 27 = .ok (.iload_n 1, 1) := by decide +kernel
theorem dX6_walks_28 : decode cX6_walks 28 = .ok (.iconst 1, 1) := by decide +kernel
theorem dX6_walks_29 : decode cX6_walks 29 = .ok (.aload_n 0, 1) := by decide +kernel
theorem dX6_walks_30 : decode cX6_walks 30 = .ok (.iload_n 1, 1) := by decide +kernel
theorem dX6_walks_31 : decode cX6_walks 31 = .ok (.iconst 1, 1) := by decide +kernel
theorem dX6_walks_32 : decode cX6_walks 32 = .ok (.invokevirtual 45, 3) := by decide +kernel
theorem dX6_walks_35 : decode cX6_walks 35 = .ok (.iload_n 2, 1) := by decide +kernel
theorem dX6_walks_36 : decode cX6_walks 36 = .ok (.iadd, 1) := by decide +kernel
theorem dX6_walks_37 : decode cX6_walks 37 = .ok (.invokevirtual 53, 3) := by decide +kernel
theorem dX6_walks_40 : decode cX6_walks 40 = .ok (.aload_n 0, 1) := by decide +kernel
theorem dX6_walks_41 : decode cX6_walks 41 = .ok (.iload_n 1, 1) := by decide +kernel
theorem dX6_walks_42 : decode cX6_walks 42 = .ok (.invokevirtual 68, 3) := by decide +kernel
theorem dX6_walks_45 : decode cX6_walks 45 = .ok (.ifCond .eq 7, 3) := by decide +kernel
theorem dX6_walks_48 : decode cX6_walks 48 = .ok (.iconst (-1), 1) := by decide +kernel
theorem dX6_walks_49 : decode cX6_walks 49 = .ok (.goto 8, 3) := by decide +kernel
theorem dX6_walks_52 : decode cX6_walks 52 = .ok (.aload_n 0, 1) := by decide +kernel
theorem dX6_walks_53 : decode cX6_walks 53 = .ok (.iload_n 1, 1) := by decide +kernel
theorem dX6_walks_54 : decode cX6_walks 54 = .ok (.invokevirtual 111, 3) := by decide +kernel
theorem dX6_walks_57 : decode cX6_walks 57 = .ok (.istore 4, 2) := by decide +kernel
theorem dX6_walks_59 : decode cX6_walks 59 = .ok (.iload 4, 2) := by decide +kernel
theorem dX6_walks_61 : decode cX6_walks 61 = .ok (.ifCond .lt 10, 3) := by decide +kernel
theorem dX6_walks_64 : decode cX6_walks 64 = .ok (.aload_n 0, 1) := by decide +kernel
theorem dX6_walks_65 : decode cX6_walks 65 = .ok (.iload_n 1, 1) := by decide +kernel
theorem dX6_walks_66 : decode cX6_walks 66 = .ok (.iload 4, 2) := by decide +kernel
theorem dX6_walks_68 : decode cX6_walks 68 = .ok (.invokevirtual 114, 3) := by decide +kernel
theorem dX6_walks_71 : decode cX6_walks 71 = .ok (.aload_n 0, 1) := by decide +kernel
theorem dX6_walks_72 : decode cX6_walks 72 = .ok (.iload_n 1, 1) := by decide +kernel
theorem dX6_walks_73 : decode cX6_walks 73 = .ok (.invokevirtual 68, 3) := by decide +kernel
theorem dX6_walks_76 : decode cX6_walks 76 = .ok (.ifCond .ne 8, 3) := by decide +kernel
theorem dX6_walks_79 : decode cX6_walks 79 = .ok (.iload 4, 2) := by decide +kernel
theorem dX6_walks_81 : decode cX6_walks 81 = .ok (.ifCond .lt 7, 3) := by decide +kernel
theorem dX6_walks_84 : decode cX6_walks 84 = .ok (.iconst 0, 1) := by decide +kernel
theorem dX6_walks_85 : decode cX6_walks 85 = .ok (.goto 6, 3) := by decide +kernel
theorem dX6_walks_88 : decode cX6_walks 88 = .ok (.iload_n 3, 1) := by decide +kernel
theorem dX6_walks_89 : decode cX6_walks 89 = .ok (.iconst 1, 1) := by decide +kernel
theorem dX6_walks_90 : decode cX6_walks 90 = .ok (.isub, 1) := by decide +kernel
theorem dX6_walks_91 : decode cX6_walks 91 = .ok (.istore_n 3, 1) := by decide +kernel
theorem dX6_walks_92 : decode cX6_walks 92 = .ok (.goto (-70), 3) := by decide +kernel
theorem dX6_walks_95 : decode cX6_walks 95 = .ok (.aload_n 0, 1) := by decide +kernel
theorem dX6_walks_96 : decode cX6_walks 96 = .ok (.iload_n 1, 1) := by decide +kernel
theorem dX6_walks_97 : decode cX6_walks 97 = .ok (.invokevirtual 68, 3) := by decide +kernel
theorem dX6_walks_100 : decode cX6_walks 100 = .ok (.ifCond .ne 48, 3) := by decide +kernel
theorem dX6_walks_103 : decode cX6_walks 103 = .ok (.aload_n 0, 1) := by decide +kernel
theorem dX6_walks_104 : decode cX6_walks 104 = .ok (.getfield 7, 3) := by decide +kernel
theorem dX6_walks_107 : decode cX6_walks 107 = .ok (.iconst 1, 1) := by decide +kernel
theorem dX6_walks_108 : decode cX6_walks 108 = .ok (.iaload, 1) := by decide +kernel
theorem dX6_walks_109 : decode cX6_walks 109 = .ok (.iconst 1, 1) := by decide +kernel
theorem dX6_walks_110 : decode cX6_walks 110 = .ok (.if_icmp .ne 38, 3) := by decide +kernel
theorem dX6_walks_113 : decode cX6_walks 113 = .ok (.aload_n 0, 1) := by decide +kernel
theorem dX6_walks_114 : decode cX6_walks 114 = .ok (.iload_n 1, 1) := by decide +kernel
theorem dX6_walks_115 : decode cX6_walks 115 = .ok (.iconst 1, 1) := by decide +kernel
theorem dX6_walks_116 : decode cX6_walks 116 = .ok (.invokevirtual 45, 3) := by decide +kernel
theorem dX6_walks_119 : decode cX6_walks 119 = .ok (.aload_n 0, 1) := by decide +kernel
theorem dX6_walks_120 : decode cX6_walks 120 = .ok (.invokevirtual 117, 3) := by decide +kernel
theorem dX6_walks_123 : decode cX6_walks 123 = .ok (.if_icmp .ne 25, 3) := by decide +kernel
theorem dX6_walks_126 : decode cX6_walks 126 = .ok (.aload_n 0, 1) := by decide +kernel
theorem dX6_walks_127 : decode cX6_walks 127 = .ok (.iload_n 1, 1) := by decide +kernel
theorem dX6_walks_128 : decode cX6_walks 128 = .ok (.iconst 1, 1) := by decide +kernel
theorem dX6_walks_129 : decode cX6_walks 129 = .ok (.aload_n 0, 1) := by decide +kernel
theorem dX6_walks_130 : decode cX6_walks 130 = .ok (.iload_n 1, 1) := by decide +kernel
theorem dX6_walks_131 : decode cX6_walks 131 = .ok (.iconst 1, 1) := by decide +kernel
theorem dX6_walks_132 : decode cX6_walks 132 = .ok (.invokevirtual 45, 3) := by decide +kernel
theorem dX6_walks_135 : decode cX6_walks 135 = .ok (.iconst 5, 1) := by decide +kernel
theorem dX6_walks_136 : decode cX6_walks 136 = .ok (.iload_n 2, 1) := by decide +kernel
theorem dX6_walks_137 : decode cX6_walks 137 = .ok (.imul, 1) := by decide +kernel
theorem dX6_walks_138 : decode cX6_walks 138 = .ok (.iadd, 1) := by decide +kernel
theorem dX6_walks_139 : decode cX6_walks 139 = .ok (.iconst 0, 1) := by decide +kernel
theorem dX6_walks_140 : decode cX6_walks 140 = .ok (.bipush 99, 2) := by decide +kernel
theorem dX6_walks_142 : decode cX6_walks 142 = .ok (.invokestatic 49, 3) := by decide +kernel
theorem dX6_walks_145 : decode cX6_walks 145 = .ok (.invokevirtual 53, 3) := by decide +kernel
theorem dX6_walks_148 : decode cX6_walks 148 = .ok (.return_, 1) := by decide +kernel
theorem dX6_oneMinute_0 : decode cX6_oneMinute 0 = .ok (.iconst 0, 1) := by decide +kernel
theorem dX6_oneMinute_1 : decode cX6_oneMinute 1 = .ok (.istore_n 1, 1) := by decide +kernel
theorem dX6_oneMinute_2 : decode cX6_oneMinute 2 = .ok (.iload_n 1, 1) := by decide +kernel
theorem dX6_oneMinute_3 : decode cX6_oneMinute 3 = .ok (.aload_n 0, 1) := by decide +kernel
theorem dX6_oneMinute_4 : decode cX6_oneMinute 4 = .ok (.getfield 7, 3) := by decide +kernel
theorem dX6_oneMinute_7 : decode cX6_oneMinute 7 = .ok (.iconst 2, 1) := by decide +kernel
theorem dX6_oneMinute_8 : decode cX6_oneMinute 8 = .ok (.iaload, 1) := by decide +kernel
theorem dX6_oneMinute_9 : decode cX6_oneMinute 9 = .ok (.if_icmp .ge 22, 3) := by decide +kernel
theorem dX6_oneMinute_12 : decode cX6_oneMinute 12 = .ok (.aload_n 0, 1) := by decide +kernel
theorem dX6_oneMinute_13 : decode cX6_oneMinute 13 = .ok (.iload_n 1, 1) := by decide +kernel
theorem dX6_oneMinute_14 : decode cX6_oneMinute 14 = .ok (.invokevirtual 68, 3) := by decide +kernel
theorem dX6_oneMinute_17 : decode cX6_oneMinute 17 = .ok (.ifCond .ne 8, 3) := by decide +kernel
theorem dX6_oneMinute_20 : decode cX6_oneMinute 20 = .ok (.aload_n 0, 1) := by decide +kernel
theorem dX6_oneMinute_21 : decode cX6_oneMinute 21 = .ok (.iload_n 1, 1) := by decide +kernel
theorem dX6_oneMinute_22 : decode cX6_oneMinute 22 = .ok (.invokevirtual 121, 3) := by decide +kernel
theorem dX6_oneMinute_25 : decode cX6_oneMinute 25 = .ok (.iinc 1 1, 3) := by decide +kernel
theorem dX6_oneMinute_28 : decode cX6_oneMinute 28 = .ok (.goto (-26), 3) := by decide +kernel
theorem dX6_oneMinute_31 : decode cX6_oneMinute 31 = .ok (.aload_n 0, 1) := by decide +kernel
theorem dX6_oneMinute_32 : decode cX6_oneMinute 32 = .ok (.getfield 7, 3) := by decide +kernel
theorem dX6_oneMinute_35 : decode cX6_oneMinute 35 = .ok (.iconst 0, 1) := by decide +kernel
theorem dX6_oneMinute_36 : decode cX6_oneMinute 36 = .ok (.dup2, 1) := by decide +kernel
theorem dX6_oneMinute_37 : decode cX6_oneMinute 37 = .ok (.iaload, 1) := by decide +kernel
theorem dX6_oneMinute_38 : decode cX6_oneMinute 38 = .ok (.iconst 1, 1) := by decide +kernel
theorem dX6_oneMinute_39 : decode cX6_oneMinute 39 = .ok (.iadd, 1) := by decide +kernel
theorem dX6_oneMinute_40 : decode cX6_oneMinute 40 = .ok (.iastore, 1) := by decide +kernel
theorem dX6_oneMinute_41 : decode cX6_oneMinute 41 = .ok (.return_, 1) := by decide +kernel
theorem dX6_passes_0 : decode cX6_passes 0 = .ok (.iconst 0, 1) := by decide +kernel
theorem dX6_passes_1 : decode cX6_passes 1 = .ok (.istore_n 2, 1) := by decide +kernel
theorem dX6_passes_2 : decode cX6_passes 2 = .ok (.iload_n 2, 1) := by decide +kernel
theorem dX6_passes_3 : decode cX6_passes 3 = .ok (.iload_n 1, 1) := by decide +kernel
theorem dX6_passes_4 : decode cX6_passes 4 = .ok (.if_icmp .ge 13, 3) := by decide +kernel
theorem dX6_passes_7 : decode cX6_passes 7 = .ok (.aload_n 0, 1) := by decide +kernel
theorem dX6_passes_8 : decode cX6_passes 8 = .ok (.invokevirtual 125, 3) := by decide +kernel
theorem dX6_passes_11 : decode cX6_passes 11 = .ok (.iinc 2 1, 3) := by decide +kernel
theorem dX6_passes_14 : decode cX6_passes 14 = .ok (.goto (-12), 3) := by decide +kernel
theorem dX6_passes_17 : decode cX6_passes 17 = .ok (.return_, 1) := by decide +kernel
theorem dX6_throughSet_0 : decode cX6_throughSet 0 = .ok (.iconst 0, 1) := by decide +kernel
theorem dX6_throughSet_1 : decode cX6_throughSet 1 = .ok (.istore_n 1, 1) := by decide +kernel
theorem dX6_throughSet_2 : decode cX6_throughSet 2 = .ok (.iconst 0, 1) := by decide +kernel
theorem dX6_throughSet_3 : decode cX6_throughSet 3 = .ok (.istore_n 2, 1) := by decide +kernel
theorem dX6_throughSet_4 : decode cX6_throughSet 4 = .ok (.iload_n 2, 1) := by decide +kernel
theorem dX6_throughSet_5 : decode cX6_throughSet 5 = .ok (.aload_n 0, 1) := by decide +kernel
theorem dX6_throughSet_6 : decode cX6_throughSet 6 = .ok (.getfield 7, 3) := by decide +kernel
theorem dX6_throughSet_9 : decode cX6_throughSet 9 = .ok (.iconst 2, 1) := by decide +kernel
theorem dX6_throughSet_10 : decode cX6_throughSet 10 = .ok (.iaload, 1) := by decide +kernel
theorem dX6_throughSet_11 : decode cX6_throughSet 11 = .ok (.if_icmp .ge 27, 3) := by decide +kernel
theorem dX6_throughSet_14 : decode cX6_throughSet 14 = .ok (.iload_n 1, 1) := by decide +kernel
theorem dX6_throughSet_15 : decode cX6_throughSet 15 = .ok (.aload_n 0, 1) := by decide +kernel
theorem dX6_throughSet_16 : decode cX6_throughSet 16 = .ok (.iload_n 2, 1) := by decide +kernel
theorem dX6_throughSet_17 : decode cX6_throughSet 17 = .ok (.invokevirtual 68, 3) := by decide +kernel
theorem dX6_throughSet_20 : decode cX6_throughSet 20 = .ok (.ifCond .eq 9, 3) := by decide +kernel
theorem dX6_throughSet_23 : decode cX6_throughSet 23 = .ok (.iconst 1, 1) := by decide +kernel
theorem dX6_throughSet_24 : decode cX6_throughSet 24 = .ok (.iload_n 2, 1) := by decide +kernel
theorem dX6_throughSet_25 : decode cX6_throughSet 25 = .ok (.ishl, 1) := by decide +kernel
theorem dX6_throughSet_26 : decode cX6_throughSet 26 = .ok (.goto 4, 3) := by decide +kernel
theorem dX6_throughSet_29 : decode cX6_throughSet 29 = .ok (.iconst 0, 1) := by decide +kernel
theorem dX6_throughSet_30 : decode cX6_throughSet 30 = .ok (.ior, 1) := by decide +kernel
theorem dX6_throughSet_31 : decode cX6_throughSet 31 = .ok (.istore_n 1, 1) := by decide +kernel
theorem dX6_throughSet_32 : decode cX6_throughSet 32 = .ok (.iinc 2 1, 3) := by decide +kernel
theorem dX6_throughSet_35 : decode cX6_throughSet 35 = .ok (.goto (-31), 3) := by decide +kernel
theorem dX6_throughSet_38 : decode cX6_throughSet 38 = .ok (.iload_n 1, 1) := by decide +kernel
theorem dX6_throughSet_39 : decode cX6_throughSet 39 = .ok (.ireturn, 1) := by decide +kernel
theorem dX6_minutes_0 : decode cX6_minutes 0 = .ok (.iload_n 1, 1) := by decide +kernel
theorem dX6_minutes_1 : decode cX6_minutes 1 = .ok (.iconst 1, 1) := by decide +kernel
theorem dX6_minutes_2 : decode cX6_minutes 2 = .ok (.bipush 100, 2) := by decide +kernel
theorem dX6_minutes_4 : decode cX6_minutes 4 = .ok (.invokestatic 57, 3) := by decide +kernel
theorem dX6_minutes_7 : decode cX6_minutes 7 = .ok (.ifCond .ne 10, 3) := by decide +kernel
theorem dX6_minutes_10 : decode cX6_minutes 10 = .ok (.aload_n 0, 1) := by decide +kernel
theorem dX6_minutes_11 : decode cX6_minutes 11 = .ok (.ldc 44, 2) := by decide +kernel
theorem dX6_minutes_13 : decode cX6_minutes 13 = .ok (.invokevirtual 64, 3) := by decide +kernel
theorem dX6_minutes_16 : decode cX6_minutes 16 = .ok (.ireturn, 1) := by decide +kernel
theorem dX6_minutes_17 : decode cX6_minutes 17 = .ok (.aload_n 0, 1) := by decide +kernel
theorem dX6_minutes_18 : decode cX6_minutes 18 = .ok (.getfield 7, 3) := by decide +kernel
theorem dX6_minutes_21 : decode cX6_minutes 21 = .ok (.iconst 0, 1) := by decide +kernel
theorem dX6_minutes_22 : decode cX6_minutes 22 = .ok (.iaload, 1) := by decide +kernel
theorem dX6_minutes_23 : decode cX6_minutes 23 = .ok (.iload_n 1, 1) := by decide +kernel
theorem dX6_minutes_24 : decode cX6_minutes 24 = .ok (.iadd, 1) := by decide +kernel
theorem dX6_minutes_25 : decode cX6_minutes 25 = .ok (.ldc 128, 2) := by decide +kernel
theorem dX6_minutes_27 : decode cX6_minutes 27 = .ok (.if_icmp .le 10, 3) := by decide +kernel
theorem dX6_minutes_30 : decode cX6_minutes 30 = .ok (.aload_n 0, 1) := by decide +kernel
theorem dX6_minutes_31 : decode cX6_minutes 31 = .ok (.ldc 129, 2) := by decide +kernel
theorem dX6_minutes_33 : decode cX6_minutes 33 = .ok (.invokevirtual 64, 3) := by decide +kernel
theorem dX6_minutes_36 : decode cX6_minutes 36 = .ok (.ireturn, 1) := by decide +kernel
theorem dX6_minutes_37 : decode cX6_minutes 37 = .ok (.aload_n 0, 1) := by decide +kernel
theorem dX6_minutes_38 : decode cX6_minutes 38 = .ok (.iload_n 1, 1) := by decide +kernel
theorem dX6_minutes_39 : decode cX6_minutes 39 = .ok (.invokevirtual 130, 3) := by decide +kernel
theorem dX6_minutes_42 : decode cX6_minutes 42 = .ok (.aload_n 0, 1) := by decide +kernel
theorem dX6_minutes_43 : decode cX6_minutes 43 = .ok (.invokevirtual 133, 3) := by decide +kernel
theorem dX6_minutes_46 : decode cX6_minutes 46 = .ok (.ireturn, 1) := by decide +kernel
theorem dX6_sumOf_0 : decode cX6_sumOf 0 = .ok (.iconst 0, 1) := by decide +kernel
theorem dX6_sumOf_1 : decode cX6_sumOf 1 = .ok (.istore_n 2, 1) := by decide +kernel
theorem dX6_sumOf_2 : decode cX6_sumOf 2 = .ok (.iconst 0, 1) := by decide +kernel
theorem dX6_sumOf_3 : decode cX6_sumOf 3 = .ok (.istore_n 3, 1) := by decide +kernel
theorem dX6_sumOf_4 : decode cX6_sumOf 4 = .ok (.iload_n 3, 1) := by decide +kernel
theorem dX6_sumOf_5 : decode cX6_sumOf 5 = .ok (.aload_n 0, 1) := by decide +kernel
theorem dX6_sumOf_6 : decode cX6_sumOf 6 = .ok (.getfield 7, 3) := by decide +kernel
theorem dX6_sumOf_9 : decode cX6_sumOf 9 = .ok (.iconst 2, 1) := by decide +kernel
theorem dX6_sumOf_10 : decode cX6_sumOf 10 = .ok (.iaload, 1) := by decide +kernel
theorem dX6_sumOf_11 : decode cX6_sumOf 11 = .ok (.if_icmp .ge 18, 3) := by decide +kernel
theorem dX6_sumOf_14 : decode cX6_sumOf 14 = .ok (.iload_n 2, 1) := by decide +kernel
theorem dX6_sumOf_15 : decode cX6_sumOf 15 = .ok (.aload_n 0, 1) := by decide +kernel
theorem dX6_sumOf_16 : decode cX6_sumOf 16 = .ok (.iload_n 3, 1) := by decide +kernel
theorem dX6_sumOf_17 : decode cX6_sumOf 17 = .ok (.iload_n 1, 1) := by decide +kernel
theorem dX6_sumOf_18 : decode cX6_sumOf 18 = .ok (.invokevirtual 45, 3) := by decide +kernel
theorem dX6_sumOf_21 : decode cX6_sumOf 21 = .ok (.iadd, 1) := by decide +kernel
theorem dX6_sumOf_22 : decode cX6_sumOf 22 = .ok (.istore_n 2, 1) := by decide +kernel
theorem dX6_sumOf_23 : decode cX6_sumOf 23 = .ok (.iinc 3 1, 3) := by decide +kernel
theorem dX6_sumOf_26 : decode cX6_sumOf 26 = .ok (.goto (-22), 3) := by decide +kernel
theorem dX6_sumOf_29 : decode cX6_sumOf 29 = .ok (.iload_n 2, 1) := by decide +kernel
theorem dX6_sumOf_30 : decode cX6_sumOf 30 = .ok (.ireturn, 1) := by decide +kernel
theorem dX6_now_0 : decode cX6_now 0 = .ok (.iload_n 1, 1) := by decide +kernel
theorem dX6_now_1 : decode cX6_now 1 = .ok (.tableswitch 76 0 5 #[39, 46, 53, 58, 63, 69], 39) := by decide +kernel
theorem dX6_now_40 : decode cX6_now 40 = .ok (.aload_n 0, 1) := by decide +kernel
theorem dX6_now_41 : decode cX6_now 41 = .ok (.getfield 7, 3) := by decide +kernel
theorem dX6_now_44 : decode cX6_now 44 = .ok (.iconst 0, 1) := by decide +kernel
theorem dX6_now_45 : decode cX6_now 45 = .ok (.iaload, 1) := by decide +kernel
theorem dX6_now_46 : decode cX6_now 46 = .ok (.ireturn, 1) := by decide +kernel
theorem dX6_now_47 : decode cX6_now 47 = .ok (.aload_n 0, 1) := by decide +kernel
theorem dX6_now_48 : decode cX6_now 48 = .ok (.getfield 7, 3) := by decide +kernel
theorem dX6_now_51 : decode cX6_now 51 = .ok (.iconst 1, 1) := by decide +kernel
theorem dX6_now_52 : decode cX6_now 52 = .ok (.iaload, 1) := by decide +kernel
theorem dX6_now_53 : decode cX6_now 53 = .ok (.ireturn, 1) := by decide +kernel
theorem dX6_now_54 : decode cX6_now 54 = .ok (.aload_n 0, 1) := by decide +kernel
theorem dX6_now_55 : decode cX6_now 55 = .ok (.invokevirtual 117, 3) := by decide +kernel
theorem dX6_now_58 : decode cX6_now 58 = .ok (.ireturn, 1) := by decide +kernel
theorem dX6_now_59 : decode cX6_now 59 = .ok (.aload_n 0, 1) := by decide +kernel
theorem dX6_now_60 : decode cX6_now 60 = .ok (.invokevirtual 133, 3) := by decide +kernel
theorem dX6_now_63 : decode cX6_now 63 = .ok (.ireturn, 1) := by decide +kernel
theorem dX6_now_64 : decode cX6_now 64 = .ok (.aload_n 0, 1) := by decide +kernel
theorem dX6_now_65 : decode cX6_now 65 = .ok (.iconst 5, 1) := by decide +kernel
theorem dX6_now_66 : decode cX6_now 66 = .ok (.invokevirtual 136, 3) := by decide +kernel
theorem dX6_now_69 : decode cX6_now 69 = .ok (.ireturn, 1) := by decide +kernel
theorem dX6_now_70 : decode cX6_now 70 = .ok (.aload_n 0, 1) := by decide +kernel
theorem dX6_now_71 : decode cX6_now 71 = .ok (.bipush 6, 2) := by decide +kernel
theorem dX6_now_73 : decode cX6_now 73 = .ok (.invokevirtual 136, 3) := by decide +kernel
theorem dX6_now_76 : decode cX6_now 76 = .ok (.ireturn, 1) := by decide +kernel
theorem dX6_now_77 : decode cX6_now 77 = .ok (.aload_n 0, 1) := by decide +kernel
theorem dX6_now_78 : decode cX6_now 78 = .ok (.ldc 44, 2) := by decide +kernel
theorem dX6_now_80 : decode cX6_now 80 = .ok (.invokevirtual 64, 3) := by decide +kernel
theorem dX6_now_83 : decode cX6_now 83 = .ok (.ireturn, 1) := by decide +kernel
theorem dX6_on_0 : decode cX6_on 0 = .ok (.aload_n 0, 1) := by decide +kernel
theorem dX6_on_1 : decode cX6_on 1 = .ok (.iload_n 1, 1) := by decide +kernel
theorem dX6_on_2 : decode cX6_on 2 = .ok (.invokevirtual 89, 3) := by decide +kernel
theorem dX6_on_5 : decode cX6_on 5 = .ok (.ifCond .eq 23, 3) := by decide +kernel
theorem dX6_on_8 : decode cX6_on 8 = .ok (.iload_n 2, 1) := by decide +kernel
theorem dX6_on_9 : decode cX6_on 9 = .ok (.iconst 0, 1) := by decide +kernel
theorem dX6_on_10 : decode cX6_on 10 = .ok (.sipush 200, 3) := by decide +kernel
theorem dX6_on_13 : decode cX6_on 13 = .ok (.invokestatic 57, 3) := by decide +kernel
theorem dX6_on_16 : decode cX6_on 16 = .ok (.ifCond .eq 12, 3) := by decide +kernel
theorem dX6_on_19 : decode cX6_on 19 = .ok (.iload_n 3, 1) := by decide +kernel
theorem dX6_on_20 : decode cX6_on 20 = .ok (.iconst 0, 1) := by decide +kernel
theorem dX6_on_21 : decode cX6_on 21 = .ok (.iconst 3, 1) := by decide +kernel
theorem dX6_on_22 : decode cX6_on 22 = .ok (.invokestatic 57, 3) := by decide +kernel
theorem dX6_on_25 : decode cX6_on 25 = .ok (.ifCond .ne 10, 3) := by decide +kernel
theorem dX6_on_28 : decode cX6_on 28 = .ok (.aload_n 0, 1) := by decide +kernel
theorem dX6_on_29 : decode cX6_on 29 = .ok (.ldc 44, 2) := by decide +kernel
theorem dX6_on_31 : decode cX6_on 31 = .ok (.invokevirtual 64, 3) := by decide +kernel
theorem dX6_on_34 : decode cX6_on 34 = .ok (.ireturn, 1) := by decide +kernel
theorem dX6_on_35 : decode cX6_on 35 = .ok (.aload_n 0, 1) := by decide +kernel
theorem dX6_on_36 : decode cX6_on 36 = .ok (.iconst 1, 1) := by decide +kernel
theorem dX6_on_37 : decode cX6_on 37 = .ok (.aload_n 0, 1) := by decide +kernel
theorem dX6_on_38 : decode cX6_on 38 = .ok (.getfield 16, 3) := by decide +kernel
theorem dX6_on_41 : decode cX6_on 41 = .ok (.invokevirtual 139, 3) := by decide +kernel
theorem dX6_on_44 : decode cX6_on 44 = .ok (.aload_n 0, 1) := by decide +kernel
theorem dX6_on_45 : decode cX6_on 45 = .ok (.iload_n 2, 1) := by decide +kernel
theorem dX6_on_46 : decode cX6_on 46 = .ok (.invokevirtual 130, 3) := by decide +kernel
theorem dX6_on_49 : decode cX6_on 49 = .ok (.aload_n 0, 1) := by decide +kernel
theorem dX6_on_50 : decode cX6_on 50 = .ok (.iload_n 1, 1) := by decide +kernel
theorem dX6_on_51 : decode cX6_on 51 = .ok (.iload_n 3, 1) := by decide +kernel
theorem dX6_on_52 : decode cX6_on 52 = .ok (.ifCond .ne 7, 3) := by decide +kernel
theorem dX6_on_55 : decode cX6_on 55 = .ok (.iconst 1, 1) := by decide +kernel
theorem dX6_on_56 : decode cX6_on 56 = .ok (.goto 8, 3) := by decide +kernel
theorem dX6_on_59 : decode cX6_on 59 = .ok (.iconst 4, 1) := by decide +kernel
theorem dX6_on_60 : decode cX6_on 60 = .ok (.iload_n 3, 1) := by decide +kernel
theorem dX6_on_61 : decode cX6_on 61 = .ok (.iadd, 1) := by decide +kernel
theorem dX6_on_62 : decode cX6_on 62 = .ok (.iconst 1, 1) := by decide +kernel
theorem dX6_on_63 : decode cX6_on 63 = .ok (.isub, 1) := by decide +kernel
theorem dX6_on_64 : decode cX6_on 64 = .ok (.invokevirtual 45, 3) := by decide +kernel
theorem dX6_on_67 : decode cX6_on 67 = .ok (.istore 4, 2) := by decide +kernel
theorem dX6_on_69 : decode cX6_on 69 = .ok (.aload_n 0, 1) := by decide +kernel
theorem dX6_on_70 : decode cX6_on 70 = .ok (.iconst 0, 1) := by decide +kernel
theorem dX6_on_71 : decode cX6_on 71 = .ok (.aload_n 0, 1) := by decide +kernel
theorem dX6_on_72 : decode cX6_on 72 = .ok (.getfield 16, 3) := by decide +kernel
theorem dX6_on_75 : decode cX6_on 75 = .ok (.invokevirtual 139, 3) := by decide +kernel
theorem dX6_on_78 : decode cX6_on 78 = .ok (.iload 4, 2) := by decide +kernel
theorem dX6_on_80 : decode cX6_on 80 = .ok (.ireturn, 1) := by decide +kernel
theorem dX6_throughIn_0 : decode cX6_throughIn 0 = .ok (.iconst 0, 1) := by decide +kernel
theorem dX6_throughIn_1 : decode cX6_throughIn 1 = .ok (.istore_n 2, 1) := by decide +kernel
theorem dX6_throughIn_2 : decode cX6_throughIn 2 = .ok (.iload_n 2, 1) := by decide +kernel
theorem dX6_throughIn_3 : decode cX6_throughIn 3 = .ok (.sipush 200, 3) := by decide +kernel
theorem dX6_throughIn_6 : decode cX6_throughIn 6 = .ok (.if_icmp .gt 21, 3) := by decide +kernel
theorem dX6_throughIn_9 : decode cX6_throughIn 9 = .ok (.aload_n 0, 1) := by decide +kernel
theorem dX6_throughIn_10 : decode cX6_throughIn 10 = .ok (.iload_n 1, 1) := by decide +kernel
theorem dX6_throughIn_11 : decode cX6_throughIn 11 = .ok (.invokevirtual 68, 3) := by decide +kernel
theorem dX6_throughIn_14 : decode cX6_throughIn 14 = .ok (.ifCond .ne 13, 3) := by decide +kernel
theorem dX6_throughIn_17 : decode cX6_throughIn 17 = .ok (.aload_n 0, 1) := by decide +kernel
theorem dX6_throughIn_18 : decode cX6_throughIn 18 = .ok (.invokevirtual 125, 3) := by decide +kernel
theorem dX6_throughIn_21 : decode cX6_throughIn 21 = .ok (.iinc 2 1, 3) := by decide +kernel
theorem dX6_throughIn_24 : decode cX6_throughIn 24 = .ok (.goto (-22), 3) := by decide +kernel
theorem dX6_throughIn_27 : decode cX6_throughIn 27 = .ok (.aload_n 0, 1) := by decide +kernel
theorem dX6_throughIn_28 : decode cX6_throughIn 28 = .ok (.iconst 0, 1) := by decide +kernel
theorem dX6_throughIn_29 : decode cX6_throughIn 29 = .ok (.aload_n 0, 1) := by decide +kernel
theorem dX6_throughIn_30 : decode cX6_throughIn 30 = .ok (.getfield 16, 3) := by decide +kernel
theorem dX6_throughIn_33 : decode cX6_throughIn 33 = .ok (.invokevirtual 139, 3) := by decide +kernel
theorem dX6_throughIn_36 : decode cX6_throughIn 36 = .ok (.iload_n 2, 1) := by decide +kernel
theorem dX6_throughIn_37 : decode cX6_throughIn 37 = .ok (.ireturn, 1) := by decide +kernel
theorem dX6_through_0 : decode cX6_through 0 = .ok (.aload_n 0, 1) := by decide +kernel
theorem dX6_through_1 : decode cX6_through 1 = .ok (.iload_n 1, 1) := by decide +kernel
theorem dX6_through_2 : decode cX6_through 2 = .ok (.invokevirtual 89, 3) := by decide +kernel
theorem dX6_through_5 : decode cX6_through 5 = .ok (.ifCond .ne 10, 3) := by decide +kernel
theorem dX6_through_8 : decode cX6_through 8 = .ok (.aload_n 0, 1) := by decide +kernel
theorem dX6_through_9 : decode cX6_through 9 = .ok (.ldc 44, 2) := by decide +kernel
theorem dX6_through_11 : decode cX6_through 11 = .ok (.invokevirtual 64, 3) := by decide +kernel
theorem dX6_through_14 : decode cX6_through 14 = .ok (.ireturn, 1) := by decide +kernel
theorem dX6_through_15 : decode cX6_through 15 = .ok (.aload_n 0, 1) := by decide +kernel
theorem dX6_through_16 : decode cX6_through 16 = .ok (.iconst 1, 1) := by decide +kernel
theorem dX6_through_17 : decode cX6_through 17 = .ok (.aload_n 0, 1) := by decide +kernel
theorem dX6_through_18 : decode cX6_through 18 = .ok (.getfield 16, 3) := by decide +kernel
theorem dX6_through_21 : decode cX6_through 21 = .ok (.invokevirtual 139, 3) := by decide +kernel
theorem dX6_through_24 : decode cX6_through 24 = .ok (.aload_n 0, 1) := by decide +kernel
theorem dX6_through_25 : decode cX6_through 25 = .ok (.iload_n 1, 1) := by decide +kernel
theorem dX6_through_26 : decode cX6_through 26 = .ok (.invokevirtual 143, 3) := by decide +kernel
theorem dX6_through_29 : decode cX6_through 29 = .ok (.istore_n 2, 1) := by decide +kernel
theorem dX6_through_30 : decode cX6_through 30 = .ok (.iload_n 2, 1) := by decide +kernel
theorem dX6_through_31 : decode cX6_through 31 = .ok (.sipush 200, 3) := by decide +kernel
theorem dX6_through_34 : decode cX6_through 34 = .ok (.if_icmp .le 12, 3) := by decide +kernel
theorem dX6_through_37 : decode cX6_through 37 = .ok (.aload_n 0, 1) := by decide +kernel
theorem dX6_through_38 : decode cX6_through 38 = .ok (.ldc 103, 2) := by decide +kernel
theorem dX6_through_40 : decode cX6_through 40 = .ok (.invokevirtual 64, 3) := by decide +kernel
theorem dX6_through_43 : decode cX6_through 43 = .ok (.goto 4, 3) := by decide +kernel
theorem dX6_through_46 : decode cX6_through 46 = .ok (.iload_n 2, 1) := by decide +kernel
theorem dX6_through_47 : decode cX6_through 47 = .ok (.ireturn, 1) := by decide +kernel
theorem dX6_bumps_0 : decode cX6_bumps 0 = .ok (.aload_n 0, 1) := by decide +kernel
theorem dX6_bumps_1 : decode cX6_bumps 1 = .ok (.iload_n 1, 1) := by decide +kernel
theorem dX6_bumps_2 : decode cX6_bumps 2 = .ok (.invokevirtual 89, 3) := by decide +kernel
theorem dX6_bumps_5 : decode cX6_bumps 5 = .ok (.ifCond .ne 10, 3) := by decide +kernel
theorem dX6_bumps_8 : decode cX6_bumps 8 = .ok (.aload_n 0, 1) := by decide +kernel
theorem dX6_bumps_9 : decode cX6_bumps 9 = .ok (.ldc 44, 2) := by decide +kernel
theorem dX6_bumps_11 : decode cX6_bumps 11 = .ok (.invokevirtual 64, 3) := by decide +kernel
theorem dX6_bumps_14 : decode cX6_bumps 14 = .ok (.ireturn, 1) := by decide +kernel
theorem dX6_bumps_15 : decode cX6_bumps 15 = .ok (.aload_n 0, 1) := by decide +kernel
theorem dX6_bumps_16 : decode cX6_bumps 16 = .ok (.iconst 1, 1) := by decide +kernel
theorem dX6_bumps_17 : decode cX6_bumps 17 = .ok (.aload_n 0, 1) := by decide +kernel
theorem dX6_bumps_18 : decode cX6_bumps 18 = .ok (.getfield 16, 3) := by decide +kernel
theorem dX6_bumps_21 : decode cX6_bumps 21 = .ok (.invokevirtual 139, 3) := by decide +kernel
theorem dX6_bumps_24 : decode cX6_bumps 24 = .ok (.aload_n 0, 1) := by decide +kernel
theorem dX6_bumps_25 : decode cX6_bumps 25 = .ok (.iload_n 1, 1) := by decide +kernel
theorem dX6_bumps_26 : decode cX6_bumps 26 = .ok (.bipush 6, 2) := by decide +kernel
theorem dX6_bumps_28 : decode cX6_bumps 28 = .ok (.invokevirtual 45, 3) := by decide +kernel
theorem dX6_bumps_31 : decode cX6_bumps 31 = .ok (.istore_n 2, 1) := by decide +kernel
theorem dX6_bumps_32 : decode cX6_bumps 32 = .ok (.iconst 0, 1) := by decide +kernel
theorem dX6_bumps_33 : decode cX6_bumps 33 = .ok (.istore_n 3, 1) := by decide +kernel
theorem dX6_bumps_34 : decode cX6_bumps 34 = .ok (.iload_n 3, 1) := by decide +kernel
theorem dX6_bumps_35 : decode cX6_bumps 35 = .ok (.sipush 200, 3) := by decide +kernel
theorem dX6_bumps_38 : decode cX6_bumps 38 = .ok (.if_icmp .gt 24, 3) := by decide +kernel
theorem dX6_bumps_41 : decode cX6_bumps 41 = .ok (.aload_n 0, 1) := by decide +kernel
theorem dX6_bumps_42 : decode cX6_bumps 42 = .ok (.iload_n 1, 1) := by decide +kernel
theorem dX6_bumps_43 : decode cX6_bumps 43 = .ok (.bipush 6, 2) := by decide +kernel
theorem dX6_bumps_45 : decode cX6_bumps 45 = .ok (.invokevirtual 45, 3) := by decide +kernel
theorem dX6_bumps_48 : decode cX6_bumps 48 = .ok (.iload_n 2, 1) := by decide +kernel
theorem dX6_bumps_49 : decode cX6_bumps 49 = .ok (.if_icmp .ne 13, 3) := by decide +kernel
theorem dX6_bumps_52 : decode cX6_bumps 52 = .ok (.aload_n 0, 1) := by decide +kernel
theorem dX6_bumps_53 : decode cX6_bumps 53 = .ok (.invokevirtual 125, 3) := by decide +kernel
theorem dX6_bumps_56 : decode cX6_bumps 56 = .ok (.iinc 3 1, 3) := by decide +kernel
theorem dX6_bumps_59 : decode cX6_bumps 59 = .ok (.goto (-25), 3) := by decide +kernel
theorem dX6_bumps_62 : decode cX6_bumps 62 = .ok (.aload_n 0, 1) := by decide +kernel
theorem dX6_bumps_63 : decode cX6_bumps 63 = .ok (.iconst 0, 1) := by decide +kernel
theorem dX6_bumps_64 : decode cX6_bumps 64 = .ok (.aload_n 0, 1) := by decide +kernel
theorem dX6_bumps_65 : decode cX6_bumps 65 = .ok (.getfield 16, 3) := by decide +kernel
theorem dX6_bumps_68 : decode cX6_bumps 68 = .ok (.invokevirtual 139, 3) := by decide +kernel
theorem dX6_bumps_71 : decode cX6_bumps 71 = .ok (.iload_n 3, 1) := by decide +kernel
theorem dX6_bumps_72 : decode cX6_bumps 72 = .ok (.sipush 200, 3) := by decide +kernel
theorem dX6_bumps_75 : decode cX6_bumps 75 = .ok (.if_icmp .le 12, 3) := by decide +kernel
theorem dX6_bumps_78 : decode cX6_bumps 78 = .ok (.aload_n 0, 1) := by decide +kernel
theorem dX6_bumps_79 : decode cX6_bumps 79 = .ok (.ldc 103, 2) := by decide +kernel
theorem dX6_bumps_81 : decode cX6_bumps 81 = .ok (.invokevirtual 64, 3) := by decide +kernel
theorem dX6_bumps_84 : decode cX6_bumps 84 = .ok (.goto 4, 3) := by decide +kernel
theorem dX6_bumps_87 : decode cX6_bumps 87 = .ok (.iload_n 3, 1) := by decide +kernel
theorem dX6_bumps_88 : decode cX6_bumps 88 = .ok (.ireturn, 1) := by decide +kernel
theorem dX6_meet_0 : decode cX6_meet 0 = .ok (.aload_n 0, 1) := by decide +kernel
theorem dX6_meet_1 : decode cX6_meet 1 = .ok (.iload_n 1, 1) := by decide +kernel
theorem dX6_meet_2 : decode cX6_meet 2 = .ok (.invokevirtual 89, 3) := by decide +kernel
theorem dX6_meet_5 : decode cX6_meet 5 = .ok (.ifCond .eq 16, 3) := by decide +kernel
theorem dX6_meet_8 : decode cX6_meet 8 = .ok (.aload_n 0, 1) := by decide +kernel
theorem dX6_meet_9 : decode cX6_meet 9 = .ok (.iload_n 2, 1) := by decide +kernel
theorem dX6_meet_10 : decode cX6_meet 10 = .ok (.invokevirtual 89, 3) := by decide +kernel
theorem dX6_meet_13 : decode cX6_meet 13 = .ok (.ifCond .eq 8, 3) := by decide +kernel
theorem dX6_meet_16 : decode cX6_meet 16 = .ok (.iload_n 1, 1) := by decide +kernel
theorem dX6_meet_17 : decode cX6_meet 17 = .ok (.iload_n 2, 1) := by decide +kernel
theorem dX6_meet_18 : decode cX6_meet 18 = .ok (.if_icmp .ne 10, 3) := by decide +kernel
theorem dX6_meet_21 : decode cX6_meet 21 = .ok (.aload_n 0, 1) := by decide +kernel
theorem dX6_meet_22 : decode cX6_meet 22 = .ok (.ldc 44, 2) := by decide +kernel
theorem dX6_meet_24 : decode cX6_meet 24 = .ok (.invokevirtual 64, 3) := by decide +kernel
theorem dX6_meet_27 : decode cX6_meet 27 = .ok (.ireturn, 1) := by decide +kernel
theorem dX6_meet_28 : decode cX6_meet 28 = .ok (.aload_n 0, 1) := by decide +kernel
theorem dX6_meet_29 : decode cX6_meet 29 = .ok (.iconst 1, 1) := by decide +kernel
theorem dX6_meet_30 : decode cX6_meet 30 = .ok (.aload_n 0, 1) := by decide +kernel
theorem dX6_meet_31 : decode cX6_meet 31 = .ok (.getfield 16, 3) := by decide +kernel
theorem dX6_meet_34 : decode cX6_meet 34 = .ok (.invokevirtual 139, 3) := by decide +kernel
theorem dX6_meet_37 : decode cX6_meet 37 = .ok (.iconst 0, 1) := by decide +kernel
theorem dX6_meet_38 : decode cX6_meet 38 = .ok (.istore_n 3, 1) := by decide +kernel
theorem dX6_meet_39 : decode cX6_meet 39 = .ok (.iload_n 3, 1) := by decide +kernel
theorem dX6_meet_40 : decode cX6_meet 40 = .ok (.sipush 200, 3) := by decide +kernel
theorem dX6_meet_43 : decode cX6_meet 43 = .ok (.if_icmp .gt 37, 3) := by decide +kernel
theorem dX6_meet_46 : decode cX6_meet 46 = .ok (.aload_n 0, 1) := by decide +kernel
theorem dX6_meet_47 : decode cX6_meet 47 = .ok (.iload_n 1, 1) := by decide +kernel
theorem dX6_meet_48 : decode cX6_meet 48 = .ok (.invokevirtual 78, 3) := by decide +kernel
theorem dX6_meet_51 : decode cX6_meet 51 = .ok (.iload_n 2, 1) := by decide +kernel
theorem dX6_meet_52 : decode cX6_meet 52 = .ok (.ishr, 1) := by decide +kernel
theorem dX6_meet_53 : decode cX6_meet 53 = .ok (.iconst 1, 1) := by decide +kernel
theorem dX6_meet_54 : decode cX6_meet 54 = .ok (.iand, 1) := by decide +kernel
theorem dX6_meet_55 : decode cX6_meet 55 = .ok (.ifCond .eq 15, 3) := by decide +kernel
theorem dX6_meet_58 : decode cX6_meet 58 = .ok (.aload_n 0, 1) := by decide +kernel
theorem dX6_meet_59 : decode cX6_meet 59 = .ok (.iload_n 2, 1) := by decide +kernel
theorem dX6_meet_60 : decode cX6_meet 60 = .ok (.invokevirtual 78, 3) := by decide +kernel
theorem dX6_meet_63 : decode cX6_meet 63 = .ok (.iload_n 1, 1) := by decide +kernel
theorem dX6_meet_64 : decode cX6_meet 64 = .ok (.ishr, 1) := by decide +kernel
theorem dX6_meet_65 : decode cX6_meet 65 = .ok (.iconst 1, 1) := by decide +kernel
theorem dX6_meet_66 : decode cX6_meet 66 = .ok (.iand, 1) := by decide +kernel
theorem dX6_meet_67 : decode cX6_meet 67 = .ok (.ifCond .ne 13, 3) := by decide +kernel
theorem dX6_meet_70 : decode cX6_meet 70 = .ok (.aload_n 0, 1) := by decide +kernel
theorem dX6_meet_71 : decode cX6_meet 71 = .ok (.invokevirtual 125, 3) := by decide +kernel
theorem dX6_meet_74 : decode cX6_meet 74 = .ok (.iinc 3 1, 3) := by decide +kernel
theorem dX6_meet_77 : decode cX6_meet 77 = .ok (.goto (-38), 3) := by decide +kernel
theorem dX6_meet_80 : decode cX6_meet 80 = .ok (.aload_n 0, 1) := by decide +kernel
theorem dX6_meet_81 : decode cX6_meet 81 = .ok (.iconst 0, 1) := by decide +kernel
theorem dX6_meet_82 : decode cX6_meet 82 = .ok (.aload_n 0, 1) := by decide +kernel
theorem dX6_meet_83 : decode cX6_meet 83 = .ok (.getfield 16, 3) := by decide +kernel
theorem dX6_meet_86 : decode cX6_meet 86 = .ok (.invokevirtual 139, 3) := by decide +kernel
theorem dX6_meet_89 : decode cX6_meet 89 = .ok (.iload_n 3, 1) := by decide +kernel
theorem dX6_meet_90 : decode cX6_meet 90 = .ok (.sipush 200, 3) := by decide +kernel
theorem dX6_meet_93 : decode cX6_meet 93 = .ok (.if_icmp .le 12, 3) := by decide +kernel
theorem dX6_meet_96 : decode cX6_meet 96 = .ok (.aload_n 0, 1) := by decide +kernel
theorem dX6_meet_97 : decode cX6_meet 97 = .ok (.ldc 103, 2) := by decide +kernel
theorem dX6_meet_99 : decode cX6_meet 99 = .ok (.invokevirtual 64, 3) := by decide +kernel
theorem dX6_meet_102 : decode cX6_meet 102 = .ok (.goto 4, 3) := by decide +kernel
theorem dX6_meet_105 : decode cX6_meet 105 = .ok (.iload_n 3, 1) := by decide +kernel
theorem dX6_meet_106 : decode cX6_meet 106 = .ok (.ireturn, 1) := by decide +kernel
theorem dX6_soonest_0 : decode cX6_soonest 0 = .ok (.iconst (-1), 1) := by decide +kernel
theorem dX6_soonest_1 : decode cX6_soonest 1 = .ok (.istore 4, 2) := by decide +kernel
theorem dX6_soonest_3 : decode cX6_soonest 3 = .ok (.sipush 201, 3) := by decide +kernel
theorem dX6_soonest_6 : decode cX6_soonest 6 = .ok (.istore 5, 2) := by decide +kernel
theorem dX6_soonest_8 : decode cX6_soonest 8 = .ok (.aload_n 0, 1) := by decide +kernel
theorem dX6_soonest_9 : decode cX6_soonest 9 = .ok (.iconst 1, 1) := by decide +kernel
theorem dX6_soonest_10 : decode cX6_soonest 10 = .ok (.aload_n 0, 1) := by decide +kernel
theorem dX6_soonest_11 : decode cX6_soonest 11 = .ok (.getfield 16, 3) := by decide +kernel
theorem dX6_soonest_14 : decode cX6_soonest 14 = .ok (.invokevirtual 139, 3) := by decide +kernel
theorem dX6_soonest_17 : decode cX6_soonest 17 = .ok (.iconst 0, 1) := by decide +kernel
theorem dX6_soonest_18 : decode cX6_soonest 18 = .ok (.istore 6, 2) := by decide +kernel
theorem dX6_soonest_20 : decode cX6_soonest 20 = .ok (.iload 6, 2) := by decide +kernel
theorem dX6_soonest_22 : decode cX6_soonest 22 = .ok (.iload_n 3, 1) := by decide +kernel
theorem dX6_soonest_23 : decode cX6_soonest 23 = .ok (.if_icmp .gt 56, 3) := by decide +kernel
theorem dX6_soonest_26 : decode cX6_soonest 26 = .ok (.aload_n 0, 1) := by decide +kernel
theorem dX6_soonest_27 : decode cX6_soonest 27 = .ok (.getfield 7, 3) := by decide +kernel
theorem dX6_soonest_30 : decode cX6_soonest 30 = .ok (.iload_n 2, 1) := by decide +kernel
theorem dX6_soonest_31 : decode cX6_soonest 31 = .ok (.iload 6, 2) := by decide +kernel
theorem dX6_soonest_33 : decode cX6_soonest 33 = .ok (.iastore, 1) := by decide +kernel
theorem dX6_soonest_34 : decode cX6_soonest 34 = .ok (.aload_n 0, 1) := by decide +kernel
theorem dX6_soonest_35 : decode cX6_soonest 35 = .ok (.iload_n 1, 1) := by decide +kernel
theorem dX6_soonest_36 : decode cX6_soonest 36 = .ok (.invokevirtual 143, 3) := by decide +kernel
theorem dX6_soonest_39 : decode cX6_soonest 39 = .ok (.istore 7, 2) := by decide +kernel
theorem dX6_soonest_41 : decode cX6_soonest 41 = .ok (.iload 7, 2) := by decide +kernel
theorem dX6_soonest_43 : decode cX6_soonest 43 = .ok (.iload 5, 2) := by decide +kernel
theorem dX6_soonest_45 : decode cX6_soonest 45 = .ok (.if_icmp .ge 8, 3) := by decide +kernel
theorem dX6_soonest_48 : decode cX6_soonest 48 = .ok (.iload 6, 2) := by decide +kernel
theorem dX6_soonest_50 : decode cX6_soonest 50 = .ok (.goto 5, 3) := by decide +kernel
theorem dX6_soonest_53 : decode cX6_soonest 53 = .ok (.iload 4, 2) := by decide +kernel
theorem dX6_soonest_55 : decode cX6_soonest 55 = .ok (.istore 4, 2) := by decide +kernel
theorem dX6_soonest_57 : decode cX6_soonest 57 = .ok (.iload 7, 2) := by decide +kernel
theorem dX6_soonest_59 : decode cX6_soonest 59 = .ok (.iload 5, 2) := by decide +kernel
theorem dX6_soonest_61 : decode cX6_soonest 61 = .ok (.if_icmp .ge 8, 3) := by decide +kernel
theorem dX6_soonest_64 : decode cX6_soonest 64 = .ok (.iload 7, 2) := by decide +kernel
theorem dX6_soonest_66 : decode cX6_soonest 66 = .ok (.goto 5, 3) := by decide +kernel
theorem dX6_soonest_69 : decode cX6_soonest 69 = .ok (.iload 5, 2) := by decide +kernel
theorem dX6_soonest_71 : decode cX6_soonest 71 = .ok (.istore 5, 2) := by decide +kernel
theorem dX6_soonest_73 : decode cX6_soonest 73 = .ok (.iinc 6 1, 3) := by decide +kernel
theorem dX6_soonest_76 : decode cX6_soonest 76 = .ok (.goto (-56), 3) := by decide +kernel
theorem dX6_soonest_79 : decode cX6_soonest 79 = .ok (.iload 4, 2) := by decide +kernel
theorem dX6_soonest_81 : decode cX6_soonest 81 = .ok (.ifCond .ge 12, 3) := by decide +kernel
theorem dX6_soonest_84 : decode cX6_soonest 84 = .ok (.aload_n 0, 1) := by decide +kernel
theorem dX6_soonest_85 : decode cX6_soonest 85 = .ok (.ldc 103, 2) := by decide +kernel
theorem dX6_soonest_87 : decode cX6_soonest 87 = .ok (.invokevirtual 64, 3) := by decide +kernel
theorem dX6_soonest_90 : decode cX6_soonest 90 = .ok (.goto 5, 3) := by decide +kernel
theorem dX6_soonest_93 : decode cX6_soonest 93 = .ok (.iload 4, 2) := by decide +kernel
theorem dX6_soonest_95 : decode cX6_soonest 95 = .ok (.ireturn, 1) := by decide +kernel
theorem dX6_pace_0 : decode cX6_pace 0 = .ok (.aload_n 0, 1) := by decide +kernel
theorem dX6_pace_1 : decode cX6_pace 1 = .ok (.iload_n 1, 1) := by decide +kernel
theorem dX6_pace_2 : decode cX6_pace 2 = .ok (.invokevirtual 89, 3) := by decide +kernel
theorem dX6_pace_5 : decode cX6_pace 5 = .ok (.ifCond .eq 21, 3) := by decide +kernel
theorem dX6_pace_8 : decode cX6_pace 8 = .ok (.aload_n 0, 1) := by decide +kernel
theorem dX6_pace_9 : decode cX6_pace 9 = .ok (.iload_n 1, 1) := by decide +kernel
theorem dX6_pace_10 : decode cX6_pace 10 = .ok (.iconst 3, 1) := by decide +kernel
theorem dX6_pace_11 : decode cX6_pace 11 = .ok (.bipush 7, 2) := by decide +kernel
theorem dX6_pace_13 : decode cX6_pace 13 = .ok (.iload_n 1, 1) := by decide +kernel
theorem dX6_pace_14 : decode cX6_pace 14 = .ok (.imul, 1) := by decide +kernel
theorem dX6_pace_15 : decode cX6_pace 15 = .ok (.iadd, 1) := by decide +kernel
theorem dX6_pace_16 : decode cX6_pace 16 = .ok (.iconst 3, 1) := by decide +kernel
theorem dX6_pace_17 : decode cX6_pace 17 = .ok (.iadd, 1) := by decide +kernel
theorem dX6_pace_18 : decode cX6_pace 18 = .ok (.bipush 9, 2) := by decide +kernel
theorem dX6_pace_20 : decode cX6_pace 20 = .ok (.invokevirtual 146, 3) := by decide +kernel
theorem dX6_pace_23 : decode cX6_pace 23 = .ok (.goto 9, 3) := by decide +kernel
theorem dX6_pace_26 : decode cX6_pace 26 = .ok (.aload_n 0, 1) := by decide +kernel
theorem dX6_pace_27 : decode cX6_pace 27 = .ok (.ldc 44, 2) := by decide +kernel
theorem dX6_pace_29 : decode cX6_pace 29 = .ok (.invokevirtual 64, 3) := by decide +kernel
theorem dX6_pace_32 : decode cX6_pace 32 = .ok (.ireturn, 1) := by decide +kernel
theorem dX6_kind_0 : decode cX6_kind 0 = .ok (.aload_n 0, 1) := by decide +kernel
theorem dX6_kind_1 : decode cX6_kind 1 = .ok (.iload_n 1, 1) := by decide +kernel
theorem dX6_kind_2 : decode cX6_kind 2 = .ok (.invokevirtual 89, 3) := by decide +kernel
theorem dX6_kind_5 : decode cX6_kind 5 = .ok (.ifCond .eq 18, 3) := by decide +kernel
theorem dX6_kind_8 : decode cX6_kind 8 = .ok (.aload_n 0, 1) := by decide +kernel
theorem dX6_kind_9 : decode cX6_kind 9 = .ok (.iload_n 1, 1) := by decide +kernel
theorem dX6_kind_10 : decode cX6_kind 10 = .ok (.iconst 3, 1) := by decide +kernel
theorem dX6_kind_11 : decode cX6_kind 11 = .ok (.bipush 7, 2) := by decide +kernel
theorem dX6_kind_13 : decode cX6_kind 13 = .ok (.iload_n 1, 1) := by decide +kernel
theorem dX6_kind_14 : decode cX6_kind 14 = .ok (.imul, 1) := by decide +kernel
theorem dX6_kind_15 : decode cX6_kind 15 = .ok (.iadd, 1) := by decide +kernel
theorem dX6_kind_16 : decode cX6_kind 16 = .ok (.iconst 5, 1) := by decide +kernel
theorem dX6_kind_17 : decode cX6_kind 17 = .ok (.invokevirtual 146, 3) := by decide +kernel
theorem dX6_kind_20 : decode cX6_kind 20 = .ok (.goto 9, 3) := by decide +kernel
theorem dX6_kind_23 : decode cX6_kind 23 = .ok (.aload_n 0, 1) := by decide +kernel
theorem dX6_kind_24 : decode cX6_kind 24 = .ok (.ldc 44, 2) := by decide +kernel
theorem dX6_kind_26 : decode cX6_kind 26 = .ok (.invokevirtual 64, 3) := by decide +kernel
theorem dX6_kind_29 : decode cX6_kind 29 = .ok (.ireturn, 1) := by decide +kernel
theorem dX6_sumBehind_0 : decode cX6_sumBehind 0 = .ok (.aload_n 0, 1) := by decide +kernel
theorem dX6_sumBehind_1 : decode cX6_sumBehind 1 = .ok (.iload_n 1, 1) := by decide +kernel
theorem dX6_sumBehind_2 : decode cX6_sumBehind 2 = .ok (.invokevirtual 130, 3) := by decide +kernel
theorem dX6_sumBehind_5 : decode cX6_sumBehind 5 = .ok (.aload_n 0, 1) := by decide +kernel
theorem dX6_sumBehind_6 : decode cX6_sumBehind 6 = .ok (.iload_n 2, 1) := by decide +kernel
theorem dX6_sumBehind_7 : decode cX6_sumBehind 7 = .ok (.invokevirtual 136, 3) := by decide +kernel
theorem dX6_sumBehind_10 : decode cX6_sumBehind 10 = .ok (.istore_n 3, 1) := by decide +kernel
theorem dX6_sumBehind_11 : decode cX6_sumBehind 11 = .ok (.aload_n 0, 1) := by decide +kernel
theorem dX6_sumBehind_12 : decode cX6_sumBehind 12 = .ok (.iconst 0, 1) := by decide +kernel
theorem dX6_sumBehind_13 : decode cX6_sumBehind 13 = .ok (.aload_n 0, 1) := by decide +kernel
theorem dX6_sumBehind_14 : decode cX6_sumBehind 14 = .ok (.getfield 16, 3) := by decide +kernel
theorem dX6_sumBehind_17 : decode cX6_sumBehind 17 = .ok (.invokevirtual 139, 3) := by decide +kernel
theorem dX6_sumBehind_20 : decode cX6_sumBehind 20 = .ok (.iload_n 3, 1) := by decide +kernel
theorem dX6_sumBehind_21 : decode cX6_sumBehind 21 = .ok (.ireturn, 1) := by decide +kernel
theorem dX6_begin_0 : decode cX6_begin 0 = .ok (.aload_n 0, 1) := by decide +kernel
theorem dX6_begin_1 : decode cX6_begin 1 = .ok (.iload_n 1, 1) := by decide +kernel
theorem dX6_begin_2 : decode cX6_begin 2 = .ok (.invokevirtual 89, 3) := by decide +kernel
theorem dX6_begin_5 : decode cX6_begin 5 = .ok (.ifCond .eq 13, 3) := by decide +kernel
theorem dX6_begin_8 : decode cX6_begin 8 = .ok (.iload_n 2, 1) := by decide +kernel
theorem dX6_begin_9 : decode cX6_begin 9 = .ok (.iconst 1, 1) := by decide +kernel
theorem dX6_begin_10 : decode cX6_begin 10 = .ok (.bipush 20, 2) := by decide +kernel
theorem dX6_begin_12 : decode cX6_begin 12 = .ok (.invokestatic 57, 3) := by decide +kernel
theorem dX6_begin_15 : decode cX6_begin 15 = .ok (.ifCond .ne 10, 3) := by decide +kernel
theorem dX6_begin_18 : decode cX6_begin 18 = .ok (.aload_n 0, 1) := by decide +kernel
theorem dX6_begin_19 : decode cX6_begin 19 = .ok (.ldc 44, 2) := by decide +kernel
theorem dX6_begin_21 : decode cX6_begin 21 = .ok (.invokevirtual 64, 3) := by decide +kernel
theorem dX6_begin_24 : decode cX6_begin 24 = .ok (.ireturn, 1) := by decide +kernel
theorem dX6_begin_25 : decode cX6_begin 25 = .ok (.iconst 0, 1) := by decide +kernel
theorem dX6_begin_26 : decode cX6_begin 26 = .ok (.istore_n 3, 1) := by decide +kernel
theorem dX6_begin_27 : decode cX6_begin 27 = .ok (.sipush 7993, 3) := by decide +kernel
theorem dX6_begin_30 : decode cX6_begin 30 = .ok (.istore 4, 2) := by decide +kernel
theorem dX6_begin_32 : decode cX6_begin 32 = .ok (.aload_n 0, 1) := by decide +kernel
theorem dX6_begin_33 : decode cX6_begin 33 = .ok (.iconst 1, 1) := by decide +kernel
theorem dX6_begin_34 : decode cX6_begin 34 = .ok (.aload_n 0, 1) := by decide +kernel
theorem dX6_begin_35 : decode cX6_begin 35 = .ok (.getfield 16, 3) := by decide +kernel
theorem dX6_begin_38 : decode cX6_begin 38 = .ok (.invokevirtual 139, 3) := by decide +kernel
theorem dX6_begin_41 : decode cX6_begin 41 = .ok (.iconst 0, 1) := by decide +kernel
theorem dX6_begin_42 : decode cX6_begin 42 = .ok (.istore 5, 2) := by decide +kernel
theorem dX6_begin_44 : decode cX6_begin 44 = .ok (.iload 5, 2) := by decide +kernel
theorem dX6_begin_46 : decode cX6_begin 46 = .ok (.bipush 99, 2) := by decide +kernel
theorem dX6_begin_48 : decode cX6_begin 48 = .ok (.if_icmp .gt 56, 3) := by decide +kernel
theorem dX6_begin_51 : decode cX6_begin 51 = .ok (.aload_n 0, 1) := by decide +kernel
theorem dX6_begin_52 : decode cX6_begin 52 = .ok (.iload_n 1, 1) := by decide +kernel
theorem dX6_begin_53 : decode cX6_begin 53 = .ok (.iconst 1, 1) := by decide +kernel
theorem dX6_begin_54 : decode cX6_begin 54 = .ok (.iload 5, 2) := by decide +kernel
theorem dX6_begin_56 : decode cX6_begin 56 = .ok (.invokevirtual 53, 3) := by decide +kernel
theorem dX6_begin_59 : decode cX6_begin 59 = .ok (.aload_n 0, 1) := by decide +kernel
theorem dX6_begin_60 : decode cX6_begin 60 = .ok (.iload_n 2, 1) := by decide +kernel
theorem dX6_begin_61 : decode cX6_begin 61 = .ok (.bipush 6, 2) := by decide +kernel
theorem dX6_begin_63 : decode cX6_begin 63 = .ok (.invokevirtual 149, 3) := by decide +kernel
theorem dX6_begin_66 : decode cX6_begin 66 = .ok (.istore 6, 2) := by decide +kernel
theorem dX6_begin_68 : decode cX6_begin 68 = .ok (.iload 6, 2) := by decide +kernel
theorem dX6_begin_70 : decode cX6_begin 70 = .ok (.iload 4, 2) := by decide +kernel
theorem dX6_begin_72 : decode cX6_begin 72 = .ok (.if_icmp .ge 8, 3) := by decide +kernel
theorem dX6_begin_75 : decode cX6_begin 75 = .ok (.iload 5, 2) := by decide +kernel
theorem dX6_begin_77 : decode cX6_begin 77 = .ok (.goto 4, 3) := by decide +kernel
theorem dX6_begin_80 : decode cX6_begin 80 = .ok (.iload_n 3, 1) := by decide +kernel
theorem dX6_begin_81 : decode cX6_begin 81 = .ok (.istore_n 3, 1) := by decide +kernel
theorem dX6_begin_82 : decode cX6_begin 82 = .ok (.iload 6, 2) := by decide +kernel
theorem dX6_begin_84 : decode cX6_begin 84 = .ok (.iload 4, 2) := by decide +kernel
theorem dX6_begin_86 : decode cX6_begin 86 = .ok (.if_icmp .ge 8, 3) := by decide +kernel
theorem dX6_begin_89 : decode cX6_begin 89 = .ok (.iload 6, 2) := by decide +kernel
theorem dX6_begin_91 : decode cX6_begin 91 = .ok (.goto 5, 3) := by decide +kernel
theorem dX6_begin_94 : decode cX6_begin 94 = .ok (.iload 4, 2) := by decide +kernel
theorem dX6_begin_96 : decode cX6_begin 96 = .ok (.istore 4, 2) := by decide +kernel
theorem dX6_begin_98 : decode cX6_begin 98 = .ok (.iinc 5 1, 3) := by decide +kernel
theorem dX6_begin_101 : decode cX6_begin 101 = .ok (.goto (-57), 3) := by decide +kernel
theorem dX6_begin_104 : decode cX6_begin 104 = .ok (.iload_n 3, 1) := by decide +kernel
theorem dX6_begin_105 : decode cX6_begin 105 = .ok (.ireturn, 1) := by decide +kernel
theorem dX6_fewest_0 : decode cX6_fewest 0 = .ok (.iload_n 1, 1) := by decide +kernel
theorem dX6_fewest_1 : decode cX6_fewest 1 = .ok (.iconst 1, 1) := by decide +kernel
theorem dX6_fewest_2 : decode cX6_fewest 2 = .ok (.bipush 20, 2) := by decide +kernel
theorem dX6_fewest_4 : decode cX6_fewest 4 = .ok (.invokestatic 57, 3) := by decide +kernel
theorem dX6_fewest_7 : decode cX6_fewest 7 = .ok (.ifCond .ne 10, 3) := by decide +kernel
theorem dX6_fewest_10 : decode cX6_fewest 10 = .ok (.aload_n 0, 1) := by decide +kernel
theorem dX6_fewest_11 : decode cX6_fewest 11 = .ok (.ldc 44, 2) := by decide +kernel
theorem dX6_fewest_13 : decode cX6_fewest 13 = .ok (.invokevirtual 64, 3) := by decide +kernel
theorem dX6_fewest_16 : decode cX6_fewest 16 = .ok (.ireturn, 1) := by decide +kernel
theorem dX6_fewest_17 : decode cX6_fewest 17 = .ok (.iconst (-1), 1) := by decide +kernel
theorem dX6_fewest_18 : decode cX6_fewest 18 = .ok (.istore_n 2, 1) := by decide +kernel
theorem dX6_fewest_19 : decode cX6_fewest 19 = .ok (.aload_n 0, 1) := by decide +kernel
theorem dX6_fewest_20 : decode cX6_fewest 20 = .ok (.iconst 5, 1) := by decide +kernel
theorem dX6_fewest_21 : decode cX6_fewest 21 = .ok (.invokevirtual 136, 3) := by decide +kernel
theorem dX6_fewest_24 : decode cX6_fewest 24 = .ok (.istore_n 3, 1) := by decide +kernel
theorem dX6_fewest_25 : decode cX6_fewest 25 = .ok (.aload_n 0, 1) := by decide +kernel
theorem dX6_fewest_26 : decode cX6_fewest 26 = .ok (.iconst 1, 1) := by decide +kernel
theorem dX6_fewest_27 : decode cX6_fewest 27 = .ok (.aload_n 0, 1) := by decide +kernel
theorem dX6_fewest_28 : decode cX6_fewest 28 = .ok (.getfield 16, 3) := by decide +kernel
theorem dX6_fewest_31 : decode cX6_fewest 31 = .ok (.invokevirtual 139, 3) := by decide +kernel
theorem dX6_fewest_34 : decode cX6_fewest 34 = .ok (.iconst 0, 1) := by decide +kernel
theorem dX6_fewest_35 : decode cX6_fewest 35 = .ok (.istore 4, 2) := by decide +kernel
theorem dX6_fewest_37 : decode cX6_fewest 37 = .ok (.iload 4, 2) := by decide +kernel
theorem dX6_fewest_39 : decode cX6_fewest 39 = .ok (.iconst 1, 1) := by decide +kernel
theorem dX6_fewest_40 : decode cX6_fewest 40 = .ok (.aload_n 0, 1) := by decide +kernel
theorem dX6_fewest_41 : decode cX6_fewest 41 = .ok (.getfield 7, 3) := by decide +kernel
theorem dX6_fewest_44 : decode cX6_fewest 44 = .ok (.iconst 2, 1) := by decide +kernel
theorem dX6_fewest_45 : decode cX6_fewest 45 = .ok (.iaload, 1) := by decide +kernel
theorem dX6_fewest_46 : decode cX6_fewest 46 = .ok (.ishl, 1) := by decide +kernel
theorem dX6_fewest_47 : decode cX6_fewest 47 = .ok (.if_icmp .ge 84, 3) := by decide +kernel
theorem dX6_fewest_50 : decode cX6_fewest 50 = .ok (.iload_n 2, 1) := by decide +kernel
theorem dX6_fewest_51 : decode cX6_fewest 51 = .ok (.ifCond .lt 15, 3) := by decide +kernel
theorem dX6_fewest_54 : decode cX6_fewest 54 = .ok (.iload 4, 2) := by decide +kernel
theorem dX6_fewest_56 : decode cX6_fewest 56 = .ok (.invokestatic 152, 3) := by decide +kernel
theorem dX6_fewest_59 : decode cX6_fewest 59 = .ok (.iload_n 2, 1) := by decide +kernel
theorem dX6_fewest_60 : decode cX6_fewest 60 = .ok (.invokestatic 152, 3) := by decide +kernel
theorem dX6_fewest_63 : decode cX6_fewest 63 = .ok (.if_icmp .ge 62, 3) := by decide +kernel
theorem dX6_fewest_66 : decode cX6_fewest 66 = .ok (.iconst 0, 1) := by decide +kernel
theorem dX6_fewest_67 : decode cX6_fewest 67 = .ok (.istore 5, 2) := by decide +kernel
theorem dX6_fewest_69 : decode cX6_fewest 69 = .ok (.iload 5, 2) := by decide +kernel
theorem dX6_fewest_71 : decode cX6_fewest 71 = .ok (.aload_n 0, 1) := by decide +kernel
theorem dX6_fewest_72 : decode cX6_fewest 72 = .ok (.getfield 7, 3) := by decide +kernel
theorem dX6_fewest_75 : decode cX6_fewest 75 = .ok (.iconst 2, 1) := by decide +kernel
theorem dX6_fewest_76 : decode cX6_fewest 76 = .ok (.iaload, 1) := by decide +kernel
theorem dX6_fewest_77 : decode cX6_fewest 77 = .ok (.if_icmp .ge 31, 3) := by decide +kernel
theorem dX6_fewest_80 : decode cX6_fewest 80 = .ok (.aload_n 0, 1) := by decide +kernel
theorem dX6_fewest_81 : decode cX6_fewest 81 = .ok (.iload 5, 2) := by decide +kernel
theorem dX6_fewest_83 : decode cX6_fewest 83 = .ok (.iconst 4, 1) := by decide +kernel
theorem dX6_fewest_84 : decode cX6_fewest 84 = .ok (.aload_n 0, 1) := by decide +kernel
theorem dX6_fewest_85 : decode cX6_fewest 85 = .ok (.iload 5, 2) := by decide +kernel
theorem dX6_fewest_87 : decode cX6_fewest 87 = .ok (.iconst 4, 1) := by decide +kernel
theorem dX6_fewest_88 : decode cX6_fewest 88 = .ok (.invokevirtual 45, 3) := by decide +kernel
theorem dX6_fewest_91 : decode cX6_fewest 91 = .ok (.iload 4, 2) := by decide +kernel
theorem dX6_fewest_93 : decode cX6_fewest 93 = .ok (.iload 5, 2) := by decide +kernel
theorem dX6_fewest_95 : decode cX6_fewest 95 = .ok (.ishr, 1) := by decide +kernel
theorem dX6_fewest_96 : decode cX6_fewest 96 = .ok (.iconst 1, 1) := by decide +kernel
theorem dX6_fewest_97 : decode cX6_fewest 97 = .ok (.iand, 1) := by decide +kernel
theorem dX6_fewest_98 : decode cX6_fewest 98 = .ok (.ixor, 1) := by decide +kernel
theorem dX6_fewest_99 : decode cX6_fewest 99 = .ok (.invokevirtual 53, 3) := by decide +kernel
theorem dX6_fewest_102 : decode cX6_fewest 102 = .ok (.iinc 5 1, 3) := by decide +kernel
theorem dX6_fewest_105 : decode cX6_fewest 105 = .ok (.goto (-36), 3) := by decide +kernel
theorem dX6_fewest_108 : decode cX6_fewest 108 = .ok (.aload_n 0, 1) := by decide +kernel
theorem dX6_fewest_109 : decode cX6_fewest 109 = .ok (.iload_n 1, 1) := by decide +kernel
theorem dX6_fewest_110 : decode cX6_fewest 110 = .ok (.iconst 5, 1) := by decide +kernel
theorem dX6_fewest_111 : decode cX6_fewest 111 = .ok (.invokevirtual 149, 3) := by decide +kernel
theorem dX6_fewest_114 : decode cX6_fewest 114 = .ok (.iload_n 3, 1) := by decide +kernel
theorem dX6_fewest_115 : decode cX6_fewest 115 = .ok (.if_icmp .gt 8, 3) := by decide +kernel
theorem dX6_fewest_118 : decode cX6_fewest 118 = .ok (.iload 4, 2) := by decide +kernel
theorem dX6_fewest_120 : decode cX6_fewest 120 = .ok (.goto 4, 3) := by decide +kernel
theorem dX6_fewest_123 : decode cX6_fewest 123 = .ok (.iload_n 2, 1) := by decide +kernel
theorem dX6_fewest_124 : decode cX6_fewest 124 = .ok (.istore_n 2, 1) := by decide +kernel
theorem dX6_fewest_125 : decode cX6_fewest 125 = .ok (.iinc 4 1, 3) := by decide +kernel
theorem dX6_fewest_128 : decode cX6_fewest 128 = .ok (.goto (-91), 3) := by decide +kernel
theorem dX6_fewest_131 : decode cX6_fewest 131 = .ok (.iload_n 2, 1) := by decide +kernel
theorem dX6_fewest_132 : decode cX6_fewest 132 = .ok (.ifCond .ge 12, 3) := by decide +kernel
theorem dX6_fewest_135 : decode cX6_fewest 135 = .ok (.aload_n 0, 1) := by decide +kernel
theorem dX6_fewest_136 : decode cX6_fewest 136 = .ok (.ldc 103, 2) := by decide +kernel
theorem dX6_fewest_138 : decode cX6_fewest 138 = .ok (.invokevirtual 64, 3) := by decide +kernel
theorem dX6_fewest_141 : decode cX6_fewest 141 = .ok (.goto 4, 3) := by decide +kernel
theorem dX6_fewest_144 : decode cX6_fewest 144 = .ok (.iload_n 2, 1) := by decide +kernel
theorem dX6_fewest_145 : decode cX6_fewest 145 = .ok (.ireturn, 1) := by decide +kernel
theorem dX6_other_0 : decode cX6_other 0 = .ok (.iload_n 1, 1) := by decide +kernel
theorem dX6_other_1 : decode cX6_other 1 = .ok (.iconst 1, 1) := by decide +kernel
theorem dX6_other_2 : decode cX6_other 2 = .ok (.bipush 60, 2) := by decide +kernel
theorem dX6_other_4 : decode cX6_other 4 = .ok (.invokestatic 57, 3) := by decide +kernel
theorem dX6_other_7 : decode cX6_other 7 = .ok (.ifCond .ne 10, 3) := by decide +kernel
theorem dX6_other_10 : decode cX6_other 10 = .ok (.aload_n 0, 1) := by decide +kernel
theorem dX6_other_11 : decode cX6_other 11 = .ok (.ldc 44, 2) := by decide +kernel
theorem dX6_other_13 : decode cX6_other 13 = .ok (.invokevirtual 64, 3) := by decide +kernel
theorem dX6_other_16 : decode cX6_other 16 = .ok (.ireturn, 1) := by decide +kernel
theorem dX6_other_17 : decode cX6_other 17 = .ok (.iconst (-1), 1) := by decide +kernel
theorem dX6_other_18 : decode cX6_other 18 = .ok (.istore_n 2, 1) := by decide +kernel
theorem dX6_other_19 : decode cX6_other 19 = .ok (.aload_n 0, 1) := by decide +kernel
theorem dX6_other_20 : decode cX6_other 20 = .ok (.iconst 1, 1) := by decide +kernel
theorem dX6_other_21 : decode cX6_other 21 = .ok (.aload_n 0, 1) := by decide +kernel
theorem dX6_other_22 : decode cX6_other 22 = .ok (.getfield 16, 3) := by decide +kernel
theorem dX6_other_25 : decode cX6_other 25 = .ok (.invokevirtual 139, 3) := by decide +kernel
theorem dX6_other_28 : decode cX6_other 28 = .ok (.aload_n 0, 1) := by decide +kernel
theorem dX6_other_29 : decode cX6_other 29 = .ok (.iload_n 1, 1) := by decide +kernel
theorem dX6_other_30 : decode cX6_other 30 = .ok (.bipush 6, 2) := by decide +kernel
theorem dX6_other_32 : decode cX6_other 32 = .ok (.invokevirtual 149, 3) := by decide +kernel
theorem dX6_other_35 : decode cX6_other 35 = .ok (.istore_n 3, 1) := by decide +kernel
theorem dX6_other_36 : decode cX6_other 36 = .ok (.iconst 0, 1) := by decide +kernel
theorem dX6_other_37 : decode cX6_other 37 = .ok (.istore 4, 2) := by decide +kernel
theorem dX6_other_39 : decode cX6_other 39 = .ok (.iload 4, 2) := by decide +kernel
theorem dX6_other_41 : decode cX6_other 41 = .ok (.aload_n 0, 1) := by decide +kernel
theorem dX6_other_42 : decode cX6_other 42 = .ok (.getfield 7, 3) := by decide +kernel
theorem dX6_other_45 : decode cX6_other 45 = .ok (.iconst 2, 1) := by decide +kernel
theorem dX6_other_46 : decode cX6_other 46 = .ok (.iaload, 1) := by decide +kernel
theorem dX6_other_47 : decode cX6_other 47 = .ok (.if_icmp .ge 60, 3) := by decide +kernel
theorem dX6_other_50 : decode cX6_other 50 = .ok (.aload_n 0, 1) := by decide +kernel
theorem dX6_other_51 : decode cX6_other 51 = .ok (.iload 4, 2) := by decide +kernel
theorem dX6_other_53 : decode cX6_other 53 = .ok (.iconst 2, 1) := by decide +kernel
theorem dX6_other_54 : decode cX6_other 54 = .ok (.iconst 1, 1) := by decide +kernel
theorem dX6_other_55 : decode cX6_other 55 = .ok (.aload_n 0, 1) := by decide +kernel
theorem dX6_other_56 : decode cX6_other 56 = .ok (.iload 4, 2) := by decide +kernel
theorem dX6_other_58 : decode cX6_other 58 = .ok (.iconst 2, 1) := by decide +kernel
theorem dX6_other_59 : decode cX6_other 59 = .ok (.invokevirtual 45, 3) := by decide +kernel
theorem dX6_other_62 : decode cX6_other 62 = .ok (.isub, 1) := by decide +kernel
theorem dX6_other_63 : decode cX6_other 63 = .ok (.invokevirtual 53, 3) := by decide +kernel
theorem dX6_other_66 : decode cX6_other 66 = .ok (.aload_n 0, 1) := by decide +kernel
theorem dX6_other_67 : decode cX6_other 67 = .ok (.iload_n 1, 1) := by decide +kernel
theorem dX6_other_68 : decode cX6_other 68 = .ok (.bipush 6, 2) := by decide +kernel
theorem dX6_other_70 : decode cX6_other 70 = .ok (.invokevirtual 149, 3) := by decide +kernel
theorem dX6_other_73 : decode cX6_other 73 = .ok (.istore 5, 2) := by decide +kernel
theorem dX6_other_75 : decode cX6_other 75 = .ok (.iload 5, 2) := by decide +kernel
theorem dX6_other_77 : decode cX6_other 77 = .ok (.iload_n 3, 1) := by decide +kernel
theorem dX6_other_78 : decode cX6_other 78 = .ok (.if_icmp .ge 8, 3) := by decide +kernel
theorem dX6_other_81 : decode cX6_other 81 = .ok (.iload 4, 2) := by decide +kernel
theorem dX6_other_83 : decode cX6_other 83 = .ok (.goto 4, 3) := by decide +kernel
theorem dX6_other_86 : decode cX6_other 86 = .ok (.iload_n 2, 1) := by decide +kernel
theorem dX6_other_87 : decode cX6_other 87 = .ok (.istore_n 2, 1) := by decide +kernel
theorem dX6_other_88 : decode cX6_other 88 = .ok (.iload 5, 2) := by decide +kernel
theorem dX6_other_90 : decode cX6_other 90 = .ok (.iload_n 3, 1) := by decide +kernel
theorem dX6_other_91 : decode cX6_other 91 = .ok (.if_icmp .ge 8, 3) := by decide +kernel
theorem dX6_other_94 : decode cX6_other 94 = .ok (.iload 5, 2) := by decide +kernel
theorem dX6_other_96 : decode cX6_other 96 = .ok (.goto 4, 3) := by decide +kernel
theorem dX6_other_99 : decode cX6_other 99 = .ok (.iload_n 3, 1) := by decide +kernel
theorem dX6_other_100 : decode cX6_other 100 = .ok (.istore_n 3, 1) := by decide +kernel
theorem dX6_other_101 : decode cX6_other 101 = .ok (.iinc 4 1, 3) := by decide +kernel
theorem dX6_other_104 : decode cX6_other 104 = .ok (.goto (-65), 3) := by decide +kernel
theorem dX6_other_107 : decode cX6_other 107 = .ok (.iload_n 2, 1) := by decide +kernel
theorem dX6_other_108 : decode cX6_other 108 = .ok (.ifCond .ge 12, 3) := by decide +kernel
theorem dX6_other_111 : decode cX6_other 111 = .ok (.aload_n 0, 1) := by decide +kernel
theorem dX6_other_112 : decode cX6_other 112 = .ok (.ldc 103, 2) := by decide +kernel
theorem dX6_other_114 : decode cX6_other 114 = .ok (.invokevirtual 64, 3) := by decide +kernel
theorem dX6_other_117 : decode cX6_other 117 = .ok (.goto 4, 3) := by decide +kernel
theorem dX6_other_120 : decode cX6_other 120 = .ok (.iload_n 2, 1) := by decide +kernel
theorem dX6_other_121 : decode cX6_other 121 = .ok (.ireturn, 1) := by decide +kernel
theorem dX6_first_0 : decode cX6_first 0 = .ok (.aload_n 0, 1) := by decide +kernel
theorem dX6_first_1 : decode cX6_first 1 = .ok (.iconst 1, 1) := by decide +kernel
theorem dX6_first_2 : decode cX6_first 2 = .ok (.aload_n 0, 1) := by decide +kernel
theorem dX6_first_3 : decode cX6_first 3 = .ok (.getfield 16, 3) := by decide +kernel
theorem dX6_first_6 : decode cX6_first 6 = .ok (.invokevirtual 139, 3) := by decide +kernel
theorem dX6_first_9 : decode cX6_first 9 = .ok (.iconst 0, 1) := by decide +kernel
theorem dX6_first_10 : decode cX6_first 10 = .ok (.istore_n 1, 1) := by decide +kernel
theorem dX6_first_11 : decode cX6_first 11 = .ok (.iload_n 1, 1) := by decide +kernel
theorem dX6_first_12 : decode cX6_first 12 = .ok (.sipush 200, 3) := by decide +kernel
theorem dX6_first_15 : decode cX6_first 15 = .ok (.if_icmp .gt 20, 3) := by decide +kernel
theorem dX6_first_18 : decode cX6_first 18 = .ok (.aload_n 0, 1) := by decide +kernel
theorem dX6_first_19 : decode cX6_first 19 = .ok (.invokevirtual 133, 3) := by decide +kernel
theorem dX6_first_22 : decode cX6_first 22 = .ok (.ifCond .ne 13, 3) := by decide +kernel
theorem dX6_first_25 : decode cX6_first 25 = .ok (.aload_n 0, 1) := by decide +kernel
theorem dX6_first_26 : decode cX6_first 26 = .ok (.invokevirtual 125, 3) := by decide +kernel
theorem dX6_first_29 : decode cX6_first 29 = .ok (.iinc 1 1, 3) := by decide +kernel
theorem dX6_first_32 : decode cX6_first 32 = .ok (.goto (-21), 3) := by decide +kernel
theorem dX6_first_35 : decode cX6_first 35 = .ok (.aload_n 0, 1) := by decide +kernel
theorem dX6_first_36 : decode cX6_first 36 = .ok (.invokevirtual 133, 3) := by decide +kernel
theorem dX6_first_39 : decode cX6_first 39 = .ok (.istore_n 2, 1) := by decide +kernel
theorem dX6_first_40 : decode cX6_first 40 = .ok (.aload_n 0, 1) := by decide +kernel
theorem dX6_first_41 : decode cX6_first 41 = .ok (.iconst 0, 1) := by decide +kernel
theorem dX6_first_42 : decode cX6_first 42 = .ok (.aload_n 0, 1) := by decide +kernel
theorem dX6_first_43 : decode cX6_first 43 = .ok (.getfield 16, 3) := by decide +kernel
theorem dX6_first_46 : decode cX6_first 46 = .ok (.invokevirtual 139, 3) := by decide +kernel
theorem dX6_first_49 : decode cX6_first 49 = .ok (.iload_n 1, 1) := by decide +kernel
theorem dX6_first_50 : decode cX6_first 50 = .ok (.sipush 200, 3) := by decide +kernel
theorem dX6_first_53 : decode cX6_first 53 = .ok (.if_icmp .le 10, 3) := by decide +kernel
theorem dX6_first_56 : decode cX6_first 56 = .ok (.aload_n 0, 1) := by decide +kernel
theorem dX6_first_57 : decode cX6_first 57 = .ok (.ldc 103, 2) := by decide +kernel
theorem dX6_first_59 : decode cX6_first 59 = .ok (.invokevirtual 64, 3) := by decide +kernel
theorem dX6_first_62 : decode cX6_first 62 = .ok (.ireturn, 1) := by decide +kernel
theorem dX6_first_63 : decode cX6_first 63 = .ok (.iconst 0, 1) := by decide +kernel
theorem dX6_first_64 : decode cX6_first 64 = .ok (.istore_n 3, 1) := by decide +kernel
theorem dX6_first_65 : decode cX6_first 65 = .ok (.iload_n 2, 1) := by decide +kernel
theorem dX6_first_66 : decode cX6_first 66 = .ok (.iload_n 3, 1) := by decide +kernel
theorem dX6_first_67 : decode cX6_first 67 = .ok (.ishr, 1) := by decide +kernel
theorem dX6_first_68 : decode cX6_first 68 = .ok (.iconst 1, 1) := by decide +kernel
theorem dX6_first_69 : decode cX6_first 69 = .ok (.iand, 1) := by decide +kernel
theorem dX6_first_70 : decode cX6_first 70 = .ok (.ifCond .ne 9, 3) := by decide +kernel
theorem dX6_first_73 : decode cX6_first 73 = .ok (.iinc 3 1, 3) := by decide +kernel
theorem dX6_first_76 : decode cX6_first 76 = .ok (.goto (-11), 3) := by decide +kernel
theorem dX6_first_79 : decode cX6_first 79 = .ok (.iload_n 3, 1) := by decide +kernel
theorem dX6_first_80 : decode cX6_first 80 = .ok (.ireturn, 1) := by decide +kernel
theorem dX6_feed_0 : decode cX6_feed 0 = .ok (.iload_n 2, 1) := by decide +kernel
theorem dX6_feed_1 : decode cX6_feed 1 = .ok (.iconst 1, 1) := by decide +kernel
theorem dX6_feed_2 : decode cX6_feed 2 = .ok (.iconst 4, 1) := by decide +kernel
theorem dX6_feed_3 : decode cX6_feed 3 = .ok (.invokestatic 57, 3) := by decide +kernel
theorem dX6_feed_6 : decode cX6_feed 6 = .ok (.ifCond .ne 10, 3) := by decide +kernel
theorem dX6_feed_9 : decode cX6_feed 9 = .ok (.aload_n 0, 1) := by decide +kernel
theorem dX6_feed_10 : decode cX6_feed 10 = .ok (.ldc 44, 2) := by decide +kernel
theorem dX6_feed_12 : decode cX6_feed 12 = .ok (.invokevirtual 64, 3) := by decide +kernel
theorem dX6_feed_15 : decode cX6_feed 15 = .ok (.ireturn, 1) := by decide +kernel
theorem dX6_feed_16 : decode cX6_feed 16 = .ok (.aload_n 0, 1) := by decide +kernel
theorem dX6_feed_17 : decode cX6_feed 17 = .ok (.getfield 155, 3) := by decide +kernel
theorem dX6_feed_20 : decode cX6_feed 20 = .ok (.iload_n 2, 1) := by decide +kernel
theorem dX6_feed_21 : decode cX6_feed 21 = .ok (.iadd, 1) := by decide +kernel
theorem dX6_feed_22 : decode cX6_feed 22 = .ok (.bipush 120, 2) := by decide +kernel
theorem dX6_feed_24 : decode cX6_feed 24 = .ok (.if_icmp .le 10, 3) := by decide +kernel
theorem dX6_feed_27 : decode cX6_feed 27 = .ok (.aload_n 0, 1) := by decide +kernel
theorem dX6_feed_28 : decode cX6_feed 28 = .ok (.ldc 84, 2) := by decide +kernel
theorem dX6_feed_30 : decode cX6_feed 30 = .ok (.invokevirtual 64, 3) := by decide +kernel
theorem dX6_feed_33 : decode cX6_feed 33 = .ok (.ireturn, 1) := by decide +kernel
theorem dX6_feed_34 : decode cX6_feed 34 = .ok (.iload_n 2, 1) := by decide +kernel
theorem dX6_feed_35 : decode cX6_feed 35 = .ok (.iconst 1, 1) := by decide +kernel
theorem dX6_feed_36 : decode cX6_feed 36 = .ok (.isub, 1) := by decide +kernel
theorem dX6_feed_37 : decode cX6_feed 37 = .ok (.istore_n 3, 1) := by decide +kernel
theorem dX6_feed_38 : decode cX6_feed 38 = .ok (.iload_n 3, 1) := by decide +kernel
theorem dX6_feed_39 : decode cX6_feed 39 = .ok (.ifCond .lt 38, 3) := by decide +kernel
theorem dX6_feed_42 : decode cX6_feed 42 = .ok (.aload_n 0, 1) := by decide +kernel
theorem dX6_feed_43 : decode cX6_feed 43 = .ok (.getfield 22, 3) := by decide +kernel
theorem dX6_feed_46 : decode cX6_feed 46 = .ok (.aload_n 0, 1) := by decide +kernel
theorem dX6_feed_47 : decode cX6_feed 47 = .ok (.getfield 155, 3) := by decide +kernel
theorem dX6_feed_50 : decode cX6_feed 50 = .ok (.iload_n 1, 1) := by decide +kernel
theorem dX6_feed_51 : decode cX6_feed 51 = .ok (.bipush 8, 2) := by decide +kernel
theorem dX6_feed_53 : decode cX6_feed 53 = .ok (.iload_n 3, 1) := by decide +kernel
theorem dX6_feed_54 : decode cX6_feed 54 = .ok (.imul, 1) := by decide +kernel
theorem dX6_feed_55 : decode cX6_feed 55 = .ok (.ishr, 1) := by decide +kernel
theorem dX6_feed_56 : decode cX6_feed 56 = .ok (.sipush 255, 3) := by decide +kernel
theorem dX6_feed_59 : decode cX6_feed 59 = .ok (.iand, 1) := by decide +kernel
theorem dX6_feed_60 : decode cX6_feed 60 = .ok (.iastore, 1) := by decide +kernel
theorem dX6_feed_61 : decode cX6_feed 61 = .ok (.aload_n 0, 1) := by decide +kernel
theorem dX6_feed_62 : decode cX6_feed 62 = .ok (.dup, 1) := by decide +kernel
theorem dX6_feed_63 : decode cX6_feed 63 = .ok (.getfield 155, 3) := by decide +kernel
theorem dX6_feed_66 : decode cX6_feed 66 = .ok (.iconst 1, 1) := by decide +kernel
theorem dX6_feed_67 : decode cX6_feed 67 = .ok (.iadd, 1) := by decide +kernel
theorem dX6_feed_68 : decode cX6_feed 68 = .ok (.putfield 155, 3) := by decide +kernel
theorem dX6_feed_71 : decode cX6_feed 71 = .ok (.iinc 3 (-1), 3) := by decide +kernel
theorem dX6_feed_74 : decode cX6_feed 74 = .ok (.goto (-36), 3) := by decide +kernel
theorem dX6_feed_77 : decode cX6_feed 77 = .ok (.aload_n 0, 1) := by decide +kernel
theorem dX6_feed_78 : decode cX6_feed 78 = .ok (.getfield 155, 3) := by decide +kernel
theorem dX6_feed_81 : decode cX6_feed 81 = .ok (.ireturn, 1) := by decide +kernel
theorem dX6_wipe_0 : decode cX6_wipe 0 = .ok (.aload_n 0, 1) := by decide +kernel
theorem dX6_wipe_1 : decode cX6_wipe 1 = .ok (.getfield 155, 3) := by decide +kernel
theorem dX6_wipe_4 : decode cX6_wipe 4 = .ok (.istore_n 1, 1) := by decide +kernel
theorem dX6_wipe_5 : decode cX6_wipe 5 = .ok (.aload_n 0, 1) := by decide +kernel
theorem dX6_wipe_6 : decode cX6_wipe 6 = .ok (.iconst 0, 1) := by decide +kernel
theorem dX6_wipe_7 : decode cX6_wipe 7 = .ok (.putfield 155, 3) := by decide +kernel
theorem dX6_wipe_10 : decode cX6_wipe 10 = .ok (.iload_n 1, 1) := by decide +kernel
theorem dX6_wipe_11 : decode cX6_wipe 11 = .ok (.ireturn, 1) := by decide +kernel
theorem dX6_byteAt_0 : decode cX6_byteAt 0 = .ok (.iload_n 1, 1) := by decide +kernel
theorem dX6_byteAt_1 : decode cX6_byteAt 1 = .ok (.aload_n 0, 1) := by decide +kernel
theorem dX6_byteAt_2 : decode cX6_byteAt 2 = .ok (.getfield 155, 3) := by decide +kernel
theorem dX6_byteAt_5 : decode cX6_byteAt 5 = .ok (.if_icmp .ge 12, 3) := by decide +kernel
theorem dX6_byteAt_8 : decode cX6_byteAt 8 = .ok (.aload_n 0, 1) := by decide +kernel
theorem dX6_byteAt_9 : decode cX6_byteAt 9 = .ok (.getfield 22, 3) := by decide +kernel
theorem dX6_byteAt_12 : decode cX6_byteAt 12 = .ok (.iload_n 1, 1) := by decide +kernel
theorem dX6_byteAt_13 : decode cX6_byteAt 13 = .ok (.iaload, 1) := by decide +kernel
theorem dX6_byteAt_14 : decode cX6_byteAt 14 = .ok (.goto 4, 3) := by decide +kernel
theorem dX6_byteAt_17 : decode cX6_byteAt 17 = .ok (.iconst (-1), 1) := by decide +kernel
theorem dX6_byteAt_18 : decode cX6_byteAt 18 = .ok (.ireturn, 1) := by decide +kernel
theorem dX6_isLetter_0 : decode cX6_isLetter 0 = .ok (.iload_n 0, 1) := by decide +kernel
theorem dX6_isLetter_1 : decode cX6_isLetter 1 = .ok (.bipush 97, 2) := by decide +kernel
theorem dX6_isLetter_3 : decode cX6_isLetter 3 = .ok (.bipush 122, 2) := by decide +kernel
theorem dX6_isLetter_5 : decode cX6_isLetter 5 = .ok (.invokestatic 57, 3) := by decide +kernel
theorem dX6_isLetter_8 : decode cX6_isLetter 8 = .ok (.ireturn, 1) := by decide +kernel
theorem dX6_isDigit_0 : decode cX6_isDigit 0 = .ok (.iload_n 0, 1) := by decide +kernel
theorem dX6_isDigit_1 : decode cX6_isDigit 1 = .ok (.bipush 48, 2) := by decide +kernel
theorem dX6_isDigit_3 : decode cX6_isDigit 3 = .ok (.bipush 57, 2) := by decide +kernel
theorem dX6_isDigit_5 : decode cX6_isDigit 5 = .ok (.invokestatic 57, 3) := by decide +kernel
theorem dX6_isDigit_8 : decode cX6_isDigit 8 = .ok (.ireturn, 1) := by decide +kernel
theorem dX6_advance_0 : decode cX6_advance 0 = .ok (.aload_n 0, 1) := by decide +kernel
theorem dX6_advance_1 : decode cX6_advance 1 = .ok (.aload_n 0, 1) := by decide +kernel
theorem dX6_advance_2 : decode cX6_advance 2 = .ok (.getfield 159, 3) := by decide +kernel
theorem dX6_advance_5 : decode cX6_advance 5 = .ok (.putfield 162, 3) := by decide +kernel
theorem dX6_advance_8 : decode cX6_advance 8 = .ok (.aload_n 0, 1) := by decide +kernel
theorem dX6_advance_9 : decode cX6_advance 9 = .ok (.aload_n 0, 1) := by decide +kernel
theorem dX6_advance_10 : decode cX6_advance 10 = .ok (.getfield 162, 3) := by decide +kernel
theorem dX6_advance_13 : decode cX6_advance 13 = .ok (.invokevirtual 165, 3) := by decide +kernel
theorem dX6_advance_16 : decode cX6_advance 16 = .ok (.bipush 32, 2) := by decide +kernel
theorem dX6_advance_18 : decode cX6_advance 18 = .ok (.if_icmp .ne 16, 3) := by decide +kernel
theorem dX6_advance_21 : decode cX6_advance 21 = .ok (.aload_n 0, 1) := by decide +kernel
theorem dX6_advance_22 : decode cX6_advance 22 = .ok (.dup, 1) := by decide +kernel
theorem dX6_advance_23 : decode cX6_advance 23 = .ok (.getfield 162, 3) := by decide +kernel
theorem dX6_advance_26 : decode cX6_advance 26 = .ok (.iconst 1, 1) := by decide +kernel
theorem dX6_advance_27 : decode cX6_advance 27 = .ok (.iadd, 1) := by decide +kernel
theorem dX6_advance_28 : decode cX6_advance 28 = .ok (.putfield 162, 3) := by decide +kernel
theorem dX6_advance_31 : decode cX6_advance 31 = .ok (.goto (-23), 3) := by decide +kernel
theorem dX6_advance_34 : decode cX6_advance 34 = .ok (.aload_n 0, 1) := by decide +kernel
theorem dX6_advance_35 : decode cX6_advance 35 = .ok (.aload_n 0, 1) := by decide +kernel
theorem dX6_advance_36 : decode cX6_advance 36 = .ok (.getfield 162, 3) := by decide +kernel
theorem dX6_advance_39 : decode cX6_advance 39 = .ok (.putfield 159, 3) := by decide +kernel
theorem dX6_advance_42 : decode cX6_advance 42 = .ok (.aload_n 0, 1) := by decide +kernel
theorem dX6_advance_43 : decode cX6_advance 43 = .ok (.aload_n 0, 1) := by decide +kernel
theorem dX6_advance_44 : decode cX6_advance 44 = .ok (.getfield 162, 3) := by decide +kernel
theorem dX6_advance_47 : decode cX6_advance 47 = .ok (.invokevirtual 165, 3) := by decide +kernel
theorem dX6_advance_50 : decode cX6_advance 50 = .ok (.istore_n 1, 1) := by decide +kernel
theorem dX6_advance_51 : decode cX6_advance 51 = .ok (.aload_n 0, 1) := by decide +kernel
theorem dX6_advance_52 : decode cX6_advance 52 = .ok (.iload_n 1, 1) := by decide +kernel
theorem dX6_advance_53 : decode cX6_advance 53 = .ok (.ifCond .ge 7, 3) := by decide +kernel
theorem dX6_advance_56 : decode cX6_advance 56 = .ok (.iconst 0, 1) := by decide +kernel
theorem dX6_advance_57 : decode cX6_advance 57 = .ok (.goto 26, 3) := by decide +kernel
theorem dX6_advance_60 : decode cX6_advance 60 = .ok (.iload_n 1, 1) := by decide +kernel
theorem dX6_advance_61 : decode cX6_advance 61 = .ok (.invokestatic 168, 3) := by decide +kernel
theorem dX6_advance_64 : decode cX6_advance 64 = .ok (.ifCond .eq 7, 3) := by decide +kernel
theorem dX6_advance_67 : decode cX6_advance 67 = .ok (.iconst 1, 1) := by decide +kernel
theorem dX6_advance_68 : decode cX6_advance 68 = .ok (.goto 15, 3) := by decide +kernel
theorem dX6_advance_71 : decode cX6_advance 71 = .ok (.iload_n 1, 1) := by decide +kernel
theorem dX6_advance_72 : decode cX6_advance 72 = .ok (.invokestatic 171, 3) := by decide +kernel
theorem dX6_advance_75 : decode cX6_advance 75 = .ok (.ifCond .eq 7, 3) := by decide +kernel
theorem dX6_advance_78 : decode cX6_advance 78 = .ok (.iconst 2, 1) := by decide +kernel
theorem dX6_advance_79 : decode cX6_advance 79 = .ok (.goto 4, 3) := by decide +kernel
theorem dX6_advance_82 : decode cX6_advance 82 = .ok (.iconst 3, 1) := by decide +kernel
theorem dX6_advance_83 : decode cX6_advance 83 = .ok (.putfield 174, 3) := by decide +kernel
theorem dX6_advance_86 : decode cX6_advance 86 = .ok (.aload_n 0, 1) := by decide +kernel
theorem dX6_advance_87 : decode cX6_advance 87 = .ok (.lconst 0, 1) := by decide +kernel
theorem dX6_advance_88 : decode cX6_advance 88 = .ok (.putfield 177, 3) := by decide +kernel
theorem dX6_advance_91 : decode cX6_advance 91 = .ok (.aload_n 0, 1) := by decide +kernel
theorem dX6_advance_92 : decode cX6_advance 92 = .ok (.aload_n 0, 1) := by decide +kernel
theorem dX6_advance_93 : decode cX6_advance 93 = .ok (.getfield 174, 3) := by decide +kernel
theorem dX6_advance_96 : decode cX6_advance 96 = .ok (.iconst 2, 1) := by decide +kernel
theorem dX6_advance_97 : decode cX6_advance 97 = .ok (.if_icmp .ne 7, 3) := by decide +kernel
theorem dX6_advance_100 : decode cX6_advance 100 = .ok (.iconst 0, 1) := by decide +kernel
theorem dX6_advance_101 : decode cX6_advance 101 = .ok (.goto 4, 3) := by decide +kernel
theorem dX6_advance_104 : decode cX6_advance 104 = .ok (.iload_n 1, 1) := by decide +kernel
theorem dX6_advance_105 : decode cX6_advance 105 = .ok (.putfield 181, 3) := by decide +kernel
theorem dX6_advance_108 : decode cX6_advance 108 = .ok (.aload_n 0, 1) := by decide +kernel
theorem dX6_advance_109 : decode cX6_advance 109 = .ok (.getfield 174, 3) := by decide +kernel
theorem dX6_advance_112 : decode cX6_advance 112 = .ok (.iconst 3, 1) := by decide +kernel
theorem dX6_advance_113 : decode cX6_advance 113 = .ok (.if_icmp .ne 13, 3) := by decide +kernel
theorem dX6_advance_116 : decode cX6_advance 116 = .ok (.aload_n 0, 1) := by decide +kernel
theorem dX6_advance_117 : decode cX6_advance 117 = .ok (.dup, 1) := by decide +kernel
theorem dX6_advance_118 : decode cX6_advance 118 = .ok (.getfield 159, 3) := by decide +kernel
theorem dX6_advance_121 : decode cX6_advance 121 = .ok (.iconst 1, 1) := by decide +kernel
theorem dX6_advance_122 : decode cX6_advance 122 = .ok (.iadd, 1) := by decide +kernel
theorem dX6_advance_123 : decode cX6_advance 123 = .ok (.putfield 159, 3) := by decide +kernel
theorem dX6_advance_126 : decode cX6_advance 126 = .ok (.aload_n 0, 1) := by decide +kernel
theorem dX6_advance_127 : decode cX6_advance 127 = .ok (.getfield 174, 3) := by decide +kernel
theorem dX6_advance_130 : decode cX6_advance 130 = .ok (.iconst 1, 1) := by decide +kernel
theorem dX6_advance_131 : decode cX6_advance 131 = .ok (.if_icmp .ne 76, 3) := by decide +kernel
theorem dX6_advance_134 : decode cX6_advance 134 = .ok (.aload_n 0, 1) := by decide +kernel
theorem dX6_advance_135 : decode cX6_advance 135 = .ok (.aload_n 0, 1) := by decide +kernel
theorem dX6_advance_136 : decode cX6_advance 136 = .ok (.getfield 159, 3) := by decide +kernel
theorem dX6_advance_139 : decode cX6_advance 139 = .ok (.invokevirtual 165, 3) := by decide +kernel
theorem dX6_advance_142 : decode cX6_advance 142 = .ok (.invokestatic 168, 3) := by decide +kernel
theorem dX6_advance_145 : decode cX6_advance 145 = .ok (.ifCond .eq 62, 3) := by decide +kernel
theorem dX6_advance_148 : decode cX6_advance 148 = .ok (.aload_n 0, 1) := by decide +kernel
theorem dX6_advance_149 : decode cX6_advance 149 = .ok (.aload_n 0, 1) := by decide +kernel
theorem dX6_advance_150 : decode cX6_advance 150 = .ok (.getfield 159, 3) := by decide +kernel
theorem dX6_advance_153 : decode cX6_advance 153 = .ok (.aload_n 0, 1) := by decide +kernel
theorem dX6_advance_154 : decode cX6_advance 154 = .ok (.getfield 162, 3) := by decide +kernel
theorem dX6_advance_157 : decode cX6_advance 157 = .ok (.isub, 1) := by decide +kernel
theorem dX6_advance_158 : decode cX6_advance 158 = .ok (.bipush 12, 2) := by decide +kernel
theorem dX6_advance_160 : decode cX6_advance 160 = .ok (.if_icmp .ge 28, 3) := by decide +kernel
theorem dX6_advance_163 : decode cX6_advance 163 = .ok (.ldc2_w 184, 3) := by decide +kernel
theorem dX6_advance_166 : decode cX6_advance 166 = .ok (.aload_n 0, 1) := by decide +kernel
theorem dX6_advance_167 : decode cX6_advance 167 = .ok (.getfield 177, 3) := by decide +kernel
theorem dX6_advance_170 : decode cX6_advance 170 = .ok (.lmul, 1) := by decide +kernel
theorem dX6_advance_171 : decode cX6_advance 171 = .ok (.aload_n 0, 1) := by decide +kernel
theorem dX6_advance_172 : decode cX6_advance 172 = .ok (.aload_n 0, 1) := by decide +kernel
theorem dX6_advance_173 : decode cX6_advance 173 = .ok (.getfield 159, 3) := by decide +kernel
theorem dX6_advance_176 : decode cX6_advance 176 = .ok (.invokevirtual 165, 3) := by decide +kernel
theorem dX6_advance_179 : decode cX6_advance 179 = .ok (.i2l, 1) := by decide +kernel
theorem dX6_advance_180 : decode cX6_advance 180 = .ok (.ladd, 1) := by decide +kernel
theorem dX6_advance_181 : decode cX6_advance 181 = .ok (.ldc2_w 186, 3) := by decide +kernel
theorem dX6_advance_184 : decode cX6_advance 184 = .ok (.lsub, 1) := by decide +kernel
theorem dX6_advance_185 : decode cX6_advance 185 = .ok (.goto 6, 3) := by decide +kernel
theorem dX6_advance_188 : decode cX6_advance 188 = .ok (.ldc2_w 188, 3) := by decide +kernel
theorem dX6_advance_191 : decode cX6_advance 191 = .ok (.putfield 177, 3) := by decide +kernel
theorem dX6_advance_194 : decode cX6_advance 194 = .ok (.aload_n 0, 1) := by decide +kernel
theorem dX6_advance_195 : decode cX6_advance 195 = .ok (.dup, 1) := by decide +kernel
theorem dX6_advance_196 : decode cX6_advance 196 = .ok (.getfield 159, 3) := by decide +kernel
theorem dX6_advance_199 : decode cX6_advance 199 = .ok (.iconst 1, 1) := by decide +kernel
theorem dX6_advance_200 : decode cX6_advance 200 = .ok (.iadd, 1) := by decide +kernel
theorem dX6_advance_201 : decode cX6_advance 201 = .ok (.putfield 159, 3) := by decide +kernel
theorem dX6_advance_204 : decode cX6_advance 204 = .ok (.goto (-78), 3) := by decide +kernel
theorem dX6_advance_207 : decode cX6_advance 207 = .ok (.aload_n 0, 1) := by decide +kernel
theorem dX6_advance_208 : decode cX6_advance 208 = .ok (.getfield 174, 3) := by decide +kernel
theorem dX6_advance_211 : decode cX6_advance 211 = .ok (.iconst 2, 1) := by decide +kernel
theorem dX6_advance_212 : decode cX6_advance 212 = .ok (.if_icmp .ne 69, 3) := by decide +kernel
theorem dX6_advance_215 : decode cX6_advance 215 = .ok (.aload_n 0, 1) := by decide +kernel
theorem dX6_advance_216 : decode cX6_advance 216 = .ok (.aload_n 0, 1) := by decide +kernel
theorem dX6_advance_217 : decode cX6_advance 217 = .ok (.getfield 159, 3) := by decide +kernel
theorem dX6_advance_220 : decode cX6_advance 220 = .ok (.invokevirtual 165, 3) := by decide +kernel
theorem dX6_advance_223 : decode cX6_advance 223 = .ok (.invokestatic 171, 3) := by decide +kernel
theorem dX6_advance_226 : decode cX6_advance 226 = .ok (.ifCond .eq 55, 3) := by decide +kernel
theorem dX6_advance_229 : decode cX6_advance 229 = .ok (.aload_n 0, 1) := by decide +kernel
theorem dX6_advance_230 : decode cX6_advance 230 = .ok (.aload_n 0, 1) := by decide +kernel
theorem dX6_advance_231 : decode cX6_advance 231 = .ok (.getfield 181, 3) := by decide +kernel
theorem dX6_advance_234 : decode cX6_advance 234 = .ok (.sipush 999, 3) := by decide +kernel
theorem dX6_advance_237 : decode cX6_advance 237 = .ok (.if_icmp .le 9, 3) := by decide +kernel
theorem dX6_advance_240 : decode cX6_advance 240 = .ok (.sipush 10000, 3) := by decide +kernel
theorem dX6_advance_243 : decode cX6_advance 243 = .ok (.goto 22, 3) := by decide +kernel
theorem dX6_advance_246 : decode cX6_advance 246 = .ok (.bipush 10, 2) := by decide +kernel
theorem dX6_advance_248 : decode cX6_advance 248 = .ok (.aload_n 0, 1) := by decide +kernel
theorem dX6_advance_249 : decode cX6_advance 249 = .ok (.getfield 181, 3) := by decide +kernel
theorem dX6_advance_252 : decode cX6_advance 252 = .ok (.imul, 1) := by decide +kernel
theorem dX6_advance_253 : decode cX6_advance 253 = .ok (.aload_n 0, 1) := by decide +kernel
theorem dX6_advance_254 : decode cX6_advance 254 = .ok (.aload_n 0, 1) := by decide +kernel
theorem dX6_advance_255 : decode cX6_advance 255 = .ok (.getfield 159, 3) := by decide +kernel
theorem dX6_advance_258 : decode cX6_advance 258 = .ok (.invokevirtual 165, 3) := by decide +kernel
theorem dX6_advance_261 : decode cX6_advance 261 = .ok (.iadd, 1) := by decide +kernel
theorem dX6_advance_262 : decode cX6_advance 262 = .ok (.bipush 48, 2) := by decide +kernel
theorem dX6_advance_264 : decode cX6_advance 264 = .ok (.isub, 1) := by decide +kernel
theorem dX6_advance_265 : decode cX6_advance 265 = .ok (.putfield 181, 3) := by decide +kernel
theorem dX6_advance_268 : decode cX6_advance 268 = .ok (.aload_n 0, 1) := by decide +kernel
theorem dX6_advance_269 : decode cX6_advance 269 = .ok (.dup, 1) := by decide +kernel
theorem dX6_advance_270 : decode cX6_advance 270 = .ok (.getfield 159, 3) := by decide +kernel
theorem dX6_advance_273 : decode cX6_advance 273 = .ok (.iconst 1, 1) := by decide +kernel
theorem dX6_advance_274 : decode cX6_advance 274 = .ok (.iadd, 1) := by decide +kernel
theorem dX6_advance_275 : decode cX6_advance 275 = .ok (.putfield 159, 3) := by decide +kernel
theorem dX6_advance_278 : decode cX6_advance 278 = .ok (.goto (-71), 3) := by decide +kernel
theorem dX6_advance_281 : decode cX6_advance 281 = .ok (.return_, 1) := by decide +kernel
theorem dX6_isWord_0 : decode cX6_isWord 0 = .ok (.aload_n 0, 1) := by decide +kernel
theorem dX6_isWord_1 : decode cX6_isWord 1 = .ok (.getfield 174, 3) := by decide +kernel
theorem dX6_isWord_4 : decode cX6_isWord 4 = .ok (.iconst 1, 1) := by decide +kernel
theorem dX6_isWord_5 : decode cX6_isWord 5 = .ok (.if_icmp .ne 16, 3) := by decide +kernel
theorem dX6_isWord_8 : decode cX6_isWord 8 = .ok (.aload_n 0, 1) := by decide +kernel
theorem dX6_isWord_9 : decode cX6_isWord 9 = .ok (.getfield 177, 3) := by decide +kernel
theorem dX6_isWord_12 : decode cX6_isWord 12 = .ok (.lload_n 1, 1) := by decide +kernel
theorem dX6_isWord_13 : decode cX6_isWord 13 = .ok (.lcmp, 1) := by decide +kernel
theorem dX6_isWord_14 : decode cX6_isWord 14 = .ok (.ifCond .ne 7, 3) := by decide +kernel
theorem dX6_isWord_17 : decode cX6_isWord 17 = .ok (.iconst 1, 1) := by decide +kernel
theorem dX6_isWord_18 : decode cX6_isWord 18 = .ok (.goto 4, 3) := by decide +kernel
theorem dX6_isWord_21 : decode cX6_isWord 21 = .ok (.iconst 0, 1) := by decide +kernel
theorem dX6_isWord_22 : decode cX6_isWord 22 = .ok (.ireturn, 1) := by decide +kernel
theorem dX6_kindHere_0 : decode cX6_kindHere 0 = .ok (.aload_n 0, 1) := by decide +kernel
theorem dX6_kindHere_1 : decode cX6_kindHere 1 = .ok (.ldc2_w 190, 3) := by decide +kernel
theorem dX6_kindHere_4 : decode cX6_kindHere 4 = .ok (.invokevirtual 192, 3) := by decide +kernel
theorem dX6_kindHere_7 : decode cX6_kindHere 7 = .ok (.ifCond .eq 7, 3) := by decide +kernel
theorem dX6_kindHere_10 : decode cX6_kindHere 10 = .ok (.iconst 0, 1) := by decide +kernel
theorem dX6_kindHere_11 : decode cX6_kindHere 11 = .ok (.goto 74, 3) := by decide +kernel
theorem dX6_kindHere_14 : decode cX6_kindHere 14 = .ok (.aload_n 0, 1) := by decide +kernel
theorem dX6_kindHere_15 : decode cX6_kindHere 15 = .ok (.ldc2_w 196, 3) := by decide +kernel
theorem dX6_kindHere_18 : decode cX6_kindHere 18 = .ok (.invokevirtual 192, 3) := by decide +kernel
theorem dX6_kindHere_21 : decode cX6_kindHere 21 = .ok (.ifCond .eq 7, 3) := by decide +kernel
theorem dX6_kindHere_24 : decode cX6_kindHere 24 = .ok (.iconst 1, 1) := by decide +kernel
theorem dX6_kindHere_25 : decode cX6_kindHere 25 = .ok (.goto 60, 3) := by decide +kernel
theorem dX6_kindHere_28 : decode cX6_kindHere 28 = .ok (.aload_n 0, 1) := by decide +kernel
theorem dX6_kindHere_29 : decode cX6_kindHere 29 = .ok (.ldc2_w 198, 3) := by decide +kernel
theorem dX6_kindHere_32 : decode cX6_kindHere 32 = .ok (.invokevirtual 192, 3) := by decide +kernel
theorem dX6_kindHere_35 : decode cX6_kindHere 35 = .ok (.ifCond .eq 7, 3) := by decide +kernel
theorem dX6_kindHere_38 : decode cX6_kindHere 38 = .ok (.iconst 2, 1) := by decide +kernel
theorem dX6_kindHere_39 : decode cX6_kindHere 39 = .ok (.goto 46, 3) := by decide +kernel
theorem dX6_kindHere_42 : decode cX6_kindHere 42 = .ok (.aload_n 0, 1) := by decide +kernel
theorem dX6_kindHere_43 : decode cX6_kindHere 43 = .ok (.ldc2_w 200, 3) := by decide +kernel
theorem dX6_kindHere_46 : decode cX6_kindHere 46 = .ok (.invokevirtual 192, 3) := by decide +kernel
theorem dX6_kindHere_49 : decode cX6_kindHere 49 = .ok (.ifCond .eq 7, 3) := by decide +kernel
theorem dX6_kindHere_52 : decode cX6_kindHere 52 = .ok (.iconst 3, 1) := by decide +kernel
theorem dX6_kindHere_53 : decode cX6_kindHere 53 = .ok (.goto 32, 3) := by decide +kernel
theorem dX6_kindHere_56 : decode cX6_kindHere 56 = .ok (.aload_n 0, 1) := by decide +kernel
theorem dX6_kindHere_57 : decode cX6_kindHere 57 = .ok (.ldc2_w 202, 3) := by decide +kernel
theorem dX6_kindHere_60 : decode cX6_kindHere 60 = .ok (.invokevirtual 192, 3) := by decide +kernel
theorem dX6_kindHere_63 : decode cX6_kindHere 63 = .ok (.ifCond .eq 7, 3) := by decide +kernel
theorem dX6_kindHere_66 : decode cX6_kindHere 66 = .ok (.iconst 4, 1) := by decide +kernel
theorem dX6_kindHere_67 : decode cX6_kindHere 67 = .ok (.goto 18, 3) := by decide +kernel
theorem dX6_kindHere_70 : decode cX6_kindHere 70 = .ok (.aload_n 0, 1) := by decide +kernel
theorem dX6_kindHere_71 : decode cX6_kindHere 71 = .ok (.ldc2_w 204, 3) := by decide +kernel
theorem dX6_kindHere_74 : decode cX6_kindHere 74 = .ok (.invokevirtual 192, 3) := by decide +kernel
theorem dX6_kindHere_77 : decode cX6_kindHere 77 = .ok (.ifCond .eq 7, 3) := by decide +kernel
theorem dX6_kindHere_80 : decode cX6_kindHere 80 = .ok (.iconst 5, 1) := by decide +kernel
theorem dX6_kindHere_81 : decode cX6_kindHere 81 = .ok (.goto 4, 3) := by decide +kernel
theorem dX6_kindHere_84 : decode cX6_kindHere 84 = .ok (.iconst (-1), 1) := by decide +kernel
theorem dX6_kindHere_85 : decode cX6_kindHere 85 = .ok (.ireturn, 1) := by decide +kernel
theorem dX6_wantNumber_0 : decode cX6_wantNumber 0 = .ok (.aload_n 0, 1) := by decide +kernel
theorem dX6_wantNumber_1 : decode cX6_wantNumber 1 = .ok (.getfield 181, 3) := by decide +kernel
theorem dX6_wantNumber_4 : decode cX6_wantNumber 4 = .ok (.istore_n 3, 1) := by decide +kernel
theorem dX6_wantNumber_5 : decode cX6_wantNumber 5 = .ok (.aload_n 0, 1) := by decide +kernel
theorem dX6_wantNumber_6 : decode cX6_wantNumber 6 = .ok (.aload_n 0, 1) := by decide +kernel
theorem dX6_wantNumber_7 : decode cX6_wantNumber 7 = .ok (.getfield 206, 3) := by decide +kernel
theorem dX6_wantNumber_10 : decode cX6_wantNumber 10 = .ok (.ifCond .eq 24, 3) := by decide +kernel
theorem dX6_wantNumber_13 : decode cX6_wantNumber 13 = .ok (.aload_n 0, 1) := by decide +kernel
theorem dX6_wantNumber_14 : decode cX6_wantNumber 14 = .ok (.getfield 174, 3) := by decide +kernel
theorem dX6_wantNumber_17 : decode cX6_wantNumber 17 = .ok (.iconst 2, 1) := by decide +kernel
theorem dX6_wantNumber_18 : decode cX6_wantNumber 18 = .ok (.if_icmp .ne 16, 3) := by decide +kernel
theorem dX6_wantNumber_21 : decode cX6_wantNumber 21 = .ok (.iload_n 3, 1) := by decide +kernel
theorem dX6_wantNumber_22 : decode cX6_wantNumber 22 = .ok (.iload_n 1, 1) := by decide +kernel
theorem dX6_wantNumber_23 : decode cX6_wantNumber 23 = .ok (.iload_n 2, 1) := by decide +kernel
theorem dX6_wantNumber_24 : decode cX6_wantNumber 24 = .ok (.invokestatic 57, 3) := by decide +kernel
theorem dX6_wantNumber_27 : decode cX6_wantNumber 27 = .ok (.ifCond .eq 7, 3) := by decide +kernel
theorem dX6_wantNumber_30 : decode cX6_wantNumber 30 = .ok (.iconst 1, 1) := by decide +kernel
theorem dX6_wantNumber_31 : decode cX6_wantNumber 31 = .ok (.goto 4, 3) := by decide +kernel
theorem dX6_wantNumber_34 : decode cX6_wantNumber 34 = .ok (.iconst 0, 1) := by decide +kernel
theorem dX6_wantNumber_35 : decode cX6_wantNumber 35 = .ok (.putfield 206, 3) := by decide +kernel
theorem dX6_wantNumber_38 : decode cX6_wantNumber 38 = .ok (.aload_n 0, 1) := by decide +kernel
theorem dX6_wantNumber_39 : decode cX6_wantNumber 39 = .ok (.getfield 206, 3) := by decide +kernel
theorem dX6_wantNumber_42 : decode cX6_wantNumber 42 = .ok (.ifCond .eq 7, 3) := by decide +kernel
theorem dX6_wantNumber_45 : decode cX6_wantNumber 45 = .ok (.aload_n 0, 1) := by decide +kernel
theorem dX6_wantNumber_46 : decode cX6_wantNumber 46 = .ok (.invokevirtual 210, 3) := by decide +kernel
theorem dX6_wantNumber_49 : decode cX6_wantNumber 49 = .ok (.iload_n 3, 1) := by decide +kernel
theorem dX6_wantNumber_50 : decode cX6_wantNumber 50 = .ok (.ireturn, 1) := by decide +kernel
theorem dX6_mayWant_0 : decode cX6_mayWant 0 = .ok (.aload_n 0, 1) := by decide +kernel
theorem dX6_mayWant_1 : decode cX6_mayWant 1 = .ok (.getfield 206, 3) := by decide +kernel
theorem dX6_mayWant_4 : decode cX6_mayWant 4 = .ok (.ifCond .eq 11, 3) := by decide +kernel
theorem dX6_mayWant_7 : decode cX6_mayWant 7 = .ok (.aload_n 0, 1) := by decide +kernel
theorem dX6_mayWant_8 : decode cX6_mayWant 8 = .ok (.lload_n 1, 1) := by decide +kernel
theorem dX6_mayWant_9 : decode cX6_mayWant 9 = .ok (.invokevirtual 192, 3) := by decide +kernel
theorem dX6_mayWant_12 : decode cX6_mayWant 12 = .ok (.ifCond .ne 6, 3) := by decide +kernel
theorem dX6_mayWant_15 : decode cX6_mayWant 15 = .ok (.iload 5, 2) := by decide +kernel
theorem dX6_mayWant_17 : decode cX6_mayWant 17 = .ok (.ireturn, 1) := by decide +kernel
theorem dX6_mayWant_18 : decode cX6_mayWant 18 = .ok (.aload_n 0, 1) := by decide +kernel
theorem dX6_mayWant_19 : decode cX6_mayWant 19 = .ok (.invokevirtual 210, 3) := by decide +kernel
theorem dX6_mayWant_22 : decode cX6_mayWant 22 = .ok (.aload_n 0, 1) := by decide +kernel
theorem dX6_mayWant_23 : decode cX6_mayWant 23 = .ok (.iload_n 3, 1) := by decide +kernel
theorem dX6_mayWant_24 : decode cX6_mayWant 24 = .ok (.iload 4, 2) := by decide +kernel
theorem dX6_mayWant_26 : decode cX6_mayWant 26 = .ok (.invokevirtual 213, 3) := by decide +kernel
theorem dX6_mayWant_29 : decode cX6_mayWant 29 = .ok (.ireturn, 1) := by decide +kernel
theorem dX6_may_0 : decode cX6_may 0 = .ok (.aload_n 0, 1) := by decide +kernel
theorem dX6_may_1 : decode cX6_may 1 = .ok (.getfield 206, 3) := by decide +kernel
theorem dX6_may_4 : decode cX6_may 4 = .ok (.ifCond .eq 15, 3) := by decide +kernel
theorem dX6_may_7 : decode cX6_may 7 = .ok (.aload_n 0, 1) := by decide +kernel
theorem dX6_may_8 : decode cX6_may 8 = .ok (.lload_n 1, 1) := by decide +kernel
theorem dX6_may_9 : decode cX6_may 9 = .ok (.invokevirtual 192, 3) := by decide +kernel
theorem dX6_may_12 : decode cX6_may 12 = .ok (.ifCond .eq 7, 3) := by decide +kernel
theorem dX6_may_15 : decode cX6_may 15 = .ok (.iconst 1, 1) := by decide +kernel
theorem dX6_may_16 : decode cX6_may 16 = .ok (.goto 4, 3) := by decide +kernel
theorem dX6_may_19 : decode cX6_may 19 = .ok (.iconst 0, 1) := by decide +kernel
theorem dX6_may_20 : decode cX6_may 20 = .ok (.istore_n 3, 1) := by decide +kernel
theorem dX6_may_21 : decode cX6_may 21 = .ok (.iload_n 3, 1) := by decide +kernel
theorem dX6_may_22 : decode cX6_may 22 = .ok (.ifCond .eq 7, 3) := by decide +kernel
theorem dX6_may_25 : decode cX6_may 25 = .ok (.aload_n 0, 1) := by decide +kernel
theorem dX6_may_26 : decode cX6_may 26 = .ok (.invokevirtual 210, 3) := by decide +kernel
theorem dX6_may_29 : decode cX6_may 29 = .ok (.iload_n 3, 1) := by decide +kernel
theorem dX6_may_30 : decode cX6_may 30 = .ok (.ireturn, 1) := by decide +kernel
theorem dX6_wantOne_0 : decode cX6_wantOne 0 = .ok (.aload_n 0, 1) := by decide +kernel
theorem dX6_wantOne_1 : decode cX6_wantOne 1 = .ok (.aload_n 0, 1) := by decide +kernel
theorem dX6_wantOne_2 : decode cX6_wantOne 2 = .ok (.getfield 7, 3) := by decide +kernel
theorem dX6_wantOne_5 : decode cX6_wantOne 5 = .ok (.iconst 2, 1) := by decide +kernel
theorem dX6_wantOne_6 : decode cX6_wantOne 6 = .ok (.iaload, 1) := by decide +kernel
theorem dX6_wantOne_7 : decode cX6_wantOne 7 = .ok (.bipush 8, 2) := by decide +kernel
theorem dX6_wantOne_9 : decode cX6_wantOne 9 = .ok (.if_icmp .ge 7, 3) := by decide +kernel
theorem dX6_wantOne_12 : decode cX6_wantOne 12 = .ok (.iconst 1, 1) := by decide +kernel
theorem dX6_wantOne_13 : decode cX6_wantOne 13 = .ok (.goto 4, 3) := by decide +kernel
theorem dX6_wantOne_16 : decode cX6_wantOne 16 = .ok (.iconst 0, 1) := by decide +kernel
theorem dX6_wantOne_17 : decode cX6_wantOne 17 = .ok (.putfield 206, 3) := by decide +kernel
theorem dX6_wantOne_20 : decode cX6_wantOne 20 = .ok (.aload_n 0, 1) := by decide +kernel
theorem dX6_wantOne_21 : decode cX6_wantOne 21 = .ok (.getfield 206, 3) := by decide +kernel
theorem dX6_wantOne_24 : decode cX6_wantOne 24 = .ok (.ifCond .ne 4, 3) := by decide +kernel
theorem dX6_wantOne_27 : decode cX6_wantOne 27 = .ok (.return_, 1) := by decide +kernel
theorem dX6_wantOne_28 : decode cX6_wantOne 28 = .ok (.aload_n 0, 1) := by decide +kernel
theorem dX6_wantOne_29 : decode cX6_wantOne 29 = .ok (.invokevirtual 210, 3) := by decide +kernel
theorem dX6_wantOne_32 : decode cX6_wantOne 32 = .ok (.aload_n 0, 1) := by decide +kernel
theorem dX6_wantOne_33 : decode cX6_wantOne 33 = .ok (.aload_n 0, 1) := by decide +kernel
theorem dX6_wantOne_34 : decode cX6_wantOne 34 = .ok (.ldc2_w 216, 3) := by decide +kernel
theorem dX6_wantOne_37 : decode cX6_wantOne 37 = .ok (.invokevirtual 218, 3) := by decide +kernel
theorem dX6_wantOne_40 : decode cX6_wantOne 40 = .ok (.putfield 206, 3) := by decide +kernel
theorem dX6_wantOne_43 : decode cX6_wantOne 43 = .ok (.aload_n 0, 1) := by decide +kernel
theorem dX6_wantOne_44 : decode cX6_wantOne 44 = .ok (.getfield 206, 3) := by decide +kernel
theorem dX6_wantOne_47 : decode cX6_wantOne 47 = .ok (.ifCond .eq 13, 3) := by decide +kernel
theorem dX6_wantOne_50 : decode cX6_wantOne 50 = .ok (.aload_n 0, 1) := by decide +kernel
theorem dX6_wantOne_51 : decode cX6_wantOne 51 = .ok (.iconst 0, 1) := by decide +kernel
theorem dX6_wantOne_52 : decode cX6_wantOne 52 = .ok (.bipush 99, 2) := by decide +kernel
theorem dX6_wantOne_54 : decode cX6_wantOne 54 = .ok (.invokevirtual 213, 3) := by decide +kernel
theorem dX6_wantOne_57 : decode cX6_wantOne 57 = .ok (.goto 4, 3) := by decide +kernel
theorem dX6_wantOne_60 : decode cX6_wantOne 60 = .ok (.iconst 0, 1) := by decide +kernel
theorem dX6_wantOne_61 : decode cX6_wantOne 61 = .ok (.istore_n 2, 1) := by decide +kernel
theorem dX6_wantOne_62 : decode cX6_wantOne 62 = .ok (.aload_n 0, 1) := by decide +kernel
theorem dX6_wantOne_63 : decode cX6_wantOne 63 = .ok (.ldc2_w 221, 3) := by decide +kernel
theorem dX6_wantOne_66 : decode cX6_wantOne 66 = .ok (.invokevirtual 218, 3) := by decide +kernel
theorem dX6_wantOne_69 : decode cX6_wantOne 69 = .ok (.ifCond .eq 7, 3) := by decide +kernel
theorem dX6_wantOne_72 : decode cX6_wantOne 72 = .ok (.iconst 0, 1) := by decide +kernel
theorem dX6_wantOne_73 : decode cX6_wantOne 73 = .ok (.goto 4, 3) := by decide +kernel
theorem dX6_wantOne_76 : decode cX6_wantOne 76 = .ok (.iconst 1, 1) := by decide +kernel
theorem dX6_wantOne_77 : decode cX6_wantOne 77 = .ok (.istore_n 3, 1) := by decide +kernel
theorem dX6_wantOne_78 : decode cX6_wantOne 78 = .ok (.aload_n 0, 1) := by decide +kernel
theorem dX6_wantOne_79 : decode cX6_wantOne 79 = .ok (.ldc2_w 223, 3) := by decide +kernel
theorem dX6_wantOne_82 : decode cX6_wantOne 82 = .ok (.iconst 0, 1) := by decide +kernel
theorem dX6_wantOne_83 : decode cX6_wantOne 83 = .ok (.bipush 9, 2) := by decide +kernel
theorem dX6_wantOne_85 : decode cX6_wantOne 85 = .ok (.iconst 2, 1) := by decide +kernel
theorem dX6_wantOne_86 : decode cX6_wantOne 86 = .ok (.invokevirtual 225, 3) := by decide +kernel
theorem dX6_wantOne_89 : decode cX6_wantOne 89 = .ok (.istore 4, 2) := by decide +kernel
theorem dX6_wantOne_91 : decode cX6_wantOne 91 = .ok (.aload_n 0, 1) := by decide +kernel
theorem dX6_wantOne_92 : decode cX6_wantOne 92 = .ok (.ldc2_w 229, 3) := by decide +kernel
theorem dX6_wantOne_95 : decode cX6_wantOne 95 = .ok (.invokevirtual 218, 3) := by decide +kernel
theorem dX6_wantOne_98 : decode cX6_wantOne 98 = .ok (.ifCond .eq 7, 3) := by decide +kernel
theorem dX6_wantOne_101 : decode cX6_wantOne 101 = .ok (.iconst 1, 1) := by decide +kernel
theorem dX6_wantOne_102 : decode cX6_wantOne 102 = .ok (.goto 4, 3) := by decide +kernel
theorem dX6_wantOne_105 : decode cX6_wantOne 105 = .ok (.iconst 0, 1) := by decide +kernel
theorem dX6_wantOne_106 : decode cX6_wantOne 106 = .ok (.istore 5, 2) := by decide +kernel
theorem dX6_wantOne_108 : decode cX6_wantOne 108 = .ok (.aload_n 0, 1) := by decide +kernel
theorem dX6_wantOne_109 : decode cX6_wantOne 109 = .ok (.getfield 206, 3) := by decide +kernel
theorem dX6_wantOne_112 : decode cX6_wantOne 112 = .ok (.ifCond .eq 14, 3) := by decide +kernel
theorem dX6_wantOne_115 : decode cX6_wantOne 115 = .ok (.aload_n 0, 1) := by decide +kernel
theorem dX6_wantOne_116 : decode cX6_wantOne 116 = .ok (.iload_n 1, 1) := by decide +kernel
theorem dX6_wantOne_117 : decode cX6_wantOne 117 = .ok (.iload_n 2, 1) := by decide +kernel
theorem dX6_wantOne_118 : decode cX6_wantOne 118 = .ok (.iload_n 3, 1) := by decide +kernel
theorem dX6_wantOne_119 : decode cX6_wantOne 119 = .ok (.iload 4, 2) := by decide +kernel
theorem dX6_wantOne_121 : decode cX6_wantOne 121 = .ok (.iload 5, 2) := by decide +kernel
theorem dX6_wantOne_123 : decode cX6_wantOne 123 = .ok (.invokevirtual 85, 3) := by decide +kernel
theorem dX6_wantOne_126 : decode cX6_wantOne 126 = .ok (.return_, 1) := by decide +kernel
theorem dX6_wantItem_0 : decode cX6_wantItem 0 = .ok (.aload_n 0, 1) := by decide +kernel
theorem dX6_wantItem_1 : decode cX6_wantItem 1 = .ok (.invokevirtual 231, 3) := by decide +kernel
theorem dX6_wantItem_4 : decode cX6_wantItem 4 = .ok (.ifCond .lt 14, 3) := by decide +kernel
theorem dX6_wantItem_7 : decode cX6_wantItem 7 = .ok (.aload_n 0, 1) := by decide +kernel
theorem dX6_wantItem_8 : decode cX6_wantItem 8 = .ok (.aload_n 0, 1) := by decide +kernel
theorem dX6_wantItem_9 : decode cX6_wantItem 9 = .ok (.invokevirtual 231, 3) := by decide +kernel
theorem dX6_wantItem_12 : decode cX6_wantItem 12 = .ok (.invokevirtual 234, 3) := by decide +kernel
theorem dX6_wantItem_15 : decode cX6_wantItem 15 = .ok (.goto 48, 3) := by decide +kernel
theorem dX6_wantItem_18 : decode cX6_wantItem 18 = .ok (.aload_n 0, 1) := by decide +kernel
theorem dX6_wantItem_19 : decode cX6_wantItem 19 = .ok (.ldc2_w 237, 3) := by decide +kernel
theorem dX6_wantItem_22 : decode cX6_wantItem 22 = .ok (.invokevirtual 218, 3) := by decide +kernel
theorem dX6_wantItem_25 : decode cX6_wantItem 25 = .ok (.ifCond .eq 13, 3) := by decide +kernel
theorem dX6_wantItem_28 : decode cX6_wantItem 28 = .ok (.aload_n 0, 1) := by decide +kernel
theorem dX6_wantItem_29 : decode cX6_wantItem 29 = .ok (.getfield 7, 3) := by decide +kernel
theorem dX6_wantItem_32 : decode cX6_wantItem 32 = .ok (.iconst 1, 1) := by decide +kernel
theorem dX6_wantItem_33 : decode cX6_wantItem 33 = .ok (.iconst 1, 1) := by decide +kernel
theorem dX6_wantItem_34 : decode cX6_wantItem 34 = .ok (.iastore, 1) := by decide +kernel
theorem dX6_wantItem_35 : decode cX6_wantItem 35 = .ok (.goto 28, 3) := by decide +kernel
theorem dX6_wantItem_38 : decode cX6_wantItem 38 = .ok (.aload_n 0, 1) := by decide +kernel
theorem dX6_wantItem_39 : decode cX6_wantItem 39 = .ok (.ldc2_w 239, 3) := by decide +kernel
theorem dX6_wantItem_42 : decode cX6_wantItem 42 = .ok (.invokevirtual 218, 3) := by decide +kernel
theorem dX6_wantItem_45 : decode cX6_wantItem 45 = .ok (.ifCond .eq 13, 3) := by decide +kernel
theorem dX6_wantItem_48 : decode cX6_wantItem 48 = .ok (.aload_n 0, 1) := by decide +kernel
theorem dX6_wantItem_49 : decode cX6_wantItem 49 = .ok (.getfield 7, 3) := by decide +kernel
theorem dX6_wantItem_52 : decode cX6_wantItem 52 = .ok (.iconst 1, 1) := by decide +kernel
theorem dX6_wantItem_53 : decode cX6_wantItem 53 = .ok (.iconst 0, 1) := by decide +kernel
theorem dX6_wantItem_54 : decode cX6_wantItem 54 = .ok (.iastore, 1) := by decide +kernel
theorem dX6_wantItem_55 : decode cX6_wantItem 55 = .ok (.goto 8, 3) := by decide +kernel
theorem dX6_wantItem_58 : decode cX6_wantItem 58 = .ok (.aload_n 0, 1) := by decide +kernel
theorem dX6_wantItem_59 : decode cX6_wantItem 59 = .ok (.iconst 0, 1) := by decide +kernel
theorem dX6_wantItem_60 : decode cX6_wantItem 60 = .ok (.putfield 206, 3) := by decide +kernel
theorem dX6_wantItem_63 : decode cX6_wantItem 63 = .ok (.return_, 1) := by decide +kernel
theorem dX6_avenue_0 : decode cX6_avenue 0 = .ok (.aload_n 0, 1) := by decide +kernel
theorem dX6_avenue_1 : decode cX6_avenue 1 = .ok (.iconst 1, 1) := by decide +kernel
theorem dX6_avenue_2 : decode cX6_avenue 2 = .ok (.aload_n 0, 1) := by decide +kernel
theorem dX6_avenue_3 : decode cX6_avenue 3 = .ok (.getfield 41, 3) := by decide +kernel
theorem dX6_avenue_6 : decode cX6_avenue 6 = .ok (.invokevirtual 139, 3) := by decide +kernel
theorem dX6_avenue_9 : decode cX6_avenue 9 = .ok (.aload_n 0, 1) := by decide +kernel
theorem dX6_avenue_10 : decode cX6_avenue 10 = .ok (.iconst 0, 1) := by decide +kernel
theorem dX6_avenue_11 : decode cX6_avenue 11 = .ok (.putfield 159, 3) := by decide +kernel
theorem dX6_avenue_14 : decode cX6_avenue 14 = .ok (.aload_n 0, 1) := by decide +kernel
theorem dX6_avenue_15 : decode cX6_avenue 15 = .ok (.iconst 1, 1) := by decide +kernel
theorem dX6_avenue_16 : decode cX6_avenue 16 = .ok (.putfield 206, 3) := by decide +kernel
theorem dX6_avenue_19 : decode cX6_avenue 19 = .ok (.iconst 0, 1) := by decide +kernel
theorem dX6_avenue_20 : decode cX6_avenue 20 = .ok (.istore_n 1, 1) := by decide +kernel
theorem dX6_avenue_21 : decode cX6_avenue 21 = .ok (.iconst 1, 1) := by decide +kernel
theorem dX6_avenue_22 : decode cX6_avenue 22 = .ok (.istore_n 2, 1) := by decide +kernel
theorem dX6_avenue_23 : decode cX6_avenue 23 = .ok (.iload_n 2, 1) := by decide +kernel
theorem dX6_avenue_24 : decode cX6_avenue 24 = .ok (.ifCond .eq 47, 3) := by decide +kernel
theorem dX6_avenue_27 : decode cX6_avenue 27 = .ok (.aload_n 0, 1) := by decide +kernel
theorem dX6_avenue_28 : decode cX6_avenue 28 = .ok (.invokevirtual 210, 3) := by decide +kernel
theorem dX6_avenue_31 : decode cX6_avenue 31 = .ok (.aload_n 0, 1) := by decide +kernel
theorem dX6_avenue_32 : decode cX6_avenue 32 = .ok (.invokevirtual 241, 3) := by decide +kernel
theorem dX6_avenue_35 : decode cX6_avenue 35 = .ok (.iinc 1 1, 3) := by decide +kernel
theorem dX6_avenue_38 : decode cX6_avenue 38 = .ok (.aload_n 0, 1) := by decide +kernel
theorem dX6_avenue_39 : decode cX6_avenue 39 = .ok (.getfield 206, 3) := by decide +kernel
theorem dX6_avenue_42 : decode cX6_avenue 42 = .ok (.ifCond .eq 24, 3) := by decide +kernel
theorem dX6_avenue_45 : decode cX6_avenue 45 = .ok (.aload_n 0, 1) := by decide +kernel
theorem dX6_avenue_46 : decode cX6_avenue 46 = .ok (.getfield 174, 3) := by decide +kernel
theorem dX6_avenue_49 : decode cX6_avenue 49 = .ok (.iconst 3, 1) := by decide +kernel
theorem dX6_avenue_50 : decode cX6_avenue 50 = .ok (.if_icmp .ne 16, 3) := by decide +kernel
theorem dX6_avenue_53 : decode cX6_avenue 53 = .ok (.aload_n 0, 1) := by decide +kernel
theorem dX6_avenue_54 : decode cX6_avenue 54 = .ok (.getfield 181, 3) := by decide +kernel
theorem dX6_avenue_57 : decode cX6_avenue 57 = .ok (.bipush 59, 2) := by decide +kernel
theorem dX6_avenue_59 : decode cX6_avenue 59 = .ok (.if_icmp .ne 7, 3) := by decide +kernel
theorem dX6_avenue_62 : decode cX6_avenue 62 = .ok (.iconst 1, 1) := by decide +kernel
theorem dX6_avenue_63 : decode cX6_avenue 63 = .ok (.goto 4, 3) := by decide +kernel
theorem dX6_avenue_66 : decode cX6_avenue 66 = .ok (.iconst 0, 1) := by decide +kernel
theorem dX6_avenue_67 : decode cX6_avenue 67 = .ok (.istore_n 2, 1) := by decide +kernel
theorem dX6_avenue_68 : decode cX6_avenue 68 = .ok (.goto (-45), 3) := by decide +kernel
theorem dX6_avenue_71 : decode cX6_avenue 71 = .ok (.aload_n 0, 1) := by decide +kernel
theorem dX6_avenue_72 : decode cX6_avenue 72 = .ok (.aload_n 0, 1) := by decide +kernel
theorem dX6_avenue_73 : decode cX6_avenue 73 = .ok (.getfield 206, 3) := by decide +kernel
theorem dX6_avenue_76 : decode cX6_avenue 76 = .ok (.ifCond .eq 14, 3) := by decide +kernel
theorem dX6_avenue_79 : decode cX6_avenue 79 = .ok (.aload_n 0, 1) := by decide +kernel
theorem dX6_avenue_80 : decode cX6_avenue 80 = .ok (.getfield 174, 3) := by decide +kernel
theorem dX6_avenue_83 : decode cX6_avenue 83 = .ok (.ifCond .ne 7, 3) := by decide +kernel
theorem dX6_avenue_86 : decode cX6_avenue 86 = .ok (.iconst 1, 1) := by decide +kernel
theorem dX6_avenue_87 : decode cX6_avenue 87 = .ok (.goto 4, 3) := by decide +kernel
theorem dX6_avenue_90 : decode cX6_avenue 90 = .ok (.iconst 0, 1) := by decide +kernel
theorem dX6_avenue_91 : decode cX6_avenue 91 = .ok (.putfield 206, 3) := by decide +kernel
theorem dX6_avenue_94 : decode cX6_avenue 94 = .ok (.aload_n 0, 1) := by decide +kernel
theorem dX6_avenue_95 : decode cX6_avenue 95 = .ok (.iconst 0, 1) := by decide +kernel
theorem dX6_avenue_96 : decode cX6_avenue 96 = .ok (.putfield 155, 3) := by decide +kernel
theorem dX6_avenue_99 : decode cX6_avenue 99 = .ok (.aload_n 0, 1) := by decide +kernel
theorem dX6_avenue_100 : decode cX6_avenue 100 = .ok (.getfield 206, 3) := by decide +kernel
theorem dX6_avenue_103 : decode cX6_avenue 103 = .ok (.ifCond .ne 19, 3) := by decide +kernel
theorem dX6_avenue_106 : decode cX6_avenue 106 = .ok (.aload_n 0, 1) := by decide +kernel
theorem dX6_avenue_107 : decode cX6_avenue 107 = .ok (.iconst 0, 1) := by decide +kernel
theorem dX6_avenue_108 : decode cX6_avenue 108 = .ok (.aload_n 0, 1) := by decide +kernel
theorem dX6_avenue_109 : decode cX6_avenue 109 = .ok (.getfield 41, 3) := by decide +kernel
theorem dX6_avenue_112 : decode cX6_avenue 112 = .ok (.invokevirtual 139, 3) := by decide +kernel
theorem dX6_avenue_115 : decode cX6_avenue 115 = .ok (.iconst (-1), 1) := by decide +kernel
theorem dX6_avenue_116 : decode cX6_avenue 116 = .ok (.aload_n 0, 1) := by decide +kernel
theorem dX6_avenue_117 : decode cX6_avenue 117 = .ok (.getfield 162, 3) := by decide +kernel
theorem dX6_avenue_120 : decode cX6_avenue 120 = .ok (.isub, 1) := by decide +kernel
theorem dX6_avenue_121 : decode cX6_avenue 121 = .ok (.ireturn, 1) := by decide +kernel
theorem dX6_avenue_122 : decode cX6_avenue 122 = .ok (.iload_n 1, 1) := by decide +kernel
theorem dX6_avenue_123 : decode cX6_avenue 123 = .ok (.ireturn, 1) := by decide +kernel
theorem dX6_isSheet_0 : decode cX6_isSheet 0 = .ok (.iload_n 0, 1) := by decide +kernel
theorem dX6_isSheet_1 : decode cX6_isSheet 1 = .ok (.iconst 0, 1) := by decide +kernel
theorem dX6_isSheet_2 : decode cX6_isSheet 2 = .ok (.iconst 3, 1) := by decide +kernel
theorem dX6_isSheet_3 : decode cX6_isSheet 3 = .ok (.invokestatic 57, 3) := by decide +kernel
theorem dX6_isSheet_6 : decode cX6_isSheet 6 = .ok (.ireturn, 1) := by decide +kernel
theorem dX6_narrow_0 : decode cX6_narrow 0 = .ok (.iload_n 0, 1) := by decide +kernel
theorem dX6_narrow_1 : decode cX6_narrow 1 = .ok (.bipush 8, 2) := by decide +kernel
theorem dX6_narrow_3 : decode cX6_narrow 3 = .ok (.if_icmp .ne 13, 3) := by decide +kernel
theorem dX6_narrow_6 : decode cX6_narrow 6 = .ok (.lload_n 1, 1) := by decide +kernel
theorem dX6_narrow_7 : decode cX6_narrow 7 = .ok (.bipush 56, 2) := by decide +kernel
theorem dX6_narrow_9 : decode cX6_narrow 9 = .ok (.lshl, 1) := by decide +kernel
theorem dX6_narrow_10 : decode cX6_narrow 10 = .ok (.bipush 56, 2) := by decide +kernel
theorem dX6_narrow_12 : decode cX6_narrow 12 = .ok (.lshr, 1) := by decide +kernel
theorem dX6_narrow_13 : decode cX6_narrow 13 = .ok (.goto 20, 3) := by decide +kernel
theorem dX6_narrow_16 : decode cX6_narrow 16 = .ok (.iload_n 0, 1) := by decide +kernel
theorem dX6_narrow_17 : decode cX6_narrow 17 = .ok (.bipush 16, 2) := by decide +kernel
theorem dX6_narrow_19 : decode cX6_narrow 19 = .ok (.if_icmp .ne 13, 3) := by decide +kernel
theorem dX6_narrow_22 : decode cX6_narrow 22 = .ok (.lload_n 1, 1) := by decide +kernel
theorem dX6_narrow_23 : decode cX6_narrow 23 = .ok (.bipush 48, 2) := by decide +kernel
theorem dX6_narrow_25 : decode cX6_narrow 25 = .ok (.lshl, 1) := by decide +kernel
theorem dX6_narrow_26 : decode cX6_narrow 26 = .ok (.bipush 48, 2) := by decide +kernel
theorem dX6_narrow_28 : decode cX6_narrow 28 = .ok (.lshr, 1) := by decide +kernel
theorem dX6_narrow_29 : decode cX6_narrow 29 = .ok (.goto 4, 3) := by decide +kernel
theorem dX6_narrow_32 : decode cX6_narrow 32 = .ok (.lload_n 1, 1) := by decide +kernel
theorem dX6_narrow_33 : decode cX6_narrow 33 = .ok (.lreturn, 1) := by decide +kernel
theorem dX6_sheet_0 : decode cX6_sheet 0 = .ok (.iload_n 1, 1) := by decide +kernel
theorem dX6_sheet_1 : decode cX6_sheet 1 = .ok (.invokestatic 244, 3) := by decide +kernel
theorem dX6_sheet_4 : decode cX6_sheet 4 = .ok (.ifCond .eq 25, 3) := by decide +kernel
theorem dX6_sheet_7 : decode cX6_sheet 7 = .ok (.iload_n 2, 1) := by decide +kernel
theorem dX6_sheet_8 : decode cX6_sheet 8 = .ok (.ifCond .eq 28, 3) := by decide +kernel
theorem dX6_sheet_11 : decode cX6_sheet 11 = .ok (.iload_n 2, 1) := by decide +kernel
theorem dX6_sheet_12 : decode cX6_sheet 12 = .ok (.bipush 8, 2) := by decide +kernel
theorem dX6_sheet_14 : decode cX6_sheet 14 = .ok (.if_icmp .eq 22, 3) := by decide +kernel
theorem dX6_sheet_17 : decode cX6_sheet 17 = .ok (.iload_n 2, 1) := by decide +kernel
theorem dX6_sheet_18 : decode cX6_sheet 18 = .ok (.bipush 16, 2) := by decide +kernel
theorem dX6_sheet_20 : decode cX6_sheet 20 = .ok (.if_icmp .eq 16, 3) := by decide +kernel
theorem dX6_sheet_23 : decode cX6_sheet 23 = .ok (.iload_n 2, 1) := by decide +kernel
theorem dX6_sheet_24 : decode cX6_sheet 24 = .ok (.bipush 64, 2) := by decide +kernel
theorem dX6_sheet_26 : decode cX6_sheet 26 = .ok (.if_icmp .eq 10, 3) := by decide +kernel
theorem dX6_sheet_29 : decode cX6_sheet 29 = .ok (.aload_n 0, 1) := by decide +kernel
theorem dX6_sheet_30 : decode cX6_sheet 30 = .ok (.ldc 44, 2) := by decide +kernel
theorem dX6_sheet_32 : decode cX6_sheet 32 = .ok (.invokevirtual 64, 3) := by decide +kernel
theorem dX6_sheet_35 : decode cX6_sheet 35 = .ok (.ireturn, 1) := by decide +kernel
theorem dX6_sheet_36 : decode cX6_sheet 36 = .ok (.iload_n 3, 1) := by decide +kernel
theorem dX6_sheet_37 : decode cX6_sheet 37 = .ok (.ifCond .ge 10, 3) := by decide +kernel
theorem dX6_sheet_40 : decode cX6_sheet 40 = .ok (.aload_n 0, 1) := by decide +kernel
theorem dX6_sheet_41 : decode cX6_sheet 41 = .ok (.ldc 247, 2) := by decide +kernel
theorem dX6_sheet_43 : decode cX6_sheet 43 = .ok (.invokevirtual 64, 3) := by decide +kernel
theorem dX6_sheet_46 : decode cX6_sheet 46 = .ok (.ireturn, 1) := by decide +kernel
theorem dX6_sheet_47 : decode cX6_sheet 47 = .ok (.iload_n 3, 1) := by decide +kernel
theorem dX6_sheet_48 : decode cX6_sheet 48 = .ok (.bipush 40, 2) := by decide +kernel
theorem dX6_sheet_50 : decode cX6_sheet 50 = .ok (.if_icmp .le 10, 3) := by decide +kernel
theorem dX6_sheet_53 : decode cX6_sheet 53 = .ok (.aload_n 0, 1) := by decide +kernel
theorem dX6_sheet_54 : decode cX6_sheet 54 = .ok (.ldc 44, 2) := by decide +kernel
theorem dX6_sheet_56 : decode cX6_sheet 56 = .ok (.invokevirtual 64, 3) := by decide +kernel
theorem dX6_sheet_59 : decode cX6_sheet 59 = .ok (.ireturn, 1) := by decide +kernel
theorem dX6_sheet_60 : decode cX6_sheet 60 = .ok (.aload_n 0, 1) := by decide +kernel
theorem dX6_sheet_61 : decode cX6_sheet 61 = .ok (.getfield 25, 3) := by decide +kernel
theorem dX6_sheet_64 : decode cX6_sheet 64 = .ok (.iload_n 1, 1) := by decide +kernel
theorem dX6_sheet_65 : decode cX6_sheet 65 = .ok (.iload_n 2, 1) := by decide +kernel
theorem dX6_sheet_66 : decode cX6_sheet 66 = .ok (.iastore, 1) := by decide +kernel
theorem dX6_sheet_67 : decode cX6_sheet 67 = .ok (.aload_n 0, 1) := by decide +kernel
theorem dX6_sheet_68 : decode cX6_sheet 68 = .ok (.getfield 28, 3) := by decide +kernel
theorem dX6_sheet_71 : decode cX6_sheet 71 = .ok (.iload_n 1, 1) := by decide +kernel
theorem dX6_sheet_72 : decode cX6_sheet 72 = .ok (.iload_n 2, 1) := by decide +kernel
theorem dX6_sheet_73 : decode cX6_sheet 73 = .ok (.ifCond .ne 7, 3) := by decide +kernel
theorem dX6_sheet_76 : decode cX6_sheet 76 = .ok (.iconst 0, 1) := by decide +kernel
theorem dX6_sheet_77 : decode cX6_sheet 77 = .ok (.goto 4, 3) := by decide +kernel
theorem dX6_sheet_80 : decode cX6_sheet 80 = .ok (.iload_n 3, 1) := by decide +kernel
theorem dX6_sheet_81 : decode cX6_sheet 81 = .ok (.iastore, 1) := by decide +kernel
theorem dX6_sheet_82 : decode cX6_sheet 82 = .ok (.iconst 0, 1) := by decide +kernel
theorem dX6_sheet_83 : decode cX6_sheet 83 = .ok (.istore 4, 2) := by decide +kernel
theorem dX6_sheet_85 : decode cX6_sheet 85 = .ok (.iload 4, 2) := by decide +kernel
theorem dX6_sheet_87 : decode cX6_sheet 87 = .ok (.bipush 40, 2) := by decide +kernel
theorem dX6_sheet_89 : decode cX6_sheet 89 = .ok (.if_icmp .ge 22, 3) := by decide +kernel
theorem dX6_sheet_92 : decode cX6_sheet 92 = .ok (.aload_n 0, 1) := by decide +kernel
theorem dX6_sheet_93 : decode cX6_sheet 93 = .ok (.getfield 31, 3) := by decide +kernel
theorem dX6_sheet_96 : decode cX6_sheet 96 = .ok (.bipush 40, 2) := by decide +kernel
theorem dX6_sheet_98 : decode cX6_sheet 98 = .ok (.iload_n 1, 1) := by decide +kernel
theorem dX6_sheet_99 : decode cX6_sheet 99 = .ok (.imul, 1) := by decide +kernel
theorem dX6_sheet_100 : decode cX6_sheet 100 = .ok (.iload 4, 2) := by decide +kernel
theorem dX6_sheet_102 : decode cX6_sheet 102 = .ok (.iadd, 1) := by decide +kernel
theorem dX6_sheet_103 : decode cX6_sheet 103 = .ok (.lconst 0, 1) := by decide +kernel
theorem dX6_sheet_104 : decode cX6_sheet 104 = .ok (.lastore, 1) := by decide +kernel
theorem dX6_sheet_105 : decode cX6_sheet 105 = .ok (.iinc 4 1, 3) := by decide +kernel
theorem dX6_sheet_108 : decode cX6_sheet 108 = .ok (.goto (-23), 3) := by decide +kernel
theorem dX6_sheet_111 : decode cX6_sheet 111 = .ok (.aload_n 0, 1) := by decide +kernel
theorem dX6_sheet_112 : decode cX6_sheet 112 = .ok (.getfield 28, 3) := by decide +kernel
theorem dX6_sheet_115 : decode cX6_sheet 115 = .ok (.iload_n 1, 1) := by decide +kernel
theorem dX6_sheet_116 : decode cX6_sheet 116 = .ok (.iaload, 1) := by decide +kernel
theorem dX6_sheet_117 : decode cX6_sheet 117 = .ok (.ireturn, 1) := by decide +kernel
theorem dX6_write_0 : decode cX6_write 0 = .ok (.iload_n 1, 1) := by decide +kernel
theorem dX6_write_1 : decode cX6_write 1 = .ok (.invokestatic 244, 3) := by decide +kernel
theorem dX6_write_4 : decode cX6_write 4 = .ok (.ifCond .ne 11, 3) := by decide +kernel
theorem dX6_write_7 : decode cX6_write 7 = .ok (.aload_n 0, 1) := by decide +kernel
theorem dX6_write_8 : decode cX6_write 8 = .ok (.ldc 44, 2) := by decide +kernel
theorem dX6_write_10 : decode cX6_write 10 = .ok (.invokevirtual 64, 3) := by decide +kernel
theorem dX6_write_13 : decode cX6_write 13 = .ok (.i2l, 1) := by decide +kernel
theorem dX6_write_14 : decode cX6_write 14 = .ok (.lreturn, 1) := by decide +kernel
theorem dX6_write_15 : decode cX6_write 15 = .ok (.aload_n 0, 1) := by decide +kernel
theorem dX6_write_16 : decode cX6_write 16 = .ok (.getfield 25, 3) := by decide +kernel
theorem dX6_write_19 : decode cX6_write 19 = .ok (.iload_n 1, 1) := by decide +kernel
theorem dX6_write_20 : decode cX6_write 20 = .ok (.iaload, 1) := by decide +kernel
theorem dX6_write_21 : decode cX6_write 21 = .ok (.ifCond .ne 11, 3) := by decide +kernel
theorem dX6_write_24 : decode cX6_write 24 = .ok (.aload_n 0, 1) := by decide +kernel
theorem dX6_write_25 : decode cX6_write 25 = .ok (.ldc 248, 2) := by decide +kernel
theorem dX6_write_27 : decode cX6_write 27 = .ok (.invokevirtual 64, 3) := by decide +kernel
theorem dX6_write_30 : decode cX6_write 30 = .ok (.i2l, 1) := by decide +kernel
theorem dX6_write_31 : decode cX6_write 31 = .ok (.lreturn, 1) := by decide +kernel
theorem dX6_write_32 : decode cX6_write 32 = .ok (.iload_n 2, 1) := by decide +kernel
theorem dX6_write_33 : decode cX6_write 33 = .ok (.iconst 0, 1) := by decide +kernel
theorem dX6_write_34 : decode cX6_write 34 = .ok (.aload_n 0, 1) := by decide +kernel
theorem dX6_write_35 : decode cX6_write 35 = .ok (.getfield 28, 3) := by decide +kernel
theorem dX6_write_38 : decode cX6_write 38 = .ok (.iload_n 1, 1) := by decide +kernel
theorem dX6_write_39 : decode cX6_write 39 = .ok (.iaload, 1) := by decide +kernel
theorem dX6_write_40 : decode cX6_write 40 = .ok (.iconst 1, 1) := by decide +kernel
theorem dX6_write_41 : decode cX6_write 41 = .ok (.isub, 1) := by decide +kernel
theorem dX6_write_42 : decode cX6_write 42 = .ok (.invokestatic 57, 3) := by decide +kernel
theorem dX6_write_45 : decode cX6_write 45 = .ok (.ifCond .ne 11, 3) := by decide +kernel
theorem dX6_write_48 : decode cX6_write 48 = .ok (.aload_n 0, 1) := by decide +kernel
theorem dX6_write_49 : decode cX6_write 49 = .ok (.ldc 44, 2) := by decide +kernel
theorem dX6_write_51 : decode cX6_write 51 = .ok (.invokevirtual 64, 3) := by decide +kernel
theorem dX6_write_54 : decode cX6_write 54 = .ok (.i2l, 1) := by decide +kernel
theorem dX6_write_55 : decode cX6_write 55 = .ok (.lreturn, 1) := by decide +kernel
theorem dX6_write_56 : decode cX6_write 56 = .ok (.aload_n 0, 1) := by decide +kernel
theorem dX6_write_57 : decode cX6_write 57 = .ok (.getfield 31, 3) := by decide +kernel
theorem dX6_write_60 : decode cX6_write 60 = .ok (.bipush 40, 2) := by decide +kernel
theorem dX6_write_62 : decode cX6_write 62 = .ok (.iload_n 1, 1) := by decide +kernel
theorem dX6_write_63 : decode cX6_write 63 = .ok (.imul, 1) := by decide +kernel
theorem dX6_write_64 : decode cX6_write 64 = .ok (.iload_n 2, 1) := by decide +kernel
theorem dX6_write_65 : decode cX6_write 65 = .ok (.iadd, 1) := by decide +kernel
theorem dX6_write_66 : decode cX6_write 66 = .ok (.laload, 1) := by decide +kernel
theorem dX6_write_67 : decode cX6_write 67 = .ok (.lstore 5, 2) := by decide +kernel
theorem dX6_write_69 : decode cX6_write 69 = .ok (.aload_n 0, 1) := by decide +kernel
theorem dX6_write_70 : decode cX6_write 70 = .ok (.getfield 31, 3) := by decide +kernel
theorem dX6_write_73 : decode cX6_write 73 = .ok (.bipush 40, 2) := by decide +kernel
theorem dX6_write_75 : decode cX6_write 75 = .ok (.iload_n 1, 1) := by decide +kernel
theorem dX6_write_76 : decode cX6_write 76 = .ok (.imul, 1) := by decide +kernel
theorem dX6_write_77 : decode cX6_write 77 = .ok (.iload_n 2, 1) := by decide +kernel
theorem dX6_write_78 : decode cX6_write 78 = .ok (.iadd, 1) := by decide +kernel
theorem dX6_write_79 : decode cX6_write 79 = .ok (.aload_n 0, 1) := by decide +kernel
theorem dX6_write_80 : decode cX6_write 80 = .ok (.getfield 25, 3) := by decide +kernel
theorem dX6_write_83 : decode cX6_write 83 = .ok (.iload_n 1, 1) := by decide +kernel
theorem dX6_write_84 : decode cX6_write 84 = .ok (.iaload, 1) := by decide +kernel
theorem dX6_write_85 : decode cX6_write 85 = .ok (.lload_n 3, 1) := by decide +kernel
theorem dX6_write_86 : decode cX6_write 86 = .ok (.invokestatic 249, 3) := by decide +kernel
theorem dX6_write_89 : decode cX6_write 89 = .ok (.lastore, 1) := by decide +kernel
theorem dX6_write_90 : decode cX6_write 90 = .ok (.lload 5, 2) := by decide +kernel
theorem dX6_write_92 : decode cX6_write 92 = .ok (.lreturn, 1) := by decide +kernel
theorem dX6_isPart__0 : decode cX6_isPart_ 0 = .ok (.iload_n 2, 1) := by decide +kernel
theorem dX6_isPart__1 : decode cX6_isPart_ 1 = .ok (.ifCond .lt 33, 3) := by decide +kernel
theorem dX6_isPart__4 : decode cX6_isPart_ 4 = .ok (.iload_n 3, 1) := by decide +kernel
theorem dX6_isPart__5 : decode cX6_isPart_ 5 = .ok (.ifCond .lt 29, 3) := by decide +kernel
theorem dX6_isPart__8 : decode cX6_isPart_ 8 = .ok (.iload_n 3, 1) := by decide +kernel
theorem dX6_isPart__9 : decode cX6_isPart_ 9 = .ok (.aload_n 0, 1) := by decide +kernel
theorem dX6_isPart__10 : decode cX6_isPart_ 10 = .ok (.getfield 28, 3) := by decide +kernel
theorem dX6_isPart__13 : decode cX6_isPart_ 13 = .ok (.iload_n 1, 1) := by decide +kernel
theorem dX6_isPart__14 : decode cX6_isPart_ 14 = .ok (.iaload, 1) := by decide +kernel
theorem dX6_isPart__15 : decode cX6_isPart_ 15 = .ok (.if_icmp .gt 19, 3) := by decide +kernel
theorem dX6_isPart__18 : decode cX6_isPart_ 18 = .ok (.iload_n 2, 1) := by decide +kernel
theorem dX6_isPart__19 : decode cX6_isPart_ 19 = .ok (.aload_n 0, 1) := by decide +kernel
theorem dX6_isPart__20 : decode cX6_isPart_ 20 = .ok (.getfield 28, 3) := by decide +kernel
theorem dX6_isPart__23 : decode cX6_isPart_ 23 = .ok (.iload_n 1, 1) := by decide +kernel
theorem dX6_isPart__24 : decode cX6_isPart_ 24 = .ok (.iaload, 1) := by decide +kernel
theorem dX6_isPart__25 : decode cX6_isPart_ 25 = .ok (.iload_n 3, 1) := by decide +kernel
theorem dX6_isPart__26 : decode cX6_isPart_ 26 = .ok (.isub, 1) := by decide +kernel
theorem dX6_isPart__27 : decode cX6_isPart_ 27 = .ok (.if_icmp .gt 7, 3) := by decide +kernel
theorem dX6_isPart__30 : decode cX6_isPart_ 30 = .ok (.iconst 1, 1) := by decide +kernel
theorem dX6_isPart__31 : decode cX6_isPart_ 31 = .ok (.goto 4, 3) := by decide +kernel
theorem dX6_isPart__34 : decode cX6_isPart_ 34 = .ok (.iconst 0, 1) := by decide +kernel
theorem dX6_isPart__35 : decode cX6_isPart_ 35 = .ok (.ireturn, 1) := by decide +kernel
theorem dX6_copy_0 : decode cX6_copy 0 = .ok (.iload_n 1, 1) := by decide +kernel
theorem dX6_copy_1 : decode cX6_copy 1 = .ok (.invokestatic 244, 3) := by decide +kernel
theorem dX6_copy_4 : decode cX6_copy 4 = .ok (.ifCond .eq 10, 3) := by decide +kernel
theorem dX6_copy_7 : decode cX6_copy 7 = .ok (.iload_n 3, 1) := by decide +kernel
theorem dX6_copy_8 : decode cX6_copy 8 = .ok (.invokestatic 244, 3) := by decide +kernel
theorem dX6_copy_11 : decode cX6_copy 11 = .ok (.ifCond .ne 10, 3) := by decide +kernel
theorem dX6_copy_14 : decode cX6_copy 14 = .ok (.aload_n 0, 1) := by decide +kernel
theorem dX6_copy_15 : decode cX6_copy 15 = .ok (.ldc 44, 2) := by decide +kernel
theorem dX6_copy_17 : decode cX6_copy 17 = .ok (.invokevirtual 64, 3) := by decide +kernel
theorem dX6_copy_20 : decode cX6_copy 20 = .ok (.ireturn, 1) := by decide +kernel
theorem dX6_copy_21 : decode cX6_copy 21 = .ok (.aload_n 0, 1) := by decide +kernel
theorem dX6_copy_22 : decode cX6_copy 22 = .ok (.getfield 25, 3) := by decide +kernel
theorem dX6_copy_25 : decode cX6_copy 25 = .ok (.iload_n 1, 1) := by decide +kernel
theorem dX6_copy_26 : decode cX6_copy 26 = .ok (.iaload, 1) := by decide +kernel
theorem dX6_copy_27 : decode cX6_copy 27 = .ok (.ifCond .eq 12, 3) := by decide +kernel
theorem dX6_copy_30 : decode cX6_copy 30 = .ok (.aload_n 0, 1) := by decide +kernel
theorem dX6_copy_31 : decode cX6_copy 31 = .ok (.getfield 25, 3) := by decide +kernel
theorem dX6_copy_34 : decode cX6_copy 34 = .ok (.iload_n 3, 1) := by decide +kernel
theorem dX6_copy_35 : decode cX6_copy 35 = .ok (.iaload, 1) := by decide +kernel
theorem dX6_copy_36 : decode cX6_copy 36 = .ok (.ifCond .ne 10, 3) := by decide +kernel
theorem dX6_copy_39 : decode cX6_copy 39 = .ok (.aload_n 0, 1) := by decide +kernel
theorem dX6_copy_40 : decode cX6_copy 40 = .ok (.ldc 248, 2) := by decide +kernel
theorem dX6_copy_42 : decode cX6_copy 42 = .ok (.invokevirtual 64, 3) := by decide +kernel
theorem dX6_copy_45 : decode cX6_copy 45 = .ok (.ireturn, 1) := by decide +kernel
theorem dX6_copy_46 : decode cX6_copy 46 = .ok (.aload_n 0, 1) := by decide +kernel
theorem dX6_copy_47 : decode cX6_copy 47 = .ok (.getfield 25, 3) := by decide +kernel
theorem dX6_copy_50 : decode cX6_copy 50 = .ok (.iload_n 1, 1) := by decide +kernel
theorem dX6_copy_51 : decode cX6_copy 51 = .ok (.iaload, 1) := by decide +kernel
theorem dX6_copy_52 : decode cX6_copy 52 = .ok (.aload_n 0, 1) := by decide +kernel
theorem dX6_copy_53 : decode cX6_copy 53 = .ok (.getfield 25, 3) := by decide +kernel
theorem dX6_copy_56 : decode cX6_copy 56 = .ok (.iload_n 3, 1) := by decide +kernel
theorem dX6_copy_57 : decode cX6_copy 57 = .ok (.iaload, 1) := by decide +kernel
