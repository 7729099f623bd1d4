theorem dX0_init_0 : decode cX0_init 0 = .ok (.aload_n 0, 1) := by decide +kernel
theorem dX0_init_1 : decode cX0_init 1 = .ok (.invokespecial 1, 3) := by decide +kernel
theorem dX0_init_4 : decode cX0_init 4 = .ok (.aload_n 0, 1) := by decide +kernel
theorem dX0_init_5 : decode cX0_init 5 = .ok (.iconst 0, 1) := by decide +kernel
theorem dX0_init_6 : decode cX0_init 6 = .ok (.putfield 7, 3) := by decide +kernel
theorem dX0_init_9 : decode cX0_init 9 = .ok (.aload_n 0, 1) := by decide +kernel
theorem dX0_init_10 : decode cX0_init 10 = .ok (.iconst 1, 1) := by decide +kernel
theorem dX0_init_11 : decode cX0_init 11 = .ok (.putfield 13, 3) := by decide +kernel
theorem dX0_init_14 : decode cX0_init 14 = .ok (.aload_n 0, 1) := by decide +kernel
theorem dX0_init_15 : decode cX0_init 15 = .ok (.iconst 0, 1) := by decide +kernel
theorem dX0_init_16 : decode cX0_init 16 = .ok (.putfield 16, 3) := by decide +kernel
theorem dX0_init_19 : decode cX0_init 19 = .ok (.aload_n 0, 1) := by decide +kernel
theorem dX0_init_20 : decode cX0_init 20 = .ok (.bipush 8, 2) := by decide +kernel
theorem dX0_init_22 : decode cX0_init 22 = .ok (.newarray .int, 2) := by decide +kernel
theorem dX0_init_24 : decode cX0_init 24 = .ok (.putfield 19, 3) := by decide +kernel
theorem dX0_init_27 : decode cX0_init 27 = .ok (.aload_n 0, 1) := by decide +kernel
theorem dX0_init_28 : decode cX0_init 28 = .ok (.bipush 8, 2) := by decide +kernel
theorem dX0_init_30 : decode cX0_init 30 = .ok (.newarray .int, 2) := by decide +kernel
theorem dX0_init_32 : decode cX0_init 32 = .ok (.putfield 23, 3) := by decide +kernel
theorem dX0_init_35 : decode cX0_init 35 = .ok (.aload_n 0, 1) := by decide +kernel
theorem dX0_init_36 : decode cX0_init 36 = .ok (.bipush 8, 2) := by decide +kernel
theorem dX0_init_38 : decode cX0_init 38 = .ok (.newarray .int, 2) := by decide +kernel
theorem dX0_init_40 : decode cX0_init 40 = .ok (.putfield 26, 3) := by decide +kernel
theorem dX0_init_43 : decode cX0_init 43 = .ok (.aload_n 0, 1) := by decide +kernel
theorem dX0_init_44 : decode cX0_init 44 = .ok (.bipush 8, 2) := by decide +kernel
theorem dX0_init_46 : decode cX0_init 46 = .ok (.newarray .int, 2) := by decide +kernel
theorem dX0_init_48 : decode cX0_init 48 = .ok (.putfield 29, 3) := by decide +kernel
theorem dX0_init_51 : decode cX0_init 51 = .ok (.aload_n 0, 1) := by decide +kernel
theorem dX0_init_52 : decode cX0_init 52 = .ok (.bipush 8, 2) := by decide +kernel
theorem dX0_init_54 : decode cX0_init 54 = .ok (.newarray .int, 2) := by decide +kernel
theorem dX0_init_56 : decode cX0_init 56 = .ok (.putfield 32, 3) := by decide +kernel
theorem dX0_init_59 : decode cX0_init 59 = .ok (.aload_n 0, 1) := by decide +kernel
theorem dX0_init_60 : decode cX0_init 60 = .ok (.bipush 8, 2) := by decide +kernel
theorem dX0_init_62 : decode cX0_init 62 = .ok (.newarray .int, 2) := by decide +kernel
theorem dX0_init_64 : decode cX0_init 64 = .ok (.putfield 35, 3) := by decide +kernel
theorem dX0_init_67 : decode cX0_init 67 = .ok (.aload_n 0, 1) := by decide +kernel
theorem dX0_init_68 : decode cX0_init 68 = .ok (.bipush 8, 2) := by decide +kernel
theorem dX0_init_70 : decode cX0_init 70 = .ok (.newarray .int, 2) := by decide +kernel
theorem dX0_init_72 : decode cX0_init 72 = .ok (.putfield 38, 3) := by decide +kernel
theorem dX0_init_75 : decode cX0_init 75 = .ok (.return_, 1) := by decide +kernel
theorem dX0_most_0 : decode cX0_most 0 = .ok (.iload_n 0, 1) := by decide +kernel
theorem dX0_most_1 : decode cX0_most 1 = .ok (.tableswitch 45 0 4 #[35, 37, 43, 40, 43], 35) := by decide +kernel
theorem dX0_most_36 : decode cX0_most 36 = .ok (.iconst 5, 1) := by decide +kernel
theorem dX0_most_37 : decode cX0_most 37 = .ok (.ireturn, 1) := by decide +kernel
theorem dX0_most_38 : decode cX0_most 38 = .ok (.bipush 99, 2) := by decide +kernel
theorem dX0_most_40 : decode cX0_most 40 = .ok (.ireturn, 1) := by decide +kernel
theorem dX0_most_41 : decode cX0_most 41 = .ok (.bipush 9, 2) := by decide +kernel
theorem dX0_most_43 : decode cX0_most 43 = .ok (.ireturn, 1) := by decide +kernel
theorem dX0_most_44 : decode cX0_most 44 = .ok (.iconst 1, 1) := by decide +kernel
theorem dX0_most_45 : decode cX0_most 45 = .ok (.ireturn, 1) := by decide +kernel
theorem dX0_most_46 : decode cX0_most 46 = .ok (.sipush 999, 3) := by decide +kernel
theorem dX0_most_49 : decode cX0_most 49 = .ok (.ireturn, 1) := by decide +kernel
theorem dX0_row_0 : decode cX0_row 0 = .ok (.iload_n 1, 1) := by decide +kernel
theorem dX0_row_1 : decode cX0_row 1 = .ok (.tableswitch 69 0 5 #[39, 44, 49, 54, 59, 64], 39) := by decide +kernel
theorem dX0_row_40 : decode cX0_row 40 = .ok (.aload_n 0, 1) := by decide +kernel
theorem dX0_row_41 : decode cX0_row 41 = .ok (.getfield 19, 3) := by decide +kernel
theorem dX0_row_44 : decode cX0_row 44 = .ok (.areturn, 1) := by decide +kernel
theorem dX0_row_45 : decode cX0_row 45 = .ok (.aload_n 0, 1) := by decide +kernel
theorem dX0_row_46 : decode cX0_row 46 = .ok (.getfield 23, 3) := by decide +kernel
theorem dX0_row_49 : decode cX0_row 49 = .ok (.areturn, 1) := by decide +kernel
theorem dX0_row_50 : decode cX0_row 50 = .ok (.aload_n 0, 1) := by decide +kernel
theorem dX0_row_51 : decode cX0_row 51 = .ok (.getfield 26, 3) := by decide +kernel
theorem dX0_row_54 : decode cX0_row 54 = .ok (.areturn, 1) := by decide +kernel
theorem dX0_row_55 : decode cX0_row 55 = .ok (.aload_n 0, 1) := by decide +kernel
theorem dX0_row_56 : decode cX0_row 56 = .ok (.getfield 29, 3) := by decide +kernel
theorem dX0_row_59 : decode cX0_row 59 = .ok (.areturn, 1) := by decide +kernel
theorem dX0_row_60 : decode cX0_row 60 = .ok (.aload_n 0, 1) := by decide +kernel
theorem dX0_row_61 : decode cX0_row 61 = .ok (.getfield 32, 3) := by decide +kernel
theorem dX0_row_64 : decode cX0_row 64 = .ok (.areturn, 1) := by decide +kernel
theorem dX0_row_65 : decode cX0_row 65 = .ok (.aload_n 0, 1) := by decide +kernel
theorem dX0_row_66 : decode cX0_row 66 = .ok (.getfield 35, 3) := by decide +kernel
theorem dX0_row_69 : decode cX0_row 69 = .ok (.areturn, 1) := by decide +kernel
theorem dX0_row_70 : decode cX0_row 70 = .ok (.aload_n 0, 1) := by decide +kernel
theorem dX0_row_71 : decode cX0_row 71 = .ok (.getfield 38, 3) := by decide +kernel
theorem dX0_row_74 : decode cX0_row 74 = .ok (.areturn, 1) := by decide +kernel
theorem dX0_put_0 : decode cX0_put 0 = .ok (.aload_n 0, 1) := by decide +kernel
theorem dX0_put_1 : decode cX0_put 1 = .ok (.iload_n 2, 1) := by decide +kernel
theorem dX0_put_2 : decode cX0_put 2 = .ok (.invokevirtual 43, 3) := by decide +kernel
theorem dX0_put_5 : decode cX0_put 5 = .ok (.astore 4, 2) := by decide +kernel
theorem dX0_put_7 : decode cX0_put 7 = .ok (.aload 4, 2) := by decide +kernel
theorem dX0_put_9 : decode cX0_put 9 = .ok (.iload_n 1, 1) := by decide +kernel
theorem dX0_put_10 : decode cX0_put 10 = .ok (.iaload, 1) := by decide +kernel
theorem dX0_put_11 : decode cX0_put 11 = .ok (.istore 5, 2) := by decide +kernel
theorem dX0_put_13 : decode cX0_put 13 = .ok (.aload 4, 2) := by decide +kernel
theorem dX0_put_15 : decode cX0_put 15 = .ok (.iload_n 1, 1) := by decide +kernel
theorem dX0_put_16 : decode cX0_put 16 = .ok (.iload_n 3, 1) := by decide +kernel
theorem dX0_put_17 : decode cX0_put 17 = .ok (.iastore, 1) := by decide +kernel
theorem dX0_put_18 : decode cX0_put 18 = .ok (.iload 5, 2) := by decide +kernel
theorem dX0_put_20 : decode cX0_put 20 = .ok (.ireturn, 1) := by decide +kernel
theorem dX0_copyFrom_0 : decode cX0_copyFrom 0 = .ok (.aload_n 0, 1) := by decide +kernel
theorem dX0_copyFrom_1 : decode cX0_copyFrom 1 = .ok (.aload_n 1, 1) := by decide +kernel
theorem dX0_copyFrom_2 : decode cX0_copyFrom 2 = .ok (.getfield 7, 3) := by decide +kernel
theorem dX0_copyFrom_5 : decode cX0_copyFrom 5 = .ok (.putfield 7, 3) := by decide +kernel
theorem dX0_copyFrom_8 : decode cX0_copyFrom 8 = .ok (.aload_n 0, 1) := by decide +kernel
theorem dX0_copyFrom_9 : decode cX0_copyFrom 9 = .ok (.aload_n 1, 1) := by decide +kernel
theorem dX0_copyFrom_10 : decode cX0_copyFrom 10 = .ok (.getfield 13, 3) := by decide +kernel
theorem dX0_copyFrom_13 : decode cX0_copyFrom 13 = .ok (.putfield 13, 3) := by decide +kernel
theorem dX0_copyFrom_16 : decode cX0_copyFrom 16 = .ok (.aload_n 0, 1) := by decide +kernel
theorem dX0_copyFrom_17 : decode cX0_copyFrom 17 = .ok (.aload_n 1, 1) := by decide +kernel
theorem dX0_copyFrom_18 : decode cX0_copyFrom 18 = .ok (.getfield 16, 3) := by decide +kernel
theorem dX0_copyFrom_21 : decode cX0_copyFrom 21 = .ok (.putfield 16, 3) := by decide +kernel
theorem dX0_copyFrom_24 : decode cX0_copyFrom 24 = .ok (.iconst 0, 1) := by decide +kernel
theorem dX0_copyFrom_25 : decode cX0_copyFrom 25 = .ok (.istore_n 2, 1) := by decide +kernel
theorem dX0_copyFrom_26 : decode cX0_copyFrom 26 = .ok (.iload_n 2, 1) := by decide +kernel
theorem dX0_copyFrom_27 : decode cX0_copyFrom 27 = .ok (.bipush 6, 2) := by decide +kernel
theorem dX0_copyFrom_29 : decode cX0_copyFrom 29 = .ok (.if_icmp .gt 26, 3) := by decide +kernel
theorem dX0_copyFrom_32 : decode cX0_copyFrom 32 = .ok (.aload_n 1, 1) := by decide +kernel
theorem dX0_copyFrom_33 : decode cX0_copyFrom 33 = .ok (.iload_n 2, 1) := by decide +kernel
theorem dX0_copyFrom_34 : decode cX0_copyFrom 34 = .ok (.invokevirtual 43, 3) := by decide +kernel
theorem dX0_copyFrom_37 : decode cX0_copyFrom 37 = .ok (.iconst 0, 1) := by decide +kernel
theorem dX0_copyFrom_38 : decode cX0_copyFrom 38 = .ok (.aload_n 0, 1) := by decide +kernel
theorem dX0_copyFrom_39 : decode cX0_copyFrom 39 = .ok (.iload_n 2, 1) := by decide +kernel
theorem dX0_copyFrom_40 : decode cX0_copyFrom 40 = .ok (.invokevirtual 43, 3) := by decide +kernel
theorem dX0_copyFrom_43 : decode cX0_copyFrom 43 = .ok (.iconst 0, 1) := by decide +kernel
theorem dX0_copyFrom_44 : decode cX0_copyFrom 44 = .ok (.bipush 8, 2) := by decide +kernel
theorem dX0_copyFrom_46 : decode cX0_copyFrom 46 = .ok (.invokestatic 47, 3) := by decide +kernel
theorem dX0_copyFrom_49 : decode cX0_copyFrom 49 = .ok (.iinc 2 1, 3) := by decide +kernel
theorem dX0_copyFrom_52 : decode cX0_copyFrom 52 = .ok (.goto (-26), 3) := by decide +kernel
theorem dX0_copyFrom_55 : decode cX0_copyFrom 55 = .ok (.return_, 1) := by decide +kernel
theorem dX0_isFull_0 : decode cX0_isFull 0 = .ok (.aload_n 0, 1) := by decide +kernel
theorem dX0_isFull_1 : decode cX0_isFull 1 = .ok (.getfield 16, 3) := by decide +kernel
theorem dX0_isFull_4 : decode cX0_isFull 4 = .ok (.bipush 8, 2) := by decide +kernel
theorem dX0_isFull_6 : decode cX0_isFull 6 = .ok (.if_icmp .lt 7, 3) := by decide +kernel
theorem dX0_isFull_9 : decode cX0_isFull 9 = .ok (.iconst 1, 1) := by decide +kernel
theorem dX0_isFull_10 : decode cX0_isFull 10 = .ok (.goto 4, 3) := by decide +kernel
theorem dX0_isFull_13 : decode cX0_isFull 13 = .ok (.iconst 0, 1) := by decide +kernel
theorem dX0_isFull_14 : decode cX0_isFull 14 = .ok (.ireturn, 1) := by decide +kernel
theorem dX0_add_0 : decode cX0_add 0 = .ok (.aload_n 0, 1) := by decide +kernel
theorem dX0_add_1 : decode cX0_add 1 = .ok (.getfield 16, 3) := by decide +kernel
theorem dX0_add_4 : decode cX0_add 4 = .ok (.istore_n 3, 1) := by decide +kernel
theorem dX0_add_5 : decode cX0_add 5 = .ok (.aload_n 0, 1) := by decide +kernel
theorem dX0_add_6 : decode cX0_add 6 = .ok (.getfield 19, 3) := by decide +kernel
theorem dX0_add_9 : decode cX0_add 9 = .ok (.iload_n 3, 1) := by decide +kernel
theorem dX0_add_10 : decode cX0_add 10 = .ok (.iload_n 1, 1) := by decide +kernel
theorem dX0_add_11 : decode cX0_add 11 = .ok (.iastore, 1) := by decide +kernel
theorem dX0_add_12 : decode cX0_add 12 = .ok (.aload_n 0, 1) := by decide +kernel
theorem dX0_add_13 : decode cX0_add 13 = .ok (.getfield 23, 3) := by decide +kernel
theorem dX0_add_16 : decode cX0_add 16 = .ok (.iload_n 3, 1) := by decide +kernel
theorem dX0_add_17 : decode cX0_add 17 = .ok (.iload_n 2, 1) := by decide +kernel
theorem dX0_add_18 : decode cX0_add 18 = .ok (.iastore, 1) := by decide +kernel
theorem dX0_add_19 : decode cX0_add 19 = .ok (.aload_n 0, 1) := by decide +kernel
theorem dX0_add_20 : decode cX0_add 20 = .ok (.getfield 26, 3) := by decide +kernel
theorem dX0_add_23 : decode cX0_add 23 = .ok (.iload_n 3, 1) := by decide +kernel
theorem dX0_add_24 : decode cX0_add 24 = .ok (.iconst 1, 1) := by decide +kernel
theorem dX0_add_25 : decode cX0_add 25 = .ok (.iastore, 1) := by decide +kernel
theorem dX0_add_26 : decode cX0_add 26 = .ok (.aload_n 0, 1) := by decide +kernel
theorem dX0_add_27 : decode cX0_add 27 = .ok (.getfield 29, 3) := by decide +kernel
theorem dX0_add_30 : decode cX0_add 30 = .ok (.iload_n 3, 1) := by decide +kernel
theorem dX0_add_31 : decode cX0_add 31 = .ok (.iconst 2, 1) := by decide +kernel
theorem dX0_add_32 : decode cX0_add 32 = .ok (.iastore, 1) := by decide +kernel
theorem dX0_add_33 : decode cX0_add 33 = .ok (.aload_n 0, 1) := by decide +kernel
theorem dX0_add_34 : decode cX0_add 34 = .ok (.getfield 32, 3) := by decide +kernel
theorem dX0_add_37 : decode cX0_add 37 = .ok (.iload_n 3, 1) := by decide +kernel
theorem dX0_add_38 : decode cX0_add 38 = .ok (.iconst 0, 1) := by decide +kernel
theorem dX0_add_39 : decode cX0_add 39 = .ok (.iastore, 1) := by decide +kernel
theorem dX0_add_40 : decode cX0_add 40 = .ok (.aload_n 0, 1) := by decide +kernel
theorem dX0_add_41 : decode cX0_add 41 = .ok (.getfield 35, 3) := by decide +kernel
theorem dX0_add_44 : decode cX0_add 44 = .ok (.iload_n 3, 1) := by decide +kernel
theorem dX0_add_45 : decode cX0_add 45 = .ok (.iconst 0, 1) := by decide +kernel
theorem dX0_add_46 : decode cX0_add 46 = .ok (.iastore, 1) := by decide +kernel
theorem dX0_add_47 : decode cX0_add 47 = .ok (.aload_n 0, 1) := by decide +kernel
theorem dX0_add_48 : decode cX0_add 48 = .ok (.getfield 38, 3) := by decide +kernel
theorem dX0_add_51 : decode cX0_add 51 = .ok (.iload_n 3, 1) := by decide +kernel
theorem dX0_add_52 : decode cX0_add 52 = .ok (.iconst 0, 1) := by decide +kernel
theorem dX0_add_53 : decode cX0_add 53 = .ok (.iastore, 1) := by decide +kernel
theorem dX0_add_54 : decode cX0_add 54 = .ok (.aload_n 0, 1) := by decide +kernel
theorem dX0_add_55 : decode cX0_add 55 = .ok (.dup, 1) := by decide +kernel
theorem dX0_add_56 : decode cX0_add 56 = .ok (.getfield 16, 3) := by decide +kernel
theorem dX0_add_59 : decode cX0_add 59 = .ok (.iconst 1, 1) := by decide +kernel
theorem dX0_add_60 : decode cX0_add 60 = .ok (.iadd, 1) := by decide +kernel
theorem dX0_add_61 : decode cX0_add 61 = .ok (.putfield 16, 3) := by decide +kernel
theorem dX0_add_64 : decode cX0_add 64 = .ok (.iload_n 3, 1) := by decide +kernel
theorem dX0_add_65 : decode cX0_add 65 = .ok (.ireturn, 1) := by decide +kernel
theorem dX0_sum_0 : decode cX0_sum 0 = .ok (.aload_n 0, 1) := by decide +kernel
theorem dX0_sum_1 : decode cX0_sum 1 = .ok (.iload_n 1, 1) := by decide +kernel
theorem dX0_sum_2 : decode cX0_sum 2 = .ok (.invokevirtual 43, 3) := by decide +kernel
theorem dX0_sum_5 : decode cX0_sum 5 = .ok (.astore_n 2, 1) := by decide +kernel
theorem dX0_sum_6 : decode cX0_sum 6 = .ok (.iconst 0, 1) := by decide +kernel
theorem dX0_sum_7 : decode cX0_sum 7 = .ok (.istore_n 3, 1) := by decide +kernel
theorem dX0_sum_8 : decode cX0_sum 8 = .ok (.iconst 0, 1) := by decide +kernel
theorem dX0_sum_9 : decode cX0_sum 9 = .ok (.istore 4, 2) := by decide +kernel
theorem dX0_sum_11 : decode cX0_sum 11 = .ok (.iload 4, 2) := by decide +kernel
theorem dX0_sum_13 : decode cX0_sum 13 = .ok (.aload_n 0, 1) := by decide +kernel
theorem dX0_sum_14 : decode cX0_sum 14 = .ok (.getfield 16, 3) := by decide +kernel
theorem dX0_sum_17 : decode cX0_sum 17 = .ok (.if_icmp .ge 16, 3) := by decide +kernel
theorem dX0_sum_20 : decode cX0_sum 20 = .ok (.iload_n 3, 1) := by decide +kernel
theorem dX0_sum_21 : decode cX0_sum 21 = .ok (.aload_n 2, 1) := by decide +kernel
theorem dX0_sum_22 : decode cX0_sum 22 = .ok (.iload 4, 2) := by decide +kernel
theorem dX0_sum_24 : decode cX0_sum 24 = .ok (.iaload, 1) := by decide +kernel
theorem dX0_sum_25 : decode cX0_sum 25 = .ok (.iadd, 1) := by decide +kernel
theorem dX0_sum_26 : decode cX0_sum 26 = .ok (.istore_n 3, 1) := by decide +kernel
theorem dX0_sum_27 : decode cX0_sum 27 = .ok (.iinc 4 1, 3) := by decide +kernel
theorem dX0_sum_30 : decode cX0_sum 30 = .ok (.goto (-19), 3) := by decide +kernel
theorem dX0_sum_33 : decode cX0_sum 33 = .ok (.iload_n 3, 1) := by decide +kernel
theorem dX0_sum_34 : decode cX0_sum 34 = .ok (.ireturn, 1) := by decide +kernel
theorem dX0_tramPlace_0 : decode cX0_tramPlace 0 = .ok (.iconst 4, 1) := by decide +kernel
theorem dX0_tramPlace_1 : decode cX0_tramPlace 1 = .ok (.aload_n 0, 1) := by decide +kernel
theorem dX0_tramPlace_2 : decode cX0_tramPlace 2 = .ok (.getfield 7, 3) := by decide +kernel
theorem dX0_tramPlace_5 : decode cX0_tramPlace 5 = .ok (.imul, 1) := by decide +kernel
theorem dX0_tramPlace_6 : decode cX0_tramPlace 6 = .ok (.bipush 100, 2) := by decide +kernel
theorem dX0_tramPlace_8 : decode cX0_tramPlace 8 = .ok (.irem, 1) := by decide +kernel
theorem dX0_tramPlace_9 : decode cX0_tramPlace 9 = .ok (.ireturn, 1) := by decide +kernel
theorem dX0_isThrough_0 : decode cX0_isThrough 0 = .ok (.aload_n 0, 1) := by decide +kernel
theorem dX0_isThrough_1 : decode cX0_isThrough 1 = .ok (.getfield 23, 3) := by decide +kernel
theorem dX0_isThrough_4 : decode cX0_isThrough 4 = .ok (.iload_n 1, 1) := by decide +kernel
theorem dX0_isThrough_5 : decode cX0_isThrough 5 = .ok (.iaload, 1) := by decide +kernel
theorem dX0_isThrough_6 : decode cX0_isThrough 6 = .ok (.aload_n 0, 1) := by decide +kernel
theorem dX0_isThrough_7 : decode cX0_isThrough 7 = .ok (.getfield 26, 3) := by decide +kernel
theorem dX0_isThrough_10 : decode cX0_isThrough 10 = .ok (.iload_n 1, 1) := by decide +kernel
theorem dX0_isThrough_11 : decode cX0_isThrough 11 = .ok (.iaload, 1) := by decide +kernel
theorem dX0_isThrough_12 : decode cX0_isThrough 12 = .ok (.iconst 1, 1) := by decide +kernel
theorem dX0_isThrough_13 : decode cX0_isThrough 13 = .ok (.if_icmp .ne 8, 3) := by decide +kernel
theorem dX0_isThrough_16 : decode cX0_isThrough 16 = .ok (.bipush 99, 2) := by decide +kernel
theorem dX0_isThrough_18 : decode cX0_isThrough 18 = .ok (.goto 4, 3) := by decide +kernel
theorem dX0_isThrough_21 : decode cX0_isThrough 21 = .ok (.iconst 0, 1) := by decide +kernel
theorem dX0_isThrough_22 : decode cX0_isThrough 22 = .ok (.if_icmp .ne 7, 3) := by decide +kernel
theorem dX0_isThrough_25 : decode cX0_isThrough 25 = .ok (.iconst 1, 1) := by decide +kernel
theorem dX0_isThrough_26 : decode cX0_isThrough 26 = .ok (.goto 4, 3) := by decide +kernel
theorem dX0_isThrough_29 : decode cX0_isThrough 29 = .ok (.iconst 0, 1) := by decide +kernel
theorem dX0_isThrough_30 : decode cX0_isThrough 30 = .ok (.ireturn, 1) := by decide +kernel
theorem dX0_throughSet_0 : decode cX0_throughSet 0 = .ok (.iconst 0, 1) := by decide +kernel
theorem dX0_throughSet_1 : decode cX0_throughSet 1 = .ok (.istore_n 1, 1) := by decide +kernel
theorem dX0_throughSet_2 : decode cX0_throughSet 2 = .ok (.iconst 0, 1) := by decide +kernel
theorem dX0_throughSet_3 : decode cX0_throughSet 3 = .ok (.istore_n 2, 1) := by decide +kernel
theorem dX0_throughSet_4 : decode cX0_throughSet 4 = .ok (.iload_n 2, 1) := by decide +kernel
theorem dX0_throughSet_5 : decode cX0_throughSet 5 = .ok (.aload_n 0, 1) := by decide +kernel
theorem dX0_throughSet_6 : decode cX0_throughSet 6 = .ok (.getfield 16, 3) := by decide +kernel
theorem dX0_throughSet_9 : decode cX0_throughSet 9 = .ok (.if_icmp .ge 23, 3) := by decide +kernel
theorem dX0_throughSet_12 : decode cX0_throughSet 12 = .ok (.aload_n 0, 1) := by decide +kernel
theorem dX0_throughSet_13 : decode cX0_throughSet 13 = .ok (.iload_n 2, 1) := by decide +kernel
theorem dX0_throughSet_14 : decode cX0_throughSet 14 = .ok (.invokevirtual 53, 3) := by decide +kernel
theorem dX0_throughSet_17 : decode cX0_throughSet 17 = .ok (.ifCond .eq 9, 3) := by decide +kernel
theorem dX0_throughSet_20 : decode cX0_throughSet 20 = .ok (.iload_n 1, 1) := by decide +kernel
theorem dX0_throughSet_21 : decode cX0_throughSet 21 = .ok (.iconst 1, 1) := by decide +kernel
theorem dX0_throughSet_22 : decode cX0_throughSet 22 = .ok (.iload_n 2, 1) := by decide +kernel
theorem dX0_throughSet_23 : decode cX0_throughSet 23 = .ok (.ishl, 1) := by decide +kernel
theorem dX0_throughSet_24 : decode cX0_throughSet 24 = .ok (.ior, 1) := by decide +kernel
theorem dX0_throughSet_25 : decode cX0_throughSet 25 = .ok (.istore_n 1, 1) := by decide +kernel
theorem dX0_throughSet_26 : decode cX0_throughSet 26 = .ok (.iinc 2 1, 3) := by decide +kernel
theorem dX0_throughSet_29 : decode cX0_throughSet 29 = .ok (.goto (-25), 3) := by decide +kernel
theorem dX0_throughSet_32 : decode cX0_throughSet 32 = .ok (.iload_n 1, 1) := by decide +kernel
theorem dX0_throughSet_33 : decode cX0_throughSet 33 = .ok (.ireturn, 1) := by decide +kernel
theorem dX0_distanceSeen_0 : decode cX0_distanceSeen 0 = .ok (.aload_n 0, 1) := by decide +kernel
theorem dX0_distanceSeen_1 : decode cX0_distanceSeen 1 = .ok (.getfield 26, 3) := by decide +kernel
theorem dX0_distanceSeen_4 : decode cX0_distanceSeen 4 = .ok (.iload_n 1, 1) := by decide +kernel
theorem dX0_distanceSeen_5 : decode cX0_distanceSeen 5 = .ok (.iaload, 1) := by decide +kernel
theorem dX0_distanceSeen_6 : decode cX0_distanceSeen 6 = .ok (.aload_n 0, 1) := by decide +kernel
theorem dX0_distanceSeen_7 : decode cX0_distanceSeen 7 = .ok (.getfield 32, 3) := by decide +kernel
theorem dX0_distanceSeen_10 : decode cX0_distanceSeen 10 = .ok (.iload_n 1, 1) := by decide +kernel
theorem dX0_distanceSeen_11 : decode cX0_distanceSeen 11 = .ok (.iaload, 1) := by decide +kernel
theorem dX0_distanceSeen_12 : decode cX0_distanceSeen 12 = .ok (.if_icmp .eq 7, 3) := by decide +kernel
theorem dX0_distanceSeen_15 : decode cX0_distanceSeen 15 = .ok (.iconst 1, 1) := by decide +kernel
theorem dX0_distanceSeen_16 : decode cX0_distanceSeen 16 = .ok (.goto 4, 3) := by decide +kernel
theorem dX0_distanceSeen_19 : decode cX0_distanceSeen 19 = .ok (.iconst 0, 1) := by decide +kernel
theorem dX0_distanceSeen_20 : decode cX0_distanceSeen 20 = .ok (.istore_n 3, 1) := by decide +kernel
theorem dX0_distanceSeen_21 : decode cX0_distanceSeen 21 = .ok (.iload_n 3, 1) := by decide +kernel
theorem dX0_distanceSeen_22 : decode cX0_distanceSeen 22 = .ok (.ifCond .eq 19, 3) := by decide +kernel
theorem dX0_distanceSeen_25 : decode cX0_distanceSeen 25 = .ok (.aload_n 0, 1) := by decide +kernel
theorem dX0_distanceSeen_26 : decode cX0_distanceSeen 26 = .ok (.getfield 23, 3) := by decide +kernel
theorem dX0_distanceSeen_29 : decode cX0_distanceSeen 29 = .ok (.iload_n 1, 1) := by decide +kernel
theorem dX0_distanceSeen_30 : decode cX0_distanceSeen 30 = .ok (.iaload, 1) := by decide +kernel
theorem dX0_distanceSeen_31 : decode cX0_distanceSeen 31 = .ok (.aload_n 0, 1) := by decide +kernel
theorem dX0_distanceSeen_32 : decode cX0_distanceSeen 32 = .ok (.getfield 23, 3) := by decide +kernel
theorem dX0_distanceSeen_35 : decode cX0_distanceSeen 35 = .ok (.iload_n 2, 1) := by decide +kernel
theorem dX0_distanceSeen_36 : decode cX0_distanceSeen 36 = .ok (.iaload, 1) := by decide +kernel
theorem dX0_distanceSeen_37 : decode cX0_distanceSeen 37 = .ok (.isub, 1) := by decide +kernel
theorem dX0_distanceSeen_38 : decode cX0_distanceSeen 38 = .ok (.goto 16, 3) := by decide +kernel
theorem dX0_distanceSeen_41 : decode cX0_distanceSeen 41 = .ok (.aload_n 0, 1) := by decide +kernel
theorem dX0_distanceSeen_42 : decode cX0_distanceSeen 42 = .ok (.getfield 23, 3) := by decide +kernel
theorem dX0_distanceSeen_45 : decode cX0_distanceSeen 45 = .ok (.iload_n 2, 1) := by decide +kernel
theorem dX0_distanceSeen_46 : decode cX0_distanceSeen 46 = .ok (.iaload, 1) := by decide +kernel
theorem dX0_distanceSeen_47 : decode cX0_distanceSeen 47 = .ok (.aload_n 0, 1) := by decide +kernel
theorem dX0_distanceSeen_48 : decode cX0_distanceSeen 48 = .ok (.getfield 23, 3) := by decide +kernel
theorem dX0_distanceSeen_51 : decode cX0_distanceSeen 51 = .ok (.iload_n 1, 1) := by decide +kernel
theorem dX0_distanceSeen_52 : decode cX0_distanceSeen 52 = .ok (.iaload, 1) := by decide +kernel
theorem dX0_distanceSeen_53 : decode cX0_distanceSeen 53 = .ok (.isub, 1) := by decide +kernel
theorem dX0_distanceSeen_54 : decode cX0_distanceSeen 54 = .ok (.istore 4, 2) := by decide +kernel
theorem dX0_distanceSeen_56 : decode cX0_distanceSeen 56 = .ok (.iload 4, 2) := by decide +kernel
theorem dX0_distanceSeen_58 : decode cX0_distanceSeen 58 = .ok (.ifCond .le 29, 3) := by decide +kernel
theorem dX0_distanceSeen_61 : decode cX0_distanceSeen 61 = .ok (.iload 4, 2) := by decide +kernel
theorem dX0_distanceSeen_63 : decode cX0_distanceSeen 63 = .ok (.aload_n 0, 1) := by decide +kernel
theorem dX0_distanceSeen_64 : decode cX0_distanceSeen 64 = .ok (.getfield 19, 3) := by decide +kernel
theorem dX0_distanceSeen_67 : decode cX0_distanceSeen 67 = .ok (.iload_n 1, 1) := by decide +kernel
theorem dX0_distanceSeen_68 : decode cX0_distanceSeen 68 = .ok (.iaload, 1) := by decide +kernel
theorem dX0_distanceSeen_69 : decode cX0_distanceSeen 69 = .ok (.invokestatic 57, 3) := by decide +kernel
theorem dX0_distanceSeen_72 : decode cX0_distanceSeen 72 = .ok (.if_icmp .gt 15, 3) := by decide +kernel
theorem dX0_distanceSeen_75 : decode cX0_distanceSeen 75 = .ok (.aload_n 0, 1) := by decide +kernel
theorem dX0_distanceSeen_76 : decode cX0_distanceSeen 76 = .ok (.iload_n 2, 1) := by decide +kernel
theorem dX0_distanceSeen_77 : decode cX0_distanceSeen 77 = .ok (.invokevirtual 53, 3) := by decide +kernel
theorem dX0_distanceSeen_80 : decode cX0_distanceSeen 80 = .ok (.ifCond .ne 7, 3) := by decide +kernel
theorem dX0_distanceSeen_83 : decode cX0_distanceSeen 83 = .ok (.iconst 1, 1) := by decide +kernel
theorem dX0_distanceSeen_84 : decode cX0_distanceSeen 84 = .ok (.goto 4, 3) := by decide +kernel
theorem dX0_distanceSeen_87 : decode cX0_distanceSeen 87 = .ok (.iconst 0, 1) := by decide +kernel
theorem dX0_distanceSeen_88 : decode cX0_distanceSeen 88 = .ok (.istore 5, 2) := by decide +kernel
theorem dX0_distanceSeen_90 : decode cX0_distanceSeen 90 = .ok (.iload 5, 2) := by decide +kernel
theorem dX0_distanceSeen_92 : decode cX0_distanceSeen 92 = .ok (.ifCond .eq 8, 3) := by decide +kernel
theorem dX0_distanceSeen_95 : decode cX0_distanceSeen 95 = .ok (.iload 4, 2) := by decide +kernel
theorem dX0_distanceSeen_97 : decode cX0_distanceSeen 97 = .ok (.goto 4, 3) := by decide +kernel
theorem dX0_distanceSeen_100 : decode cX0_distanceSeen 100 = .ok (.iconst 0, 1) := by decide +kernel
theorem dX0_distanceSeen_101 : decode cX0_distanceSeen 101 = .ok (.ireturn, 1) := by decide +kernel
theorem dX0_seenBy_0 : decode cX0_seenBy 0 = .ok (.iconst 0, 1) := by decide +kernel
theorem dX0_seenBy_1 : decode cX0_seenBy 1 = .ok (.istore_n 2, 1) := by decide +kernel
theorem dX0_seenBy_2 : decode cX0_seenBy 2 = .ok (.iconst 0, 1) := by decide +kernel
theorem dX0_seenBy_3 : decode cX0_seenBy 3 = .ok (.istore_n 3, 1) := by decide +kernel
theorem dX0_seenBy_4 : decode cX0_seenBy 4 = .ok (.iload_n 3, 1) := by decide +kernel
theorem dX0_seenBy_5 : decode cX0_seenBy 5 = .ok (.aload_n 0, 1) := by decide +kernel
theorem dX0_seenBy_6 : decode cX0_seenBy 6 = .ok (.getfield 16, 3) := by decide +kernel
theorem dX0_seenBy_9 : decode cX0_seenBy 9 = .ok (.if_icmp .ge 24, 3) := by decide +kernel
theorem dX0_seenBy_12 : decode cX0_seenBy 12 = .ok (.aload_n 0, 1) := by decide +kernel
theorem dX0_seenBy_13 : decode cX0_seenBy 13 = .ok (.iload_n 1, 1) := by decide +kernel
theorem dX0_seenBy_14 : decode cX0_seenBy 14 = .ok (.iload_n 3, 1) := by decide +kernel
theorem dX0_seenBy_15 : decode cX0_seenBy 15 = .ok (.invokevirtual 61, 3) := by decide +kernel
theorem dX0_seenBy_18 : decode cX0_seenBy 18 = .ok (.ifCond .le 9, 3) := by decide +kernel
theorem dX0_seenBy_21 : decode cX0_seenBy 21 = .ok (.iload_n 2, 1) := by decide +kernel
theorem dX0_seenBy_22 : decode cX0_seenBy 22 = .ok (.iconst 1, 1) := by decide +kernel
theorem dX0_seenBy_23 : decode cX0_seenBy 23 = .ok (.iload_n 3, 1) := by decide +kernel
theorem dX0_seenBy_24 : decode cX0_seenBy 24 = .ok (.ishl, 1) := by decide +kernel
theorem dX0_seenBy_25 : decode cX0_seenBy 25 = .ok (.ior, 1) := by decide +kernel
theorem dX0_seenBy_26 : decode cX0_seenBy 26 = .ok (.istore_n 2, 1) := by decide +kernel
theorem dX0_seenBy_27 : decode cX0_seenBy 27 = .ok (.iinc 3 1, 3) := by decide +kernel
theorem dX0_seenBy_30 : decode cX0_seenBy 30 = .ok (.goto (-26), 3) := by decide +kernel
theorem dX0_seenBy_33 : decode cX0_seenBy 33 = .ok (.iload_n 2, 1) := by decide +kernel
theorem dX0_seenBy_34 : decode cX0_seenBy 34 = .ok (.ireturn, 1) := by decide +kernel
theorem dX0_leaderOf_0 : decode cX0_leaderOf 0 = .ok (.iconst (-1), 1) := by decide +kernel
theorem dX0_leaderOf_1 : decode cX0_leaderOf 1 = .ok (.istore_n 2, 1) := by decide +kernel
theorem dX0_leaderOf_2 : decode cX0_leaderOf 2 = .ok (.bipush 100, 2) := by decide +kernel
theorem dX0_leaderOf_4 : decode cX0_leaderOf 4 = .ok (.istore_n 3, 1) := by decide +kernel
theorem dX0_leaderOf_5 : decode cX0_leaderOf 5 = .ok (.iconst 0, 1) := by decide +kernel
theorem dX0_leaderOf_6 : decode cX0_leaderOf 6 = .ok (.istore 4, 2) := by decide +kernel
theorem dX0_leaderOf_8 : decode cX0_leaderOf 8 = .ok (.iload 4, 2) := by decide +kernel
theorem dX0_leaderOf_10 : decode cX0_leaderOf 10 = .ok (.aload_n 0, 1) := by decide +kernel
theorem dX0_leaderOf_11 : decode cX0_leaderOf 11 = .ok (.getfield 16, 3) := by decide +kernel
theorem dX0_leaderOf_14 : decode cX0_leaderOf 14 = .ok (.if_icmp .ge 35, 3) := by decide +kernel
theorem dX0_leaderOf_17 : decode cX0_leaderOf 17 = .ok (.aload_n 0, 1) := by decide +kernel
theorem dX0_leaderOf_18 : decode cX0_leaderOf 18 = .ok (.iload_n 1, 1) := by decide +kernel
theorem dX0_leaderOf_19 : decode cX0_leaderOf 19 = .ok (.iload 4, 2) := by decide +kernel
theorem dX0_leaderOf_21 : decode cX0_leaderOf 21 = .ok (.invokevirtual 61, 3) := by decide +kernel
theorem dX0_leaderOf_24 : decode cX0_leaderOf 24 = .ok (.istore 5, 2) := by decide +kernel
theorem dX0_leaderOf_26 : decode cX0_leaderOf 26 = .ok (.iload 5, 2) := by decide +kernel
theorem dX0_leaderOf_28 : decode cX0_leaderOf 28 = .ok (.ifCond .le 15, 3) := by decide +kernel
theorem dX0_leaderOf_31 : decode cX0_leaderOf 31 = .ok (.iload 5, 2) := by decide +kernel
theorem dX0_leaderOf_33 : decode cX0_leaderOf 33 = .ok (.iload_n 3, 1) := by decide +kernel
theorem dX0_leaderOf_34 : decode cX0_leaderOf 34 = .ok (.if_icmp .ge 9, 3) := by decide +kernel
theorem dX0_leaderOf_37 : decode cX0_leaderOf 37 = .ok (.iload 5, 2) := by decide +kernel
theorem dX0_leaderOf_39 : decode cX0_leaderOf 39 = .ok (.istore_n 3, 1) := by decide +kernel
theorem dX0_leaderOf_40 : decode cX0_leaderOf 40 = .ok (.iload 4, 2) := by decide +kernel
theorem dX0_leaderOf_42 : decode cX0_leaderOf 42 = .ok (.istore_n 2, 1) := by decide +kernel
theorem dX0_leaderOf_43 : decode cX0_leaderOf 43 = .ok (.iinc 4 1, 3) := by decide +kernel
theorem dX0_leaderOf_46 : decode cX0_leaderOf 46 = .ok (.goto (-38), 3) := by decide +kernel
theorem dX0_leaderOf_49 : decode cX0_leaderOf 49 = .ok (.iload_n 2, 1) := by decide +kernel
theorem dX0_leaderOf_50 : decode cX0_leaderOf 50 = .ok (.ireturn, 1) := by decide +kernel
theorem dX0_placesToGo_0 : decode cX0_placesToGo 0 = .ok (.aload_n 0, 1) := by decide +kernel
theorem dX0_placesToGo_1 : decode cX0_placesToGo 1 = .ok (.getfield 19, 3) := by decide +kernel
theorem dX0_placesToGo_4 : decode cX0_placesToGo 4 = .ok (.iload_n 1, 1) := by decide +kernel
theorem dX0_placesToGo_5 : decode cX0_placesToGo 5 = .ok (.iaload, 1) := by decide +kernel
theorem dX0_placesToGo_6 : decode cX0_placesToGo 6 = .ok (.aload_n 0, 1) := by decide +kernel
theorem dX0_placesToGo_7 : decode cX0_placesToGo 7 = .ok (.getfield 29, 3) := by decide +kernel
theorem dX0_placesToGo_10 : decode cX0_placesToGo 10 = .ok (.iload_n 1, 1) := by decide +kernel
theorem dX0_placesToGo_11 : decode cX0_placesToGo 11 = .ok (.iaload, 1) := by decide +kernel
theorem dX0_placesToGo_12 : decode cX0_placesToGo 12 = .ok (.aload_n 0, 1) := by decide +kernel
theorem dX0_placesToGo_13 : decode cX0_placesToGo 13 = .ok (.iload_n 1, 1) := by decide +kernel
theorem dX0_placesToGo_14 : decode cX0_placesToGo 14 = .ok (.invokevirtual 65, 3) := by decide +kernel
theorem dX0_placesToGo_17 : decode cX0_placesToGo 17 = .ok (.ifCond .lt 7, 3) := by decide +kernel
theorem dX0_placesToGo_20 : decode cX0_placesToGo 20 = .ok (.iconst 1, 1) := by decide +kernel
theorem dX0_placesToGo_21 : decode cX0_placesToGo 21 = .ok (.goto 4, 3) := by decide +kernel
theorem dX0_placesToGo_24 : decode cX0_placesToGo 24 = .ok (.iconst 0, 1) := by decide +kernel
theorem dX0_placesToGo_25 : decode cX0_placesToGo 25 = .ok (.aload_n 0, 1) := by decide +kernel
theorem dX0_placesToGo_26 : decode cX0_placesToGo 26 = .ok (.getfield 32, 3) := by decide +kernel
theorem dX0_placesToGo_29 : decode cX0_placesToGo 29 = .ok (.iload_n 1, 1) := by decide +kernel
theorem dX0_placesToGo_30 : decode cX0_placesToGo 30 = .ok (.iaload, 1) := by decide +kernel
theorem dX0_placesToGo_31 : decode cX0_placesToGo 31 = .ok (.aload_n 0, 1) := by decide +kernel
theorem dX0_placesToGo_32 : decode cX0_placesToGo 32 = .ok (.getfield 7, 3) := by decide +kernel
theorem dX0_placesToGo_35 : decode cX0_placesToGo 35 = .ok (.invokestatic 68, 3) := by decide +kernel
theorem dX0_placesToGo_38 : decode cX0_placesToGo 38 = .ok (.ireturn, 1) := by decide +kernel
theorem dX0_passMinutes_0 : decode cX0_passMinutes 0 = .ok (.iconst 0, 1) := by decide +kernel
theorem dX0_passMinutes_1 : decode cX0_passMinutes 1 = .ok (.istore_n 2, 1) := by decide +kernel
theorem dX0_passMinutes_2 : decode cX0_passMinutes 2 = .ok (.iload_n 2, 1) := by decide +kernel
theorem dX0_passMinutes_3 : decode cX0_passMinutes 3 = .ok (.iload_n 1, 1) := by decide +kernel
theorem dX0_passMinutes_4 : decode cX0_passMinutes 4 = .ok (.if_icmp .ge 13, 3) := by decide +kernel
theorem dX0_passMinutes_7 : decode cX0_passMinutes 7 = .ok (.aload_n 0, 1) := by decide +kernel
theorem dX0_passMinutes_8 : decode cX0_passMinutes 8 = .ok (.invokevirtual 72, 3) := by decide +kernel
theorem dX0_passMinutes_11 : decode cX0_passMinutes 11 = .ok (.iinc 2 1, 3) := by decide +kernel
theorem dX0_passMinutes_14 : decode cX0_passMinutes 14 = .ok (.goto (-12), 3) := by decide +kernel
theorem dX0_passMinutes_17 : decode cX0_passMinutes 17 = .ok (.return_, 1) := by decide +kernel
theorem dX0_passMinute_0 : decode cX0_passMinute 0 = .ok (.iconst 0, 1) := by decide +kernel
theorem dX0_passMinute_1 : decode cX0_passMinute 1 = .ok (.istore_n 1, 1) := by decide +kernel
theorem dX0_passMinute_2 : decode cX0_passMinute 2 = .ok (.iload_n 1, 1) := by decide +kernel
theorem dX0_passMinute_3 : decode cX0_passMinute 3 = .ok (.aload_n 0, 1) := by decide +kernel
theorem dX0_passMinute_4 : decode cX0_passMinute 4 = .ok (.getfield 16, 3) := by decide +kernel
theorem dX0_passMinute_7 : decode cX0_passMinute 7 = .ok (.if_icmp .ge 32, 3) := by decide +kernel
theorem dX0_passMinute_10 : decode cX0_passMinute 10 = .ok (.aload_n 0, 1) := by decide +kernel
theorem dX0_passMinute_11 : decode cX0_passMinute 11 = .ok (.iload_n 1, 1) := by decide +kernel
theorem dX0_passMinute_12 : decode cX0_passMinute 12 = .ok (.invokevirtual 53, 3) := by decide +kernel
theorem dX0_passMinute_15 : decode cX0_passMinute 15 = .ok (.ifCond .ne 18, 3) := by decide +kernel
theorem dX0_passMinute_18 : decode cX0_passMinute 18 = .ok (.aload_n 0, 1) := by decide +kernel
theorem dX0_passMinute_19 : decode cX0_passMinute 19 = .ok (.iload_n 1, 1) := by decide +kernel
theorem dX0_passMinute_20 : decode cX0_passMinute 20 = .ok (.aload_n 0, 1) := by decide +kernel
theorem dX0_passMinute_21 : decode cX0_passMinute 21 = .ok (.iload_n 1, 1) := by decide +kernel
theorem dX0_passMinute_22 : decode cX0_passMinute 22 = .ok (.invokevirtual 75, 3) := by decide +kernel
theorem dX0_passMinute_25 : decode cX0_passMinute 25 = .ok (.invokevirtual 78, 3) := by decide +kernel
theorem dX0_passMinute_28 : decode cX0_passMinute 28 = .ok (.aload_n 0, 1) := by decide +kernel
theorem dX0_passMinute_29 : decode cX0_passMinute 29 = .ok (.iload_n 1, 1) := by decide +kernel
theorem dX0_passMinute_30 : decode cX0_passMinute 30 = .ok (.invokevirtual 82, 3) := by decide +kernel
theorem dX0_passMinute_33 : decode cX0_passMinute 33 = .ok (.iinc 1 1, 3) := by decide +kernel
theorem dX0_passMinute_36 : decode cX0_passMinute 36 = .ok (.goto (-34), 3) := by decide +kernel
theorem dX0_passMinute_39 : decode cX0_passMinute 39 = .ok (.aload_n 0, 1) := by decide +kernel
theorem dX0_passMinute_40 : decode cX0_passMinute 40 = .ok (.dup, 1) := by decide +kernel
theorem dX0_passMinute_41 : decode cX0_passMinute 41 = .ok (.getfield 7, 3) := by decide +kernel
theorem dX0_passMinute_44 : decode cX0_passMinute 44 = .ok (.iconst 1, 1) := by decide +kernel
theorem dX0_passMinute_45 : decode cX0_passMinute 45 = .ok (.iadd, 1) := by decide +kernel
theorem dX0_passMinute_46 : decode cX0_passMinute 46 = .ok (.putfield 7, 3) := by decide +kernel
theorem dX0_passMinute_49 : decode cX0_passMinute 49 = .ok (.return_, 1) := by decide +kernel
theorem dX0_minutesTillThrough_0 : decode cX0_minutesTillThrough 0 = .ok (.iconst 0, 1) := by decide +kernel
theorem dX0_minutesTillThrough_1 : decode cX0_minutesTillThrough 1 = .ok (.istore_n 3, 1) := by decide +kernel
theorem dX0_minutesTillThrough_2 : decode cX0_minutesTillThrough 2 = .ok (.iload_n 3, 1) := by decide +kernel
theorem dX0_minutesTillThrough_3 : decode cX0_minutesTillThrough 3 = .ok (.iload_n 2, 1) := by decide +kernel
theorem dX0_minutesTillThrough_4 : decode cX0_minutesTillThrough 4 = .ok (.if_icmp .ge 23, 3) := by decide +kernel
theorem dX0_minutesTillThrough_7 : decode cX0_minutesTillThrough 7 = .ok (.aload_n 0, 1) := by decide +kernel
theorem dX0_minutesTillThrough_8 : decode cX0_minutesTillThrough 8 = .ok (.iload_n 1, 1) := by decide +kernel
theorem dX0_minutesTillThrough_9 : decode cX0_minutesTillThrough 9 = .ok (.invokevirtual 53, 3) := by decide +kernel
theorem dX0_minutesTillThrough_12 : decode cX0_minutesTillThrough 12 = .ok (.ifCond .eq 5, 3) := by decide +kernel
theorem dX0_minutesTillThrough_15 : decode cX0_minutesTillThrough 15 = .ok (.iload_n 3, 1) := by decide +kernel
theorem dX0_minutesTillThrough_16 : decode cX0_minutesTillThrough 16 = .ok (.ireturn, 1) := by decide +kernel
theorem dX0_minutesTillThrough_17 : decode cX0_minutesTillThrough 17 = .ok (.aload_n 0, 1) := by decide +kernel
theorem dX0_minutesTillThrough_18 : decode cX0_minutesTillThrough 18 = .ok (.invokevirtual 72, 3) := by decide +kernel
theorem dX0_minutesTillThrough_21 : decode cX0_minutesTillThrough 21 = .ok (.iinc 3 1, 3) := by decide +kernel
theorem dX0_minutesTillThrough_24 : decode cX0_minutesTillThrough 24 = .ok (.goto (-22), 3) := by decide +kernel
theorem dX0_minutesTillThrough_27 : decode cX0_minutesTillThrough 27 = .ok (.iload_n 2, 1) := by decide +kernel
theorem dX0_minutesTillThrough_28 : decode cX0_minutesTillThrough 28 = .ok (.ireturn, 1) := by decide +kernel
theorem dX0_walk_0 : decode cX0_walk 0 = .ok (.aload_n 0, 1) := by decide +kernel
theorem dX0_walk_1 : decode cX0_walk 1 = .ok (.getfield 26, 3) := by decide +kernel
theorem dX0_walk_4 : decode cX0_walk 4 = .ok (.iload_n 1, 1) := by decide +kernel
theorem dX0_walk_5 : decode cX0_walk 5 = .ok (.iaload, 1) := by decide +kernel
theorem dX0_walk_6 : decode cX0_walk 6 = .ok (.iconst 1, 1) := by decide +kernel
theorem dX0_walk_7 : decode cX0_walk 7 = .ok (.if_icmp .ne 7, 3) := by decide +kernel
theorem dX0_walk_10 : decode cX0_walk 10 = .ok (.iconst 1, 1) := by decide +kernel
theorem dX0_walk_11 : decode cX0_walk 11 = .ok (.goto 4, 3) := by decide +kernel
theorem dX0_walk_14 : decode cX0_walk 14 = .ok (.iconst (-1), 1) := by decide +kernel
theorem dX0_walk_15 : decode cX0_walk 15 = .ok (.istore_n 3, 1) := by decide +kernel
theorem dX0_walk_16 : decode cX0_walk 16 = .ok (.iconst 0, 1) := by decide +kernel
theorem dX0_walk_17 : decode cX0_walk 17 = .ok (.istore 4, 2) := by decide +kernel
theorem dX0_walk_19 : decode cX0_walk 19 = .ok (.iload 4, 2) := by decide +kernel
theorem dX0_walk_21 : decode cX0_walk 21 = .ok (.iload_n 2, 1) := by decide +kernel
theorem dX0_walk_22 : decode cX0_walk 22 = .ok (.if_icmp .ge 48, 3) := by decide +kernel
theorem dX0_walk_25 : decode cX0_walk 25 = .ok (.aload_n 0, 1) := by decide +kernel
theorem dX0_walk_26 : decode cX0_walk 26 = .ok (.getfield 23, 3) := by decide +kernel
theorem dX0_walk_29 : decode cX0_walk 29 = .ok (.iload_n 1, 1) := by decide +kernel
theorem dX0_walk_30 : decode cX0_walk 30 = .ok (.dup2, 1) := by decide +kernel
theorem dX0_walk_31 : decode cX0_walk 31 = .ok (.iaload, 1) := by decide +kernel
theorem dX0_walk_32 : decode cX0_walk 32 = .ok (.iload_n 3, 1) := by decide +kernel
theorem dX0_walk_33 : decode cX0_walk 33 = .ok (.iadd, 1) := by decide +kernel
theorem dX0_walk_34 : decode cX0_walk 34 = .ok (.iastore, 1) := by decide +kernel
theorem dX0_walk_35 : decode cX0_walk 35 = .ok (.aload_n 0, 1) := by decide +kernel
theorem dX0_walk_36 : decode cX0_walk 36 = .ok (.iload_n 1, 1) := by decide +kernel
theorem dX0_walk_37 : decode cX0_walk 37 = .ok (.invokevirtual 53, 3) := by decide +kernel
theorem dX0_walk_40 : decode cX0_walk 40 = .ok (.ifCond .eq 4, 3) := by decide +kernel
theorem dX0_walk_43 : decode cX0_walk 43 = .ok (.return_, 1) := by decide +kernel
theorem dX0_walk_44 : decode cX0_walk 44 = .ok (.aload_n 0, 1) := by decide +kernel
theorem dX0_walk_45 : decode cX0_walk 45 = .ok (.iload_n 1, 1) := by decide +kernel
theorem dX0_walk_46 : decode cX0_walk 46 = .ok (.invokevirtual 86, 3) := by decide +kernel
theorem dX0_walk_49 : decode cX0_walk 49 = .ok (.istore 5, 2) := by decide +kernel
theorem dX0_walk_51 : decode cX0_walk 51 = .ok (.iload 5, 2) := by decide +kernel
theorem dX0_walk_53 : decode cX0_walk 53 = .ok (.ifCond .lt 11, 3) := by decide +kernel
theorem dX0_walk_56 : decode cX0_walk 56 = .ok (.aload_n 0, 1) := by decide +kernel
theorem dX0_walk_57 : decode cX0_walk 57 = .ok (.iload_n 1, 1) := by decide +kernel
theorem dX0_walk_58 : decode cX0_walk 58 = .ok (.iload 5, 2) := by decide +kernel
theorem dX0_walk_60 : decode cX0_walk 60 = .ok (.invokevirtual 89, 3) := by decide +kernel
theorem dX0_walk_63 : decode cX0_walk 63 = .ok (.return_, 1) := by decide +kernel
theorem dX0_walk_64 : decode cX0_walk 64 = .ok (.iinc 4 1, 3) := by decide +kernel
theorem dX0_walk_67 : decode cX0_walk 67 = .ok (.goto (-48), 3) := by decide +kernel
theorem dX0_walk_70 : decode cX0_walk 70 = .ok (.return_, 1) := by decide +kernel
theorem dX0_inTheWayOf_0 : decode cX0_inTheWayOf 0 = .ok (.iconst 0, 1) := by decide +kernel
theorem dX0_inTheWayOf_1 : decode cX0_inTheWayOf 1 = .ok (.istore_n 2, 1) := by decide +kernel
theorem dX0_inTheWayOf_2 : decode cX0_inTheWayOf 2 = .ok (.iload_n 2, 1) := by decide +kernel
theorem dX0_inTheWayOf_3 : decode cX0_inTheWayOf 3 = .ok (.aload_n 0, 1) := by decide +kernel
theorem dX0_inTheWayOf_4 : decode cX0_inTheWayOf 4 = .ok (.getfield 16, 3) := by decide +kernel
theorem dX0_inTheWayOf_7 : decode cX0_inTheWayOf 7 = .ok (.if_icmp .ge 39, 3) := by decide +kernel
theorem dX0_inTheWayOf_10 : decode cX0_inTheWayOf 10 = .ok (.iload_n 2, 1) := by decide +kernel
theorem dX0_inTheWayOf_11 : decode cX0_inTheWayOf 11 = .ok (.iload_n 1, 1) := by decide +kernel
theorem dX0_inTheWayOf_12 : decode cX0_inTheWayOf 12 = .ok (.if_icmp .eq 28, 3) := by decide +kernel
theorem dX0_inTheWayOf_15 : decode cX0_inTheWayOf 15 = .ok (.aload_n 0, 1) := by decide +kernel
theorem dX0_inTheWayOf_16 : decode cX0_inTheWayOf 16 = .ok (.getfield 23, 3) := by decide +kernel
theorem dX0_inTheWayOf_19 : decode cX0_inTheWayOf 19 = .ok (.iload_n 2, 1) := by decide +kernel
theorem dX0_inTheWayOf_20 : decode cX0_inTheWayOf 20 = .ok (.iaload, 1) := by decide +kernel
theorem dX0_inTheWayOf_21 : decode cX0_inTheWayOf 21 = .ok (.aload_n 0, 1) := by decide +kernel
theorem dX0_inTheWayOf_22 : decode cX0_inTheWayOf 22 = .ok (.getfield 23, 3) := by decide +kernel
theorem dX0_inTheWayOf_25 : decode cX0_inTheWayOf 25 = .ok (.iload_n 1, 1) := by decide +kernel
theorem dX0_inTheWayOf_26 : decode cX0_inTheWayOf 26 = .ok (.iaload, 1) := by decide +kernel
theorem dX0_inTheWayOf_27 : decode cX0_inTheWayOf 27 = .ok (.if_icmp .ne 13, 3) := by decide +kernel
theorem dX0_inTheWayOf_30 : decode cX0_inTheWayOf 30 = .ok (.aload_n 0, 1) := by decide +kernel
theorem dX0_inTheWayOf_31 : decode cX0_inTheWayOf 31 = .ok (.iload_n 2, 1) := by decide +kernel
theorem dX0_inTheWayOf_32 : decode cX0_inTheWayOf 32 = .ok (.invokevirtual 53, 3) := by decide +kernel
theorem dX0_inTheWayOf_35 : decode cX0_inTheWayOf 35 = .ok (.ifCond .ne 5, 3) := by decide +kernel
theorem dX0_inTheWayOf_38 : decode cX0_inTheWayOf 38 = .ok (.iload_n 2, 1) := by decide +kernel
theorem dX0_inTheWayOf_39 : decode cX0_inTheWayOf 39 = .ok (.ireturn, 1) := by decide +kernel
theorem dX0_inTheWayOf_40 : decode cX0_inTheWayOf 40 = .ok (.iinc 2 1, 3) := by decide +kernel
theorem dX0_inTheWayOf_43 : decode cX0_inTheWayOf 43 = .ok (.goto (-41), 3) := by decide +kernel
theorem dX0_inTheWayOf_46 : decode cX0_inTheWayOf 46 = .ok (.iconst (-1), 1) := by decide +kernel
theorem dX0_inTheWayOf_47 : decode cX0_inTheWayOf 47 = .ok (.ireturn, 1) := by decide +kernel
theorem dX0_bump_0 : decode cX0_bump 0 = .ok (.aload_n 0, 1) := by decide +kernel
theorem dX0_bump_1 : decode cX0_bump 1 = .ok (.getfield 38, 3) := by decide +kernel
theorem dX0_bump_4 : decode cX0_bump 4 = .ok (.iload_n 1, 1) := by decide +kernel
theorem dX0_bump_5 : decode cX0_bump 5 = .ok (.aload_n 0, 1) := by decide +kernel
theorem dX0_bump_6 : decode cX0_bump 6 = .ok (.getfield 38, 3) := by decide +kernel
theorem dX0_bump_9 : decode cX0_bump 9 = .ok (.iload_n 1, 1) := by decide +kernel
theorem dX0_bump_10 : decode cX0_bump 10 = .ok (.iaload, 1) := by decide +kernel
theorem dX0_bump_11 : decode cX0_bump 11 = .ok (.iconst 1, 1) := by decide +kernel
theorem dX0_bump_12 : decode cX0_bump 12 = .ok (.iadd, 1) := by decide +kernel
theorem dX0_bump_13 : decode cX0_bump 13 = .ok (.sipush 999, 3) := by decide +kernel
theorem dX0_bump_16 : decode cX0_bump 16 = .ok (.invokestatic 92, 3) := by decide +kernel
theorem dX0_bump_19 : decode cX0_bump 19 = .ok (.iastore, 1) := by decide +kernel
theorem dX0_bump_20 : decode cX0_bump 20 = .ok (.aload_n 0, 1) := by decide +kernel
theorem dX0_bump_21 : decode cX0_bump 21 = .ok (.getfield 38, 3) := by decide +kernel
theorem dX0_bump_24 : decode cX0_bump 24 = .ok (.iload_n 2, 1) := by decide +kernel
theorem dX0_bump_25 : decode cX0_bump 25 = .ok (.aload_n 0, 1) := by decide +kernel
theorem dX0_bump_26 : decode cX0_bump 26 = .ok (.getfield 38, 3) := by decide +kernel
theorem dX0_bump_29 : decode cX0_bump 29 = .ok (.iload_n 2, 1) := by decide +kernel
theorem dX0_bump_30 : decode cX0_bump 30 = .ok (.iaload, 1) := by decide +kernel
theorem dX0_bump_31 : decode cX0_bump 31 = .ok (.iconst 1, 1) := by decide +kernel
theorem dX0_bump_32 : decode cX0_bump 32 = .ok (.iadd, 1) := by decide +kernel
theorem dX0_bump_33 : decode cX0_bump 33 = .ok (.sipush 999, 3) := by decide +kernel
theorem dX0_bump_36 : decode cX0_bump 36 = .ok (.invokestatic 92, 3) := by decide +kernel
theorem dX0_bump_39 : decode cX0_bump 39 = .ok (.iastore, 1) := by decide +kernel
theorem dX0_bump_40 : decode cX0_bump 40 = .ok (.aload_n 0, 1) := by decide +kernel
theorem dX0_bump_41 : decode cX0_bump 41 = .ok (.getfield 19, 3) := by decide +kernel
theorem dX0_bump_44 : decode cX0_bump 44 = .ok (.iload_n 1, 1) := by decide +kernel
theorem dX0_bump_45 : decode cX0_bump 45 = .ok (.iaload, 1) := by decide +kernel
theorem dX0_bump_46 : decode cX0_bump 46 = .ok (.aload_n 0, 1) := by decide +kernel
theorem dX0_bump_47 : decode cX0_bump 47 = .ok (.getfield 29, 3) := by decide +kernel
theorem dX0_bump_50 : decode cX0_bump 50 = .ok (.iload_n 1, 1) := by decide +kernel
theorem dX0_bump_51 : decode cX0_bump 51 = .ok (.iaload, 1) := by decide +kernel
theorem dX0_bump_52 : decode cX0_bump 52 = .ok (.invokestatic 97, 3) := by decide +kernel
theorem dX0_bump_55 : decode cX0_bump 55 = .ok (.ifCond .eq 42, 3) := by decide +kernel
theorem dX0_bump_58 : decode cX0_bump 58 = .ok (.aload_n 0, 1) := by decide +kernel
theorem dX0_bump_59 : decode cX0_bump 59 = .ok (.getfield 32, 3) := by decide +kernel
theorem dX0_bump_62 : decode cX0_bump 62 = .ok (.iload_n 1, 1) := by decide +kernel
theorem dX0_bump_63 : decode cX0_bump 63 = .ok (.iconst 1, 1) := by decide +kernel
theorem dX0_bump_64 : decode cX0_bump 64 = .ok (.aload_n 0, 1) := by decide +kernel
theorem dX0_bump_65 : decode cX0_bump 65 = .ok (.getfield 32, 3) := by decide +kernel
theorem dX0_bump_68 : decode cX0_bump 68 = .ok (.iload_n 1, 1) := by decide +kernel
theorem dX0_bump_69 : decode cX0_bump 69 = .ok (.iaload, 1) := by decide +kernel
theorem dX0_bump_70 : decode cX0_bump 70 = .ok (.isub, 1) := by decide +kernel
theorem dX0_bump_71 : decode cX0_bump 71 = .ok (.iastore, 1) := by decide +kernel
theorem dX0_bump_72 : decode cX0_bump 72 = .ok (.aload_n 0, 1) := by decide +kernel
theorem dX0_bump_73 : decode cX0_bump 73 = .ok (.getfield 35, 3) := by decide +kernel
theorem dX0_bump_76 : decode cX0_bump 76 = .ok (.iload_n 1, 1) := by decide +kernel
theorem dX0_bump_77 : decode cX0_bump 77 = .ok (.aload_n 0, 1) := by decide +kernel
theorem dX0_bump_78 : decode cX0_bump 78 = .ok (.getfield 35, 3) := by decide +kernel
theorem dX0_bump_81 : decode cX0_bump 81 = .ok (.iload_n 1, 1) := by decide +kernel
theorem dX0_bump_82 : decode cX0_bump 82 = .ok (.iaload, 1) := by decide +kernel
theorem dX0_bump_83 : decode cX0_bump 83 = .ok (.aload_n 0, 1) := by decide +kernel
theorem dX0_bump_84 : decode cX0_bump 84 = .ok (.getfield 32, 3) := by decide +kernel
theorem dX0_bump_87 : decode cX0_bump 87 = .ok (.iload_n 1, 1) := by decide +kernel
theorem dX0_bump_88 : decode cX0_bump 88 = .ok (.iaload, 1) := by decide +kernel
theorem dX0_bump_89 : decode cX0_bump 89 = .ok (.iadd, 1) := by decide +kernel
theorem dX0_bump_90 : decode cX0_bump 90 = .ok (.sipush 999, 3) := by decide +kernel
theorem dX0_bump_93 : decode cX0_bump 93 = .ok (.invokestatic 92, 3) := by decide +kernel
theorem dX0_bump_96 : decode cX0_bump 96 = .ok (.iastore, 1) := by decide +kernel
theorem dX0_bump_97 : decode cX0_bump 97 = .ok (.return_, 1) := by decide +kernel
theorem dX0_ride_0 : decode cX0_ride 0 = .ok (.aload_n 0, 1) := by decide +kernel
theorem dX0_ride_1 : decode cX0_ride 1 = .ok (.iload_n 1, 1) := by decide +kernel
theorem dX0_ride_2 : decode cX0_ride 2 = .ok (.invokevirtual 53, 3) := by decide +kernel
theorem dX0_ride_5 : decode cX0_ride 5 = .ok (.ifCond .ne 23, 3) := by decide +kernel
theorem dX0_ride_8 : decode cX0_ride 8 = .ok (.aload_n 0, 1) := by decide +kernel
theorem dX0_ride_9 : decode cX0_ride 9 = .ok (.getfield 13, 3) := by decide +kernel
theorem dX0_ride_12 : decode cX0_ride 12 = .ok (.ifCond .eq 16, 3) := by decide +kernel
theorem dX0_ride_15 : decode cX0_ride 15 = .ok (.aload_n 0, 1) := by decide +kernel
theorem dX0_ride_16 : decode cX0_ride 16 = .ok (.getfield 23, 3) := by decide +kernel
theorem dX0_ride_19 : decode cX0_ride 19 = .ok (.iload_n 1, 1) := by decide +kernel
theorem dX0_ride_20 : decode cX0_ride 20 = .ok (.iaload, 1) := by decide +kernel
theorem dX0_ride_21 : decode cX0_ride 21 = .ok (.aload_n 0, 1) := by decide +kernel
theorem dX0_ride_22 : decode cX0_ride 22 = .ok (.invokevirtual 101, 3) := by decide +kernel
theorem dX0_ride_25 : decode cX0_ride 25 = .ok (.if_icmp .eq 4, 3) := by decide +kernel
theorem dX0_ride_28 : decode cX0_ride 28 = .ok (.return_, 1) := by decide +kernel
theorem dX0_ride_29 : decode cX0_ride 29 = .ok (.aload_n 0, 1) := by decide +kernel
theorem dX0_ride_30 : decode cX0_ride 30 = .ok (.getfield 26, 3) := by decide +kernel
theorem dX0_ride_33 : decode cX0_ride 33 = .ok (.iload_n 1, 1) := by decide +kernel
theorem dX0_ride_34 : decode cX0_ride 34 = .ok (.iaload, 1) := by decide +kernel
theorem dX0_ride_35 : decode cX0_ride 35 = .ok (.iconst 1, 1) := by decide +kernel
theorem dX0_ride_36 : decode cX0_ride 36 = .ok (.if_icmp .ne 25, 3) := by decide +kernel
theorem dX0_ride_39 : decode cX0_ride 39 = .ok (.aload_n 0, 1) := by decide +kernel
theorem dX0_ride_40 : decode cX0_ride 40 = .ok (.getfield 23, 3) := by decide +kernel
theorem dX0_ride_43 : decode cX0_ride 43 = .ok (.iload_n 1, 1) := by decide +kernel
theorem dX0_ride_44 : decode cX0_ride 44 = .ok (.aload_n 0, 1) := by decide +kernel
theorem dX0_ride_45 : decode cX0_ride 45 = .ok (.getfield 23, 3) := by decide +kernel
theorem dX0_ride_48 : decode cX0_ride 48 = .ok (.iload_n 1, 1) := by decide +kernel
theorem dX0_ride_49 : decode cX0_ride 49 = .ok (.iaload, 1) := by decide +kernel
theorem dX0_ride_50 : decode cX0_ride 50 = .ok (.iconst 5, 1) := by decide +kernel
theorem dX0_ride_51 : decode cX0_ride 51 = .ok (.iadd, 1) := by decide +kernel
theorem dX0_ride_52 : decode cX0_ride 52 = .ok (.bipush 99, 2) := by decide +kernel
theorem dX0_ride_54 : decode cX0_ride 54 = .ok (.invokestatic 92, 3) := by decide +kernel
theorem dX0_ride_57 : decode cX0_ride 57 = .ok (.iastore, 1) := by decide +kernel
theorem dX0_ride_58 : decode cX0_ride 58 = .ok (.goto 21, 3) := by decide +kernel
theorem dX0_ride_61 : decode cX0_ride 61 = .ok (.aload_n 0, 1) := by decide +kernel
theorem dX0_ride_62 : decode cX0_ride 62 = .ok (.getfield 23, 3) := by decide +kernel
theorem dX0_ride_65 : decode cX0_ride 65 = .ok (.iload_n 1, 1) := by decide +kernel
theorem dX0_ride_66 : decode cX0_ride 66 = .ok (.aload_n 0, 1) := by decide +kernel
theorem dX0_ride_67 : decode cX0_ride 67 = .ok (.getfield 23, 3) := by decide +kernel
theorem dX0_ride_70 : decode cX0_ride 70 = .ok (.iload_n 1, 1) := by decide +kernel
theorem dX0_ride_71 : decode cX0_ride 71 = .ok (.iaload, 1) := by decide +kernel
theorem dX0_ride_72 : decode cX0_ride 72 = .ok (.iconst 5, 1) := by decide +kernel
theorem dX0_ride_73 : decode cX0_ride 73 = .ok (.isub, 1) := by decide +kernel
theorem dX0_ride_74 : decode cX0_ride 74 = .ok (.iconst 0, 1) := by decide +kernel
theorem dX0_ride_75 : decode cX0_ride 75 = .ok (.invokestatic 105, 3) := by decide +kernel
theorem dX0_ride_78 : decode cX0_ride 78 = .ok (.iastore, 1) := by decide +kernel
theorem dX0_ride_79 : decode cX0_ride 79 = .ok (.return_, 1) := by decide +kernel
theorem dX1_sight_0 : decode cX1_sight 0 = .ok (.iload_n 0, 1) := by decide +kernel
theorem dX1_sight_1 : decode cX1_sight 1 = .ok (.tableswitch 46 1 5 #[35, 46, 38, 41, 43], 35) := by decide +kernel
theorem dX1_sight_36 : decode cX1_sight 36 = .ok (.bipush 30, 2) := by decide +kernel
theorem dX1_sight_38 : decode cX1_sight 38 = .ok (.ireturn, 1) := by decide +kernel
theorem dX1_sight_39 : decode cX1_sight 39 = .ok (.bipush 10, 2) := by decide +kernel
theorem dX1_sight_41 : decode cX1_sight 41 = .ok (.ireturn, 1) := by decide +kernel
theorem dX1_sight_42 : decode cX1_sight 42 = .ok (.iconst 0, 1) := by decide +kernel
theorem dX1_sight_43 : decode cX1_sight 43 = .ok (.ireturn, 1) := by decide +kernel
theorem dX1_sight_44 : decode cX1_sight 44 = .ok (.bipush 40, 2) := by decide +kernel
theorem dX1_sight_46 : decode cX1_sight 46 = .ok (.ireturn, 1) := by decide +kernel
theorem dX1_sight_47 : decode cX1_sight 47 = .ok (.bipush 20, 2) := by decide +kernel
theorem dX1_sight_49 : decode cX1_sight 49 = .ok (.ireturn, 1) := by decide +kernel
theorem dX1_isUnder_0 : decode cX1_isUnder 0 = .ok (.iload_n 0, 1) := by decide +kernel
theorem dX1_isUnder_1 : decode cX1_isUnder 1 = .ok (.istore_n 2, 1) := by decide +kernel
theorem dX1_isUnder_2 : decode cX1_isUnder 2 = .ok (.iconst 0, 1) := by decide +kernel
theorem dX1_isUnder_3 : decode cX1_isUnder 3 = .ok (.istore_n 3, 1) := by decide +kernel
theorem dX1_isUnder_4 : decode cX1_isUnder 4 = .ok (.iload_n 3, 1) := by decide +kernel
theorem dX1_isUnder_5 : decode cX1_isUnder 5 = .ok (.iconst 5, 1) := by decide +kernel
theorem dX1_isUnder_6 : decode cX1_isUnder 6 = .ok (.if_icmp .ge 19, 3) := by decide +kernel
theorem dX1_isUnder_9 : decode cX1_isUnder 9 = .ok (.iload_n 2, 1) := by decide +kernel
theorem dX1_isUnder_10 : decode cX1_isUnder 10 = .ok (.iload_n 1, 1) := by decide +kernel
theorem dX1_isUnder_11 : decode cX1_isUnder 11 = .ok (.if_icmp .le 14, 3) := by decide +kernel
theorem dX1_isUnder_14 : decode cX1_isUnder 14 = .ok (.iload_n 2, 1) := by decide +kernel
theorem dX1_isUnder_15 : decode cX1_isUnder 15 = .ok (.invokestatic 9, 3) := by decide +kernel
theorem dX1_isUnder_18 : decode cX1_isUnder 18 = .ok (.istore_n 2, 1) := by decide +kernel
theorem dX1_isUnder_19 : decode cX1_isUnder 19 = .ok (.iinc 3 1, 3) := by decide +kernel
theorem dX1_isUnder_22 : decode cX1_isUnder 22 = .ok (.goto (-18), 3) := by decide +kernel
theorem dX1_isUnder_25 : decode cX1_isUnder 25 = .ok (.iload_n 2, 1) := by decide +kernel
theorem dX1_isUnder_26 : decode cX1_isUnder 26 = .ok (.iload_n 1, 1) := by decide +kernel
theorem dX1_isUnder_27 : decode cX1_isUnder 27 = .ok (.if_icmp .ne 7, 3) := by decide +kernel
theorem dX1_isUnder_30 : decode cX1_isUnder 30 = .ok (.iconst 1, 1) := by decide +kernel
theorem dX1_isUnder_31 : decode cX1_isUnder 31 = .ok (.goto 4, 3) := by decide +kernel
theorem dX1_isUnder_34 : decode cX1_isUnder 34 = .ok (.iconst 0, 1) := by decide +kernel
theorem dX1_isUnder_35 : decode cX1_isUnder 35 = .ok (.ireturn, 1) := by decide +kernel
theorem dX1_above_0 : decode cX1_above 0 = .ok (.iload_n 0, 1) := by decide +kernel
theorem dX1_above_1 : decode cX1_above 1 = .ok (.lookupswitch 31 #[(4, 27), (5, 29)], 27) := by decide +kernel
theorem dX1_above_28 : decode cX1_above 28 = .ok (.iconst 1, 1) := by decide +kernel
theorem dX1_above_29 : decode cX1_above 29 = .ok (.ireturn, 1) := by decide +kernel
theorem dX1_above_30 : decode cX1_above 30 = .ok (.iconst 2, 1) := by decide +kernel
theorem dX1_above_31 : decode cX1_above 31 = .ok (.ireturn, 1) := by decide +kernel
theorem dX1_above_32 : decode cX1_above 32 = .ok (.iconst 0, 1) := by decide +kernel
theorem dX1_above_33 : decode cX1_above 33 = .ok (.ireturn, 1) := by decide +kernel
theorem dX1_goes_0 : decode cX1_goes 0 = .ok (.iload_n 2, 1) := by decide +kernel
theorem dX1_goes_1 : decode cX1_goes 1 = .ok (.ifCond .eq 9, 3) := by decide +kernel
theorem dX1_goes_4 : decode cX1_goes 4 = .ok (.iload_n 1, 1) := by decide +kernel
theorem dX1_goes_5 : decode cX1_goes 5 = .ok (.iconst 1, 1) := by decide +kernel
theorem dX1_goes_6 : decode cX1_goes 6 = .ok (.iadd, 1) := by decide +kernel
theorem dX1_goes_7 : decode cX1_goes 7 = .ok (.goto 4, 3) := by decide +kernel
theorem dX1_goes_10 : decode cX1_goes 10 = .ok (.iload_n 1, 1) := by decide +kernel
theorem dX1_goes_11 : decode cX1_goes 11 = .ok (.istore 5, 2) := by decide +kernel
theorem dX1_goes_13 : decode cX1_goes 13 = .ok (.iload_n 2, 1) := by decide +kernel
theorem dX1_goes_14 : decode cX1_goes 14 = .ok (.ifCond .eq 9, 3) := by decide +kernel
theorem dX1_goes_17 : decode cX1_goes 17 = .ok (.iload_n 1, 1) := by decide +kernel
theorem dX1_goes_18 : decode cX1_goes 18 = .ok (.iconst 2, 1) := by decide +kernel
theorem dX1_goes_19 : decode cX1_goes 19 = .ok (.idiv, 1) := by decide +kernel
theorem dX1_goes_20 : decode cX1_goes 20 = .ok (.goto 4, 3) := by decide +kernel
theorem dX1_goes_23 : decode cX1_goes 23 = .ok (.iload_n 1, 1) := by decide +kernel
theorem dX1_goes_24 : decode cX1_goes 24 = .ok (.istore 6, 2) := by decide +kernel
theorem dX1_goes_26 : decode cX1_goes 26 = .ok (.iload 4, 2) := by decide +kernel
theorem dX1_goes_28 : decode cX1_goes 28 = .ok (.iconst 4, 1) := by decide +kernel
theorem dX1_goes_29 : decode cX1_goes 29 = .ok (.irem, 1) := by decide +kernel
theorem dX1_goes_30 : decode cX1_goes 30 = .ok (.iconst 3, 1) := by decide +kernel
theorem dX1_goes_31 : decode cX1_goes 31 = .ok (.if_icmp .ne 7, 3) := by decide +kernel
theorem dX1_goes_34 : decode cX1_goes 34 = .ok (.iconst 0, 1) := by decide +kernel
theorem dX1_goes_35 : decode cX1_goes 35 = .ok (.goto 5, 3) := by decide +kernel
theorem dX1_goes_38 : decode cX1_goes 38 = .ok (.iload 5, 2) := by decide +kernel
theorem dX1_goes_40 : decode cX1_goes 40 = .ok (.istore 7, 2) := by decide +kernel
theorem dX1_goes_42 : decode cX1_goes 42 = .ok (.iload_n 0, 1) := by decide +kernel
theorem dX1_goes_43 : decode cX1_goes 43 = .ok (.tableswitch 67 1 5 #[33, 36, 39, 53, 62], 33) := by decide +kernel
theorem dX1_goes_76 : decode cX1_goes 76 = .ok (.iload 6, 2) := by decide +kernel
theorem dX1_goes_78 : decode cX1_goes 78 = .ok (.ireturn, 1) := by decide +kernel
theorem dX1_goes_79 : decode cX1_goes 79 = .ok (.iload 7, 2) := by decide +kernel
theorem dX1_goes_81 : decode cX1_goes 81 = .ok (.ireturn, 1) := by decide +kernel
theorem dX1_goes_82 : decode cX1_goes 82 = .ok (.iload_n 2, 1) := by decide +kernel
theorem dX1_goes_83 : decode cX1_goes 83 = .ok (.ifCond .eq 8, 3) := by decide +kernel
theorem dX1_goes_86 : decode cX1_goes 86 = .ok (.iload 5, 2) := by decide +kernel
theorem dX1_goes_88 : decode cX1_goes 88 = .ok (.goto 7, 3) := by decide +kernel
theorem dX1_goes_91 : decode cX1_goes 91 = .ok (.iconst 2, 1) := by decide +kernel
theorem dX1_goes_92 : decode cX1_goes 92 = .ok (.iload 5, 2) := by decide +kernel
theorem dX1_goes_94 : decode cX1_goes 94 = .ok (.imul, 1) := by decide +kernel
theorem dX1_goes_95 : decode cX1_goes 95 = .ok (.ireturn, 1) := by decide +kernel
theorem dX1_goes_96 : decode cX1_goes 96 = .ok (.iconst 0, 1) := by decide +kernel
theorem dX1_goes_97 : decode cX1_goes 97 = .ok (.iload 6, 2) := by decide +kernel
theorem dX1_goes_99 : decode cX1_goes 99 = .ok (.iconst 1, 1) := by decide +kernel
theorem dX1_goes_100 : decode cX1_goes 100 = .ok (.isub, 1) := by decide +kernel
theorem dX1_goes_101 : decode cX1_goes 101 = .ok (.invokestatic 13, 3) := by decide +kernel
theorem dX1_goes_104 : decode cX1_goes 104 = .ok (.ireturn, 1) := by decide +kernel
theorem dX1_goes_105 : decode cX1_goes 105 = .ok (.iload 7, 2) := by decide +kernel
theorem dX1_goes_107 : decode cX1_goes 107 = .ok (.iload_n 3, 1) := by decide +kernel
theorem dX1_goes_108 : decode cX1_goes 108 = .ok (.iadd, 1) := by decide +kernel
theorem dX1_goes_109 : decode cX1_goes 109 = .ok (.ireturn, 1) := by decide +kernel
theorem dX1_goes_110 : decode cX1_goes 110 = .ok (.iload 5, 2) := by decide +kernel
theorem dX1_goes_112 : decode cX1_goes 112 = .ok (.ireturn, 1) := by decide +kernel
theorem dX1_turns_0 : decode cX1_turns 0 = .ok (.iload_n 0, 1) := by decide +kernel
theorem dX1_turns_1 : decode cX1_turns 1 = .ok (.lookupswitch 40 #[(2, 27), (4, 29)], 27) := by decide +kernel
theorem dX1_turns_28 : decode cX1_turns 28 = .ok (.iconst 0, 1) := by decide +kernel
theorem dX1_turns_29 : decode cX1_turns 29 = .ok (.ireturn, 1) := by decide +kernel
theorem dX1_turns_30 : decode cX1_turns 30 = .ok (.iload_n 1, 1) := by decide +kernel
theorem dX1_turns_31 : decode cX1_turns 31 = .ok (.iconst 3, 1) := by decide +kernel
theorem dX1_turns_32 : decode cX1_turns 32 = .ok (.if_icmp .le 7, 3) := by decide +kernel
theorem dX1_turns_35 : decode cX1_turns 35 = .ok (.iconst 1, 1) := by decide +kernel
theorem dX1_turns_36 : decode cX1_turns 36 = .ok (.goto 4, 3) := by decide +kernel
theorem dX1_turns_39 : decode cX1_turns 39 = .ok (.iconst 0, 1) := by decide +kernel
theorem dX1_turns_40 : decode cX1_turns 40 = .ok (.ireturn, 1) := by decide +kernel
theorem dX1_turns_41 : decode cX1_turns 41 = .ok (.iconst 1, 1) := by decide +kernel
theorem dX1_turns_42 : decode cX1_turns 42 = .ok (.ireturn, 1) := by decide +kernel
theorem dX1_name_0 : decode cX1_name 0 = .ok (.iload_n 0, 1) := by decide +kernel
theorem dX1_name_1 : decode cX1_name 1 = .ok (.tableswitch 50 1 5 #[35, 38, 41, 44, 47], 35) := by decide +kernel
theorem dX1_name_36 : decode cX1_name 36 = .ok (.ldc 19, 2) := by decide +kernel
theorem dX1_name_38 : decode cX1_name 38 = .ok (.areturn, 1) := by decide +kernel
theorem dX1_name_39 : decode cX1_name 39 = .ok (.ldc 21, 2) := by decide +kernel
theorem dX1_name_41 : decode cX1_name 41 = .ok (.areturn, 1) := by decide +kernel
theorem dX1_name_42 : decode cX1_name 42 = .ok (.ldc 23, 2) := by decide +kernel
theorem dX1_name_44 : decode cX1_name 44 = .ok (.areturn, 1) := by decide +kernel
theorem dX1_name_45 : decode cX1_name 45 = .ok (.ldc 25, 2) := by decide +kernel
theorem dX1_name_47 : decode cX1_name 47 = .ok (.areturn, 1) := by decide +kernel
theorem dX1_name_48 : decode cX1_name 48 = .ok (.ldc 27, 2) := by decide +kernel
theorem dX1_name_50 : decode cX1_name 50 = .ok (.areturn, 1) := by decide +kernel
theorem dX1_name_51 : decode cX1_name 51 = .ok (.ldc 29, 2) := by decide +kernel
theorem dX1_name_53 : decode cX1_name 53 = .ok (.areturn, 1) := by decide +kernel
theorem dX2_init_0 : decode cX2_init 0 = .ok (.aload_n 0, 1) := by decide +kernel
theorem dX2_init_1 : decode cX2_init 1 = .ok (.invokespecial 1, 3) := by decide +kernel
theorem dX2_init_4 : decode cX2_init 4 = .ok (.aload_n 0, 1) := by decide +kernel
theorem dX2_init_5 : decode cX2_init 5 = .ok (.bipush 40, 2) := by decide +kernel
theorem dX2_init_7 : decode cX2_init 7 = .ok (.newarray .long, 2) := by decide +kernel
theorem dX2_init_9 : decode cX2_init 9 = .ok (.putfield 9, 3) := by decide +kernel
theorem dX2_init_12 : decode cX2_init 12 = .ok (.aload_n 0, 1) := by decide +kernel
theorem dX2_init_13 : decode cX2_init 13 = .ok (.iconst 0, 1) := by decide +kernel
theorem dX2_init_14 : decode cX2_init 14 = .ok (.putfield 13, 3) := by decide +kernel
theorem dX2_init_17 : decode cX2_init 17 = .ok (.aload_n 0, 1) := by decide +kernel
theorem dX2_init_18 : decode cX2_init 18 = .ok (.iconst 0, 1) := by decide +kernel
theorem dX2_init_19 : decode cX2_init 19 = .ok (.putfield 17, 3) := by decide +kernel
theorem dX2_init_22 : decode cX2_init 22 = .ok (.return_, 1) := by decide +kernel
theorem dX2_isMissing_0 : decode cX2_isMissing 0 = .ok (.aload_n 0, 1) := by decide +kernel
theorem dX2_isMissing_1 : decode cX2_isMissing 1 = .ok (.getfield 13, 3) := by decide +kernel
theorem dX2_isMissing_4 : decode cX2_isMissing 4 = .ok (.ifCond .ne 7, 3) := by decide +kernel
theorem dX2_isMissing_7 : decode cX2_isMissing 7 = .ok (.iconst 1, 1) := by decide +kernel
theorem dX2_isMissing_8 : decode cX2_isMissing 8 = .ok (.goto 4, 3) := by decide +kernel
theorem dX2_isMissing_11 : decode cX2_isMissing 11 = .ok (.iconst 0, 1) := by decide +kernel
theorem dX2_isMissing_12 : decode cX2_isMissing 12 = .ok (.ireturn, 1) := by decide +kernel
theorem dX2_make_0 : decode cX2_make 0 = .ok (.aload_n 0, 1) := by decide +kernel
theorem dX2_make_1 : decode cX2_make 1 = .ok (.iload_n 1, 1) := by decide +kernel
theorem dX2_make_2 : decode cX2_make 2 = .ok (.putfield 13, 3) := by decide +kernel
theorem dX2_make_5 : decode cX2_make 5 = .ok (.aload_n 0, 1) := by decide +kernel
theorem dX2_make_6 : decode cX2_make 6 = .ok (.iload_n 1, 1) := by decide +kernel
theorem dX2_make_7 : decode cX2_make 7 = .ok (.ifCond .ne 7, 3) := by decide +kernel
theorem dX2_make_10 : decode cX2_make 10 = .ok (.iconst 0, 1) := by decide +kernel
theorem dX2_make_11 : decode cX2_make 11 = .ok (.goto 4, 3) := by decide +kernel
theorem dX2_make_14 : decode cX2_make 14 = .ok (.iload_n 2, 1) := by decide +kernel
theorem dX2_make_15 : decode cX2_make 15 = .ok (.putfield 17, 3) := by decide +kernel
theorem dX2_make_18 : decode cX2_make 18 = .ok (.aload_n 0, 1) := by decide +kernel
theorem dX2_make_19 : decode cX2_make 19 = .ok (.getfield 9, 3) := by decide +kernel
theorem dX2_make_22 : decode cX2_make 22 = .ok (.lconst 0, 1) := by decide +kernel
theorem dX2_make_23 : decode cX2_make 23 = .ok (.invokestatic 20, 3) := by decide +kernel
theorem dX2_make_26 : decode cX2_make 26 = .ok (.return_, 1) := by decide +kernel
theorem dX2_put_0 : decode cX2_put 0 = .ok (.aload_n 0, 1) := by decide +kernel
theorem dX2_put_1 : decode cX2_put 1 = .ok (.getfield 13, 3) := by decide +kernel
theorem dX2_put_4 : decode cX2_put 4 = .ok (.lookupswitch 54 #[(8, 28), (16, 41)], 28) := by decide +kernel
theorem dX2_put_32 : decode cX2_put 32 = .ok (.aload_n 0, 1) := by decide +kernel
theorem dX2_put_33 : decode cX2_put 33 = .ok (.getfield 9, 3) := by decide +kernel
theorem dX2_put_36 : decode cX2_put 36 = .ok (.iload_n 1, 1) := by decide +kernel
theorem dX2_put_37 : decode cX2_put 37 = .ok (.lload_n 2, 1) := by decide +kernel
theorem dX2_put_38 : decode cX2_put 38 = .ok (.l2i, 1) := by decide +kernel
theorem dX2_put_39 : decode cX2_put 39 = .ok (.i2b, 1) := by decide +kernel
theorem dX2_put_40 : decode cX2_put 40 = .ok (.i2l, 1) := by decide +kernel
theorem dX2_put_41 : decode cX2_put 41 = .ok (.lastore, 1) := by decide +kernel
theorem dX2_put_42 : decode cX2_put 42 = .ok (.goto 23, 3) := by decide +kernel
theorem dX2_put_45 : decode cX2_put 45 = .ok (.aload_n 0, 1) := by decide +kernel
theorem dX2_put_46 : decode cX2_put 46 = .ok (.getfield 9, 3) := by decide +kernel
theorem dX2_put_49 : decode cX2_put 49 = .ok (.iload_n 1, 1) := by decide +kernel
theorem dX2_put_50 : decode cX2_put 50 = .ok (.lload_n 2, 1) := by decide +kernel
theorem dX2_put_51 : decode cX2_put 51 = .ok (.l2i, 1) := by decide +kernel
theorem dX2_put_52 : decode cX2_put 52 = .ok (.i2s, 1) := by decide +kernel
theorem dX2_put_53 : decode cX2_put 53 = .ok (.i2l, 1) := by decide +kernel
theorem dX2_put_54 : decode cX2_put 54 = .ok (.lastore, 1) := by decide +kernel
theorem dX2_put_55 : decode cX2_put 55 = .ok (.goto 10, 3) := by decide +kernel
theorem dX2_put_58 : decode cX2_put 58 = .ok (.aload_n 0, 1) := by decide +kernel
theorem dX2_put_59 : decode cX2_put 59 = .ok (.getfield 9, 3) := by decide +kernel
theorem dX2_put_62 : decode cX2_put 62 = .ok (.iload_n 1, 1) := by decide +kernel
theorem dX2_put_63 : decode cX2_put 63 = .ok (.lload_n 2, 1) := by decide +kernel
theorem dX2_put_64 : decode cX2_put 64 = .ok (.lastore, 1) := by decide +kernel
theorem dX2_put_65 : decode cX2_put 65 = .ok (.return_, 1) := by decide +kernel
theorem dX2_hasFrom_0 : decode cX2_hasFrom 0 = .ok (.iload_n 1, 1) := by decide +kernel
theorem dX2_hasFrom_1 : decode cX2_hasFrom 1 = .ok (.ifCond .lt 29, 3) := by decide +kernel
theorem dX2_hasFrom_4 : decode cX2_hasFrom 4 = .ok (.iload_n 2, 1) := by decide +kernel
theorem dX2_hasFrom_5 : decode cX2_hasFrom 5 = .ok (.ifCond .lt 25, 3) := by decide +kernel
theorem dX2_hasFrom_8 : decode cX2_hasFrom 8 = .ok (.iload_n 2, 1) := by decide +kernel
theorem dX2_hasFrom_9 : decode cX2_hasFrom 9 = .ok (.aload_n 0, 1) := by decide +kernel
theorem dX2_hasFrom_10 : decode cX2_hasFrom 10 = .ok (.getfield 17, 3) := by decide +kernel
theorem dX2_hasFrom_13 : decode cX2_hasFrom 13 = .ok (.if_icmp .gt 17, 3) := by decide +kernel
theorem dX2_hasFrom_16 : decode cX2_hasFrom 16 = .ok (.iload_n 1, 1) := by decide +kernel
theorem dX2_hasFrom_17 : decode cX2_hasFrom 17 = .ok (.aload_n 0, 1) := by decide +kernel
theorem dX2_hasFrom_18 : decode cX2_hasFrom 18 = .ok (.getfield 17, 3) := by decide +kernel
theorem dX2_hasFrom_21 : decode cX2_hasFrom 21 = .ok (.iload_n 2, 1) := by decide +kernel
theorem dX2_hasFrom_22 : decode cX2_hasFrom 22 = .ok (.isub, 1) := by decide +kernel
theorem dX2_hasFrom_23 : decode cX2_hasFrom 23 = .ok (.if_icmp .gt 7, 3) := by decide +kernel
theorem dX2_hasFrom_26 : decode cX2_hasFrom 26 = .ok (.iconst 1, 1) := by decide +kernel
theorem dX2_hasFrom_27 : decode cX2_hasFrom 27 = .ok (.goto 4, 3) := by decide +kernel
theorem dX2_hasFrom_30 : decode cX2_hasFrom 30 = .ok (.iconst 0, 1) := by decide +kernel
theorem dX2_hasFrom_31 : decode cX2_hasFrom 31 = .ok (.ireturn, 1) := by decide +kernel
theorem dX3_init_0 : decode cX3_init 0 = .ok (.aload_n 0, 1) := by decide +kernel
theorem dX3_init_1 : decode cX3_init 1 = .ok (.invokespecial 1, 3) := by decide +kernel
theorem dX3_init_4 : decode cX3_init 4 = .ok (.aload_n 0, 1) := by decide +kernel
theorem dX3_init_5 : decode cX3_init 5 = .ok (.iconst 0, 1) := by decide +kernel
theorem dX3_init_6 : decode cX3_init 6 = .ok (.putfield 7, 3) := by decide +kernel
theorem dX3_init_9 : decode cX3_init 9 = .ok (.aload_n 0, 1) := by decide +kernel
theorem dX3_init_10 : decode cX3_init 10 = .ok (.bipush 120, 2) := by decide +kernel
theorem dX3_init_12 : decode cX3_init 12 = .ok (.newarray .byte, 2) := by decide +kernel
theorem dX3_init_14 : decode cX3_init 14 = .ok (.putfield 13, 3) := by decide +kernel
theorem dX3_init_17 : decode cX3_init 17 = .ok (.aload_n 0, 1) := by decide +kernel
theorem dX3_init_18 : decode cX3_init 18 = .ok (.iconst 0, 1) := by decide +kernel
theorem dX3_init_19 : decode cX3_init 19 = .ok (.putfield 17, 3) := by decide +kernel
theorem dX3_init_22 : decode cX3_init 22 = .ok (.aload_n 0, 1) := by decide +kernel
theorem dX3_init_23 : decode cX3_init 23 = .ok (.iconst 0, 1) := by decide +kernel
theorem dX3_init_24 : decode cX3_init 24 = .ok (.putfield 20, 3) := by decide +kernel
theorem dX3_init_27 : decode cX3_init 27 = .ok (.return_, 1) := by decide +kernel
theorem dX3_hasRoomFor_0 : decode cX3_hasRoomFor 0 = .ok (.iload_n 1, 1) := by decide +kernel
theorem dX3_hasRoomFor_1 : decode cX3_hasRoomFor 1 = .ok (.bipush 120, 2) := by decide +kernel
theorem dX3_hasRoomFor_3 : decode cX3_hasRoomFor 3 = .ok (.aload_n 0, 1) := by decide +kernel
theorem dX3_hasRoomFor_4 : decode cX3_hasRoomFor 4 = .ok (.getfield 7, 3) := by decide +kernel
theorem dX3_hasRoomFor_7 : decode cX3_hasRoomFor 7 = .ok (.isub, 1) := by decide +kernel
theorem dX3_hasRoomFor_8 : decode cX3_hasRoomFor 8 = .ok (.if_icmp .gt 7, 3) := by decide +kernel
theorem dX3_hasRoomFor_11 : decode cX3_hasRoomFor 11 = .ok (.iconst 1, 1) := by decide +kernel
theorem dX3_hasRoomFor_12 : decode cX3_hasRoomFor 12 = .ok (.goto 4, 3) := by decide +kernel
theorem dX3_hasRoomFor_15 : decode cX3_hasRoomFor 15 = .ok (.iconst 0, 1) := by decide +kernel
theorem dX3_hasRoomFor_16 : decode cX3_hasRoomFor 16 = .ok (.ireturn, 1) := by decide +kernel
theorem dX3_append_0 : decode cX3_append 0 = .ok (.aload_n 0, 1) := by decide +kernel
theorem dX3_append_1 : decode cX3_append 1 = .ok (.iconst 1, 1) := by decide +kernel
theorem dX3_append_2 : decode cX3_append 2 = .ok (.invokevirtual 23, 3) := by decide +kernel
theorem dX3_append_5 : decode cX3_append 5 = .ok (.ifCond .eq 23, 3) := by decide +kernel
theorem dX3_append_8 : decode cX3_append 8 = .ok (.aload_n 0, 1) := by decide +kernel
theorem dX3_append_9 : decode cX3_append 9 = .ok (.getfield 13, 3) := by decide +kernel
theorem dX3_append_12 : decode cX3_append 12 = .ok (.aload_n 0, 1) := by decide +kernel
theorem dX3_append_13 : decode cX3_append 13 = .ok (.getfield 7, 3) := by decide +kernel
theorem dX3_append_16 : decode cX3_append 16 = .ok (.iload_n 1, 1) := by decide +kernel
theorem dX3_append_17 : decode cX3_append 17 = .ok (.bastore, 1) := by decide +kernel
theorem dX3_append_18 : decode cX3_append 18 = .ok (.aload_n 0, 1) := by decide +kernel
theorem dX3_append_19 : decode cX3_append 19 = .ok (.dup, 1) := by decide +kernel
theorem dX3_append_20 : decode cX3_append 20 = .ok (.getfield 7, 3) := by decide +kernel
theorem dX3_append_23 : decode cX3_append 23 = .ok (.iconst 1, 1) := by decide +kernel
theorem dX3_append_24 : decode cX3_append 24 = .ok (.iadd, 1) := by decide +kernel
theorem dX3_append_25 : decode cX3_append 25 = .ok (.putfield 7, 3) := by decide +kernel
theorem dX3_append_28 : decode cX3_append 28 = .ok (.return_, 1) := by decide +kernel
theorem dX3_lookAtFirst_0 : decode cX3_lookAtFirst 0 = .ok (.aload_n 0, 1) := by decide +kernel
theorem dX3_lookAtFirst_1 : decode cX3_lookAtFirst 1 = .ok (.iconst 0, 1) := by decide +kernel
theorem dX3_lookAtFirst_2 : decode cX3_lookAtFirst 2 = .ok (.putfield 20, 3) := by decide +kernel
theorem dX3_lookAtFirst_5 : decode cX3_lookAtFirst 5 = .ok (.aload_n 0, 1) := by decide +kernel
theorem dX3_lookAtFirst_6 : decode cX3_lookAtFirst 6 = .ok (.invokevirtual 27, 3) := by decide +kernel
theorem dX3_lookAtFirst_9 : decode cX3_lookAtFirst 9 = .ok (.return_, 1) := by decide +kernel
theorem dX3_looksAt_0 : decode cX3_looksAt 0 = .ok (.aload_n 0, 1) := by decide +kernel
theorem dX3_looksAt_1 : decode cX3_looksAt 1 = .ok (.getfield 17, 3) := by decide +kernel
theorem dX3_looksAt_4 : decode cX3_looksAt 4 = .ok (.ireturn, 1) := by decide +kernel
theorem dX3_isAllTaken_0 : decode cX3_isAllTaken 0 = .ok (.aload_n 0, 1) := by decide +kernel
theorem dX3_isAllTaken_1 : decode cX3_isAllTaken 1 = .ok (.getfield 17, 3) := by decide +kernel
theorem dX3_isAllTaken_4 : decode cX3_isAllTaken 4 = .ok (.aload_n 0, 1) := by decide +kernel
theorem dX3_isAllTaken_5 : decode cX3_isAllTaken 5 = .ok (.getfield 7, 3) := by decide +kernel
theorem dX3_isAllTaken_8 : decode cX3_isAllTaken 8 = .ok (.if_icmp .ne 7, 3) := by decide +kernel
theorem dX3_isAllTaken_11 : decode cX3_isAllTaken 11 = .ok (.iconst 1, 1) := by decide +kernel
theorem dX3_isAllTaken_12 : decode cX3_isAllTaken 12 = .ok (.goto 4, 3) := by decide +kernel
theorem dX3_isAllTaken_15 : decode cX3_isAllTaken 15 = .ok (.iconst 0, 1) := by decide +kernel
theorem dX3_isAllTaken_16 : decode cX3_isAllTaken 16 = .ok (.ireturn, 1) := by decide +kernel
theorem dX3_take_0 : decode cX3_take 0 = .ok (.aload_n 0, 1) := by decide +kernel
theorem dX3_take_1 : decode cX3_take 1 = .ok (.getfield 20, 3) := by decide +kernel
theorem dX3_take_4 : decode cX3_take 4 = .ok (.aload_n 0, 1) := by decide +kernel
theorem dX3_take_5 : decode cX3_take 5 = .ok (.getfield 17, 3) := by decide +kernel
theorem dX3_take_8 : decode cX3_take 8 = .ok (.isub, 1) := by decide +kernel
theorem dX3_take_9 : decode cX3_take 9 = .ok (.aload_n 1, 1) := by decide +kernel
theorem dX3_take_10 : decode cX3_take 10 = .ok (.invokevirtual 30, 3) := by decide +kernel
theorem dX3_take_13 : decode cX3_take 13 = .ok (.if_icmp .eq 5, 3) := by decide +kernel
theorem dX3_take_16 : decode cX3_take 16 = .ok (.iconst 0, 1) := by decide +kernel
theorem dX3_take_17 : decode cX3_take 17 = .ok (.ireturn, 1) := by decide +kernel
theorem dX3_take_18 : decode cX3_take 18 = .ok (.iconst 0, 1) := by decide +kernel
theorem dX3_take_19 : decode cX3_take 19 = .ok (.istore_n 2, 1) := by decide +kernel
theorem dX3_take_20 : decode cX3_take 20 = .ok (.iload_n 2, 1) := by decide +kernel
theorem dX3_take_21 : decode cX3_take 21 = .ok (.aload_n 1, 1) := by decide +kernel
theorem dX3_take_22 : decode cX3_take 22 = .ok (.invokevirtual 30, 3) := by decide +kernel
theorem dX3_take_25 : decode cX3_take 25 = .ok (.if_icmp .ge 30, 3) := by decide +kernel
theorem dX3_take_28 : decode cX3_take 28 = .ok (.aload_n 0, 1) := by decide +kernel
theorem dX3_take_29 : decode cX3_take 29 = .ok (.getfield 13, 3) := by decide +kernel
theorem dX3_take_32 : decode cX3_take 32 = .ok (.aload_n 0, 1) := by decide +kernel
theorem dX3_take_33 : decode cX3_take 33 = .ok (.getfield 17, 3) := by decide +kernel
theorem dX3_take_36 : decode cX3_take 36 = .ok (.iload_n 2, 1) := by decide +kernel
theorem dX3_take_37 : decode cX3_take 37 = .ok (.iadd, 1) := by decide +kernel
theorem dX3_take_38 : decode cX3_take 38 = .ok (.baload, 1) := by decide +kernel
theorem dX3_take_39 : decode cX3_take 39 = .ok (.aload_n 1, 1) := by decide +kernel
theorem dX3_take_40 : decode cX3_take 40 = .ok (.iload_n 2, 1) := by decide +kernel
theorem dX3_take_41 : decode cX3_take 41 = .ok (.invokevirtual 35, 3) := by decide +kernel
theorem dX3_take_44 : decode cX3_take 44 = .ok (.if_icmp .eq 5, 3) := by decide +kernel
theorem dX3_take_47 : decode cX3_take 47 = .ok (.iconst 0, 1) := by decide +kernel
theorem dX3_take_48 : decode cX3_take 48 = .ok (.ireturn, 1) := by decide +kernel
theorem dX3_take_49 : decode cX3_take 49 = .ok (.iinc 2 1, 3) := by decide +kernel
theorem dX3_take_52 : decode cX3_take 52 = .ok (.goto (-32), 3) := by decide +kernel
theorem dX3_take_55 : decode cX3_take 55 = .ok (.aload_n 0, 1) := by decide +kernel
theorem dX3_take_56 : decode cX3_take 56 = .ok (.invokevirtual 27, 3) := by decide +kernel
theorem dX3_take_59 : decode cX3_take 59 = .ok (.iconst 1, 1) := by decide +kernel
theorem dX3_take_60 : decode cX3_take 60 = .ok (.ireturn, 1) := by decide +kernel
theorem dX3_takeNumber_0 : decode cX3_takeNumber 0 = .ok (.aload_n 0, 1) := by decide +kernel
theorem dX3_takeNumber_1 : decode cX3_takeNumber 1 = .ok (.invokevirtual 39, 3) := by decide +kernel
theorem dX3_takeNumber_4 : decode cX3_takeNumber 4 = .ok (.ifCond .ne 19, 3) := by decide +kernel
theorem dX3_takeNumber_7 : decode cX3_takeNumber 7 = .ok (.aload_n 0, 1) := by decide +kernel
theorem dX3_takeNumber_8 : decode cX3_takeNumber 8 = .ok (.getfield 13, 3) := by decide +kernel
theorem dX3_takeNumber_11 : decode cX3_takeNumber 11 = .ok (.aload_n 0, 1) := by decide +kernel
theorem dX3_takeNumber_12 : decode cX3_takeNumber 12 = .ok (.getfield 17, 3) := by decide +kernel
theorem dX3_takeNumber_15 : decode cX3_takeNumber 15 = .ok (.baload, 1) := by decide +kernel
theorem dX3_takeNumber_16 : decode cX3_takeNumber 16 = .ok (.invokestatic 43, 3) := by decide +kernel
theorem dX3_takeNumber_19 : decode cX3_takeNumber 19 = .ok (.iconst 2, 1) := by decide +kernel
theorem dX3_takeNumber_20 : decode cX3_takeNumber 20 = .ok (.if_icmp .eq 5, 3) := by decide +kernel
theorem dX3_takeNumber_23 : decode cX3_takeNumber 23 = .ok (.iconst (-1), 1) := by decide +kernel
theorem dX3_takeNumber_24 : decode cX3_takeNumber 24 = .ok (.ireturn, 1) := by decide +kernel
theorem dX3_takeNumber_25 : decode cX3_takeNumber 25 = .ok (.iconst 0, 1) := by decide +kernel
theorem dX3_takeNumber_26 : decode cX3_takeNumber 26 = .ok (.istore_n 2, 1) := by decide +kernel
theorem dX3_takeNumber_27 : decode cX3_takeNumber 27 = .ok (.aload_n 0, 1) := by decide +kernel
theorem dX3_takeNumber_28 : decode cX3_takeNumber 28 = .ok (.getfield 17, 3) := by decide +kernel
theorem dX3_takeNumber_31 : decode cX3_takeNumber 31 = .ok (.istore_n 3, 1) := by decide +kernel
theorem dX3_takeNumber_32 : decode cX3_takeNumber 32 = .ok (.iload_n 3, 1) := by decide +kernel
theorem dX3_takeNumber_33 : decode cX3_takeNumber 33 = .ok (.aload_n 0, 1) := by decide +kernel
theorem dX3_takeNumber_34 : decode cX3_takeNumber 34 = .ok (.getfield 20, 3) := by decide +kernel
theorem dX3_takeNumber_37 : decode cX3_takeNumber 37 = .ok (.if_icmp .ge 31, 3) := by decide +kernel
theorem dX3_takeNumber_40 : decode cX3_takeNumber 40 = .ok (.bipush 10, 2) := by decide +kernel
theorem dX3_takeNumber_42 : decode cX3_takeNumber 42 = .ok (.iload_n 2, 1) := by decide +kernel
theorem dX3_takeNumber_43 : decode cX3_takeNumber 43 = .ok (.imul, 1) := by decide +kernel
theorem dX3_takeNumber_44 : decode cX3_takeNumber 44 = .ok (.aload_n 0, 1) := by decide +kernel
theorem dX3_takeNumber_45 : decode cX3_takeNumber 45 = .ok (.getfield 13, 3) := by decide +kernel
theorem dX3_takeNumber_48 : decode cX3_takeNumber 48 = .ok (.iload_n 3, 1) := by decide +kernel
theorem dX3_takeNumber_49 : decode cX3_takeNumber 49 = .ok (.baload, 1) := by decide +kernel
theorem dX3_takeNumber_50 : decode cX3_takeNumber 50 = .ok (.iadd, 1) := by decide +kernel
theorem dX3_takeNumber_51 : decode cX3_takeNumber 51 = .ok (.bipush 48, 2) := by decide +kernel
theorem dX3_takeNumber_53 : decode cX3_takeNumber 53 = .ok (.isub, 1) := by decide +kernel
theorem dX3_takeNumber_54 : decode cX3_takeNumber 54 = .ok (.istore_n 2, 1) := by decide +kernel
theorem dX3_takeNumber_55 : decode cX3_takeNumber 55 = .ok (.iload_n 2, 1) := by decide +kernel
theorem dX3_takeNumber_56 : decode cX3_takeNumber 56 = .ok (.iload_n 1, 1) := by decide +kernel
theorem dX3_takeNumber_57 : decode cX3_takeNumber 57 = .ok (.if_icmp .le 5, 3) := by decide +kernel
theorem dX3_takeNumber_60 : decode cX3_takeNumber 60 = .ok (.iconst (-1), 1) := by decide +kernel
theorem dX3_takeNumber_61 : decode cX3_takeNumber 61 = .ok (.ireturn, 1) := by decide +kernel
theorem dX3_takeNumber_62 : decode cX3_takeNumber 62 = .ok (.iinc 3 1, 3) := by decide +kernel
theorem dX3_takeNumber_65 : decode cX3_takeNumber 65 = .ok (.goto (-33), 3) := by decide +kernel
theorem dX3_takeNumber_68 : decode cX3_takeNumber 68 = .ok (.aload_n 0, 1) := by decide +kernel
theorem dX3_takeNumber_69 : decode cX3_takeNumber 69 = .ok (.invokevirtual 27, 3) := by decide +kernel
theorem dX3_takeNumber_72 : decode cX3_takeNumber 72 = .ok (.iload_n 2, 1) := by decide +kernel
theorem dX3_takeNumber_73 : decode cX3_takeNumber 73 = .ok (.ireturn, 1) := by decide +kernel
theorem dX3_lookAtNext_0 : decode cX3_lookAtNext 0 = .ok (.aload_n 0, 1) := by decide +kernel
theorem dX3_lookAtNext_1 : decode cX3_lookAtNext 1 = .ok (.aload_n 0, 1) := by decide +kernel
theorem dX3_lookAtNext_2 : decode cX3_lookAtNext 2 = .ok (.getfield 20, 3) := by decide +kernel
theorem dX3_lookAtNext_5 : decode cX3_lookAtNext 5 = .ok (.putfield 17, 3) := by decide +kernel
theorem dX3_lookAtNext_8 : decode cX3_lookAtNext 8 = .ok (.aload_n 0, 1) := by decide +kernel
theorem dX3_lookAtNext_9 : decode cX3_lookAtNext 9 = .ok (.getfield 17, 3) := by decide +kernel
theorem dX3_lookAtNext_12 : decode cX3_lookAtNext 12 = .ok (.aload_n 0, 1) := by decide +kernel
theorem dX3_lookAtNext_13 : decode cX3_lookAtNext 13 = .ok (.getfield 7, 3) := by decide +kernel
theorem dX3_lookAtNext_16 : decode cX3_lookAtNext 16 = .ok (.if_icmp .ge 30, 3) := by decide +kernel
theorem dX3_lookAtNext_19 : decode cX3_lookAtNext 19 = .ok (.aload_n 0, 1) := by decide +kernel
theorem dX3_lookAtNext_20 : decode cX3_lookAtNext 20 = .ok (.getfield 13, 3) := by decide +kernel
theorem dX3_lookAtNext_23 : decode cX3_lookAtNext 23 = .ok (.aload_n 0, 1) := by decide +kernel
theorem dX3_lookAtNext_24 : decode cX3_lookAtNext 24 = .ok (.getfield 17, 3) := by decide +kernel
theorem dX3_lookAtNext_27 : decode cX3_lookAtNext 27 = .ok (.baload, 1) := by decide +kernel
theorem dX3_lookAtNext_28 : decode cX3_lookAtNext 28 = .ok (.bipush 32, 2) := by decide +kernel
theorem dX3_lookAtNext_30 : decode cX3_lookAtNext 30 = .ok (.if_icmp .ne 16, 3) := by decide +kernel
theorem dX3_lookAtNext_33 : decode cX3_lookAtNext 33 = .ok (.aload_n 0, 1) := by decide +kernel
theorem dX3_lookAtNext_34 : decode cX3_lookAtNext 34 = .ok (.dup, 1) := by decide +kernel
theorem dX3_lookAtNext_35 : decode cX3_lookAtNext 35 = .ok (.getfield 17, 3) := by decide +kernel
theorem dX3_lookAtNext_38 : decode cX3_lookAtNext 38 = .ok (.iconst 1, 1) := by decide +kernel
theorem dX3_lookAtNext_39 : decode cX3_lookAtNext 39 = .ok (.iadd, 1) := by decide +kernel
theorem dX3_lookAtNext_40 : decode cX3_lookAtNext 40 = .ok (.putfield 17, 3) := by decide +kernel
theorem dX3_lookAtNext_43 : decode cX3_lookAtNext 43 = .ok (.goto (-35), 3) := by decide +kernel
theorem dX3_lookAtNext_46 : decode cX3_lookAtNext 46 = .ok (.aload_n 0, 1) := by decide +kernel
theorem dX3_lookAtNext_47 : decode cX3_lookAtNext 47 = .ok (.aload_n 0, 1) := by decide +kernel
theorem dX3_lookAtNext_48 : decode cX3_lookAtNext 48 = .ok (.getfield 17, 3) := by decide +kernel
theorem dX3_lookAtNext_51 : decode cX3_lookAtNext 51 = .ok (.putfield 20, 3) := by decide +kernel
theorem dX3_lookAtNext_54 : decode cX3_lookAtNext 54 = .ok (.aload_n 0, 1) := by decide +kernel
theorem dX3_lookAtNext_55 : decode cX3_lookAtNext 55 = .ok (.invokevirtual 39, 3) := by decide +kernel
theorem dX3_lookAtNext_58 : decode cX3_lookAtNext 58 = .ok (.ifCond .eq 4, 3) := by decide +kernel
theorem dX3_lookAtNext_61 : decode cX3_lookAtNext 61 = .ok (.return_, 1) := by decide +kernel
theorem dX3_lookAtNext_62 : decode cX3_lookAtNext 62 = .ok (.aload_n 0, 1) := by decide +kernel
theorem dX3_lookAtNext_63 : decode cX3_lookAtNext 63 = .ok (.getfield 13, 3) := by decide +kernel
theorem dX3_lookAtNext_66 : decode cX3_lookAtNext 66 = .ok (.aload_n 0, 1) := by decide +kernel
theorem dX3_lookAtNext_67 : decode cX3_lookAtNext 67 = .ok (.getfield 17, 3) := by decide +kernel
theorem dX3_lookAtNext_70 : decode cX3_lookAtNext 70 = .ok (.baload, 1) := by decide +kernel
theorem dX3_lookAtNext_71 : decode cX3_lookAtNext 71 = .ok (.invokestatic 43, 3) := by decide +kernel
theorem dX3_lookAtNext_74 : decode cX3_lookAtNext 74 = .ok (.istore_n 1, 1) := by decide +kernel
theorem dX3_lookAtNext_75 : decode cX3_lookAtNext 75 = .ok (.aload_n 0, 1) := by decide +kernel
theorem dX3_lookAtNext_76 : decode cX3_lookAtNext 76 = .ok (.dup, 1) := by decide +kernel
theorem dX3_lookAtNext_77 : decode cX3_lookAtNext 77 = .ok (.getfield 20, 3) := by decide +kernel
theorem dX3_lookAtNext_80 : decode cX3_lookAtNext 80 = .ok (.iconst 1, 1) := by decide +kernel
theorem dX3_lookAtNext_81 : decode cX3_lookAtNext 81 = .ok (.iadd, 1) := by decide +kernel
theorem dX3_lookAtNext_82 : decode cX3_lookAtNext 82 = .ok (.putfield 20, 3) := by decide +kernel
theorem dX3_lookAtNext_85 : decode cX3_lookAtNext 85 = .ok (.iload_n 1, 1) := by decide +kernel
theorem dX3_lookAtNext_86 : decode cX3_lookAtNext 86 = .ok (.iconst 3, 1) := by decide +kernel
theorem dX3_lookAtNext_87 : decode cX3_lookAtNext 87 = .ok (.if_icmp .eq 43, 3) := by decide +kernel
theorem dX3_lookAtNext_90 : decode cX3_lookAtNext 90 = .ok (.aload_n 0, 1) := by decide +kernel
theorem dX3_lookAtNext_91 : decode cX3_lookAtNext 91 = .ok (.getfield 20, 3) := by decide +kernel
theorem dX3_lookAtNext_94 : decode cX3_lookAtNext 94 = .ok (.aload_n 0, 1) := by decide +kernel
theorem dX3_lookAtNext_95 : decode cX3_lookAtNext 95 = .ok (.getfield 7, 3) := by decide +kernel
theorem dX3_lookAtNext_98 : decode cX3_lookAtNext 98 = .ok (.if_icmp .ge 32, 3) := by decide +kernel
theorem dX3_lookAtNext_101 : decode cX3_lookAtNext 101 = .ok (.aload_n 0, 1) := by decide +kernel
theorem dX3_lookAtNext_102 : decode cX3_lookAtNext 102 = .ok (.getfield 13, 3) := by decide +kernel
theorem dX3_lookAtNext_105 : decode cX3_lookAtNext 105 = .ok (.aload_n 0, 1) := by decide +kernel
theorem dX3_lookAtNext_106 : decode cX3_lookAtNext 106 = .ok (.getfield 20, 3) := by decide +kernel
theorem dX3_lookAtNext_109 : decode cX3_lookAtNext 109 = .ok (.baload, 1) := by decide +kernel
theorem dX3_lookAtNext_110 : decode cX3_lookAtNext 110 = .ok (.invokestatic 43, 3) := by decide +kernel
theorem dX3_lookAtNext_113 : decode cX3_lookAtNext 113 = .ok (.iload_n 1, 1) := by decide +kernel
theorem dX3_lookAtNext_114 : decode cX3_lookAtNext 114 = .ok (.if_icmp .ne 16, 3) := by decide +kernel
theorem dX3_lookAtNext_117 : decode cX3_lookAtNext 117 = .ok (.aload_n 0, 1) := by decide +kernel
theorem dX3_lookAtNext_118 : decode cX3_lookAtNext 118 = .ok (.dup, 1) := by decide +kernel
theorem dX3_lookAtNext_119 : decode cX3_lookAtNext 119 = .ok (.getfield 20, 3) := by decide +kernel
theorem dX3_lookAtNext_122 : decode cX3_lookAtNext 122 = .ok (.iconst 1, 1) := by decide +kernel
theorem dX3_lookAtNext_123 : decode cX3_lookAtNext 123 = .ok (.iadd, 1) := by decide +kernel
theorem dX3_lookAtNext_124 : decode cX3_lookAtNext 124 = .ok (.putfield 20, 3) := by decide +kernel
theorem dX3_lookAtNext_127 : decode cX3_lookAtNext 127 = .ok (.goto (-42), 3) := by decide +kernel
theorem dX3_lookAtNext_130 : decode cX3_lookAtNext 130 = .ok (.return_, 1) := by decide +kernel
theorem dX3_sortOf_0 : decode cX3_sortOf 0 = .ok (.iload_n 0, 1) := by decide +kernel
theorem dX3_sortOf_1 : decode cX3_sortOf 1 = .ok (.bipush 97, 2) := by decide +kernel
theorem dX3_sortOf_3 : decode cX3_sortOf 3 = .ok (.if_icmp .lt 11, 3) := by decide +kernel
theorem dX3_sortOf_6 : decode cX3_sortOf 6 = .ok (.iload_n 0, 1) := by decide +kernel
theorem dX3_sortOf_7 : decode cX3_sortOf 7 = .ok (.bipush 122, 2) := by decide +kernel
theorem dX3_sortOf_9 : decode cX3_sortOf 9 = .ok (.if_icmp .gt 5, 3) := by decide +kernel
theorem dX3_sortOf_12 : decode cX3_sortOf 12 = .ok (.iconst 1, 1) := by decide +kernel
theorem dX3_sortOf_13 : decode cX3_sortOf 13 = .ok (.ireturn, 1) := by decide +kernel
theorem dX3_sortOf_14 : decode cX3_sortOf 14 = .ok (.iload_n 0, 1) := by decide +kernel
theorem dX3_sortOf_15 : decode cX3_sortOf 15 = .ok (.bipush 48, 2) := by decide +kernel
theorem dX3_sortOf_17 : decode cX3_sortOf 17 = .ok (.if_icmp .lt 13, 3) := by decide +kernel
theorem dX3_sortOf_20 : decode cX3_sortOf 20 = .ok (.iload_n 0, 1) := by decide +kernel
theorem dX3_sortOf_21 : decode cX3_sortOf 21 = .ok (.bipush 57, 2) := by decide +kernel
theorem dX3_sortOf_23 : decode cX3_sortOf 23 = .ok (.if_icmp .gt 7, 3) := by decide +kernel
theorem dX3_sortOf_26 : decode cX3_sortOf 26 = .ok (.iconst 2, 1) := by decide +kernel
theorem dX3_sortOf_27 : decode cX3_sortOf 27 = .ok (.goto 4, 3) := by decide +kernel
theorem dX3_sortOf_30 : decode cX3_sortOf 30 = .ok (.iconst 3, 1) := by decide +kernel
theorem dX3_sortOf_31 : decode cX3_sortOf 31 = .ok (.ireturn, 1) := by decide +kernel
theorem dX4_readInto_0 : decode cX4_readInto 0 = .ok (.aload_n 1, 1) := by decide +kernel
theorem dX4_readInto_1 : decode cX4_readInto 1 = .ok (.invokevirtual 7, 3) := by decide +kernel
theorem dX4_readInto_4 : decode cX4_readInto 4 = .ok (.iconst 1, 1) := by decide +kernel
theorem dX4_readInto_5 : decode cX4_readInto 5 = .ok (.istore_n 2, 1) := by decide +kernel
theorem dX4_readInto_6 : decode cX4_readInto 6 = .ok (.iload_n 2, 1) := by decide +kernel
theorem dX4_readInto_7 : decode cX4_readInto 7 = .ok (.bipush 120, 2) := by decide +kernel
theorem dX4_readInto_9 : decode cX4_readInto 9 = .ok (.if_icmp .gt 49, 3) := by decide +kernel
theorem dX4_readInto_12 : decode cX4_readInto 12 = .ok (.aload_n 0, 1) := by decide +kernel
theorem dX4_readInto_13 : decode cX4_readInto 13 = .ok (.aload_n 1, 1) := by decide +kernel
theorem dX4_readInto_14 : decode cX4_readInto 14 = .ok (.invokestatic 12, 3) := by decide +kernel
theorem dX4_readInto_17 : decode cX4_readInto 17 = .ok (.ifCond .ne 10, 3) := by decide +kernel
theorem dX4_readInto_20 : decode cX4_readInto 20 = .ok (.iconst (-1), 1) := by decide +kernel
theorem dX4_readInto_21 : decode cX4_readInto 21 = .ok (.aload_n 1, 1) := by decide +kernel
theorem dX4_readInto_22 : decode cX4_readInto 22 = .ok (.invokevirtual 18, 3) := by decide +kernel
theorem dX4_readInto_25 : decode cX4_readInto 25 = .ok (.isub, 1) := by decide +kernel
theorem dX4_readInto_26 : decode cX4_readInto 26 = .ok (.ireturn, 1) := by decide +kernel
theorem dX4_readInto_27 : decode cX4_readInto 27 = .ok (.aload_n 1, 1) := by decide +kernel
theorem dX4_readInto_28 : decode cX4_readInto 28 = .ok (.invokevirtual 22, 3) := by decide +kernel
theorem dX4_readInto_31 : decode cX4_readInto 31 = .ok (.ifCond .eq 5, 3) := by decide +kernel
theorem dX4_readInto_34 : decode cX4_readInto 34 = .ok (.iload_n 2, 1) := by decide +kernel
theorem dX4_readInto_35 : decode cX4_readInto 35 = .ok (.ireturn, 1) := by decide +kernel
theorem dX4_readInto_36 : decode cX4_readInto 36 = .ok (.aload_n 1, 1) := by decide +kernel
theorem dX4_readInto_37 : decode cX4_readInto 37 = .ok (.ldc 26, 2) := by decide +kernel
theorem dX4_readInto_39 : decode cX4_readInto 39 = .ok (.invokevirtual 28, 3) := by decide +kernel
theorem dX4_readInto_42 : decode cX4_readInto 42 = .ok (.ifCond .ne 10, 3) := by decide +kernel
theorem dX4_readInto_45 : decode cX4_readInto 45 = .ok (.iconst (-1), 1) := by decide +kernel
theorem dX4_readInto_46 : decode cX4_readInto 46 = .ok (.aload_n 1, 1) := by decide +kernel
theorem dX4_readInto_47 : decode cX4_readInto 47 = .ok (.invokevirtual 18, 3) := by decide +kernel
theorem dX4_readInto_50 : decode cX4_readInto 50 = .ok (.isub, 1) := by decide +kernel
theorem dX4_readInto_51 : decode cX4_readInto 51 = .ok (.ireturn, 1) := by decide +kernel
theorem dX4_readInto_52 : decode cX4_readInto 52 = .ok (.iinc 2 1, 3) := by decide +kernel
theorem dX4_readInto_55 : decode cX4_readInto 55 = .ok (.goto (-49), 3) := by decide +kernel
theorem dX4_readInto_58 : decode cX4_readInto 58 = .ok (.iconst (-1), 1) := by decide +kernel
theorem dX4_readInto_59 : decode cX4_readInto 59 = .ok (.aload_n 1, 1) := by decide +kernel
theorem dX4_readInto_60 : decode cX4_readInto 60 = .ok (.invokevirtual 18, 3) := by decide +kernel
theorem dX4_readInto_63 : decode cX4_readInto 63 = .ok (.isub, 1) := by decide +kernel
theorem dX4_readInto_64 : decode cX4_readInto 64 = .ok (.ireturn, 1) := by decide +kernel
theorem dX4_takeItem_0 : decode cX4_takeItem 0 = .ok (.aload_n 1, 1) := by decide +kernel
theorem dX4_takeItem_1 : decode cX4_takeItem 1 = .ok (.ldc 32, 2) := by decide +kernel
theorem dX4_takeItem_3 : decode cX4_takeItem 3 = .ok (.invokevirtual 28, 3) := by decide +kernel
theorem dX4_takeItem_6 : decode cX4_takeItem 6 = .ok (.ifCond .eq 10, 3) := by decide +kernel
theorem dX4_takeItem_9 : decode cX4_takeItem 9 = .ok (.aload_n 0, 1) := by decide +kernel
theorem dX4_takeItem_10 : decode cX4_takeItem 10 = .ok (.iconst 1, 1) := by decide +kernel
theorem dX4_takeItem_11 : decode cX4_takeItem 11 = .ok (.putfield 34, 3) := by decide +kernel
theorem dX4_takeItem_14 : decode cX4_takeItem 14 = .ok (.iconst 1, 1) := by decide +kernel
theorem dX4_takeItem_15 : decode cX4_takeItem 15 = .ok (.ireturn, 1) := by decide +kernel
theorem dX4_takeItem_16 : decode cX4_takeItem 16 = .ok (.aload_n 1, 1) := by decide +kernel
theorem dX4_takeItem_17 : decode cX4_takeItem 17 = .ok (.ldc 39, 2) := by decide +kernel
theorem dX4_takeItem_19 : decode cX4_takeItem 19 = .ok (.invokevirtual 28, 3) := by decide +kernel
theorem dX4_takeItem_22 : decode cX4_takeItem 22 = .ok (.ifCond .eq 10, 3) := by decide +kernel
theorem dX4_takeItem_25 : decode cX4_takeItem 25 = .ok (.aload_n 0, 1) := by decide +kernel
theorem dX4_takeItem_26 : decode cX4_takeItem 26 = .ok (.iconst 0, 1) := by decide +kernel
theorem dX4_takeItem_27 : decode cX4_takeItem 27 = .ok (.putfield 34, 3) := by decide +kernel
theorem dX4_takeItem_30 : decode cX4_takeItem 30 = .ok (.iconst 1, 1) := by decide +kernel
theorem dX4_takeItem_31 : decode cX4_takeItem 31 = .ok (.ireturn, 1) := by decide +kernel
theorem dX4_takeItem_32 : decode cX4_takeItem 32 = .ok (.aload_n 0, 1) := by decide +kernel
theorem dX4_takeItem_33 : decode cX4_takeItem 33 = .ok (.aload_n 1, 1) := by decide +kernel
theorem dX4_takeItem_34 : decode cX4_takeItem 34 = .ok (.invokestatic 41, 3) := by decide +kernel
theorem dX4_takeItem_37 : decode cX4_takeItem 37 = .ok (.ireturn, 1) := by decide +kernel
theorem dX4_takeWalker_0 : decode cX4_takeWalker 0 = .ok (.aload_n 0, 1) := by decide +kernel
theorem dX4_takeWalker_1 : decode cX4_takeWalker 1 = .ok (.invokevirtual 44, 3) := by decide +kernel
theorem dX4_takeWalker_4 : decode cX4_takeWalker 4 = .ok (.ifCond .eq 7, 3) := by decide +kernel
theorem dX4_takeWalker_7 : decode cX4_takeWalker 7 = .ok (.iconst (-1), 1) := by decide +kernel
theorem dX4_takeWalker_8 : decode cX4_takeWalker 8 = .ok (.goto 7, 3) := by decide +kernel
theorem dX4_takeWalker_11 : decode cX4_takeWalker 11 = .ok (.aload_n 1, 1) := by decide +kernel
theorem dX4_takeWalker_12 : decode cX4_takeWalker 12 = .ok (.invokestatic 47, 3) := by decide +kernel
theorem dX4_takeWalker_15 : decode cX4_takeWalker 15 = .ok (.istore_n 2, 1) := by decide +kernel
theorem dX4_takeWalker_16 : decode cX4_takeWalker 16 = .ok (.iload_n 2, 1) := by decide +kernel
theorem dX4_takeWalker_17 : decode cX4_takeWalker 17 = .ok (.ifCond .lt 12, 3) := by decide +kernel
theorem dX4_takeWalker_20 : decode cX4_takeWalker 20 = .ok (.aload_n 1, 1) := by decide +kernel
theorem dX4_takeWalker_21 : decode cX4_takeWalker 21 = .ok (.ldc 51, 2) := by decide +kernel
theorem dX4_takeWalker_23 : decode cX4_takeWalker 23 = .ok (.invokevirtual 28, 3) := by decide +kernel
theorem dX4_takeWalker_26 : decode cX4_takeWalker 26 = .ok (.ifCond .ne 5, 3) := by decide +kernel
theorem dX4_takeWalker_29 : decode cX4_takeWalker 29 = .ok (.iconst 0, 1) := by decide +kernel
theorem dX4_takeWalker_30 : decode cX4_takeWalker 30 = .ok (.ireturn, 1) := by decide +kernel
theorem dX4_takeWalker_31 : decode cX4_takeWalker 31 = .ok (.aload_n 1, 1) := by decide +kernel
theorem dX4_takeWalker_32 : decode cX4_takeWalker 32 = .ok (.bipush 99, 2) := by decide +kernel
theorem dX4_takeWalker_34 : decode cX4_takeWalker 34 = .ok (.invokevirtual 53, 3) := by decide +kernel
theorem dX4_takeWalker_37 : decode cX4_takeWalker 37 = .ok (.istore_n 3, 1) := by decide +kernel
theorem dX4_takeWalker_38 : decode cX4_takeWalker 38 = .ok (.iload_n 3, 1) := by decide +kernel
theorem dX4_takeWalker_39 : decode cX4_takeWalker 39 = .ok (.ifCond .ge 5, 3) := by decide +kernel
theorem dX4_takeWalker_42 : decode cX4_takeWalker 42 = .ok (.iconst 0, 1) := by decide +kernel
theorem dX4_takeWalker_43 : decode cX4_takeWalker 43 = .ok (.ireturn, 1) := by decide +kernel
theorem dX4_takeWalker_44 : decode cX4_takeWalker 44 = .ok (.aload_n 0, 1) := by decide +kernel
theorem dX4_takeWalker_45 : decode cX4_takeWalker 45 = .ok (.iload_n 2, 1) := by decide +kernel
theorem dX4_takeWalker_46 : decode cX4_takeWalker 46 = .ok (.iload_n 3, 1) := by decide +kernel
theorem dX4_takeWalker_47 : decode cX4_takeWalker 47 = .ok (.invokevirtual 57, 3) := by decide +kernel
theorem dX4_takeWalker_50 : decode cX4_takeWalker 50 = .ok (.istore 4, 2) := by decide +kernel
theorem dX4_takeWalker_52 : decode cX4_takeWalker 52 = .ok (.aload_n 1, 1) := by decide +kernel
theorem dX4_takeWalker_53 : decode cX4_takeWalker 53 = .ok (.ldc 61, 2) := by decide +kernel
theorem dX4_takeWalker_55 : decode cX4_takeWalker 55 = .ok (.invokevirtual 28, 3) := by decide +kernel
theorem dX4_takeWalker_58 : decode cX4_takeWalker 58 = .ok (.ifCond .eq 11, 3) := by decide +kernel
theorem dX4_takeWalker_61 : decode cX4_takeWalker 61 = .ok (.aload_n 0, 1) := by decide +kernel
theorem dX4_takeWalker_62 : decode cX4_takeWalker 62 = .ok (.getfield 63, 3) := by decide +kernel
theorem dX4_takeWalker_65 : decode cX4_takeWalker 65 = .ok (.iload 4, 2) := by decide +kernel
theorem dX4_takeWalker_67 : decode cX4_takeWalker 67 = .ok (.iconst 0, 1) := by decide +kernel
theorem dX4_takeWalker_68 : decode cX4_takeWalker 68 = .ok (.iastore, 1) := by decide +kernel
theorem dX4_takeWalker_69 : decode cX4_takeWalker 69 = .ok (.aload_n 1, 1) := by decide +kernel
theorem dX4_takeWalker_70 : decode cX4_takeWalker 70 = .ok (.ldc 67, 2) := by decide +kernel
theorem dX4_takeWalker_72 : decode cX4_takeWalker 72 = .ok (.invokevirtual 28, 3) := by decide +kernel
theorem dX4_takeWalker_75 : decode cX4_takeWalker 75 = .ok (.ifCond .eq 29, 3) := by decide +kernel
theorem dX4_takeWalker_78 : decode cX4_takeWalker 78 = .ok (.aload_n 1, 1) := by decide +kernel
theorem dX4_takeWalker_79 : decode cX4_takeWalker 79 = .ok (.iconst 3, 1) := by decide +kernel
theorem dX4_takeWalker_80 : decode cX4_takeWalker 80 = .ok (.invokestatic 69, 3) := by decide +kernel
theorem dX4_takeWalker_83 : decode cX4_takeWalker 83 = .ok (.invokevirtual 53, 3) := by decide +kernel
theorem dX4_takeWalker_86 : decode cX4_takeWalker 86 = .ok (.istore 5, 2) := by decide +kernel
theorem dX4_takeWalker_88 : decode cX4_takeWalker 88 = .ok (.iload 5, 2) := by decide +kernel
theorem dX4_takeWalker_90 : decode cX4_takeWalker 90 = .ok (.ifCond .ge 5, 3) := by decide +kernel
theorem dX4_takeWalker_93 : decode cX4_takeWalker 93 = .ok (.iconst 0, 1) := by decide +kernel
theorem dX4_takeWalker_94 : decode cX4_takeWalker 94 = .ok (.ireturn, 1) := by decide +kernel
theorem dX4_takeWalker_95 : decode cX4_takeWalker 95 = .ok (.aload_n 0, 1) := by decide +kernel
theorem dX4_takeWalker_96 : decode cX4_takeWalker 96 = .ok (.getfield 72, 3) := by decide +kernel
theorem dX4_takeWalker_99 : decode cX4_takeWalker 99 = .ok (.iload 4, 2) := by decide +kernel
theorem dX4_takeWalker_101 : decode cX4_takeWalker 101 = .ok (.iload 5, 2) := by decide +kernel
theorem dX4_takeWalker_103 : decode cX4_takeWalker 103 = .ok (.iastore, 1) := by decide +kernel
theorem dX4_takeWalker_104 : decode cX4_takeWalker 104 = .ok (.aload_n 1, 1) := by decide +kernel
theorem dX4_takeWalker_105 : decode cX4_takeWalker 105 = .ok (.ldc 74, 2) := by decide +kernel
theorem dX4_takeWalker_107 : decode cX4_takeWalker 107 = .ok (.invokevirtual 28, 3) := by decide +kernel
theorem dX4_takeWalker_110 : decode cX4_takeWalker 110 = .ok (.ifCond .eq 11, 3) := by decide +kernel
theorem dX4_takeWalker_113 : decode cX4_takeWalker 113 = .ok (.aload_n 0, 1) := by decide +kernel
theorem dX4_takeWalker_114 : decode cX4_takeWalker 114 = .ok (.getfield 76, 3) := by decide +kernel
theorem dX4_takeWalker_117 : decode cX4_takeWalker 117 = .ok (.iload 4, 2) := by decide +kernel
theorem dX4_takeWalker_119 : decode cX4_takeWalker 119 = .ok (.iconst 1, 1) := by decide +kernel
theorem dX4_takeWalker_120 : decode cX4_takeWalker 120 = .ok (.iastore, 1) := by decide +kernel
theorem dX4_takeWalker_121 : decode cX4_takeWalker 121 = .ok (.iconst 1, 1) := by decide +kernel
theorem dX4_takeWalker_122 : decode cX4_takeWalker 122 = .ok (.ireturn, 1) := by decide +kernel
theorem dX4_takeKind_0 : decode cX4_takeKind 0 = .ok (.iconst 0, 1) := by decide +kernel
theorem dX4_takeKind_1 : decode cX4_takeKind 1 = .ok (.istore_n 1, 1) := by decide +kernel
theorem dX4_takeKind_2 : decode cX4_takeKind 2 = .ok (.iload_n 1, 1) := by decide +kernel
theorem dX4_takeKind_3 : decode cX4_takeKind 3 = .ok (.iconst 5, 1) := by decide +kernel
theorem dX4_takeKind_4 : decode cX4_takeKind 4 = .ok (.if_icmp .gt 22, 3) := by decide +kernel
theorem dX4_takeKind_7 : decode cX4_takeKind 7 = .ok (.aload_n 0, 1) := by decide +kernel
theorem dX4_takeKind_8 : decode cX4_takeKind 8 = .ok (.iload_n 1, 1) := by decide +kernel
theorem dX4_takeKind_9 : decode cX4_takeKind 9 = .ok (.invokestatic 80, 3) := by decide +kernel
theorem dX4_takeKind_12 : decode cX4_takeKind 12 = .ok (.invokevirtual 28, 3) := by decide +kernel
theorem dX4_takeKind_15 : decode cX4_takeKind 15 = .ok (.ifCond .eq 5, 3) := by decide +kernel
theorem dX4_takeKind_18 : decode cX4_takeKind 18 = .ok (.iload_n 1, 1) := by decide +kernel
theorem dX4_takeKind_19 : decode cX4_takeKind 19 = .ok (.ireturn, 1) := by decide +kernel
theorem dX4_takeKind_20 : decode cX4_takeKind 20 = .ok (.iinc 1 1, 3) := by decide +kernel
theorem dX4_takeKind_23 : decode cX4_takeKind 23 = .ok (.goto (-21), 3) := by decide +kernel
theorem dX4_takeKind_26 : decode cX4_takeKind 26 = .ok (.iconst (-1), 1) := by decide +kernel
theorem dX4_takeKind_27 : decode cX4_takeKind 27 = .ok (.ireturn, 1) := by decide +kernel
theorem dX5_init_0 : decode cX5_init 0 = .ok (.aload_n 0, 1) := by decide +kernel
theorem dX5_init_1 : decode cX5_init 1 = .ok (.invokespecial 1, 3) := by decide +kernel
theorem dX5_init_4 : decode cX5_init 4 = .ok (.aload_n 0, 1) := by decide +kernel
theorem dX5_init_5 : decode cX5_init 5 = .ok (.new 7, 3) := by decide +kernel
theorem dX5_init_8 : decode cX5_init 8 = .ok (.dup, 1) := by decide +kernel
theorem dX5_init_9 : decode cX5_init 9 = .ok (.invokespecial 9, 3) := by decide +kernel
theorem dX5_init_12 : decode cX5_init 12 = .ok (.putfield 10, 3) := by decide +kernel
theorem dX5_init_15 : decode cX5_init 15 = .ok (.aload_n 0, 1) := by decide +kernel
theorem dX5_init_16 : decode cX5_init 16 = .ok (.new 7, 3) := by decide +kernel
theorem dX5_init_19 : decode cX5_init 19 = .ok (.dup, 1) := by decide +kernel
theorem dX5_init_20 : decode cX5_init 20 = .ok (.invokespecial 9, 3) := by decide +kernel
theorem dX5_init_23 : decode cX5_init 23 = .ok (.putfield 16, 3) := by decide +kernel
theorem dX5_init_26 : decode cX5_init 26 = .ok (.aload_n 0, 1) := by decide +kernel
theorem dX5_init_27 : decode cX5_init 27 = .ok (.new 7, 3) := by decide +kernel
theorem dX5_init_30 : decode cX5_init 30 = .ok (.dup, 1) := by decide +kernel
theorem dX5_init_31 : decode cX5_init 31 = .ok (.invokespecial 9, 3) := by decide +kernel
theorem dX5_init_34 : decode cX5_init 34 = .ok (.putfield 19, 3) := by decide +kernel
theorem dX5_init_37 : decode cX5_init 37 = .ok (.aload_n 0, 1) := by decide +kernel
theorem dX5_init_38 : decode cX5_init 38 = .ok (.iconst 0, 1) := by decide +kernel
theorem dX5_init_39 : decode cX5_init 39 = .ok (.putfield 22, 3) := by decide +kernel
theorem dX5_init_42 : decode cX5_init 42 = .ok (.aload_n 0, 1) := by decide +kernel
theorem dX5_init_43 : decode cX5_init 43 = .ok (.new 26, 3) := by decide +kernel
theorem dX5_init_46 : decode cX5_init 46 = .ok (.dup, 1) := by decide +kernel
theorem dX5_init_47 : decode cX5_init 47 = .ok (.invokespecial 28, 3) := by decide +kernel
theorem dX5_init_50 : decode cX5_init 50 = .ok (.putfield 29, 3) := by decide +kernel
theorem dX5_init_53 : decode cX5_init 53 = .ok (.aload_n 0, 1) := by decide +kernel
theorem dX5_init_54 : decode cX5_init 54 = .ok (.iconst 4, 1) := by decide +kernel
theorem dX5_init_55 : decode cX5_init 55 = .ok (.anewarray 33, 3) := by decide +kernel
theorem dX5_init_58 : decode cX5_init 58 = .ok (.dup, 1) := by decide +kernel
theorem dX5_init_59 : decode cX5_init 59 = .ok (.iconst 0, 1) := by decide +kernel
theorem dX5_init_60 : decode cX5_init 60 = .ok (.new 33, 3) := by decide +kernel
theorem dX5_init_63 : decode cX5_init 63 = .ok (.dup, 1) := by decide +kernel
theorem dX5_init_64 : decode cX5_init 64 = .ok (.invokespecial 35, 3) := by decide +kernel
theorem dX5_init_67 : decode cX5_init 67 = .ok (.aastore, 1) := by decide +kernel
theorem dX5_init_68 : decode cX5_init 68 = .ok (.dup, 1) := by decide +kernel
theorem dX5_init_69 : decode cX5_init 69 = .ok (.iconst 1, 1) := by decide +kernel
theorem dX5_init_70 : decode cX5_init 70 = .ok (.new 33, 3) := by decide +kernel
theorem dX5_init_73 : decode cX5_init 73 = .ok (.dup, 1) := by decide +kernel
theorem dX5_init_74 : decode cX5_init 74 = .ok (.invokespecial 35, 3) := by decide +kernel
theorem dX5_init_77 : decode cX5_init 77 = .ok (.aastore, 1) := by decide +kernel
theorem dX5_init_78 : decode cX5_init 78 = .ok (.dup, 1) := by decide +kernel
theorem dX5_init_79 : decode cX5_init 79 = .ok (.iconst 2, 1) := by decide +kernel
theorem dX5_init_80 : decode cX5_init 80 = .ok (.new 33, 3) := by decide +kernel
theorem dX5_init_83 : decode cX5_init 83 = .ok (.dup, 1) := by decide +kernel
theorem dX5_init_84 : decode cX5_init 84 = .ok (.invokespecial 35, 3) := by decide +kernel
theorem dX5_init_87 : decode cX5_init 87 = .ok (.aastore, 1) := by decide +kernel
theorem dX5_init_88 : decode cX5_init 88 = .ok (.dup, 1) := by decide +kernel
theorem dX5_init_89 : decode cX5_init 89 = .ok (.iconst 3, 1) := by decide +kernel
theorem dX5_init_90 : decode cX5_init 90 = .ok (.new 33, 3) := by decide +kernel
theorem dX5_init_93 : decode cX5_init 93 = .ok (.dup, 1) := by decide +kernel
theorem dX5_init_94 : decode cX5_init 94 = .ok (.invokespecial 35, 3) := by decide +kernel
theorem dX5_init_97 : decode cX5_init 97 = .ok (.aastore, 1) := by decide +kernel
theorem dX5_init_98 : decode cX5_init 98 = .ok (.putfield 36, 3) := by decide +kernel
theorem dX5_init_101 : decode cX5_init 101 = .ok (.aload_n 0, 1) := by decide +kernel
theorem dX5_init_102 : decode cX5_init 102 = .ok (.bipush 7, 2) := by decide +kernel
theorem dX5_init_104 : decode cX5_init 104 = .ok (.newarray .int, 2) := by decide +kernel
theorem dX5_init_106 : decode cX5_init 106 = .ok (.putfield 40, 3) := by decide +kernel
theorem dX5_init_109 : decode cX5_init 109 = .ok (.return_, 1) := by decide +kernel
theorem dX5_trams_0 : decode cX5_trams 0 = .ok (.iload_n 1, 1) := by decide +kernel
theorem dX5_trams_1 : decode cX5_trams 1 = .ok (.iconst 0, 1) := by decide +kernel
theorem dX5_trams_2 : decode cX5_trams 2 = .ok (.iconst 1, 1) := by decide +kernel
theorem dX5_trams_3 : decode cX5_trams 3 = .ok (.invokestatic 44, 3) := by decide +kernel
theorem dX5_trams_6 : decode cX5_trams 6 = .ok (.ifCond .ne 10, 3) := by decide +kernel
theorem dX5_trams_9 : decode cX5_trams 9 = .ok (.aload_n 0, 1) := by decide +kernel
theorem dX5_trams_10 : decode cX5_trams 10 = .ok (.ldc 48, 2) := by decide +kernel
theorem dX5_trams_12 : decode cX5_trams 12 = .ok (.invokevirtual 49, 3) := by decide +kernel
theorem dX5_trams_15 : decode cX5_trams 15 = .ok (.ireturn, 1) := by decide +kernel
theorem dX5_trams_16 : decode cX5_trams 16 = .ok (.aload_n 0, 1) := by decide +kernel
theorem dX5_trams_17 : decode cX5_trams 17 = .ok (.getfield 10, 3) := by decide +kernel
theorem dX5_trams_20 : decode cX5_trams 20 = .ok (.getfield 53, 3) := by decide +kernel
theorem dX5_trams_23 : decode cX5_trams 23 = .ok (.istore_n 2, 1) := by decide +kernel
theorem dX5_trams_24 : decode cX5_trams 24 = .ok (.aload_n 0, 1) := by decide +kernel
theorem dX5_trams_25 : decode cX5_trams 25 = .ok (.getfield 10, 3) := by decide +kernel
theorem dX5_trams_28 : decode cX5_trams 28 = .ok (.iload_n 1, 1) := by decide +kernel
theorem dX5_trams_29 : decode cX5_trams 29 = .ok (.putfield 53, 3) := by decide +kernel
theorem dX5_trams_32 : decode cX5_trams 32 = .ok (.iload_n 2, 1) := by decide +kernel
theorem dX5_trams_33 : decode cX5_trams 33 = .ok (.ireturn, 1) := by decide +kernel
theorem dX5_walker_0 : decode cX5_walker 0 = .ok (.iload_n 1, 1) := by decide +kernel
theorem dX5_walker_1 : decode cX5_walker 1 = .ok (.iconst 0, 1) := by decide +kernel
theorem dX5_walker_2 : decode cX5_walker 2 = .ok (.iconst 5, 1) := by decide +kernel
theorem dX5_walker_3 : decode cX5_walker 3 = .ok (.invokestatic 44, 3) := by decide +kernel
theorem dX5_walker_6 : decode cX5_walker 6 = .ok (.ifCond .eq 13, 3) := by decide +kernel
theorem dX5_walker_9 : decode cX5_walker 9 = .ok (.iload_n 2, 1) := by decide +kernel
theorem dX5_walker_10 : decode cX5_walker 10 = .ok (.iconst 0, 1) := by decide +kernel
theorem dX5_walker_11 : decode cX5_walker 11 = .ok (.bipush 99, 2) := by decide +kernel
theorem dX5_walker_13 : decode cX5_walker 13 = .ok (.invokestatic 44, 3) := by decide +kernel
theorem dX5_walker_16 : decode cX5_walker 16 = .ok (.ifCond .ne 10, 3) := by decide +kernel
theorem dX5_walker_19 : decode cX5_walker 19 = .ok (.aload_n 0, 1) := by decide +kernel
theorem dX5_walker_20 : decode cX5_walker 20 = .ok (.ldc 48, 2) := by decide +kernel
theorem dX5_walker_22 : decode cX5_walker 22 = .ok (.invokevirtual 49, 3) := by decide +kernel
theorem dX5_walker_25 : decode cX5_walker 25 = .ok (.ireturn, 1) := by decide +kernel
theorem dX5_walker_26 : decode cX5_walker 26 = .ok (.aload_n 0, 1) := by decide +kernel
theorem dX5_walker_27 : decode cX5_walker 27 = .ok (.getfield 10, 3) := by decide +kernel
theorem dX5_walker_30 : decode cX5_walker 30 = .ok (.invokevirtual 59, 3) := by decide +kernel
theorem dX5_walker_33 : decode cX5_walker 33 = .ok (.ifCond .eq 10, 3) := by decide +kernel
theorem dX5_walker_36 : decode cX5_walker 36 = .ok (.aload_n 0, 1) := by decide +kernel
theorem dX5_walker_37 : decode cX5_walker 37 = .ok (.ldc 63, 2) := by decide +kernel
theorem dX5_walker_39 : decode cX5_walker 39 = .ok (.invokevirtual 49, 3) := by decide +kernel
theorem dX5_walker_42 : decode cX5_walker 42 = .ok (.ireturn, 1) := by decide +kernel
theorem dX5_walker_43 : decode cX5_walker 43 = .ok (.aload_n 0, 1) := by decide +kernel
theorem dX5_walker_44 : decode cX5_walker 44 = .ok (.getfield 10, 3) := by decide +kernel
theorem dX5_walker_47 : decode cX5_walker 47 = .ok (.iload_n 1, 1) := by decide +kernel
theorem dX5_walker_48 : decode cX5_walker 48 = .ok (.iload_n 2, 1) := by decide +kernel
theorem dX5_walker_49 : decode cX5_walker 49 = .ok (.invokevirtual 64, 3) := by decide +kernel
theorem dX5_walker_52 : decode cX5_walker 52 = .ok (.ireturn, 1) := by decide +kernel
theorem dX5_of_0 : decode cX5_of 0 = .ok (.aload_n 0, 1) := by decide +kernel
theorem dX5_of_1 : decode cX5_of 1 = .ok (.iload_n 1, 1) := by decide +kernel
theorem dX5_of_2 : decode cX5_of 2 = .ok (.invokevirtual 68, 3) := by decide +kernel
theorem dX5_of_5 : decode cX5_of 5 = .ok (.ifCond .eq 13, 3) := by decide +kernel
theorem dX5_of_8 : decode cX5_of 8 = .ok (.iload_n 2, 1) := by decide +kernel
theorem dX5_of_9 : decode cX5_of 9 = .ok (.iconst 0, 1) := by decide +kernel
theorem dX5_of_10 : decode cX5_of 10 = .ok (.bipush 9, 2) := by decide +kernel
theorem dX5_of_12 : decode cX5_of 12 = .ok (.invokestatic 44, 3) := by decide +kernel
theorem dX5_of_15 : decode cX5_of 15 = .ok (.ifCond .ne 10, 3) := by decide +kernel
theorem dX5_of_18 : decode cX5_of 18 = .ok (.aload_n 0, 1) := by decide +kernel
theorem dX5_of_19 : decode cX5_of 19 = .ok (.ldc 48, 2) := by decide +kernel
theorem dX5_of_21 : decode cX5_of 21 = .ok (.invokevirtual 49, 3) := by decide +kernel
theorem dX5_of_24 : decode cX5_of 24 = .ok (.ireturn, 1) := by decide +kernel
theorem dX5_of_25 : decode cX5_of 25 = .ok (.iload_n 2, 1) := by decide +kernel
theorem dX5_of_26 : decode cX5_of 26 = .ok (.tableswitch 65 7 9 #[26, 43, 56], 26) := by decide +kernel
theorem dX5_of_52 : decode cX5_of 52 = .ok (.aload_n 0, 1) := by decide +kernel
theorem dX5_of_53 : decode cX5_of 53 = .ok (.getfield 10, 3) := by decide +kernel
theorem dX5_of_56 : decode cX5_of 56 = .ok (.iload_n 1, 1) := by decide +kernel
theorem dX5_of_57 : decode cX5_of 57 = .ok (.invokevirtual 72, 3) := by decide +kernel
theorem dX5_of_60 : decode cX5_of 60 = .ok (.ifCond .eq 7, 3) := by decide +kernel
theorem dX5_of_63 : decode cX5_of 63 = .ok (.iconst 1, 1) := by decide +kernel
theorem dX5_of_64 : decode cX5_of 64 = .ok (.goto 4, 3) := by decide +kernel
theorem dX5_of_67 : decode cX5_of 67 = .ok (.iconst 0, 1) := by decide +kernel
theorem dX5_of_68 : decode cX5_of 68 = .ok (.ireturn, 1) := by decide +kernel
theorem dX5_of_69 : decode cX5_of 69 = .ok (.aload_n 0, 1) := by decide +kernel
theorem dX5_of_70 : decode cX5_of 70 = .ok (.getfield 10, 3) := by decide +kernel
theorem dX5_of_73 : decode cX5_of 73 = .ok (.getfield 75, 3) := by decide +kernel
theorem dX5_of_76 : decode cX5_of 76 = .ok (.iload_n 1, 1) := by decide +kernel
theorem dX5_of_77 : decode cX5_of 77 = .ok (.iaload, 1) := by decide +kernel
theorem dX5_of_78 : decode cX5_of 78 = .ok (.invokestatic 78, 3) := by decide +kernel
theorem dX5_of_81 : decode cX5_of 81 = .ok (.ireturn, 1) := by decide +kernel
theorem dX5_of_82 : decode cX5_of 82 = .ok (.aload_n 0, 1) := by decide +kernel
theorem dX5_of_83 : decode cX5_of 83 = .ok (.getfield 10, 3) := by decide +kernel
theorem dX5_of_86 : decode cX5_of 86 = .ok (.iload_n 1, 1) := by decide +kernel
theorem dX5_of_87 : decode cX5_of 87 = .ok (.invokevirtual 81, 3) := by decide +kernel
theorem dX5_of_90 : decode cX5_of 90 = .ok (.ireturn, 1) := by decide +kernel
theorem dX5_of_91 : decode cX5_of 91 = .ok (.aload_n 0, 1) := by decide +kernel
theorem dX5_of_92 : decode cX5_of 92 = .ok (.getfield 10, 3) := by decide +kernel
theorem dX5_of_95 : decode cX5_of 95 = .ok (.iload_n 2, 1) := by decide +kernel
theorem dX5_of_96 : decode cX5_of 96 = .ok (.invokevirtual 84, 3) := by decide +kernel
theorem dX5_of_99 : decode cX5_of 99 = .ok (.iload_n 1, 1) := by decide +kernel
theorem dX5_of_100 : decode cX5_of 100 = .ok (.iaload, 1) := by decide +kernel
theorem dX5_of_101 : decode cX5_of 101 = .ok (.ireturn, 1) := by decide +kernel
theorem dX5_set_0 : decode cX5_set 0 = .ok (.aload_n 0, 1) := by decide +kernel
theorem dX5_set_1 : decode cX5_set 1 = .ok (.iload_n 1, 1) := by decide +kernel
theorem dX5_set_2 : decode cX5_set 2 = .ok (.invokevirtual 68, 3) := by decide +kernel
theorem dX5_set_5 : decode cX5_set 5 = .ok (.ifCond .eq 25, 3) := by decide +kernel
theorem dX5_set_8 : decode cX5_set 8 = .ok (.iload_n 2, 1) := by decide +kernel
theorem dX5_set_9 : decode cX5_set 9 = .ok (.iconst 1, 1) := by decide +kernel
theorem dX5_set_10 : decode cX5_set 10 = .ok (.bipush 6, 2) := by decide +kernel
theorem dX5_set_12 : decode cX5_set 12 = .ok (.invokestatic 44, 3) := by decide +kernel
theorem dX5_set_15 : decode cX5_set 15 = .ok (.ifCond .eq 15, 3) := by decide +kernel
theorem dX5_set_18 : decode cX5_set 18 = .ok (.iload_n 3, 1) := by decide +kernel
theorem dX5_set_19 : decode cX5_set 19 = .ok (.iconst 0, 1) := by decide +kernel
theorem dX5_set_20 : decode cX5_set 20 = .ok (.iload_n 2, 1) := by decide +kernel
theorem dX5_set_21 : decode cX5_set 21 = .ok (.invokestatic 88, 3) := by decide +kernel
theorem dX5_set_24 : decode cX5_set 24 = .ok (.invokestatic 44, 3) := by decide +kernel
theorem dX5_set_27 : decode cX5_set 27 = .ok (.ifCond .ne 10, 3) := by decide +kernel
theorem dX5_set_30 : decode cX5_set 30 = .ok (.aload_n 0, 1) := by decide +kernel
theorem dX5_set_31 : decode cX5_set 31 = .ok (.ldc 48, 2) := by decide +kernel
theorem dX5_set_33 : decode cX5_set 33 = .ok (.invokevirtual 49, 3) := by decide +kernel
theorem dX5_set_36 : decode cX5_set 36 = .ok (.ireturn, 1) := by decide +kernel
theorem dX5_set_37 : decode cX5_set 37 = .ok (.aload_n 0, 1) := by decide +kernel
theorem dX5_set_38 : decode cX5_set 38 = .ok (.getfield 10, 3) := by decide +kernel
theorem dX5_set_41 : decode cX5_set 41 = .ok (.iload_n 1, 1) := by decide +kernel
theorem dX5_set_42 : decode cX5_set 42 = .ok (.iload_n 2, 1) := by decide +kernel
theorem dX5_set_43 : decode cX5_set 43 = .ok (.iload_n 3, 1) := by decide +kernel
theorem dX5_set_44 : decode cX5_set 44 = .ok (.invokevirtual 91, 3) := by decide +kernel
theorem dX5_set_47 : decode cX5_set 47 = .ok (.ireturn, 1) := by decide +kernel
theorem dX5_turn_0 : decode cX5_turn 0 = .ok (.aload_n 0, 1) := by decide +kernel
theorem dX5_turn_1 : decode cX5_turn 1 = .ok (.iload_n 1, 1) := by decide +kernel
theorem dX5_turn_2 : decode cX5_turn 2 = .ok (.invokevirtual 68, 3) := by decide +kernel
theorem dX5_turn_5 : decode cX5_turn 5 = .ok (.ifCond .eq 12, 3) := by decide +kernel
theorem dX5_turn_8 : decode cX5_turn 8 = .ok (.iload_n 2, 1) := by decide +kernel
theorem dX5_turn_9 : decode cX5_turn 9 = .ok (.iconst 0, 1) := by decide +kernel
theorem dX5_turn_10 : decode cX5_turn 10 = .ok (.iconst 5, 1) := by decide +kernel
theorem dX5_turn_11 : decode cX5_turn 11 = .ok (.invokestatic 44, 3) := by decide +kernel
theorem dX5_turn_14 : decode cX5_turn 14 = .ok (.ifCond .ne 10, 3) := by decide +kernel
theorem dX5_turn_17 : decode cX5_turn 17 = .ok (.aload_n 0, 1) := by decide +kernel
theorem dX5_turn_18 : decode cX5_turn 18 = .ok (.ldc 48, 2) := by decide +kernel
theorem dX5_turn_20 : decode cX5_turn 20 = .ok (.invokevirtual 49, 3) := by decide +kernel
theorem dX5_turn_23 : decode cX5_turn 23 = .ok (.ireturn, 1) := by decide +kernel
theorem dX5_turn_24 : decode cX5_turn 24 = .ok (.aload_n 0, 1) := by decide +kernel
theorem dX5_turn_25 : decode cX5_turn 25 = .ok (.getfield 10, 3) := by decide +kernel
theorem dX5_turn_28 : decode cX5_turn 28 = .ok (.iload_n 1, 1) := by decide +kernel
theorem dX5_turn_29 : decode cX5_turn 29 = .ok (.iconst 0, 1) := by decide +kernel
theorem dX5_turn_30 : decode cX5_turn 30 = .ok (.iload_n 2, 1) := by decide +kernel
theorem dX5_turn_31 : decode cX5_turn 31 = .ok (.invokevirtual 91, 3) := by decide +kernel
theorem dX5_turn_34 : decode cX5_turn 34 = .ok (.ireturn, 1) := by decide +kernel
theorem dX5_as_0 : decode cX5_as 0 = .ok (.aload_n 0, 1) := by decide +kernel
theorem dX5_as_1 : decode cX5_as 1 = .ok (.iload_n 1, 1) := by decide +kernel
theorem dX5_as_2 : decode cX5_as 2 = .ok (.invokevirtual 68, 3) := by decide +kernel
theorem dX5_as_5 : decode cX5_as 5 = .ok (.ifCond .eq 12, 3) := by decide +kernel
theorem dX5_as_8 : decode cX5_as 8 = .ok (.iload_n 2, 1) := by decide +kernel
theorem dX5_as_9 : decode cX5_as 9 = .ok (.iconst 0, 1) := by decide +kernel
theorem dX5_as_10 : decode cX5_as 10 = .ok (.iconst 5, 1) := by decide +kernel
theorem dX5_as_11 : decode cX5_as 11 = .ok (.invokestatic 44, 3) := by decide +kernel
theorem dX5_as_14 : decode cX5_as 14 = .ok (.ifCond .ne 10, 3) := by decide +kernel
theorem dX5_as_17 : decode cX5_as 17 = .ok (.aload_n 0, 1) := by decide +kernel
theorem dX5_as_18 : decode cX5_as 18 = .ok (.ldc 48, 2) := by decide +kernel
theorem dX5_as_20 : decode cX5_as 20 = .ok (.invokevirtual 49, 3) := by decide +kernel
theorem dX5_as_23 : decode cX5_as 23 = .ok (.ireturn, 1) := by decide +kernel
theorem dX5_as_24 : decode cX5_as 24 = .ok (.aload_n 0, 1) := by decide +kernel
theorem dX5_as_25 : decode cX5_as 25 = .ok (.getfield 10, 3) := by decide +kernel
theorem dX5_as_28 : decode cX5_as 28 = .ok (.getfield 75, 3) := by decide +kernel
theorem dX5_as_31 : decode cX5_as 31 = .ok (.iload_n 1, 1) := by decide +kernel
theorem dX5_as_32 : decode cX5_as 32 = .ok (.iaload, 1) := by decide +kernel
theorem dX5_as_33 : decode cX5_as 33 = .ok (.iload_n 2, 1) := by decide +kernel
theorem dX5_as_34 : decode cX5_as 34 = .ok (.invokestatic 95, 3) := by decide +kernel
theorem dX5_as_37 : decode cX5_as 37 = .ok (.ifCond .ne 10, 3) := by decide +kernel
theorem dX5_as_40 : decode cX5_as 40 = .ok (.aload_n 0, 1) := by decide +kernel
theorem dX5_as_41 : decode cX5_as 41 = .ok (.ldc 99, 2) := by decide +kernel
theorem dX5_as_43 : decode cX5_as 43 = .ok (.invokevirtual 49, 3) := by decide +kernel
theorem dX5_as_46 : decode cX5_as 46 = .ok (.ireturn, 1) := by decide +kernel
theorem dX5_as_47 : decode cX5_as 47 = .ok (.aload_n 0, 1) := by decide +kernel
theorem dX5_as_48 : decode cX5_as 48 = .ok (.getfield 10, 3) := by decide +kernel
theorem dX5_as_51 : decode cX5_as 51 = .ok (.getfield 100, 3) := by decide +kernel
theorem dX5_as_54 : decode cX5_as 54 = .ok (.iload_n 1, 1) := by decide +kernel
theorem dX5_as_55 : decode cX5_as 55 = .ok (.iaload, 1) := by decide +kernel
theorem dX5_as_56 : decode cX5_as 56 = .ok (.ireturn, 1) := by decide +kernel
theorem dX5_sees_0 : decode cX5_sees 0 = .ok (.aload_n 0, 1) := by decide +kernel
theorem dX5_sees_1 : decode cX5_sees 1 = .ok (.iload_n 1, 1) := by decide +kernel
theorem dX5_sees_2 : decode cX5_sees 2 = .ok (.invokevirtual 68, 3) := by decide +kernel
theorem dX5_sees_5 : decode cX5_sees 5 = .ok (.ifCond .eq 14, 3) := by decide +kernel
theorem dX5_sees_8 : decode cX5_sees 8 = .ok (.aload_n 0, 1) := by decide +kernel
theorem dX5_sees_9 : decode cX5_sees 9 = .ok (.getfield 10, 3) := by decide +kernel
theorem dX5_sees_12 : decode cX5_sees 12 = .ok (.iload_n 1, 1) := by decide +kernel
theorem dX5_sees_13 : decode cX5_sees 13 = .ok (.invokevirtual 103, 3) := by decide +kernel
theorem dX5_sees_16 : decode cX5_sees 16 = .ok (.goto 9, 3) := by decide +kernel
theorem dX5_sees_19 : decode cX5_sees 19 = .ok (.aload_n 0, 1) := by decide +kernel
theorem dX5_sees_20 : decode cX5_sees 20 = .ok (.ldc 48, 2) := by decide +kernel
theorem dX5_sees_22 : decode cX5_sees 22 = .ok (.invokevirtual 49, 3) := by decide +kernel
theorem dX5_sees_25 : decode cX5_sees 25 = .ok (.ireturn, 1) := by decide +kernel
theorem dX5_leader_0 : decode cX5_leader 0 = .ok (.aload_n 0, 1) := by decide +kernel
theorem dX5_leader_1 : decode cX5_leader 1 = .ok (.iload_n 1, 1) := by decide +kernel
theorem dX5_leader_2 : decode cX5_leader 2 = .ok (.invokevirtual 68, 3) := by decide +kernel
theorem dX5_leader_5 : decode cX5_leader 5 = .ok (.ifCond .ne 10, 3) := by decide +kernel
theorem dX5_leader_8 : decode cX5_leader 8 = .ok (.aload_n 0, 1) := by decide +kernel
theorem dX5_leader_9 : decode cX5_leader 9 = .ok (.ldc 48, 2) := by decide +kernel
theorem dX5_leader_11 : decode cX5_leader 11 = .ok (.invokevirtual 49, 3) := by decide +kernel
theorem dX5_leader_14 : decode cX5_leader 14 = .ok (.ireturn, 1) := by decide +kernel
theorem dX5_leader_15 : decode cX5_leader 15 = .ok (.aload_n 0, 1) := by decide +kernel
theorem dX5_leader_16 : decode cX5_leader 16 = .ok (.getfield 10, 3) := by decide +kernel
theorem dX5_leader_19 : decode cX5_leader 19 = .ok (.iload_n 1, 1) := by decide +kernel
theorem dX5_leader_20 : decode cX5_leader 20 = .ok (.invokevirtual 106, 3) := by decide +kernel
theorem dX5_leader_23 : decode cX5_leader 23 = .ok (.istore_n 2, 1) := by decide +kernel
theorem dX5_leader_24 : decode cX5_leader 24 = .ok (.iload_n 2, 1) := by decide +kernel
theorem dX5_leader_25 : decode cX5_leader 25 = .ok (.ifCond .lt 7, 3) := by decide +kernel
theorem dX5_leader_28 : decode cX5_leader 28 = .ok (.iload_n 2, 1) := by decide +kernel
theorem dX5_leader_29 : decode cX5_leader 29 = .ok (.goto 9, 3) := by decide +kernel
theorem dX5_leader_32 : decode cX5_leader 32 = .ok (.aload_n 0, 1) := by decide +kernel
theorem dX5_leader_33 : decode cX5_leader 33 = .ok (.ldc 109, 2) := by decide +kernel
theorem dX5_leader_35 : decode cX5_leader 35 = .ok (.invokevirtual 49, 3) := by decide +kernel
theorem dX5_leader_38 : decode cX5_leader 38 = .ok (.ireturn, 1) := by decide +kernel
theorem dX5_minutes_0 : decode cX5_minutes 0 = .ok (.iload_n 1, 1) := by decide +kernel
theorem dX5_minutes_1 : decode cX5_minutes 1 = .ok (.iconst 1, 1) := by decide +kernel
theorem dX5_minutes_2 : decode cX5_minutes 2 = .ok (.bipush 100, 2) := by decide +kernel
theorem dX5_minutes_4 : decode cX5_minutes 4 = .ok (.invokestatic 44, 3) := by decide +kernel
theorem dX5_minutes_7 : decode cX5_minutes 7 = .ok (.ifCond .ne 10, 3) := by decide +kernel
theorem dX5_minutes_10 : decode cX5_minutes 10 = .ok (.aload_n 0, 1) := by decide +kernel
theorem dX5_minutes_11 : decode cX5_minutes 11 = .ok (.ldc 48, 2) := by decide +kernel
theorem dX5_minutes_13 : decode cX5_minutes 13 = .ok (.invokevirtual 49, 3) := by decide +kernel
theorem dX5_minutes_16 : decode cX5_minutes 16 = .ok (.ireturn, 1) := by decide +kernel
theorem dX5_minutes_17 : decode cX5_minutes 17 = .ok (.aload_n 0, 1) := by decide +kernel
theorem dX5_minutes_18 : decode cX5_minutes 18 = .ok (.getfield 10, 3) := by decide +kernel
theorem dX5_minutes_21 : decode cX5_minutes 21 = .ok (.getfield 110, 3) := by decide +kernel
theorem dX5_minutes_24 : decode cX5_minutes 24 = .ok (.iload_n 1, 1) := by decide +kernel
theorem dX5_minutes_25 : decode cX5_minutes 25 = .ok (.iadd, 1) := by decide +kernel
theorem dX5_minutes_26 : decode cX5_minutes 26 = .ok (.ldc 113, 2) := by decide +kernel
theorem dX5_minutes_28 : decode cX5_minutes 28 = .ok (.if_icmp .le 10, 3) := by decide +kernel
theorem dX5_minutes_31 : decode cX5_minutes 31 = .ok (.aload_n 0, 1) := by decide +kernel
theorem dX5_minutes_32 : decode cX5_minutes 32 = .ok (.ldc 114, 2) := by decide +kernel
theorem dX5_minutes_34 : decode cX5_minutes 34 = .ok (.invokevirtual 49, 3) := by decide +kernel
theorem dX5_minutes_37 : decode cX5_minutes 37 = .ok (.ireturn, 1) := by decide +kernel
theorem dX5_minutes_38 : decode cX5_minutes 38 = .ok (.aload_n 0, 1) := by decide +kernel
theorem dX5_minutes_39 : decode cX5_minutes 39 = .ok (.getfield 10, 3) := by decide +kernel
theorem dX5_minutes_42 : decode cX5_minutes 42 = .ok (.iload_n 1, 1) := by decide +kernel
theorem dX5_minutes_43 : decode cX5_minutes 43 = .ok (.invokevirtual 115, 3) := by decide +kernel
theorem dX5_minutes_46 : decode cX5_minutes 46 = .ok (.aload_n 0, 1) := by decide +kernel
theorem dX5_minutes_47 : decode cX5_minutes 47 = .ok (.getfield 10, 3) := by decide +kernel
theorem dX5_minutes_50 : decode cX5_minutes 50 = .ok (.invokevirtual 119, 3) := by decide +kernel
theorem dX5_minutes_53 : decode cX5_minutes 53 = .ok (.ireturn, 1) := by decide +kernel
theorem dX5_now_0 : decode cX5_now 0 = .ok (.iload_n 1, 1) := by decide +kernel
theorem dX5_now_1 : decode cX5_now 1 = .ok (.tableswitch 90 0 5 #[39, 47, 55, 63, 71, 80], 39) := by decide +kernel
theorem dX5_now_40 : decode cX5_now 40 = .ok (.aload_n 0, 1) := by decide +kernel
theorem dX5_now_41 : decode cX5_now 41 = .ok (.getfield 10, 3) := by decide +kernel
theorem dX5_now_44 : decode cX5_now 44 = .ok (.getfield 110, 3) := by decide +kernel
theorem dX5_now_47 : decode cX5_now 47 = .ok (.ireturn, 1) := by decide +kernel
theorem dX5_now_48 : decode cX5_now 48 = .ok (.aload_n 0, 1) := by decide +kernel
theorem dX5_now_49 : decode cX5_now 49 = .ok (.getfield 10, 3) := by decide +kernel
theorem dX5_now_52 : decode cX5_now 52 = .ok (.getfield 53, 3) := by decide +kernel
theorem dX5_now_55 : decode cX5_now 55 = .ok (.ireturn, 1) := by decide +kernel
theorem dX5_now_56 : decode cX5_now 56 = .ok (.aload_n 0, 1) := by decide +kernel
theorem dX5_now_57 : decode cX5_now 57 = .ok (.getfield 10, 3) := by decide +kernel
theorem dX5_now_60 : decode cX5_now 60 = .ok (.invokevirtual 123, 3) := by decide +kernel
theorem dX5_now_63 : decode cX5_now 63 = .ok (.ireturn, 1) := by decide +kernel
theorem dX5_now_64 : decode cX5_now 64 = .ok (.aload_n 0, 1) := by decide +kernel
theorem dX5_now_65 : decode cX5_now 65 = .ok (.getfield 10, 3) := by decide +kernel
theorem dX5_now_68 : decode cX5_now 68 = .ok (.invokevirtual 119, 3) := by decide +kernel
theorem dX5_now_71 : decode cX5_now 71 = .ok (.ireturn, 1) := by decide +kernel
theorem dX5_now_72 : decode cX5_now 72 = .ok (.aload_n 0, 1) := by decide +kernel
theorem dX5_now_73 : decode cX5_now 73 = .ok (.getfield 10, 3) := by decide +kernel
theorem dX5_now_76 : decode cX5_now 76 = .ok (.iconst 5, 1) := by decide +kernel
theorem dX5_now_77 : decode cX5_now 77 = .ok (.invokevirtual 126, 3) := by decide +kernel
theorem dX5_now_80 : decode cX5_now 80 = .ok (.ireturn, 1) := by decide +kernel
theorem dX5_now_81 : decode cX5_now 81 = .ok (.aload_n 0, 1) := by decide +kernel
theorem dX5_now_82 : decode cX5_now 82 = .ok (.getfield 10, 3) := by decide +kernel
theorem dX5_now_85 : decode cX5_now 85 = .ok (.bipush 6, 2) := by decide +kernel
theorem dX5_now_87 : decode cX5_now 87 = .ok (.invokevirtual 126, 3) := by decide +kernel
theorem dX5_now_90 : decode cX5_now 90 = .ok (.ireturn, 1) := by decide +kernel
theorem dX5_now_91 : decode cX5_now 91 = .ok (.aload_n 0, 1) := by decide +kernel
theorem dX5_now_92 : decode cX5_now 92 = .ok (.ldc 48, 2) := by decide +kernel
theorem dX5_now_94 : decode cX5_now 94 = .ok (.invokevirtual 49, 3) := by decide +kernel
theorem dX5_now_97 : decode cX5_now 97 = .ok (.ireturn, 1) := by decide +kernel
theorem dX5_on_0 : decode cX5_on 0 = .ok (.aload_n 0, 1) := by decide +kernel
theorem dX5_on_1 : decode cX5_on 1 = .ok (.iload_n 1, 1) := by decide +kernel
theorem dX5_on_2 : decode cX5_on 2 = .ok (.invokevirtual 68, 3) := by decide +kernel
theorem dX5_on_5 : decode cX5_on 5 = .ok (.ifCond .eq 23, 3) := by decide +kernel
theorem dX5_on_8 : decode cX5_on 8 = .ok (.iload_n 2, 1) := by decide +kernel
theorem dX5_on_9 : decode cX5_on 9 = .ok (.iconst 0, 1) := by decide +kernel
theorem dX5_on_10 : decode cX5_on 10 = .ok (.sipush 200, 3) := by decide +kernel
theorem dX5_on_13 : decode cX5_on 13 = .ok (.invokestatic 44, 3) := by decide +kernel
theorem dX5_on_16 : decode cX5_on 16 = .ok (.ifCond .eq 12, 3) := by decide +kernel
theorem dX5_on_19 : decode cX5_on 19 = .ok (.iload_n 3, 1) := by decide +kernel
theorem dX5_on_20 : decode cX5_on 20 = .ok (.iconst 0, 1) := by decide +kernel
theorem dX5_on_21 : decode cX5_on 21 = .ok (.iconst 3, 1) := by decide +kernel
theorem dX5_on_22 : decode cX5_on 22 = .ok (.invokestatic 44, 3) := by decide +kernel
theorem dX5_on_25 : decode cX5_on 25 = .ok (.ifCond .ne 10, 3) := by decide +kernel
theorem dX5_on_28 : decode cX5_on 28 = .ok (.aload_n 0, 1) := by decide +kernel
theorem dX5_on_29 : decode cX5_on 29 = .ok (.ldc 48, 2) := by decide +kernel
theorem dX5_on_31 : decode cX5_on 31 = .ok (.invokevirtual 49, 3) := by decide +kernel
theorem dX5_on_34 : decode cX5_on 34 = .ok (.ireturn, 1) := by decide +kernel
theorem dX5_on_35 : decode cX5_on 35 = .ok (.aload_n 0, 1) := by decide +kernel
theorem dX5_on_36 : decode cX5_on 36 = .ok (.invokevirtual 129, 3) := by decide +kernel
theorem dX5_on_39 : decode cX5_on 39 = .ok (.aload_n 0, 1) := by decide +kernel
theorem dX5_on_40 : decode cX5_on 40 = .ok (.getfield 16, 3) := by decide +kernel
theorem dX5_on_43 : decode cX5_on 43 = .ok (.iload_n 2, 1) := by decide +kernel
theorem dX5_on_44 : decode cX5_on 44 = .ok (.invokevirtual 115, 3) := by decide +kernel
theorem dX5_on_47 : decode cX5_on 47 = .ok (.iload_n 3, 1) := by decide +kernel
theorem dX5_on_48 : decode cX5_on 48 = .ok (.tableswitch 58 0 2 #[28, 38, 48], 28) := by decide +kernel
theorem dX5_on_76 : decode cX5_on 76 = .ok (.aload_n 0, 1) := by decide +kernel
theorem dX5_on_77 : decode cX5_on 77 = .ok (.getfield 16, 3) := by decide +kernel
theorem dX5_on_80 : decode cX5_on 80 = .ok (.getfield 132, 3) := by decide +kernel
theorem dX5_on_83 : decode cX5_on 83 = .ok (.iload_n 1, 1) := by decide +kernel
theorem dX5_on_84 : decode cX5_on 84 = .ok (.iaload, 1) := by decide +kernel
theorem dX5_on_85 : decode cX5_on 85 = .ok (.ireturn, 1) := by decide +kernel
theorem dX5_on_86 : decode cX5_on 86 = .ok (.aload_n 0, 1) := by decide +kernel
theorem dX5_on_87 : decode cX5_on 87 = .ok (.getfield 16, 3) := by decide +kernel
theorem dX5_on_90 : decode cX5_on 90 = .ok (.getfield 135, 3) := by decide +kernel
theorem dX5_on_93 : decode cX5_on 93 = .ok (.iload_n 1, 1) := by decide +kernel
theorem dX5_on_94 : decode cX5_on 94 = .ok (.iaload, 1) := by decide +kernel
theorem dX5_on_95 : decode cX5_on 95 = .ok (.ireturn, 1) := by decide +kernel
theorem dX5_on_96 : decode cX5_on 96 = .ok (.aload_n 0, 1) := by decide +kernel
theorem dX5_on_97 : decode cX5_on 97 = .ok (.getfield 16, 3) := by decide +kernel
theorem dX5_on_100 : decode cX5_on 100 = .ok (.getfield 138, 3) := by decide +kernel
theorem dX5_on_103 : decode cX5_on 103 = .ok (.iload_n 1, 1) := by decide +kernel
theorem dX5_on_104 : decode cX5_on 104 = .ok (.iaload, 1) := by decide +kernel
theorem dX5_on_105 : decode cX5_on 105 = .ok (.ireturn, 1) := by decide +kernel
theorem dX5_on_106 : decode cX5_on 106 = .ok (.aload_n 0, 1) := by decide +kernel
theorem dX5_on_107 : decode cX5_on 107 = .ok (.getfield 16, 3) := by decide +kernel
theorem dX5_on_110 : decode cX5_on 110 = .ok (.getfield 141, 3) := by decide +kernel
theorem dX5_on_113 : decode cX5_on 113 = .ok (.iload_n 1, 1) := by decide +kernel
theorem dX5_on_114 : decode cX5_on 114 = .ok (.iaload, 1) := by decide +kernel
theorem dX5_on_115 : decode cX5_on 115 = .ok (.ireturn, 1) := by decide +kernel
theorem dX5_through_0 : decode cX5_through 0 = .ok (.aload_n 0, 1) := by decide +kernel
theorem dX5_through_1 : decode cX5_through 1 = .ok (.iload_n 1, 1) := by decide +kernel
theorem dX5_through_2 : decode cX5_through 2 = .ok (.invokevirtual 68, 3) := by decide +kernel
theorem dX5_through_5 : decode cX5_through 5 = .ok (.ifCond .ne 10, 3) := by decide +kernel
theorem dX5_through_8 : decode cX5_through 8 = .ok (.aload_n 0, 1) := by decide +kernel
theorem dX5_through_9 : decode cX5_through 9 = .ok (.ldc 48, 2) := by decide +kernel
theorem dX5_through_11 : decode cX5_through 11 = .ok (.invokevirtual 49, 3) := by decide +kernel
theorem dX5_through_14 : decode cX5_through 14 = .ok (.ireturn, 1) := by decide +kernel
theorem dX5_through_15 : decode cX5_through 15 = .ok (.aload_n 0, 1) := by decide +kernel
theorem dX5_through_16 : decode cX5_through 16 = .ok (.invokevirtual 129, 3) := by decide +kernel
theorem dX5_through_19 : decode cX5_through 19 = .ok (.aload_n 0, 1) := by decide +kernel
theorem dX5_through_20 : decode cX5_through 20 = .ok (.getfield 16, 3) := by decide +kernel
theorem dX5_through_23 : decode cX5_through 23 = .ok (.iload_n 1, 1) := by decide +kernel
theorem dX5_through_24 : decode cX5_through 24 = .ok (.sipush 201, 3) := by decide +kernel
theorem dX5_through_27 : decode cX5_through 27 = .ok (.invokevirtual 144, 3) := by decide +kernel
theorem dX5_through_30 : decode cX5_through 30 = .ok (.istore_n 2, 1) := by decide +kernel
theorem dX5_through_31 : decode cX5_through 31 = .ok (.iload_n 2, 1) := by decide +kernel
theorem dX5_through_32 : decode cX5_through 32 = .ok (.sipush 200, 3) := by decide +kernel
theorem dX5_through_35 : decode cX5_through 35 = .ok (.if_icmp .gt 7, 3) := by decide +kernel
theorem dX5_through_38 : decode cX5_through 38 = .ok (.iload_n 2, 1) := by decide +kernel
theorem dX5_through_39 : decode cX5_through 39 = .ok (.goto 9, 3) := by decide +kernel
theorem dX5_through_42 : decode cX5_through 42 = .ok (.aload_n 0, 1) := by decide +kernel
theorem dX5_through_43 : decode cX5_through 43 = .ok (.ldc 109, 2) := by decide +kernel
theorem dX5_through_45 : decode cX5_through 45 = .ok (.invokevirtual 49, 3) := by decide +kernel
theorem dX5_through_48 : decode cX5_through 48 = .ok (.ireturn, 1) := by decide +kernel
theorem dX5_bumps_0 : decode cX5_bumps 0 = .ok (.aload_n 0, 1) := by decide +kernel
theorem dX5_bumps_1 : decode cX5_bumps 1 = .ok (.iload_n 1, 1) := by decide +kernel
theorem dX5_bumps_2 : decode cX5_bumps 2 = .ok (.invokevirtual 68, 3) := by decide +kernel
theorem dX5_bumps_5 : decode cX5_bumps 5 = .ok (.ifCond .ne 10, 3) := by decide +kernel
theorem dX5_bumps_8 : decode cX5_bumps 8 = .ok (.aload_n 0, 1) := by decide +kernel
theorem dX5_bumps_9 : decode cX5_bumps 9 = .ok (.ldc 48, 2) := by decide +kernel
theorem dX5_bumps_11 : decode cX5_bumps 11 = .ok (.invokevirtual 49, 3) := by decide +kernel
theorem dX5_bumps_14 : decode cX5_bumps 14 = .ok (.ireturn, 1) := by decide +kernel
theorem dX5_bumps_15 : decode cX5_bumps 15 = .ok (.aload_n 0, 1) := by decide +kernel
theorem dX5_bumps_16 : decode cX5_bumps 16 = .ok (.invokevirtual 129, 3) := by decide +kernel
theorem dX5_bumps_19 : decode cX5_bumps 19 = .ok (.iconst 1, 1) := by decide +kernel
theorem dX5_bumps_20 : decode cX5_bumps 20 = .ok (.istore_n 2, 1) := by decide +kernel
theorem dX5_bumps_21 : decode cX5_bumps 21 = .ok (.iload_n 2, 1) := by decide +kernel
theorem dX5_bumps_22 : decode cX5_bumps 22 = .ok (.sipush 200, 3) := by decide +kernel
theorem dX5_bumps_25 : decode cX5_bumps 25 = .ok (.if_icmp .gt 39, 3) := by decide +kernel
theorem dX5_bumps_28 : decode cX5_bumps 28 = .ok (.aload_n 0, 1) := by decide +kernel
theorem dX5_bumps_29 : decode cX5_bumps 29 = .ok (.getfield 16, 3) := by decide +kernel
theorem dX5_bumps_32 : decode cX5_bumps 32 = .ok (.invokevirtual 147, 3) := by decide +kernel
theorem dX5_bumps_35 : decode cX5_bumps 35 = .ok (.aload_n 0, 1) := by decide +kernel
theorem dX5_bumps_36 : decode cX5_bumps 36 = .ok (.getfield 16, 3) := by decide +kernel
theorem dX5_bumps_39 : decode cX5_bumps 39 = .ok (.getfield 141, 3) := by decide +kernel
theorem dX5_bumps_42 : decode cX5_bumps 42 = .ok (.iload_n 1, 1) := by decide +kernel
theorem dX5_bumps_43 : decode cX5_bumps 43 = .ok (.iaload, 1) := by decide +kernel
theorem dX5_bumps_44 : decode cX5_bumps 44 = .ok (.aload_n 0, 1) := by decide +kernel
theorem dX5_bumps_45 : decode cX5_bumps 45 = .ok (.getfield 10, 3) := by decide +kernel
theorem dX5_bumps_48 : decode cX5_bumps 48 = .ok (.getfield 141, 3) := by decide +kernel
theorem dX5_bumps_51 : decode cX5_bumps 51 = .ok (.iload_n 1, 1) := by decide +kernel
theorem dX5_bumps_52 : decode cX5_bumps 52 = .ok (.iaload, 1) := by decide +kernel
theorem dX5_bumps_53 : decode cX5_bumps 53 = .ok (.if_icmp .le 5, 3) := by decide +kernel
theorem dX5_bumps_56 : decode cX5_bumps 56 = .ok (.iload_n 2, 1) := by decide +kernel
theorem dX5_bumps_57 : decode cX5_bumps 57 = .ok (.ireturn, 1) := by decide +kernel
theorem dX5_bumps_58 : decode cX5_bumps 58 = .ok (.iinc 2 1, 3) := by decide +kernel
